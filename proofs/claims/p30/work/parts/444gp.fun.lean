/-! FUNCTIONAL CONTRACTS, by fgen.py -/
theorem oc_239_0 : (Int32.ofInt (-1)).toInt = (-1) ∧ (Int32.ofInt 0).toInt = 0 ∧ (Int32.ofInt 1).toInt = 1 := ⟨rfl, rfl, rfl⟩
/-- GraphHouse.clique -/
theorem f_239_0 {Z : AmZ} {A : Nat → Nat} {s : GS} {ex : va_W} {d : Nat} {x1 : Int32} (hd : 106 ≤ d) (hI : Inv s) (q_0 : TQ s) (q_1 : TQD s) (q_2 : COC s) : GC Z d 239 [.ref (A 0), .int x1] (WW Z A s ++ ex) 3 18 (fun v u => ∃ t : GS, Inv t ∧ Fr fm_239_0 s t ∧ ∃ z : Int32, v = some (.int z) ∧ u = WW Z A t ++ ex ∧ In z (-1) 32 ∧ ((0 ≤ x1.toInt) ∧ CLS2 (shC s) (shC s).2.2.2.2.2.2.1 x1.toInt (z).toInt) ∧ (KCK (shC s) s t)) (gEx Z A ex ([], [], [], []) s (¬ (0 ≤ x1.toInt)) (False)) := by
  intro post xp hP hX
  obtain ⟨u_0_2, e_0_2⟩ : ∃ w, w = s.2.2.1 0 2 := ⟨_, rfl⟩
  have ro_0_2 := inv_F hI (-1) 4000 rfl e_0_2
  obtain ⟨u_2_0, e_2_0⟩ : ∃ w, w = s.2.2.1 2 0 := ⟨_, rfl⟩
  have ro_2_0 := inv_F hI 0 4000 rfl e_2_0
  obtain ⟨u_2_1, e_2_1⟩ : ∃ w, w = s.2.2.1 2 1 := ⟨_, rfl⟩
  have ro_2_1 := inv_F hI 0 32 rfl e_2_1
  obtain ⟨u_32_0, e_32_0⟩ : ∃ w, w = s.2.2.1 32 0 := ⟨_, rfl⟩
  have ro_32_0 := inv_F hI 0 4000 rfl e_32_0
  obtain ⟨u_32_1, e_32_1⟩ : ∃ w, w = s.2.2.1 32 1 := ⟨_, rfl⟩
  have ro_32_1 := inv_F hI 0 32 rfl e_32_1
  have ct36 : ∀ (k36 : Nat) (sc36 : GS) (y36_2 : Int32) (y36_3 : Int32), Inv sc36 → Fr fm_239_0 s sc36 → (In x1 0 31) → (In y36_3 0 31) → ((y36_3).toInt ≤ (x1).toInt) → (KTI ((sc36).2.2.1 60 1) (y36_2) (y36_3).toInt) → (CQQ (shC s) sc36) → (((x1).toInt < (cb ((sc36).2.2.1 60 1) : Int))) → 31 - (y36_3).toInt < (k36 : Int) → GG Z (d - 1) 239 post (gx xp) (1 + k36 * 900) 36 (fun j => xlook j [(0, .ref (A 0)), (1, .int x1), (2, .int y36_2), (3, .int y36_3)]) [] (WW Z A sc36 ++ ex) 2 12 := by
    intro k36
    induction k36 with
    | zero => intro sc36 y36_2 y36_3 hIc36 hFc36 j36_1 j36_3 n36_0 g36_0 g36_1 g36_2 mm36; exact m_no mm36 j36_3 rfl
    | succ k36 ih36 =>
      intro sc36 y36_2 y36_3 hIc36 hFc36 j36_1 j36_3 n36_0 g36_0 g36_1 g36_2 mm36
      refine gg_w (M := 1 + k36 * 900 + 900) gws ?_
      refine g_iload_n 37 (gd rfl) rfl rfl ?_
      refine g_iload_n 38 (gd rfl) rfl rfl ?_
      refine g_cmp_ge 41 53 (gd rfl) rfl rfl (fun c38 => ?_) (fun c38 => ?_)
      · skip
        refine g_iload_n 54 (gd rfl) rfl rfl ?_
        refine g_calls (As := [.int y36_2]) (r := []) 57 (gd rfl) rfl rfl rfl rfl rfl (Nat.le_of_ble_eq_true rfl) (Nat.zero_le _) (Nat.zero_le _) (k_264 (by first | exact dq1 hd rfl | exact dq0 hd rfl | exact dq2 hd rfl | exact dq3 hd rfl | omega)) (fun v u h => ?_)
        obtain ⟨z54, rfl, rfl, i54, hb54⟩ := h
        show GG _ _ _ _ _ _ _ _ [.int z54] _ _ _
        have n57 : (0 ≤ x1.toInt) ∧ CLS2 (shC s) (shC s).2.2.2.2.2.2.1 x1.toInt (z54).toInt := by exact ⟨by (first | have a0 := oa7 j36_1 ro_32_1 ro_32_0 ro_2_1 ro_2_0 ro_0_2 j36_3 | ((first | have a0 := in_u j36_1 | (have a0 := j36_1; unfold In at a0)); (first | have a1 := in_u ro_32_1 | (have a1 := ro_32_1; unfold In at a1)); (first | have a2 := in_u ro_32_0 | (have a2 := ro_32_0; unfold In at a2)); (first | have a3 := in_u ro_2_1 | (have a3 := ro_2_1; unfold In at a3)); (first | have a4 := in_u ro_2_0 | (have a4 := ro_2_0; unfold In at a4)); (first | have a5 := in_u ro_0_2 | (have a5 := ro_0_2; unfold In at a5)); (first | have a6 := in_u j36_3 | (have a6 := j36_3; unfold In at a6)))); have oc := oc_239_0; omega, cls_c g36_1.2 (by have h9 := kti_e g36_0 (by have h8 := g36_2; (first | have a0 := oa7 j36_1 ro_32_1 ro_32_0 ro_2_1 ro_2_0 ro_0_2 j36_3 | ((first | have a0 := in_u j36_1 | (have a0 := j36_1; unfold In at a0)); (first | have a1 := in_u ro_32_1 | (have a1 := ro_32_1; unfold In at a1)); (first | have a2 := in_u ro_32_0 | (have a2 := ro_32_0; unfold In at a2)); (first | have a3 := in_u ro_2_1 | (have a3 := ro_2_1; unfold In at a3)); (first | have a4 := in_u ro_2_0 | (have a4 := ro_2_0; unfold In at a4)); (first | have a5 := in_u ro_0_2 | (have a5 := ro_0_2; unfold In at a5)); (first | have a6 := in_u j36_3 | (have a6 := j36_3; unfold In at a6)))); have oc := oc_239_0; omega) hb54; rw [show (y36_3).toInt = (x1).toInt from (by (first | have a0 := oa7 j36_1 ro_32_1 ro_32_0 ro_2_1 ro_2_0 ro_0_2 j36_3 | ((first | have a0 := in_u j36_1 | (have a0 := j36_1; unfold In at a0)); (first | have a1 := in_u ro_32_1 | (have a1 := ro_32_1; unfold In at a1)); (first | have a2 := in_u ro_32_0 | (have a2 := ro_32_0; unfold In at a2)); (first | have a3 := in_u ro_2_1 | (have a3 := ro_2_1; unfold In at a3)); (first | have a4 := in_u ro_2_0 | (have a4 := ro_2_0; unfold In at a4)); (first | have a5 := in_u ro_0_2 | (have a5 := ro_0_2; unfold In at a5)); (first | have a6 := in_u j36_3 | (have a6 := j36_3; unfold In at a6)))); have oc := oc_239_0; omega)] at h9; exact h9)⟩
        have n57a : KCK (shC s) s sc36 := by exact ⟨g36_1, (show Fr fm_239_0 s sc36 from hFc36).2.2.1 60 2 rfl, (show Fr fm_239_0 s sc36 from hFc36).1 64 rfl⟩
        exact g_ireturn (gd rfl) rfl rfl (hP _ _ ⟨sc36, hIc36, hFc36, z54, rfl, rfl, in_w (-1) 32 i54 rfl, n57, n57a⟩)
      · skip
        have i38 := r_lt1 0 30 c38 j36_3 j36_1 rfl
        have i38a := r_lt2 1 31 c38 j36_3 j36_1 rfl
        refine g_iload_n 42 (gd rfl) rfl rfl ?_
        refine g_iload_n 43 (gd rfl) rfl rfl ?_
        refine g_iconst 1 44 (gd rfl) rfl rfl ?_
        refine g_isub 45 (gd rfl) rfl (fun z44 e44 => ?_)
        refine g_iand 46 (gd rfl) rfl (fun z45 e45 => ?_)
        refine g_istore_n 47 (gd rfl) rfl (Nat.le_of_ble_eq_true rfl) ?_
        refine g_iinc 50 (gd rfl) rfl rfl (Nat.le_of_ble_eq_true rfl) (fun z47 e47 => ?_)
        have i47 := in_add 1 31 e47 i38 (in_c 1 rfl) rfl rfl
        refine g_goto 36 (gd rfl) rfl ?_
        have n36 : (z47).toInt ≤ (x1).toInt := by (first | have a0 := oa8 i38a ro_32_1 ro_32_0 ro_2_1 ro_2_0 ro_0_2 i38 i47 | ((first | have a0 := in_u i38a | (have a0 := i38a; unfold In at a0)); (first | have a1 := in_u ro_32_1 | (have a1 := ro_32_1; unfold In at a1)); (first | have a2 := in_u ro_32_0 | (have a2 := ro_32_0; unfold In at a2)); (first | have a3 := in_u ro_2_1 | (have a3 := ro_2_1; unfold In at a3)); (first | have a4 := in_u ro_2_0 | (have a4 := ro_2_0; unfold In at a4)); (first | have a5 := in_u ro_0_2 | (have a5 := ro_0_2; unfold In at a5)); (first | have a6 := in_u i38 | (have a6 := i38; unfold In at a6)); (first | have a7 := in_u i47 | (have a7 := i47; unfold In at a7)))); have a8 := t_add e47 i38 (in_c 1 rfl) rfl; (first | have a9 := in_u ((in_c 1 rfl)) | (have a9 := (in_c 1 rfl); unfold In at a9)); have oc := oc_239_0; omega
        have n36a : KTI ((sc36).2.2.1 60 1) (z45) (z47).toInt := by exact kti_s g36_0 e44 e45 (by (first | have a0 := oa8 i38a ro_32_1 ro_32_0 ro_2_1 ro_2_0 ro_0_2 i38 i47 | ((first | have a0 := in_u i38a | (have a0 := i38a; unfold In at a0)); (first | have a1 := in_u ro_32_1 | (have a1 := ro_32_1; unfold In at a1)); (first | have a2 := in_u ro_32_0 | (have a2 := ro_32_0; unfold In at a2)); (first | have a3 := in_u ro_2_1 | (have a3 := ro_2_1; unfold In at a3)); (first | have a4 := in_u ro_2_0 | (have a4 := ro_2_0; unfold In at a4)); (first | have a5 := in_u ro_0_2 | (have a5 := ro_0_2; unfold In at a5)); (first | have a6 := in_u i38 | (have a6 := i38; unfold In at a6)); (first | have a7 := in_u i47 | (have a7 := i47; unfold In at a7)))); have a8 := t_add e47 i38 (in_c 1 rfl) rfl; (first | have a9 := in_u ((in_c 1 rfl)) | (have a9 := (in_c 1 rfl); unfold In at a9)); have oc := oc_239_0; omega)
        have n36b : CQQ (shC s) sc36 := by exact g36_1
        have n36c : ((x1).toInt < (cb ((sc36).2.2.1 60 1) : Int)) := by exact g36_2
        exact gg_w (by first | exact Nat.le_add_right _ _ | exact gw2 | exact gw3 | exact gwe rfl | exact gwf rfl | exact gwg rfl | exact gwh rfl | omega) (gg_f (gf_cons rfl (gf_cons rfl (gf_cons rfl (gf_cons rfl gf_nil)))) (ih36 sc36 z45 z47 hIc36 hFc36 (in_w 0 31 i38a rfl) (in_w 0 31 i47 rfl) n36 n36a n36b n36c (m_up mm36 (t_add e47 i38 (in_c 1 rfl) rfl) (in_w 1 1 (in_c 1 rfl) rfl))))
  refine g_enter2 (k := 239) (N := 29701) (by first | exact dq1 hd rfl | exact dq0 hd rfl | exact dq2 hd rfl | exact dq3 hd rfl | omega) rfl (Nat.le_of_ble_eq_true rfl) ?_
  refine g_iload_n 1 (gd rfl) rfl rfl ?_
  refine g_if_lt 4 8 (gd rfl) rfl rfl (fun c1 => ?_) (fun c1 => ?_)
  · skip
    have i1 := z_lt (-2147483648) (-1) c1 (i_rng x1) rfl
    refine g_iconst 0 9 (gd rfl) rfl rfl ?_
    refine g_thr (E := am_IA) (y := yX11_allow) 12 (gd rfl) rfl rfl (Or.inl ⟨rfl, rfl, rfl⟩) (by first | exact dq1 hd rfl | exact dq0 hd rfl | exact dq2 hd rfl | exact dq3 hd rfl | omega) (Nat.le_of_ble_eq_true rfl) (Nat.le_of_ble_eq_true rfl) (Nat.le_of_ble_eq_true rfl) (fun c9 => ?_) (fun c9 => ?_)
    · skip
      exact zn_ne c9 (in_c 0 rfl) rfl
    · skip
      have n9 : ¬ (0 ≤ x1.toInt) := by (first | have a0 := oa6 ro_32_1 ro_32_0 ro_2_1 ro_2_0 ro_0_2 i1 | ((first | have a0 := in_u ro_32_1 | (have a0 := ro_32_1; unfold In at a0)); (first | have a1 := in_u ro_32_0 | (have a1 := ro_32_0; unfold In at a1)); (first | have a2 := in_u ro_2_1 | (have a2 := ro_2_1; unfold In at a2)); (first | have a3 := in_u ro_2_0 | (have a3 := ro_2_0; unfold In at a3)); (first | have a4 := in_u ro_0_2 | (have a4 := ro_0_2; unfold In at a4)); (first | have a5 := in_u i1 | (have a5 := i1; unfold In at a5)))); have oc := oc_239_0; omega
      exact (hX _ _ ⟨Or.inl ⟨rfl, n9⟩, s, hI, fr_rf, rfl⟩)
  · skip
    have i1 := z_ge 0 2147483647 c1 (i_rng x1) rfl
    refine g_iconst 1 5 (gd rfl) rfl rfl ?_
    refine g_goto 9 (gd rfl) rfl ?_
    refine g_thr (E := am_IA) (y := yX11_allow) 12 (gd rfl) rfl rfl (Or.inl ⟨rfl, rfl, rfl⟩) (by first | exact dq1 hd rfl | exact dq0 hd rfl | exact dq2 hd rfl | exact dq3 hd rfl | omega) (Nat.le_of_ble_eq_true rfl) (Nat.le_of_ble_eq_true rfl) (Nat.le_of_ble_eq_true rfl) (fun c9 => ?_) (fun c9 => ?_)
    · skip
      refine g_aload_n 13 (gd rfl) rfl rfl ?_
      refine g_getA (q2 := 60) 16 (gd rfl) rfl rfl rfl rfl ?_
      refine g_aload_n 17 (gd rfl) rfl rfl ?_
      refine g_callv (X := _) (As := []) (r := [.ref (A 60)]) (b := A 0) (q := 0) 20 (gd rfl) rfl rfl rfl rfl rfl (ww_o rfl) (Nat.le_of_ble_eq_true rfl) (mc := 0) (ms := 0) (Nat.zero_le _) (Nat.zero_le _) (P := fun v u => _) ?_ (fun e u h => h) (fun v u h => h)
      intro po17 xx17 hp17 hx17
      refine g_enter2 (k := 259) (N := 300) (by first | exact dq1 hd rfl | exact dq0 hd rfl | exact dq2 hd rfl | exact dq3 hd rfl | omega) rfl (Nat.le_of_ble_eq_true rfl) ?_
      refine g_aload_n 1 (gd rfl) rfl rfl ?_
      refine g_getI 4 (gd rfl) rfl rfl rfl (fun z17x1 e17x1 => ?_)
      have q17x1 : u_0_2 = z17x1 := (e_0_2).trans e17x1.symm
      subst q17x1
      refine g_iconst (-1) 5 (gd rfl) rfl rfl ?_
      refine g_cmp_ne 8 18 (gd rfl) rfl rfl (fun c17x5 => ?_) (fun c17x5 => ?_)
      · skip
        have i17x5 := r_ne1 0 4000 c17x5 ro_0_2 (in_c (-1) rfl) rfl
        refine g_aload_n 19 (gd rfl) rfl rfl ?_
        refine g_getA (q2 := 32) 22 (gd rfl) rfl rfl rfl rfl ?_
        refine g_areturn (gd rfl) rfl (hp17 _ _ ?_)
        show GG _ _ _ _ _ _ _ _ [.ref (A 32), .ref (A 60)] _ _ _
        have p20 : TQD s := by first | exact q_0 | exact q_1
        have p20a : CQB (gvD s) s := by first | (rw [← shC_n (by rw [← e17x1]; exact c17x5)]; exact q_2.1) | (rw [← shC_d (by rw [← e17x1]; exact c17x5)]; exact q_2.1)
        refine g_callv (X := _) (As := [.ref (A 32)]) (r := []) (b := A 60) (q := 60) 23 (gd rfl) rfl rfl rfl rfl rfl (ww_o rfl) (Nat.le_of_ble_eq_true rfl) (Nat.zero_le _) (Nat.zero_le _) (f_41_60_32 (by first | exact dq1 hd rfl | exact dq0 hd rfl | exact dq2 hd rfl | exact dq3 hd rfl | omega) hI p20 p20a) (fun e u h => h) (fun v u h => ?_)
        obtain ⟨s20, hI20, hF20, z20, rfl, rfl, i20, p20b, p20c, p20d⟩ := h
        show GG _ _ _ _ _ _ _ _ [.int z20] _ _ _
        refine g_istore_n 24 (gd rfl) rfl (Nat.le_of_ble_eq_true rfl) ?_
        refine g_iload_n 25 (gd rfl) rfl rfl ?_
        refine g_iload_n 26 (gd rfl) rfl rfl ?_
        refine g_calls (As := [.int z20]) (r := [.int x1]) 29 (gd rfl) rfl rfl rfl rfl rfl (Nat.le_of_ble_eq_true rfl) (Nat.zero_le _) (Nat.zero_le _) (f_414 (by first | exact dq1 hd rfl | exact dq0 hd rfl | exact dq2 hd rfl | exact dq3 hd rfl | omega) hI20 ) (fun v u h => ?_)
        obtain ⟨z26, rfl, rfl, i26, p26⟩ := h
        show GG _ _ _ _ _ _ _ _ [.int z26, .int x1] _ _ _
        refine g_cmp_lt 32 34 (gd rfl) rfl rfl (fun c29 => ?_) (fun c29 => ?_)
        · skip
          have i29 := r_lt1 0 31 c29 i1 i26 rfl
          have i29a := r_lt2 1 32 c29 i1 i26 rfl
          refine g_iconst 0 35 (gd rfl) rfl rfl ?_
          refine g_istore_n 36 (gd rfl) rfl (Nat.le_of_ble_eq_true rfl) ?_
          have n36 : ((Int32.ofInt 0)).toInt ≤ (x1).toInt := by (first | have a0 := oa7 i29 ro_32_1 ro_32_0 ro_2_1 ro_2_0 i17x5 ((in_c 0 rfl)) | ((first | have a0 := in_u i29 | (have a0 := i29; unfold In at a0)); (first | have a1 := in_u ro_32_1 | (have a1 := ro_32_1; unfold In at a1)); (first | have a2 := in_u ro_32_0 | (have a2 := ro_32_0; unfold In at a2)); (first | have a3 := in_u ro_2_1 | (have a3 := ro_2_1; unfold In at a3)); (first | have a4 := in_u ro_2_0 | (have a4 := ro_2_0; unfold In at a4)); (first | have a5 := in_u i17x5 | (have a5 := i17x5; unfold In at a5)); (first | have a6 := in_u ((in_c 0 rfl)) | (have a6 := (in_c 0 rfl); unfold In at a6)))); have oc := oc_239_0; omega
          have n36a : KTI ((s20).2.2.1 60 1) (z20) ((Int32.ofInt 0)).toInt := by rw [← p20c]; exact kti_0 rfl
          have n36b : CQQ (shC s) s20 := by first | (rw [shC_n (by rw [← e17x1]; exact c17x5)]; exact p20b) | (rw [shC_d (by rw [← e17x1]; exact c17x5)]; exact p20b)
          have n36c : ((x1).toInt < (cb ((s20).2.2.1 60 1) : Int)) := by rw [← p20c]; (first | have a0 := oa7 i29 ro_32_1 ro_32_0 ro_2_1 ro_2_0 i17x5 ((in_c 0 rfl)) | ((first | have a0 := in_u i29 | (have a0 := i29; unfold In at a0)); (first | have a1 := in_u ro_32_1 | (have a1 := ro_32_1; unfold In at a1)); (first | have a2 := in_u ro_32_0 | (have a2 := ro_32_0; unfold In at a2)); (first | have a3 := in_u ro_2_1 | (have a3 := ro_2_1; unfold In at a3)); (first | have a4 := in_u ro_2_0 | (have a4 := ro_2_0; unfold In at a4)); (first | have a5 := in_u i17x5 | (have a5 := i17x5; unfold In at a5)); (first | have a6 := in_u ((in_c 0 rfl)) | (have a6 := (in_c 0 rfl); unfold In at a6)))); have oc := oc_239_0; omega
          exact gg_w (by first | exact Nat.le_of_ble_eq_true rfl | omega) (gg_f (gf_cons rfl (gf_cons rfl (gf_cons rfl (gf_cons rfl gf_nil)))) (ct36 32 s20 z20 (Int32.ofInt 0) hI20 (fr_tr rfl fr_rf hF20) (in_w 0 31 i29 rfl) (in_w 0 31 (in_c 0 rfl) rfl) n36 n36a n36b n36c (m_in 32 (in_w 0 31 (in_c 0 rfl) rfl) rfl)))
        · skip
          refine g_iconst (-1) 33 (gd rfl) rfl rfl ?_
          have n33 : (0 ≤ x1.toInt) ∧ CLS2 (shC s) (shC s).2.2.2.2.2.2.1 x1.toInt ((Int32.ofInt (-1))).toInt := by first | (rw [shC_n (by rw [← e17x1]; exact c17x5)]; exact ⟨by (first | have a0 := oa6 ro_32_1 ro_32_0 ro_2_1 ro_2_0 i17x5 i1 | ((first | have a0 := in_u ro_32_1 | (have a0 := ro_32_1; unfold In at a0)); (first | have a1 := in_u ro_32_0 | (have a1 := ro_32_0; unfold In at a1)); (first | have a2 := in_u ro_2_1 | (have a2 := ro_2_1; unfold In at a2)); (first | have a3 := in_u ro_2_0 | (have a3 := ro_2_0; unfold In at a3)); (first | have a4 := in_u i17x5 | (have a4 := i17x5; unfold In at a4)); (first | have a5 := in_u i1 | (have a5 := i1; unfold In at a5)))); have oc := oc_239_0; omega, cls_c p20b.2 (Or.inl ⟨by rw [← p20c]; (first | have a0 := oa6 ro_32_1 ro_32_0 ro_2_1 ro_2_0 i17x5 i1 | ((first | have a0 := in_u ro_32_1 | (have a0 := ro_32_1; unfold In at a0)); (first | have a1 := in_u ro_32_0 | (have a1 := ro_32_0; unfold In at a1)); (first | have a2 := in_u ro_2_1 | (have a2 := ro_2_1; unfold In at a2)); (first | have a3 := in_u ro_2_0 | (have a3 := ro_2_0; unfold In at a3)); (first | have a4 := in_u i17x5 | (have a4 := i17x5; unfold In at a4)); (first | have a5 := in_u i1 | (have a5 := i1; unfold In at a5)))); have oc := oc_239_0; omega, rfl⟩)⟩) | (rw [shC_d (by rw [← e17x1]; exact c17x5)]; exact ⟨by (first | have a0 := oa6 ro_32_1 ro_32_0 ro_2_1 ro_2_0 i17x5 i1 | ((first | have a0 := in_u ro_32_1 | (have a0 := ro_32_1; unfold In at a0)); (first | have a1 := in_u ro_32_0 | (have a1 := ro_32_0; unfold In at a1)); (first | have a2 := in_u ro_2_1 | (have a2 := ro_2_1; unfold In at a2)); (first | have a3 := in_u ro_2_0 | (have a3 := ro_2_0; unfold In at a3)); (first | have a4 := in_u i17x5 | (have a4 := i17x5; unfold In at a4)); (first | have a5 := in_u i1 | (have a5 := i1; unfold In at a5)))); have oc := oc_239_0; omega, cls_c p20b.2 (Or.inl ⟨by rw [← p20c]; (first | have a0 := oa6 ro_32_1 ro_32_0 ro_2_1 ro_2_0 i17x5 i1 | ((first | have a0 := in_u ro_32_1 | (have a0 := ro_32_1; unfold In at a0)); (first | have a1 := in_u ro_32_0 | (have a1 := ro_32_0; unfold In at a1)); (first | have a2 := in_u ro_2_1 | (have a2 := ro_2_1; unfold In at a2)); (first | have a3 := in_u ro_2_0 | (have a3 := ro_2_0; unfold In at a3)); (first | have a4 := in_u i17x5 | (have a4 := i17x5; unfold In at a4)); (first | have a5 := in_u i1 | (have a5 := i1; unfold In at a5)))); have oc := oc_239_0; omega, rfl⟩)⟩)
          have n33a : KCK (shC s) s s20 := by first | (rw [shC_n (by rw [← e17x1]; exact c17x5)]; exact ⟨p20b, (show Fr fm_239_0 s s20 from (fr_tr rfl fr_rf hF20)).2.2.1 60 2 rfl, (show Fr fm_239_0 s s20 from (fr_tr rfl fr_rf hF20)).1 64 rfl⟩) | (rw [shC_d (by rw [← e17x1]; exact c17x5)]; exact ⟨p20b, (show Fr fm_239_0 s s20 from (fr_tr rfl fr_rf hF20)).2.2.1 60 2 rfl, (show Fr fm_239_0 s s20 from (fr_tr rfl fr_rf hF20)).1 64 rfl⟩)
          exact g_ireturn (gd rfl) rfl rfl (hP _ _ ⟨s20, hI20, (fr_tr rfl fr_rf hF20), (Int32.ofInt (-1)), rfl, rfl, in_w (-1) 32 (in_c (-1) rfl) rfl, n33, n33a⟩)
      · skip
        have i17x5 := r_eq1 (-1) (-1) c17x5 ro_0_2 (in_c (-1) rfl) rfl
        refine g_aload_n 9 (gd rfl) rfl rfl ?_
        refine g_getA (q2 := 1) 12 (gd rfl) rfl rfl rfl rfl ?_
        refine g_getA (q2 := 2) 15 (gd rfl) rfl rfl rfl rfl ?_
        refine g_goto 22 (gd rfl) rfl ?_
        refine g_areturn (gd rfl) rfl (hp17 _ _ ?_)
        show GG _ _ _ _ _ _ _ _ [.ref (A 2), .ref (A 60)] _ _ _
        have p20 : TQ s := by first | exact q_0 | exact q_1
        have p20a : CQB (gvC s) s := by first | (rw [← shC_n (by rw [← e17x1]; exact c17x5)]; exact q_2.1) | (rw [← shC_d (by rw [← e17x1]; exact c17x5)]; exact q_2.1)
        refine g_callv (X := _) (As := [.ref (A 2)]) (r := []) (b := A 60) (q := 60) 23 (gd rfl) rfl rfl rfl rfl rfl (ww_o rfl) (Nat.le_of_ble_eq_true rfl) (Nat.zero_le _) (Nat.zero_le _) (f_41_60_2 (by first | exact dq1 hd rfl | exact dq0 hd rfl | exact dq2 hd rfl | exact dq3 hd rfl | omega) hI p20 p20a) (fun e u h => h) (fun v u h => ?_)
        obtain ⟨s20, hI20, hF20, z20, rfl, rfl, i20, p20b, p20c, p20d⟩ := h
        show GG _ _ _ _ _ _ _ _ [.int z20] _ _ _
        refine g_istore_n 24 (gd rfl) rfl (Nat.le_of_ble_eq_true rfl) ?_
        refine g_iload_n 25 (gd rfl) rfl rfl ?_
        refine g_iload_n 26 (gd rfl) rfl rfl ?_
        refine g_calls (As := [.int z20]) (r := [.int x1]) 29 (gd rfl) rfl rfl rfl rfl rfl (Nat.le_of_ble_eq_true rfl) (Nat.zero_le _) (Nat.zero_le _) (f_414 (by first | exact dq1 hd rfl | exact dq0 hd rfl | exact dq2 hd rfl | exact dq3 hd rfl | omega) hI20 ) (fun v u h => ?_)
        obtain ⟨z26, rfl, rfl, i26, p26⟩ := h
        show GG _ _ _ _ _ _ _ _ [.int z26, .int x1] _ _ _
        refine g_cmp_lt 32 34 (gd rfl) rfl rfl (fun c29 => ?_) (fun c29 => ?_)
        · skip
          have i29 := r_lt1 0 31 c29 i1 i26 rfl
          have i29a := r_lt2 1 32 c29 i1 i26 rfl
          refine g_iconst 0 35 (gd rfl) rfl rfl ?_
          refine g_istore_n 36 (gd rfl) rfl (Nat.le_of_ble_eq_true rfl) ?_
          have n36 : ((Int32.ofInt 0)).toInt ≤ (x1).toInt := by (first | have a0 := oa7 i29 ro_32_1 ro_32_0 ro_2_1 ro_2_0 i17x5 ((in_c 0 rfl)) | ((first | have a0 := in_u i29 | (have a0 := i29; unfold In at a0)); (first | have a1 := in_u ro_32_1 | (have a1 := ro_32_1; unfold In at a1)); (first | have a2 := in_u ro_32_0 | (have a2 := ro_32_0; unfold In at a2)); (first | have a3 := in_u ro_2_1 | (have a3 := ro_2_1; unfold In at a3)); (first | have a4 := in_u ro_2_0 | (have a4 := ro_2_0; unfold In at a4)); (first | have a5 := in_u i17x5 | (have a5 := i17x5; unfold In at a5)); (first | have a6 := in_u ((in_c 0 rfl)) | (have a6 := (in_c 0 rfl); unfold In at a6)))); have oc := oc_239_0; omega
          have n36a : KTI ((s20).2.2.1 60 1) (z20) ((Int32.ofInt 0)).toInt := by rw [← p20c]; exact kti_0 rfl
          have n36b : CQQ (shC s) s20 := by first | (rw [shC_n (by rw [← e17x1]; exact c17x5)]; exact p20b) | (rw [shC_d (by rw [← e17x1]; exact c17x5)]; exact p20b)
          have n36c : ((x1).toInt < (cb ((s20).2.2.1 60 1) : Int)) := by rw [← p20c]; (first | have a0 := oa7 i29 ro_32_1 ro_32_0 ro_2_1 ro_2_0 i17x5 ((in_c 0 rfl)) | ((first | have a0 := in_u i29 | (have a0 := i29; unfold In at a0)); (first | have a1 := in_u ro_32_1 | (have a1 := ro_32_1; unfold In at a1)); (first | have a2 := in_u ro_32_0 | (have a2 := ro_32_0; unfold In at a2)); (first | have a3 := in_u ro_2_1 | (have a3 := ro_2_1; unfold In at a3)); (first | have a4 := in_u ro_2_0 | (have a4 := ro_2_0; unfold In at a4)); (first | have a5 := in_u i17x5 | (have a5 := i17x5; unfold In at a5)); (first | have a6 := in_u ((in_c 0 rfl)) | (have a6 := (in_c 0 rfl); unfold In at a6)))); have oc := oc_239_0; omega
          exact gg_w (by first | exact Nat.le_of_ble_eq_true rfl | omega) (gg_f (gf_cons rfl (gf_cons rfl (gf_cons rfl (gf_cons rfl gf_nil)))) (ct36 32 s20 z20 (Int32.ofInt 0) hI20 (fr_tr rfl fr_rf hF20) (in_w 0 31 i29 rfl) (in_w 0 31 (in_c 0 rfl) rfl) n36 n36a n36b n36c (m_in 32 (in_w 0 31 (in_c 0 rfl) rfl) rfl)))
        · skip
          refine g_iconst (-1) 33 (gd rfl) rfl rfl ?_
          have n33 : (0 ≤ x1.toInt) ∧ CLS2 (shC s) (shC s).2.2.2.2.2.2.1 x1.toInt ((Int32.ofInt (-1))).toInt := by first | (rw [shC_n (by rw [← e17x1]; exact c17x5)]; exact ⟨by (first | have a0 := oa6 ro_32_1 ro_32_0 ro_2_1 ro_2_0 i17x5 i1 | ((first | have a0 := in_u ro_32_1 | (have a0 := ro_32_1; unfold In at a0)); (first | have a1 := in_u ro_32_0 | (have a1 := ro_32_0; unfold In at a1)); (first | have a2 := in_u ro_2_1 | (have a2 := ro_2_1; unfold In at a2)); (first | have a3 := in_u ro_2_0 | (have a3 := ro_2_0; unfold In at a3)); (first | have a4 := in_u i17x5 | (have a4 := i17x5; unfold In at a4)); (first | have a5 := in_u i1 | (have a5 := i1; unfold In at a5)))); have oc := oc_239_0; omega, cls_c p20b.2 (Or.inl ⟨by rw [← p20c]; (first | have a0 := oa6 ro_32_1 ro_32_0 ro_2_1 ro_2_0 i17x5 i1 | ((first | have a0 := in_u ro_32_1 | (have a0 := ro_32_1; unfold In at a0)); (first | have a1 := in_u ro_32_0 | (have a1 := ro_32_0; unfold In at a1)); (first | have a2 := in_u ro_2_1 | (have a2 := ro_2_1; unfold In at a2)); (first | have a3 := in_u ro_2_0 | (have a3 := ro_2_0; unfold In at a3)); (first | have a4 := in_u i17x5 | (have a4 := i17x5; unfold In at a4)); (first | have a5 := in_u i1 | (have a5 := i1; unfold In at a5)))); have oc := oc_239_0; omega, rfl⟩)⟩) | (rw [shC_d (by rw [← e17x1]; exact c17x5)]; exact ⟨by (first | have a0 := oa6 ro_32_1 ro_32_0 ro_2_1 ro_2_0 i17x5 i1 | ((first | have a0 := in_u ro_32_1 | (have a0 := ro_32_1; unfold In at a0)); (first | have a1 := in_u ro_32_0 | (have a1 := ro_32_0; unfold In at a1)); (first | have a2 := in_u ro_2_1 | (have a2 := ro_2_1; unfold In at a2)); (first | have a3 := in_u ro_2_0 | (have a3 := ro_2_0; unfold In at a3)); (first | have a4 := in_u i17x5 | (have a4 := i17x5; unfold In at a4)); (first | have a5 := in_u i1 | (have a5 := i1; unfold In at a5)))); have oc := oc_239_0; omega, cls_c p20b.2 (Or.inl ⟨by rw [← p20c]; (first | have a0 := oa6 ro_32_1 ro_32_0 ro_2_1 ro_2_0 i17x5 i1 | ((first | have a0 := in_u ro_32_1 | (have a0 := ro_32_1; unfold In at a0)); (first | have a1 := in_u ro_32_0 | (have a1 := ro_32_0; unfold In at a1)); (first | have a2 := in_u ro_2_1 | (have a2 := ro_2_1; unfold In at a2)); (first | have a3 := in_u ro_2_0 | (have a3 := ro_2_0; unfold In at a3)); (first | have a4 := in_u i17x5 | (have a4 := i17x5; unfold In at a4)); (first | have a5 := in_u i1 | (have a5 := i1; unfold In at a5)))); have oc := oc_239_0; omega, rfl⟩)⟩)
          have n33a : KCK (shC s) s s20 := by first | (rw [shC_n (by rw [← e17x1]; exact c17x5)]; exact ⟨p20b, (show Fr fm_239_0 s s20 from (fr_tr rfl fr_rf hF20)).2.2.1 60 2 rfl, (show Fr fm_239_0 s s20 from (fr_tr rfl fr_rf hF20)).1 64 rfl⟩) | (rw [shC_d (by rw [← e17x1]; exact c17x5)]; exact ⟨p20b, (show Fr fm_239_0 s s20 from (fr_tr rfl fr_rf hF20)).2.2.1 60 2 rfl, (show Fr fm_239_0 s s20 from (fr_tr rfl fr_rf hF20)).1 64 rfl⟩)
          exact g_ireturn (gd rfl) rfl rfl (hP _ _ ⟨s20, hI20, (fr_tr rfl fr_rf hF20), (Int32.ofInt (-1)), rfl, rfl, in_w (-1) 32 (in_c (-1) rfl) rfl, n33, n33a⟩)
    · skip
      exact zn_eq c9 (in_c 1 rfl) rfl

/-- GraphHouse$Colours.besides -/
theorem f_48_9 {Z : AmZ} {A : Nat → Nat} {s : GS} {ex : va_W} {d : Nat} {X : AmX} {x1 : Int32} (hd : 4 ≤ d) (hI : Inv s)  : GC Z d 48 [.ref (A 9), .int x1] (WW Z A s ++ ex) 0 0 (fun v u => ∃ z : Int32, v = some (.int z) ∧ u = WW Z A s ++ ex ∧ In z (-2147483648) 2147483647 ∧ (BSX (s.1 9) x1 z)) X := by
  intro post xp hP hX
  have ct4 : ∀ (k4 : Nat) (y4_2 : Int32) (y4_3 : Int32), (BSJ (s.1 9) x1 (y4_2) (y4_3)) → ((y4_3.toBitVec.toNat : Nat) : Int) < (k4 : Int) → GG Z (d - 1) 48 post (gx xp) (1 + k4 * 900) 4 (fun j => xlook j [(0, .ref (A 9)), (1, .int x1), (2, .int y4_2), (3, .int y4_3)]) [] (WW Z A s ++ ex) 0 0 := by
    intro k4
    induction k4 with
    | zero => intro y4_2 y4_3 g4_0 mm4; exact absurd mm4 (Int.not_lt.mpr (Int.natCast_nonneg _))
    | succ k4 ih4 =>
      intro y4_2 y4_3 g4_0 mm4
      refine gg_w (M := 1 + k4 * 900 + 900) gws ?_
      refine g_iload_n 5 (gd rfl) rfl rfl ?_
      refine g_if_eq 8 26 (gd rfl) rfl rfl (fun c5 => ?_) (fun c5 => ?_)
      · skip
        have i5 := z_eq 0 0 c5 (i_rng y4_3) rfl
        refine g_iload_n 27 (gd rfl) rfl rfl ?_
        have n27 : BSX (s.1 9) x1 y4_2 := by exact bsj_e g4_0 c5
        exact g_ireturn (gd rfl) rfl rfl (hP _ _ ⟨y4_2, rfl, rfl, in_w (-2147483648) 2147483647 (i_rng y4_2) rfl, n27⟩)
      · skip
        refine g_iload_n 9 (gd rfl) rfl rfl ?_
        refine g_aload_n 10 (gd rfl) rfl rfl ?_
        refine g_iload_n 11 (gd rfl) rfl rfl ?_
        refine g_calls (As := [.int y4_3]) (r := [.ref (A 9), .int y4_2]) 14 (gd rfl) rfl rfl rfl rfl rfl (Nat.le_of_ble_eq_true rfl) (Nat.zero_le _) (Nat.zero_le _) (k_264n (by first | exact dq1 hd rfl | exact dq0 hd rfl | exact dq2 hd rfl | exact dq3 hd rfl | omega) c5) (fun v u h => ?_)
        obtain ⟨z11, rfl, rfl, i11, hb11, hl11⟩ := h
        show GG _ _ _ _ _ _ _ _ [.int z11, .ref (A 9), .int y4_2] _ _ _
        refine g_iaload 15 (gd rfl) rfl (n := 32) rfl (in_ix i11 rfl) (fun z14 e14 => ?_)
        refine g_ior 16 (gd rfl) rfl (fun z15 e15 => ?_)
        refine g_istore_n 17 (gd rfl) rfl (Nat.le_of_ble_eq_true rfl) ?_
        refine g_iload_n 18 (gd rfl) rfl rfl ?_
        refine g_iload_n 19 (gd rfl) rfl rfl ?_
        refine g_iconst 1 20 (gd rfl) rfl rfl ?_
        refine g_isub 21 (gd rfl) rfl (fun z20 e20 => ?_)
        refine g_iand 22 (gd rfl) rfl (fun z21 e21 => ?_)
        refine g_istore_n 23 (gd rfl) rfl (Nat.le_of_ble_eq_true rfl) ?_
        refine g_goto 4 (gd rfl) rfl ?_
        have n4 : BSJ (s.1 9) x1 (z15) (z21) := by exact bsj_s g4_0 hl11 e14 e15 e20 e21
        exact gg_w (by first | exact Nat.le_add_right _ _ | exact gw2 | exact gw3 | exact gwe rfl | exact gwf rfl | exact gwg rfl | exact gwh rfl | omega) (gg_f (gf_cons rfl (gf_cons rfl (gf_cons rfl (gf_cons rfl gf_nil)))) (ih4  z15 z21  n4 (mb e21 e20 c5 mm4)))
  refine g_enter2 (k := 48) (N := 3865470567301) (by first | exact dq1 hd rfl | exact dq0 hd rfl | exact dq2 hd rfl | exact dq3 hd rfl | omega) rfl (Nat.le_of_ble_eq_true rfl) ?_
  refine g_iconst 0 1 (gd rfl) rfl rfl ?_
  refine g_istore_n 2 (gd rfl) rfl (Nat.le_of_ble_eq_true rfl) ?_
  refine g_iload_n 3 (gd rfl) rfl rfl ?_
  refine g_istore_n 4 (gd rfl) rfl (Nat.le_of_ble_eq_true rfl) ?_
  have n4 : BSJ (s.1 9) x1 ((Int32.ofInt 0)) (x1) := by exact bsj_0
  exact gg_w (by first | exact Nat.le_of_ble_eq_true rfl | omega) (gg_f (gf_cons rfl (gf_cons rfl (gf_cons rfl (gf_cons rfl gf_nil)))) (ct4 4294967296  (Int32.ofInt 0) x1  n4 (mb_in _)))

/-- GraphHouse$Colours.besides -/
theorem f_48_39 {Z : AmZ} {A : Nat → Nat} {s : GS} {ex : va_W} {d : Nat} {X : AmX} {x1 : Int32} (hd : 4 ≤ d) (hI : Inv s)  : GC Z d 48 [.ref (A 39), .int x1] (WW Z A s ++ ex) 0 0 (fun v u => ∃ z : Int32, v = some (.int z) ∧ u = WW Z A s ++ ex ∧ In z (-2147483648) 2147483647 ∧ (BSX (s.1 39) x1 z)) X := by
  intro post xp hP hX
  have ct4 : ∀ (k4 : Nat) (y4_2 : Int32) (y4_3 : Int32), (BSJ (s.1 39) x1 (y4_2) (y4_3)) → ((y4_3.toBitVec.toNat : Nat) : Int) < (k4 : Int) → GG Z (d - 1) 48 post (gx xp) (1 + k4 * 900) 4 (fun j => xlook j [(0, .ref (A 39)), (1, .int x1), (2, .int y4_2), (3, .int y4_3)]) [] (WW Z A s ++ ex) 0 0 := by
    intro k4
    induction k4 with
    | zero => intro y4_2 y4_3 g4_0 mm4; exact absurd mm4 (Int.not_lt.mpr (Int.natCast_nonneg _))
    | succ k4 ih4 =>
      intro y4_2 y4_3 g4_0 mm4
      refine gg_w (M := 1 + k4 * 900 + 900) gws ?_
      refine g_iload_n 5 (gd rfl) rfl rfl ?_
      refine g_if_eq 8 26 (gd rfl) rfl rfl (fun c5 => ?_) (fun c5 => ?_)
      · skip
        have i5 := z_eq 0 0 c5 (i_rng y4_3) rfl
        refine g_iload_n 27 (gd rfl) rfl rfl ?_
        have n27 : BSX (s.1 39) x1 y4_2 := by exact bsj_e g4_0 c5
        exact g_ireturn (gd rfl) rfl rfl (hP _ _ ⟨y4_2, rfl, rfl, in_w (-2147483648) 2147483647 (i_rng y4_2) rfl, n27⟩)
      · skip
        refine g_iload_n 9 (gd rfl) rfl rfl ?_
        refine g_aload_n 10 (gd rfl) rfl rfl ?_
        refine g_iload_n 11 (gd rfl) rfl rfl ?_
        refine g_calls (As := [.int y4_3]) (r := [.ref (A 39), .int y4_2]) 14 (gd rfl) rfl rfl rfl rfl rfl (Nat.le_of_ble_eq_true rfl) (Nat.zero_le _) (Nat.zero_le _) (k_264n (by first | exact dq1 hd rfl | exact dq0 hd rfl | exact dq2 hd rfl | exact dq3 hd rfl | omega) c5) (fun v u h => ?_)
        obtain ⟨z11, rfl, rfl, i11, hb11, hl11⟩ := h
        show GG _ _ _ _ _ _ _ _ [.int z11, .ref (A 39), .int y4_2] _ _ _
        refine g_iaload 15 (gd rfl) rfl (n := 32) rfl (in_ix i11 rfl) (fun z14 e14 => ?_)
        refine g_ior 16 (gd rfl) rfl (fun z15 e15 => ?_)
        refine g_istore_n 17 (gd rfl) rfl (Nat.le_of_ble_eq_true rfl) ?_
        refine g_iload_n 18 (gd rfl) rfl rfl ?_
        refine g_iload_n 19 (gd rfl) rfl rfl ?_
        refine g_iconst 1 20 (gd rfl) rfl rfl ?_
        refine g_isub 21 (gd rfl) rfl (fun z20 e20 => ?_)
        refine g_iand 22 (gd rfl) rfl (fun z21 e21 => ?_)
        refine g_istore_n 23 (gd rfl) rfl (Nat.le_of_ble_eq_true rfl) ?_
        refine g_goto 4 (gd rfl) rfl ?_
        have n4 : BSJ (s.1 39) x1 (z15) (z21) := by exact bsj_s g4_0 hl11 e14 e15 e20 e21
        exact gg_w (by first | exact Nat.le_add_right _ _ | exact gw2 | exact gw3 | exact gwe rfl | exact gwf rfl | exact gwg rfl | exact gwh rfl | omega) (gg_f (gf_cons rfl (gf_cons rfl (gf_cons rfl (gf_cons rfl gf_nil)))) (ih4  z15 z21  n4 (mb e21 e20 c5 mm4)))
  refine g_enter2 (k := 48) (N := 3865470567301) (by first | exact dq1 hd rfl | exact dq0 hd rfl | exact dq2 hd rfl | exact dq3 hd rfl | omega) rfl (Nat.le_of_ble_eq_true rfl) ?_
  refine g_iconst 0 1 (gd rfl) rfl rfl ?_
  refine g_istore_n 2 (gd rfl) rfl (Nat.le_of_ble_eq_true rfl) ?_
  refine g_iload_n 3 (gd rfl) rfl rfl ?_
  refine g_istore_n 4 (gd rfl) rfl (Nat.le_of_ble_eq_true rfl) ?_
  have n4 : BSJ (s.1 39) x1 ((Int32.ofInt 0)) (x1) := by exact bsj_0
  exact gg_w (by first | exact Nat.le_of_ble_eq_true rfl | omega) (gg_f (gf_cons rfl (gf_cons rfl (gf_cons rfl (gf_cons rfl gf_nil)))) (ct4 4294967296  (Int32.ofInt 0) x1  n4 (mb_in _)))

theorem oc_51_60 : (Int32.ofInt (-1)).toInt = (-1) ∧ (Int32.ofInt 0).toInt = 0 ∧ (Int32.ofInt 1).toInt = 1 := ⟨rfl, rfl, rfl⟩
/-- GraphHouse$Colours.freeColours -/
theorem f_51_60 {Z : AmZ} {A : Nat → Nat} {s : GS} {ex : va_W} {d : Nat} {X : AmX} {x1 : Int32} (hd : 1 ≤ d) (hI : Inv s)  : GC Z d 51 [.ref (A 60), .int x1] (WW Z A s ++ ex) 0 0 (fun v u => ∃ z : Int32, v = some (.int z) ∧ u = WW Z A s ++ ex ∧ In z 0 32 ∧ ((z).toInt = (frc (s.2.2.1 60 3).toInt (s.1 61) x1 : Int))) X := by
  intro post xp hP hX
  obtain ⟨u_60_3, e_60_3⟩ : ∃ w, w = s.2.2.1 60 3 := ⟨_, rfl⟩
  have ro_60_3 := inv_F hI 0 32 rfl e_60_3
  have ct4 : ∀ (k4 : Nat) (y4_2 : Int32) (y4_3 : Int32), (In y4_2 0 32) → (In y4_3 0 32) → ((y4_2).toInt ≤ (y4_3).toInt + 0) → ((y4_2).toInt = (cbf (fcb (s.1 61) x1) (y4_3).toNatClampNeg : Int)) → ((y4_3).toInt ≤ (s.2.2.1 60 3).toInt) → 32 - (y4_3).toInt < (k4 : Int) → GG Z (d - 1) 51 post (gx xp) (1 + k4 * 900) 4 (fun j => xlook j [(0, .ref (A 60)), (1, .int x1), (2, .int y4_2), (3, .int y4_3)]) [] (WW Z A s ++ ex) 0 0 := by
    intro k4
    induction k4 with
    | zero => intro y4_2 y4_3 j4_2 j4_3 l4_2 g4_0 g4_1 mm4; exact m_no mm4 j4_3 rfl
    | succ k4 ih4 =>
      intro y4_2 y4_3 j4_2 j4_3 l4_2 g4_0 g4_1 mm4
      refine gg_w (M := 1 + k4 * 900 + 900) gws ?_
      refine g_iload_n 5 (gd rfl) rfl rfl ?_
      refine g_aload_n 6 (gd rfl) rfl rfl ?_
      refine g_getI 9 (gd rfl) rfl rfl rfl (fun z6 e6 => ?_)
      have q6 : u_60_3 = z6 := (e_60_3).trans e6.symm
      subst q6
      refine g_cmp_ge 12 32 (gd rfl) rfl rfl (fun c9 => ?_) (fun c9 => ?_)
      · skip
        refine g_iload_n 33 (gd rfl) rfl rfl ?_
        have n33 : (y4_2).toInt = (frc (s.2.2.1 60 3).toInt (s.1 61) x1 : Int) := by exact frc_e (k := s.2.2.1 60 3) g4_0 (by have h9 := g4_1; rw [← e_60_3] at h9 ⊢; (first | have a0 := oa3 ro_60_3 j4_3 j4_2 | ((first | have a0 := in_u ro_60_3 | (have a0 := ro_60_3; unfold In at a0)); (first | have a1 := in_u j4_3 | (have a1 := j4_3; unfold In at a1)); (first | have a2 := in_u j4_2 | (have a2 := j4_2; unfold In at a2)))); have oc := oc_51_60; omega)
        exact g_ireturn (gd rfl) rfl rfl (hP _ _ ⟨y4_2, rfl, rfl, in_w 0 32 j4_2 rfl, n33⟩)
      · skip
        have i9 := r_lt1 0 31 c9 j4_3 ro_60_3 rfl
        have i9a := r_lt2 1 32 c9 j4_3 ro_60_3 rfl
        refine g_aload_n 13 (gd rfl) rfl rfl ?_
        refine g_getA (q2 := 61) 16 (gd rfl) rfl rfl rfl rfl ?_
        refine g_iload_n 17 (gd rfl) rfl rfl ?_
        refine g_iaload 18 (gd rfl) rfl (n := 32) rfl (in_ix i9 rfl) (fun z17 e17 => ?_)
        refine g_iload_n 19 (gd rfl) rfl rfl ?_
        refine g_iand 20 (gd rfl) rfl (fun z19 e19 => ?_)
        refine g_if_ne 23 26 (gd rfl) rfl rfl (fun c20 => ?_) (fun c20 => ?_)
        · skip
          refine g_iinc 29 (gd rfl) rfl rfl (Nat.le_of_ble_eq_true rfl) (fun z26 e26 => ?_)
          have i26 := in_add 1 32 e26 i9 (in_c 1 rfl) rfl rfl
          refine g_goto 4 (gd rfl) rfl ?_
          have l4 := rl_0 l4_2 (t_add e26 i9 (in_c 1 rfl) rfl) (in_w 0 1 (in_c 1 rfl) rfl)
          have n4 : (y4_2).toInt = (cbf (fcb (s.1 61) x1) (z26).toNatClampNeg : Int) := by exact cbg_n g4_0 (fun h9 => absurd ((fcb_i e17 e19).mp h9) c20) (by (first | have a0 := oa4 i9a i9 j4_2 i26 | ((first | have a0 := in_u i9a | (have a0 := i9a; unfold In at a0)); (first | have a1 := in_u i9 | (have a1 := i9; unfold In at a1)); (first | have a2 := in_u j4_2 | (have a2 := j4_2; unfold In at a2)); (first | have a3 := in_u i26 | (have a3 := i26; unfold In at a3)))); have a4 := t_add e26 i9 (in_c 1 rfl) rfl; (first | have a5 := in_u ((in_c 1 rfl)) | (have a5 := (in_c 1 rfl); unfold In at a5)); have oc := oc_51_60; omega) (by (first | have a0 := oa4 i9a i9 j4_2 i26 | ((first | have a0 := in_u i9a | (have a0 := i9a; unfold In at a0)); (first | have a1 := in_u i9 | (have a1 := i9; unfold In at a1)); (first | have a2 := in_u j4_2 | (have a2 := j4_2; unfold In at a2)); (first | have a3 := in_u i26 | (have a3 := i26; unfold In at a3)))); have a4 := t_add e26 i9 (in_c 1 rfl) rfl; (first | have a5 := in_u ((in_c 1 rfl)) | (have a5 := (in_c 1 rfl); unfold In at a5)); have oc := oc_51_60; omega)
          have n4a : (z26).toInt ≤ (s.2.2.1 60 3).toInt := by rw [← e_60_3]; (first | have a0 := oa4 i9a i9 j4_2 i26 | ((first | have a0 := in_u i9a | (have a0 := i9a; unfold In at a0)); (first | have a1 := in_u i9 | (have a1 := i9; unfold In at a1)); (first | have a2 := in_u j4_2 | (have a2 := j4_2; unfold In at a2)); (first | have a3 := in_u i26 | (have a3 := i26; unfold In at a3)))); have a4 := t_add e26 i9 (in_c 1 rfl) rfl; (first | have a5 := in_u ((in_c 1 rfl)) | (have a5 := (in_c 1 rfl); unfold In at a5)); have oc := oc_51_60; omega
          exact gg_w (by first | exact Nat.le_add_right _ _ | exact gw2 | exact gw3 | exact gwe rfl | exact gwf rfl | exact gwg rfl | exact gwh rfl | omega) (gg_f (gf_cons rfl (gf_cons rfl (gf_cons rfl (gf_cons rfl gf_nil)))) (ih4  y4_2 z26  (rl_w 0 32 l4 j4_2 (in_w 0 32 i26 rfl) rfl) (in_w 0 32 i26 rfl) l4 n4 n4a (m_up mm4 (t_add e26 i9 (in_c 1 rfl) rfl) (in_w 1 1 (in_c 1 rfl) rfl))))
        · skip
          have i20 := z_eq 0 0 c20 (i_rng z19) rfl
          refine g_iinc 26 (gd rfl) rfl rfl (Nat.le_of_ble_eq_true rfl) (fun z23 e23 => ?_)
          have i23 := in_add 1 33 e23 j4_2 (in_c 1 rfl) rfl rfl
          refine g_iinc 29 (gd rfl) rfl rfl (Nat.le_of_ble_eq_true rfl) (fun z26 e26 => ?_)
          have i26 := in_add 1 32 e26 i9 (in_c 1 rfl) rfl rfl
          refine g_goto 4 (gd rfl) rfl ?_
          have l4 := rl_1 l4_2 (t_add e23 j4_2 (in_c 1 rfl) rfl) (in_c 1 rfl) (t_add e26 i9 (in_c 1 rfl) rfl) (in_c 1 rfl) rfl
          have n4 : (z23).toInt = (cbf (fcb (s.1 61) x1) (z26).toNatClampNeg : Int) := by exact cbg_y g4_0 ((fcb_i e17 e19).mpr c20) (by (first | have a0 := oa4 i9a i9 j4_2 i26 | ((first | have a0 := in_u i9a | (have a0 := i9a; unfold In at a0)); (first | have a1 := in_u i9 | (have a1 := i9; unfold In at a1)); (first | have a2 := in_u j4_2 | (have a2 := j4_2; unfold In at a2)); (first | have a3 := in_u i26 | (have a3 := i26; unfold In at a3)))); have a4 := t_add e26 i9 (in_c 1 rfl) rfl; (first | have a5 := oa2 ((in_c 1 rfl)) i23 | ((first | have a5 := in_u ((in_c 1 rfl)) | (have a5 := (in_c 1 rfl); unfold In at a5)); (first | have a6 := in_u i23 | (have a6 := i23; unfold In at a6)))); have a7 := t_add e23 j4_2 (in_c 1 rfl) rfl; have oc := oc_51_60; omega) (by (first | have a0 := oa4 i9a i9 j4_2 i26 | ((first | have a0 := in_u i9a | (have a0 := i9a; unfold In at a0)); (first | have a1 := in_u i9 | (have a1 := i9; unfold In at a1)); (first | have a2 := in_u j4_2 | (have a2 := j4_2; unfold In at a2)); (first | have a3 := in_u i26 | (have a3 := i26; unfold In at a3)))); have a4 := t_add e26 i9 (in_c 1 rfl) rfl; (first | have a5 := oa2 ((in_c 1 rfl)) i23 | ((first | have a5 := in_u ((in_c 1 rfl)) | (have a5 := (in_c 1 rfl); unfold In at a5)); (first | have a6 := in_u i23 | (have a6 := i23; unfold In at a6)))); have a7 := t_add e23 j4_2 (in_c 1 rfl) rfl; have oc := oc_51_60; omega) (by (first | have a0 := oa4 i9a i9 j4_2 i26 | ((first | have a0 := in_u i9a | (have a0 := i9a; unfold In at a0)); (first | have a1 := in_u i9 | (have a1 := i9; unfold In at a1)); (first | have a2 := in_u j4_2 | (have a2 := j4_2; unfold In at a2)); (first | have a3 := in_u i26 | (have a3 := i26; unfold In at a3)))); have a4 := t_add e26 i9 (in_c 1 rfl) rfl; (first | have a5 := oa2 ((in_c 1 rfl)) i23 | ((first | have a5 := in_u ((in_c 1 rfl)) | (have a5 := (in_c 1 rfl); unfold In at a5)); (first | have a6 := in_u i23 | (have a6 := i23; unfold In at a6)))); have a7 := t_add e23 j4_2 (in_c 1 rfl) rfl; have oc := oc_51_60; omega)
          have n4a : (z26).toInt ≤ (s.2.2.1 60 3).toInt := by rw [← e_60_3]; (first | have a0 := oa4 i9a i9 j4_2 i26 | ((first | have a0 := in_u i9a | (have a0 := i9a; unfold In at a0)); (first | have a1 := in_u i9 | (have a1 := i9; unfold In at a1)); (first | have a2 := in_u j4_2 | (have a2 := j4_2; unfold In at a2)); (first | have a3 := in_u i26 | (have a3 := i26; unfold In at a3)))); have a4 := t_add e26 i9 (in_c 1 rfl) rfl; (first | have a5 := oa2 ((in_c 1 rfl)) i23 | ((first | have a5 := in_u ((in_c 1 rfl)) | (have a5 := (in_c 1 rfl); unfold In at a5)); (first | have a6 := in_u i23 | (have a6 := i23; unfold In at a6)))); have a7 := t_add e23 j4_2 (in_c 1 rfl) rfl; have oc := oc_51_60; omega
          exact gg_w (by first | exact Nat.le_add_right _ _ | exact gw2 | exact gw3 | exact gwe rfl | exact gwf rfl | exact gwg rfl | exact gwh rfl | omega) (gg_f (gf_cons rfl (gf_cons rfl (gf_cons rfl (gf_cons rfl gf_nil)))) (ih4  z23 z26  (rl_w 0 32 l4 i23 (in_w 0 32 i26 rfl) rfl) (in_w 0 32 i26 rfl) l4 n4 n4a (m_up mm4 (t_add e26 i9 (in_c 1 rfl) rfl) (in_w 1 1 (in_c 1 rfl) rfl))))
  refine g_enter2 (k := 51) (N := 30601) (by first | exact dq1 hd rfl | exact dq0 hd rfl | exact dq2 hd rfl | exact dq3 hd rfl | omega) rfl (Nat.le_of_ble_eq_true rfl) ?_
  refine g_iconst 0 1 (gd rfl) rfl rfl ?_
  refine g_istore_n 2 (gd rfl) rfl (Nat.le_of_ble_eq_true rfl) ?_
  refine g_iconst 0 3 (gd rfl) rfl rfl ?_
  refine g_istore_n 4 (gd rfl) rfl (Nat.le_of_ble_eq_true rfl) ?_
  have l4 := rl_in 0 (in_c 0 rfl) (in_c 0 rfl) rfl
  have n4 : ((Int32.ofInt 0)).toInt = (cbf (fcb (s.1 61) x1) ((Int32.ofInt 0)).toNatClampNeg : Int) := by rfl
  have n4a : ((Int32.ofInt 0)).toInt ≤ (s.2.2.1 60 3).toInt := by rw [← e_60_3]; (first | have a0 := oa2 ro_60_3 ((in_c 0 rfl)) | ((first | have a0 := in_u ro_60_3 | (have a0 := ro_60_3; unfold In at a0)); (first | have a1 := in_u ((in_c 0 rfl)) | (have a1 := (in_c 0 rfl); unfold In at a1)))); have oc := oc_51_60; omega
  exact gg_w (by first | exact Nat.le_of_ble_eq_true rfl | omega) (gg_f (gf_cons rfl (gf_cons rfl (gf_cons rfl (gf_cons rfl gf_nil)))) (ct4 33  (Int32.ofInt 0) (Int32.ofInt 0)  (rl_w 0 32 l4 (in_c 0 rfl) (in_w 0 32 (in_c 0 rfl) rfl) rfl) (in_w 0 32 (in_c 0 rfl) rfl) l4 n4 n4a (m_in 33 (in_w 0 32 (in_c 0 rfl) rfl) rfl)))

/-- GraphHouse$Colours.tightest -/
theorem f_52_60_9 {Z : AmZ} {A : Nat → Nat} {s : GS} {ex : va_W} {d : Nat} {X : AmX} {x2 : Int32} (hd : 4 ≤ d) (hI : Inv s) (nza_2 : x2.toInt ≠ 0) : GC Z d 52 [.ref (A 60), .ref (A 9), .int x2] (WW Z A s ++ ex) 0 0 (fun v u => ∃ z : Int32, v = some (.int z) ∧ u = WW Z A s ++ ex ∧ In z 0 31 ∧ (bt (x2) (z).toNatClampNeg = true)) X := by
  intro post xp hP hX
  have ct12 : ∀ (k12 : Nat) (y12_3 : Int32) (y12_4 : Int32) (y12_5 : Int32), (In y12_3 0 31) → (In y12_4 (-32) 32768) → (bt x2 (y12_3).toNatClampNeg = true) → ((∀ u : Nat, bt (y12_5) u = true → bt x2 u = true)) → ((y12_5.toBitVec.toNat : Nat) : Int) < (k12 : Int) → GG Z (d - 1) 52 post (gx xp) (1 + k12 * 900) 12 (fun j => xlook j [(0, .ref (A 60)), (1, .ref (A 9)), (2, .int x2), (3, .int y12_3), (4, .int y12_4), (5, .int y12_5)]) [] (WW Z A s ++ ex) 0 0 := by
    intro k12
    induction k12 with
    | zero => intro y12_3 y12_4 y12_5 j12_3 j12_4 g12_0 g12_1 mm12; exact absurd mm12 (Int.not_lt.mpr (Int.natCast_nonneg _))
    | succ k12 ih12 =>
      intro y12_3 y12_4 y12_5 j12_3 j12_4 g12_0 g12_1 mm12
      refine gg_w (M := 1 + k12 * 900 + 900) gws ?_
      refine g_iload 14 (gd rfl) rfl rfl ?_
      refine g_if_eq 17 73 (gd rfl) rfl rfl (fun c14 => ?_) (fun c14 => ?_)
      · skip
        have i14 := z_eq 0 0 c14 (i_rng y12_5) rfl
        refine g_iload_n 74 (gd rfl) rfl rfl ?_
        have n74 : bt (x2) (y12_3).toNatClampNeg = true := by exact g12_0
        exact g_ireturn (gd rfl) rfl rfl (hP _ _ ⟨y12_3, rfl, rfl, in_w 0 31 j12_3 rfl, n74⟩)
      · skip
        refine g_iload 19 (gd rfl) rfl rfl ?_
        refine g_calls (As := [.int y12_5]) (r := []) 22 (gd rfl) rfl rfl rfl rfl rfl (Nat.le_of_ble_eq_true rfl) (Nat.zero_le _) (Nat.zero_le _) (k_264n (by first | exact dq1 hd rfl | exact dq0 hd rfl | exact dq2 hd rfl | exact dq3 hd rfl | omega) c14) (fun v u h => ?_)
        obtain ⟨z19, rfl, rfl, i19, hb19, hl19⟩ := h
        show GG _ _ _ _ _ _ _ _ [.int z19] _ _ _
        refine g_istore 24 (gd rfl) rfl (Nat.le_of_ble_eq_true rfl) ?_
        refine g_aload_n 25 (gd rfl) rfl rfl ?_
        refine g_aload_n 26 (gd rfl) rfl rfl ?_
        refine g_iload 28 (gd rfl) rfl rfl ?_
        refine g_iaload 29 (gd rfl) rfl (n := 32) rfl (in_ix i19 rfl) (fun z28 e28 => ?_)
        refine g_callv (X := _) (As := [.int z28]) (r := []) (b := A 60) (q := 60) 32 (gd rfl) rfl rfl rfl rfl rfl (ww_o rfl) (Nat.le_of_ble_eq_true rfl) (Nat.zero_le _) (Nat.zero_le _) (f_51_60 (by first | exact dq1 hd rfl | exact dq0 hd rfl | exact dq2 hd rfl | exact dq3 hd rfl | omega) hI ) (fun e u h => h) (fun v u h => ?_)
        obtain ⟨z29, rfl, rfl, i29, p29⟩ := h
        show GG _ _ _ _ _ _ _ _ [.int z29] _ _ _
        refine g_bipush 64 34 (gd rfl) rfl rfl ?_
        refine g_imul 35 (gd rfl) rfl (fun z34 e34 => ?_)
        have i34 := in_mulc 64 0 2048 (Or.inr e34) i29 rfl rfl
        refine g_aload_n 36 (gd rfl) rfl rfl ?_
        refine g_iload 38 (gd rfl) rfl rfl ?_
        refine g_iaload 39 (gd rfl) rfl (n := 32) rfl (in_ix i19 rfl) (fun z38 e38 => ?_)
        have q38 : z28 = z38 := (e28).trans e38.symm
        subst q38
        refine g_iload_n 40 (gd rfl) rfl rfl ?_
        refine g_iand 41 (gd rfl) rfl (fun z40 e40 => ?_)
        refine g_calls (As := [.int z40]) (r := [.int z34]) 44 (gd rfl) rfl rfl rfl rfl rfl (Nat.le_of_ble_eq_true rfl) (Nat.zero_le _) (Nat.zero_le _) (f_414 (by first | exact dq1 hd rfl | exact dq0 hd rfl | exact dq2 hd rfl | exact dq3 hd rfl | omega) hI ) (fun v u h => ?_)
        obtain ⟨z41, rfl, rfl, i41, p41⟩ := h
        show GG _ _ _ _ _ _ _ _ [.int z41, .int z34] _ _ _
        refine g_isub 45 (gd rfl) rfl (fun z44 e44 => ?_)
        have i44 := in_sub (-32) 2048 e44 i34 i41 rfl rfl
        refine g_istore 47 (gd rfl) rfl (Nat.le_of_ble_eq_true rfl) ?_
        refine g_iload 49 (gd rfl) rfl rfl ?_
        refine g_iload 51 (gd rfl) rfl rfl ?_
        refine g_cmp_ge 54 61 (gd rfl) rfl rfl (fun c51 => ?_) (fun c51 => ?_)
        · skip
          have i51 := r_le1 (-32) 2048 c51 j12_4 i44 rfl
          refine g_iload 63 (gd rfl) rfl rfl ?_
          refine g_iload 65 (gd rfl) rfl rfl ?_
          refine g_iconst 1 66 (gd rfl) rfl rfl ?_
          refine g_isub 67 (gd rfl) rfl (fun z66 e66 => ?_)
          refine g_iand 68 (gd rfl) rfl (fun z67 e67 => ?_)
          refine g_istore 70 (gd rfl) rfl (Nat.le_of_ble_eq_true rfl) ?_
          refine g_goto 12 (gd rfl) rfl ?_
          have n12 : bt x2 (y12_3).toNatClampNeg = true := by first | exact g12_0 | exact g12_1 _ hb19
          have n12a : (∀ u : Nat, bt (z67) u = true → bt x2 u = true) := by exact fun u h9 => g12_1 u (bt_and1 e67 h9)
          exact gg_w (by first | exact Nat.le_add_right _ _ | exact gw2 | exact gw3 | exact gwe rfl | exact gwf rfl | exact gwg rfl | exact gwh rfl | omega) (gg_f (gf_cons rfl (gf_cons rfl (gf_cons rfl (gf_cons rfl (gf_cons rfl (gf_cons rfl gf_nil)))))) (ih12  y12_3 y12_4 z67  (in_w 0 31 j12_3 rfl) (in_w (-32) 32768 i51 rfl) n12 n12a (mb e67 e66 c14 mm12)))
        · skip
          have i51 := r_lt2 (-31) 32768 c51 i44 j12_4 rfl
          refine g_iload 56 (gd rfl) rfl rfl ?_
          refine g_istore 58 (gd rfl) rfl (Nat.le_of_ble_eq_true rfl) ?_
          refine g_iload 60 (gd rfl) rfl rfl ?_
          refine g_istore_n 61 (gd rfl) rfl (Nat.le_of_ble_eq_true rfl) ?_
          refine g_iload 63 (gd rfl) rfl rfl ?_
          refine g_iload 65 (gd rfl) rfl rfl ?_
          refine g_iconst 1 66 (gd rfl) rfl rfl ?_
          refine g_isub 67 (gd rfl) rfl (fun z66 e66 => ?_)
          refine g_iand 68 (gd rfl) rfl (fun z67 e67 => ?_)
          refine g_istore 70 (gd rfl) rfl (Nat.le_of_ble_eq_true rfl) ?_
          refine g_goto 12 (gd rfl) rfl ?_
          have n12 : bt x2 (z19).toNatClampNeg = true := by first | exact g12_0 | exact g12_1 _ hb19
          have n12a : (∀ u : Nat, bt (z67) u = true → bt x2 u = true) := by exact fun u h9 => g12_1 u (bt_and1 e67 h9)
          exact gg_w (by first | exact Nat.le_add_right _ _ | exact gw2 | exact gw3 | exact gwe rfl | exact gwf rfl | exact gwg rfl | exact gwh rfl | omega) (gg_f (gf_cons rfl (gf_cons rfl (gf_cons rfl (gf_cons rfl (gf_cons rfl (gf_cons rfl gf_nil)))))) (ih12  z19 z44 z67  (in_w 0 31 i19 rfl) (in_w (-32) 32768 i44 rfl) n12 n12a (mb e67 e66 c14 mm12)))
  refine g_enter2 (k := 52) (N := 3865470567301) (by first | exact dq1 hd rfl | exact dq0 hd rfl | exact dq2 hd rfl | exact dq3 hd rfl | omega) rfl (Nat.le_of_ble_eq_true rfl) ?_
  refine g_iload_n 1 (gd rfl) rfl rfl ?_
  refine g_calls (As := [.int x2]) (r := []) 4 (gd rfl) rfl rfl rfl rfl rfl (Nat.le_of_ble_eq_true rfl) (Nat.zero_le _) (Nat.zero_le _) (k_264n (by first | exact dq1 hd rfl | exact dq0 hd rfl | exact dq2 hd rfl | exact dq3 hd rfl | omega) nza_2) (fun v u h => ?_)
  obtain ⟨z1, rfl, rfl, i1, hb1, hl1⟩ := h
  show GG _ _ _ _ _ _ _ _ [.int z1] _ _ _
  refine g_istore_n 5 (gd rfl) rfl (Nat.le_of_ble_eq_true rfl) ?_
  refine g_ldc 32768 7 (gd rfl) rfl rfl ?_
  refine g_istore 9 (gd rfl) rfl (Nat.le_of_ble_eq_true rfl) ?_
  refine g_iload_n 10 (gd rfl) rfl rfl ?_
  refine g_istore 12 (gd rfl) rfl (Nat.le_of_ble_eq_true rfl) ?_
  have n12 : bt x2 (z1).toNatClampNeg = true := by exact hb1
  have n12a : (∀ u : Nat, bt (x2) u = true → bt x2 u = true) := by exact fun _ h9 => h9
  exact gg_w (by first | exact Nat.le_of_ble_eq_true rfl | omega) (gg_f (gf_cons rfl (gf_cons rfl (gf_cons rfl (gf_cons rfl (gf_cons rfl (gf_cons rfl gf_nil)))))) (ct12 4294967296  z1 (Int32.ofInt 32768) x2  (in_w 0 31 i1 rfl) (in_w (-32) 32768 (in_c 32768 rfl) rfl) n12 n12a (mb_in _)))

/-- GraphHouse$Colours.tightest -/
theorem f_52_60_39 {Z : AmZ} {A : Nat → Nat} {s : GS} {ex : va_W} {d : Nat} {X : AmX} {x2 : Int32} (hd : 4 ≤ d) (hI : Inv s) (nza_2 : x2.toInt ≠ 0) : GC Z d 52 [.ref (A 60), .ref (A 39), .int x2] (WW Z A s ++ ex) 0 0 (fun v u => ∃ z : Int32, v = some (.int z) ∧ u = WW Z A s ++ ex ∧ In z 0 31 ∧ (bt (x2) (z).toNatClampNeg = true)) X := by
  intro post xp hP hX
  have ct12 : ∀ (k12 : Nat) (y12_3 : Int32) (y12_4 : Int32) (y12_5 : Int32), (In y12_3 0 31) → (In y12_4 (-32) 32768) → (bt x2 (y12_3).toNatClampNeg = true) → ((∀ u : Nat, bt (y12_5) u = true → bt x2 u = true)) → ((y12_5.toBitVec.toNat : Nat) : Int) < (k12 : Int) → GG Z (d - 1) 52 post (gx xp) (1 + k12 * 900) 12 (fun j => xlook j [(0, .ref (A 60)), (1, .ref (A 39)), (2, .int x2), (3, .int y12_3), (4, .int y12_4), (5, .int y12_5)]) [] (WW Z A s ++ ex) 0 0 := by
    intro k12
    induction k12 with
    | zero => intro y12_3 y12_4 y12_5 j12_3 j12_4 g12_0 g12_1 mm12; exact absurd mm12 (Int.not_lt.mpr (Int.natCast_nonneg _))
    | succ k12 ih12 =>
      intro y12_3 y12_4 y12_5 j12_3 j12_4 g12_0 g12_1 mm12
      refine gg_w (M := 1 + k12 * 900 + 900) gws ?_
      refine g_iload 14 (gd rfl) rfl rfl ?_
      refine g_if_eq 17 73 (gd rfl) rfl rfl (fun c14 => ?_) (fun c14 => ?_)
      · skip
        have i14 := z_eq 0 0 c14 (i_rng y12_5) rfl
        refine g_iload_n 74 (gd rfl) rfl rfl ?_
        have n74 : bt (x2) (y12_3).toNatClampNeg = true := by exact g12_0
        exact g_ireturn (gd rfl) rfl rfl (hP _ _ ⟨y12_3, rfl, rfl, in_w 0 31 j12_3 rfl, n74⟩)
      · skip
        refine g_iload 19 (gd rfl) rfl rfl ?_
        refine g_calls (As := [.int y12_5]) (r := []) 22 (gd rfl) rfl rfl rfl rfl rfl (Nat.le_of_ble_eq_true rfl) (Nat.zero_le _) (Nat.zero_le _) (k_264n (by first | exact dq1 hd rfl | exact dq0 hd rfl | exact dq2 hd rfl | exact dq3 hd rfl | omega) c14) (fun v u h => ?_)
        obtain ⟨z19, rfl, rfl, i19, hb19, hl19⟩ := h
        show GG _ _ _ _ _ _ _ _ [.int z19] _ _ _
        refine g_istore 24 (gd rfl) rfl (Nat.le_of_ble_eq_true rfl) ?_
        refine g_aload_n 25 (gd rfl) rfl rfl ?_
        refine g_aload_n 26 (gd rfl) rfl rfl ?_
        refine g_iload 28 (gd rfl) rfl rfl ?_
        refine g_iaload 29 (gd rfl) rfl (n := 32) rfl (in_ix i19 rfl) (fun z28 e28 => ?_)
        refine g_callv (X := _) (As := [.int z28]) (r := []) (b := A 60) (q := 60) 32 (gd rfl) rfl rfl rfl rfl rfl (ww_o rfl) (Nat.le_of_ble_eq_true rfl) (Nat.zero_le _) (Nat.zero_le _) (f_51_60 (by first | exact dq1 hd rfl | exact dq0 hd rfl | exact dq2 hd rfl | exact dq3 hd rfl | omega) hI ) (fun e u h => h) (fun v u h => ?_)
        obtain ⟨z29, rfl, rfl, i29, p29⟩ := h
        show GG _ _ _ _ _ _ _ _ [.int z29] _ _ _
        refine g_bipush 64 34 (gd rfl) rfl rfl ?_
        refine g_imul 35 (gd rfl) rfl (fun z34 e34 => ?_)
        have i34 := in_mulc 64 0 2048 (Or.inr e34) i29 rfl rfl
        refine g_aload_n 36 (gd rfl) rfl rfl ?_
        refine g_iload 38 (gd rfl) rfl rfl ?_
        refine g_iaload 39 (gd rfl) rfl (n := 32) rfl (in_ix i19 rfl) (fun z38 e38 => ?_)
        have q38 : z28 = z38 := (e28).trans e38.symm
        subst q38
        refine g_iload_n 40 (gd rfl) rfl rfl ?_
        refine g_iand 41 (gd rfl) rfl (fun z40 e40 => ?_)
        refine g_calls (As := [.int z40]) (r := [.int z34]) 44 (gd rfl) rfl rfl rfl rfl rfl (Nat.le_of_ble_eq_true rfl) (Nat.zero_le _) (Nat.zero_le _) (f_414 (by first | exact dq1 hd rfl | exact dq0 hd rfl | exact dq2 hd rfl | exact dq3 hd rfl | omega) hI ) (fun v u h => ?_)
        obtain ⟨z41, rfl, rfl, i41, p41⟩ := h
        show GG _ _ _ _ _ _ _ _ [.int z41, .int z34] _ _ _
        refine g_isub 45 (gd rfl) rfl (fun z44 e44 => ?_)
        have i44 := in_sub (-32) 2048 e44 i34 i41 rfl rfl
        refine g_istore 47 (gd rfl) rfl (Nat.le_of_ble_eq_true rfl) ?_
        refine g_iload 49 (gd rfl) rfl rfl ?_
        refine g_iload 51 (gd rfl) rfl rfl ?_
        refine g_cmp_ge 54 61 (gd rfl) rfl rfl (fun c51 => ?_) (fun c51 => ?_)
        · skip
          have i51 := r_le1 (-32) 2048 c51 j12_4 i44 rfl
          refine g_iload 63 (gd rfl) rfl rfl ?_
          refine g_iload 65 (gd rfl) rfl rfl ?_
          refine g_iconst 1 66 (gd rfl) rfl rfl ?_
          refine g_isub 67 (gd rfl) rfl (fun z66 e66 => ?_)
          refine g_iand 68 (gd rfl) rfl (fun z67 e67 => ?_)
          refine g_istore 70 (gd rfl) rfl (Nat.le_of_ble_eq_true rfl) ?_
          refine g_goto 12 (gd rfl) rfl ?_
          have n12 : bt x2 (y12_3).toNatClampNeg = true := by first | exact g12_0 | exact g12_1 _ hb19
          have n12a : (∀ u : Nat, bt (z67) u = true → bt x2 u = true) := by exact fun u h9 => g12_1 u (bt_and1 e67 h9)
          exact gg_w (by first | exact Nat.le_add_right _ _ | exact gw2 | exact gw3 | exact gwe rfl | exact gwf rfl | exact gwg rfl | exact gwh rfl | omega) (gg_f (gf_cons rfl (gf_cons rfl (gf_cons rfl (gf_cons rfl (gf_cons rfl (gf_cons rfl gf_nil)))))) (ih12  y12_3 y12_4 z67  (in_w 0 31 j12_3 rfl) (in_w (-32) 32768 i51 rfl) n12 n12a (mb e67 e66 c14 mm12)))
        · skip
          have i51 := r_lt2 (-31) 32768 c51 i44 j12_4 rfl
          refine g_iload 56 (gd rfl) rfl rfl ?_
          refine g_istore 58 (gd rfl) rfl (Nat.le_of_ble_eq_true rfl) ?_
          refine g_iload 60 (gd rfl) rfl rfl ?_
          refine g_istore_n 61 (gd rfl) rfl (Nat.le_of_ble_eq_true rfl) ?_
          refine g_iload 63 (gd rfl) rfl rfl ?_
          refine g_iload 65 (gd rfl) rfl rfl ?_
          refine g_iconst 1 66 (gd rfl) rfl rfl ?_
          refine g_isub 67 (gd rfl) rfl (fun z66 e66 => ?_)
          refine g_iand 68 (gd rfl) rfl (fun z67 e67 => ?_)
          refine g_istore 70 (gd rfl) rfl (Nat.le_of_ble_eq_true rfl) ?_
          refine g_goto 12 (gd rfl) rfl ?_
          have n12 : bt x2 (z19).toNatClampNeg = true := by first | exact g12_0 | exact g12_1 _ hb19
          have n12a : (∀ u : Nat, bt (z67) u = true → bt x2 u = true) := by exact fun u h9 => g12_1 u (bt_and1 e67 h9)
          exact gg_w (by first | exact Nat.le_add_right _ _ | exact gw2 | exact gw3 | exact gwe rfl | exact gwf rfl | exact gwg rfl | exact gwh rfl | omega) (gg_f (gf_cons rfl (gf_cons rfl (gf_cons rfl (gf_cons rfl (gf_cons rfl (gf_cons rfl gf_nil)))))) (ih12  z19 z44 z67  (in_w 0 31 i19 rfl) (in_w (-32) 32768 i44 rfl) n12 n12a (mb e67 e66 c14 mm12)))
  refine g_enter2 (k := 52) (N := 3865470567301) (by first | exact dq1 hd rfl | exact dq0 hd rfl | exact dq2 hd rfl | exact dq3 hd rfl | omega) rfl (Nat.le_of_ble_eq_true rfl) ?_
  refine g_iload_n 1 (gd rfl) rfl rfl ?_
  refine g_calls (As := [.int x2]) (r := []) 4 (gd rfl) rfl rfl rfl rfl rfl (Nat.le_of_ble_eq_true rfl) (Nat.zero_le _) (Nat.zero_le _) (k_264n (by first | exact dq1 hd rfl | exact dq0 hd rfl | exact dq2 hd rfl | exact dq3 hd rfl | omega) nza_2) (fun v u h => ?_)
  obtain ⟨z1, rfl, rfl, i1, hb1, hl1⟩ := h
  show GG _ _ _ _ _ _ _ _ [.int z1] _ _ _
  refine g_istore_n 5 (gd rfl) rfl (Nat.le_of_ble_eq_true rfl) ?_
  refine g_ldc 32768 7 (gd rfl) rfl rfl ?_
  refine g_istore 9 (gd rfl) rfl (Nat.le_of_ble_eq_true rfl) ?_
  refine g_iload_n 10 (gd rfl) rfl rfl ?_
  refine g_istore 12 (gd rfl) rfl (Nat.le_of_ble_eq_true rfl) ?_
  have n12 : bt x2 (z1).toNatClampNeg = true := by exact hb1
  have n12a : (∀ u : Nat, bt (x2) u = true → bt x2 u = true) := by exact fun _ h9 => h9
  exact gg_w (by first | exact Nat.le_of_ble_eq_true rfl | omega) (gg_f (gf_cons rfl (gf_cons rfl (gf_cons rfl (gf_cons rfl (gf_cons rfl (gf_cons rfl gf_nil)))))) (ct12 4294967296  z1 (Int32.ofInt 32768) x2  (in_w 0 31 i1 rfl) (in_w (-32) 32768 (in_c 32768 rfl) rfl) n12 n12a (mb_in _)))

theorem oc_49_60_9 : (Int32.ofInt (-1)).toInt = (-1) ∧ (Int32.ofInt 0).toInt = 0 ∧ (Int32.ofInt 1).toInt = 1 ∧ (Int32.ofInt 32).toInt = 32 := ⟨rfl, rfl, rfl, rfl⟩
/-- GraphHouse$Colours.setAside -/
theorem f_49_60_9 {Z : AmZ} {A : Nat → Nat} {s : GS} {ex : va_W} {d : Nat} {X : AmX} {x2 : Int32} (hd : 4 ≤ d) (hI : Inv s)  : GC Z d 49 [.ref (A 60), .ref (A 9), .int x2] (WW Z A s ++ ex) 0 0 (fun v u => ∃ t : GS, Inv t ∧ Fr fm_49_60_9 s t ∧ ∃ z : Int32, v = some (.int z) ∧ u = WW Z A t ++ ex ∧ In z (-2147483648) 2147483647 ∧ (SAJ (s.1 9) s t x2 z)) X := by
  intro post xp hP hX
  have ct8 : ∀ (k8 : Nat) (sc8 : GS) (y8_3 : Int32) (y8_4 : Int32) (y8_5 : Int32), Inv sc8 → Fr fm_49_60_9 s sc8 → (In y8_5 0 33) → (SAJ (s.1 9) s sc8 x2 (y8_3)) → 33 - (y8_5).toInt < (k8 : Int) → GG Z (d - 1) 49 post (gx xp) (1 + k8 * 3865470569101) 8 (fun j => xlook j [(0, .ref (A 60)), (1, .ref (A 9)), (2, .int x2), (3, .int y8_3), (4, .int y8_4), (5, .int y8_5)]) [] (WW Z A sc8 ++ ex) 0 0 := by
    intro k8
    induction k8 with
    | zero => intro sc8 y8_3 y8_4 y8_5 hIc8 hFc8 j8_5 g8_0 mm8; exact m_no mm8 j8_5 rfl
    | succ k8 ih8 =>
      intro sc8 y8_3 y8_4 y8_5 hIc8 hFc8 j8_5 g8_0 mm8
      refine gg_w (M := 1 + k8 * 3865470569101 + 3865470569101) gws ?_
      have ct27 : ∀ (k27 : Nat) (sc27 : GS) (y27_3 : Int32) (y27_4 : Int32) (y27_6 : Int32), Inv sc27 → Fr fm_49_60_9 s sc27 → (In y8_5 0 32) → (SAJ (s.1 9) s sc27 x2 (y27_3)) → ((∀ u : Nat, bt (y27_6) u = true → bt (y27_3) u = true)) → ((y27_6.toBitVec.toNat : Nat) : Int) < (k27 : Int) → GG Z (d - 1) 49 post (gx xp) (1 + k8 * 3865470569101 + 1 + k27 * 900) 27 (fun j => xlook j [(0, .ref (A 60)), (1, .ref (A 9)), (2, .int x2), (3, .int y27_3), (4, .int y27_4), (5, .int y8_5), (6, .int y27_6)]) [] (WW Z A sc27 ++ ex) 0 0 := by
        intro k27
        induction k27 with
        | zero => intro sc27 y27_3 y27_4 y27_6 hIc27 hFc27 j27_5 g27_0 g27_1 mm27; exact absurd mm27 (Int.not_lt.mpr (Int.natCast_nonneg _))
        | succ k27 ih27 =>
          intro sc27 y27_3 y27_4 y27_6 hIc27 hFc27 j27_5 g27_0 g27_1 mm27
          refine gg_w (M := 1 + k8 * 3865470569101 + 1 + k27 * 900 + 900) gws ?_
          refine g_iload 29 (gd rfl) rfl rfl ?_
          refine g_if_eq 32 110 (gd rfl) rfl rfl (fun c29 => ?_) (fun c29 => ?_)
          · skip
            have i29 := z_eq 0 0 c29 (i_rng y27_6) rfl
            refine g_iinc 113 (gd rfl) rfl rfl (Nat.le_of_ble_eq_true rfl) (fun z110 e110 => ?_)
            have i110 := in_add 1 33 e110 j27_5 (in_c 1 rfl) rfl rfl
            refine g_goto 8 (gd rfl) rfl ?_
            have n8 : SAJ (s.1 9) s sc27 x2 (y27_3) := by exact g27_0
            exact gg_w (by first | exact Nat.le_add_right _ _ | exact gw2 | exact gw3 | exact gwe rfl | exact gwf rfl | exact gwg rfl | exact gwh rfl | omega) (gg_f (gf_cons rfl (gf_cons rfl (gf_cons rfl (gf_cons rfl (gf_cons rfl (gf_cons rfl gf_nil)))))) (ih8 sc27 y27_3 y27_4 z110 hIc27 hFc27 (in_w 0 33 i110 rfl) n8 (m_up mm8 (t_add e110 j27_5 (in_c 1 rfl) rfl) (in_w 1 1 (in_c 1 rfl) rfl))))
          · skip
            refine g_iload 34 (gd rfl) rfl rfl ?_
            refine g_calls (As := [.int y27_6]) (r := []) 37 (gd rfl) rfl rfl rfl rfl rfl (Nat.le_of_ble_eq_true rfl) (Nat.zero_le _) (Nat.zero_le _) (k_264n (by first | exact dq1 hd rfl | exact dq0 hd rfl | exact dq2 hd rfl | exact dq3 hd rfl | omega) c29) (fun v u h => ?_)
            obtain ⟨z34, rfl, rfl, i34, hb34, hl34⟩ := h
            show GG _ _ _ _ _ _ _ _ [.int z34] _ _ _
            refine g_istore 39 (gd rfl) rfl (Nat.le_of_ble_eq_true rfl) ?_
            refine g_aload_n 40 (gd rfl) rfl rfl ?_
            refine g_aload_n 41 (gd rfl) rfl rfl ?_
            refine g_iload 43 (gd rfl) rfl rfl ?_
            refine g_iaload 44 (gd rfl) rfl (n := 32) rfl (in_ix i34 rfl) (fun z43 e43 => ?_)
            refine g_callv (X := _) (As := [.int z43]) (r := []) (b := A 60) (q := 60) 47 (gd rfl) rfl rfl rfl rfl rfl (ww_o rfl) (Nat.le_of_ble_eq_true rfl) (Nat.zero_le _) (Nat.zero_le _) (f_51_60 (by first | exact dq1 hd rfl | exact dq0 hd rfl | exact dq2 hd rfl | exact dq3 hd rfl | omega) hIc27 ) (fun e u h => h) (fun v u h => ?_)
            obtain ⟨z44, rfl, rfl, i44, p44⟩ := h
            show GG _ _ _ _ _ _ _ _ [.int z44] _ _ _
            refine g_aload_n 48 (gd rfl) rfl rfl ?_
            refine g_iload 50 (gd rfl) rfl rfl ?_
            refine g_iaload 51 (gd rfl) rfl (n := 32) rfl (in_ix i34 rfl) (fun z50 e50 => ?_)
            have q50 : z43 = z50 := (e43).trans e50.symm
            subst q50
            refine g_iload_n 52 (gd rfl) rfl rfl ?_
            refine g_iand 53 (gd rfl) rfl (fun z52 e52 => ?_)
            refine g_calls (As := [.int z52]) (r := [.int z44]) 56 (gd rfl) rfl rfl rfl rfl rfl (Nat.le_of_ble_eq_true rfl) (Nat.zero_le _) (Nat.zero_le _) (f_414 (by first | exact dq1 hd rfl | exact dq0 hd rfl | exact dq2 hd rfl | exact dq3 hd rfl | omega) hIc27 ) (fun v u h => ?_)
            obtain ⟨z53, rfl, rfl, i53, p53⟩ := h
            show GG _ _ _ _ _ _ _ _ [.int z53, .int z44] _ _ _
            refine g_cmp_le 59 98 (gd rfl) rfl rfl (fun c56 => ?_) (fun c56 => ?_)
            · skip
              refine g_iload 100 (gd rfl) rfl rfl ?_
              refine g_iload 102 (gd rfl) rfl rfl ?_
              refine g_iconst 1 103 (gd rfl) rfl rfl ?_
              refine g_isub 104 (gd rfl) rfl (fun z103 e103 => ?_)
              refine g_iand 105 (gd rfl) rfl (fun z104 e104 => ?_)
              refine g_istore 107 (gd rfl) rfl (Nat.le_of_ble_eq_true rfl) ?_
              refine g_goto 27 (gd rfl) rfl ?_
              have n27 : SAJ (s.1 9) s sc27 x2 (y27_3) := by exact g27_0
              have n27a : (∀ u : Nat, bt (z104) u = true → bt (y27_3) u = true) := by exact lf_n g27_1 e104
              exact gg_w (by first | exact Nat.le_add_right _ _ | exact gw2 | exact gw3 | exact gwe rfl | exact gwf rfl | exact gwg rfl | exact gwh rfl | omega) (gg_f (gf_cons rfl (gf_cons rfl (gf_cons rfl (gf_cons rfl (gf_cons rfl (gf_cons rfl (gf_cons rfl gf_nil))))))) (ih27 sc27 y27_3 y27_4 z104 hIc27 hFc27 (in_w 0 32 j27_5 rfl) n27 n27a (mb e104 e103 c29 mm27)))
            · skip
              have i56 := r_lt1 0 31 c56 i53 i44 rfl
              have i56a := r_lt2 1 32 c56 i53 i44 rfl
              refine g_aload_n 60 (gd rfl) rfl rfl ?_
              refine g_getI 63 (gd rfl) rfl rfl rfl (fun z60 e60 => ?_)
              have i60 := inv_F hIc27 0 32 rfl e60
              refine g_bipush 32 65 (gd rfl) rfl rfl ?_
              refine g_cmp_ge 68 98 (gd rfl) rfl rfl (fun c65 => ?_) (fun c65 => ?_)
              · skip
                have i65 := r_le2 32 32 c65 (in_c 32 rfl) i60 rfl
                refine g_iload 100 (gd rfl) rfl rfl ?_
                refine g_iload 102 (gd rfl) rfl rfl ?_
                refine g_iconst 1 103 (gd rfl) rfl rfl ?_
                refine g_isub 104 (gd rfl) rfl (fun z103 e103 => ?_)
                refine g_iand 105 (gd rfl) rfl (fun z104 e104 => ?_)
                refine g_istore 107 (gd rfl) rfl (Nat.le_of_ble_eq_true rfl) ?_
                refine g_goto 27 (gd rfl) rfl ?_
                have n27 : SAJ (s.1 9) s sc27 x2 (y27_3) := by exact g27_0
                have n27a : (∀ u : Nat, bt (z104) u = true → bt (y27_3) u = true) := by exact lf_n g27_1 e104
                exact gg_w (by first | exact Nat.le_add_right _ _ | exact gw2 | exact gw3 | exact gwe rfl | exact gwf rfl | exact gwg rfl | exact gwh rfl | omega) (gg_f (gf_cons rfl (gf_cons rfl (gf_cons rfl (gf_cons rfl (gf_cons rfl (gf_cons rfl (gf_cons rfl gf_nil))))))) (ih27 sc27 y27_3 y27_4 z104 hIc27 hFc27 (in_w 0 32 j27_5 rfl) n27 n27a (mb e104 e103 c29 mm27)))
              · skip
                have i65 := r_lt1 0 31 c65 i60 (in_c 32 rfl) rfl
                refine g_aload_n 69 (gd rfl) rfl rfl ?_
                refine g_getA (q2 := 63) 72 (gd rfl) rfl rfl rfl rfl ?_
                refine g_aload_n 73 (gd rfl) rfl rfl ?_
                refine g_getI 76 (gd rfl) rfl rfl rfl (fun z73 e73 => ?_)
                have q73 : z60 = z73 := (e60).trans e73.symm
                subst q73
                refine g_iload 78 (gd rfl) rfl rfl ?_
                refine g_iastore 79 (gd rfl) rfl (n := 32) rfl (in_ix i65 rfl) ?_
                have hI78 := inv_sI (q := 63) (j := z60.toNatClampNeg) hIc27 rfl (in_w 0 31 i34 rfl)
                refine g_aload_n 80 (gd rfl) rfl rfl ?_
                refine g_dup 81 (gd rfl) rfl rfl ?_
                refine g_getI 84 (gd rfl) rfl rfl rfl (fun z81 e81 => ?_)
                have q81 : z60 = z81 := (sI_F (e60)).trans e81.symm
                subst q81
                refine g_iconst 1 85 (gd rfl) rfl rfl ?_
                refine g_iadd 86 (gd rfl) rfl (fun z85 e85 => ?_)
                have i85 := in_add 1 32 e85 i65 (in_c 1 rfl) rfl rfl
                refine g_putI 89 (gd rfl) rfl rfl rfl rfl ?_
                have hI86 := inv_sF (q := 60) (j := 7) hI78 rfl (in_w 0 32 i85 rfl)
                refine g_iload_n 90 (gd rfl) rfl rfl ?_
                refine g_iconst 1 91 (gd rfl) rfl rfl ?_
                refine g_iload 93 (gd rfl) rfl rfl ?_
                refine g_ishl 94 (gd rfl) rfl (fun z93 e93 => ?_)
                refine g_iconst (-1) 95 (gd rfl) rfl rfl ?_
                refine g_ixor 96 (gd rfl) rfl (fun z95 e95 => ?_)
                refine g_iand 97 (gd rfl) rfl (fun z96 e96 => ?_)
                refine g_istore_n 98 (gd rfl) rfl (Nat.le_of_ble_eq_true rfl) ?_
                refine g_iload 100 (gd rfl) rfl rfl ?_
                refine g_iload 102 (gd rfl) rfl rfl ?_
                refine g_iconst 1 103 (gd rfl) rfl rfl ?_
                refine g_isub 104 (gd rfl) rfl (fun z103 e103 => ?_)
                refine g_iand 105 (gd rfl) rfl (fun z104 e104 => ?_)
                refine g_istore 107 (gd rfl) rfl (Nat.le_of_ble_eq_true rfl) ?_
                refine g_goto 27 (gd rfl) rfl ?_
                have n27 : SAJ (s.1 9) s (sF (sI sc27 63 z60.toNatClampNeg z34) 60 7 z85) x2 (z96) := by exact saj_s g27_0 (inv_F hI (z := s.2.2.1 60 7) 0 32 rfl rfl).1 e60 (by (first | have a0 := oa3 j27_5 i34 i85 | ((first | have a0 := in_u j27_5 | (have a0 := j27_5; unfold In at a0)); (first | have a1 := in_u i34 | (have a1 := i34; unfold In at a1)); (first | have a2 := in_u i85 | (have a2 := i85; unfold In at a2)))); have a3 := t_add e85 i65 (in_c 1 rfl) rfl; (first | have a4 := oa2 ((in_c 1 rfl)) i65 | ((first | have a4 := in_u ((in_c 1 rfl)) | (have a4 := (in_c 1 rfl); unfold In at a4)); (first | have a5 := in_u i65 | (have a5 := i65; unfold In at a5)))); have oc := oc_49_60_9; omega) (g27_1 _ hb34) i34 e93 e95 e96 (saj_c g27_0 (hFc27.2.2.1 60 3 rfl) (hFc27.1 61 rfl) (e43.trans (congrFun (hFc27.1 9 rfl) _)) p44 e52 p53 c56)
                have n27a : (∀ u : Nat, bt (z104) u = true → bt (z96) u = true) := by exact lf_s g27_1 hl34 i34 e93 e95 e96 e103 e104
                exact gg_w (by first | exact Nat.le_add_right _ _ | exact gw2 | exact gw3 | exact gwe rfl | exact gwf rfl | exact gwg rfl | exact gwh rfl | omega) (gg_f (gf_cons rfl (gf_cons rfl (gf_cons rfl (gf_cons rfl (gf_cons rfl (gf_cons rfl (gf_cons rfl gf_nil))))))) (ih27 (sF (sI sc27 63 z60.toNatClampNeg z34) 60 7 z85) z96 y27_4 z104 hI86 (fr_sF rfl (fr_sI rfl hFc27)) (in_w 0 32 j27_5 rfl) n27 n27a (mb e104 e103 c29 mm27)))
      refine g_iload 10 (gd rfl) rfl rfl ?_
      refine g_bipush 32 12 (gd rfl) rfl rfl ?_
      refine g_cmp_gt 15 116 (gd rfl) rfl rfl (fun c12 => ?_) (fun c12 => ?_)
      · skip
        have i12 := r_lt2 33 33 c12 (in_c 32 rfl) j8_5 rfl
        refine g_iload_n 117 (gd rfl) rfl rfl ?_
        have n117 : SAJ (s.1 9) s sc8 x2 y8_3 := by exact g8_0
        exact g_ireturn (gd rfl) rfl rfl (hP _ _ ⟨sc8, hIc8, hFc8, y8_3, rfl, rfl, in_w (-2147483648) 2147483647 (i_rng y8_3) rfl, n117⟩)
      · skip
        have i12 := r_le1 0 32 c12 j8_5 (in_c 32 rfl) rfl
        refine g_iload_n 16 (gd rfl) rfl rfl ?_
        refine g_iload 18 (gd rfl) rfl rfl ?_
        refine g_cmp_eq 21 116 (gd rfl) rfl rfl (fun c18 => ?_) (fun c18 => ?_)
        · skip
          refine g_iload_n 117 (gd rfl) rfl rfl ?_
          have n117 : SAJ (s.1 9) s sc8 x2 y8_3 := by exact g8_0
          exact g_ireturn (gd rfl) rfl rfl (hP _ _ ⟨sc8, hIc8, hFc8, y8_3, rfl, rfl, in_w (-2147483648) 2147483647 (i_rng y8_3) rfl, n117⟩)
        · skip
          refine g_iload_n 22 (gd rfl) rfl rfl ?_
          refine g_istore 24 (gd rfl) rfl (Nat.le_of_ble_eq_true rfl) ?_
          refine g_iload_n 25 (gd rfl) rfl rfl ?_
          refine g_istore 27 (gd rfl) rfl (Nat.le_of_ble_eq_true rfl) ?_
          have n27 : SAJ (s.1 9) s sc8 x2 (y8_3) := by exact g8_0
          have n27a : (∀ u : Nat, bt (y8_3) u = true → bt (y8_3) u = true) := by exact fun _ h9 => h9
          exact gg_w (by first | exact Nat.le_add_right _ _ | exact gw2 | exact gw3 | exact gwe rfl | exact gwf rfl | exact gwg rfl | exact gwh rfl | omega) (gg_f (gf_cons rfl (gf_cons rfl (gf_cons rfl (gf_cons rfl (gf_cons rfl (gf_cons rfl (gf_cons rfl gf_nil))))))) (ct27 4294967296 sc8 y8_3 y8_3 y8_3 hIc8 hFc8 (in_w 0 32 i12 rfl) n27 n27a (mb_in _)))
  refine g_enter2 (k := 49) (N := 131425999350335) (by first | exact dq1 hd rfl | exact dq0 hd rfl | exact dq2 hd rfl | exact dq3 hd rfl | omega) rfl (Nat.le_of_ble_eq_true rfl) ?_
  refine g_iload_n 1 (gd rfl) rfl rfl ?_
  refine g_istore_n 2 (gd rfl) rfl (Nat.le_of_ble_eq_true rfl) ?_
  refine g_iconst 0 3 (gd rfl) rfl rfl ?_
  refine g_istore 5 (gd rfl) rfl (Nat.le_of_ble_eq_true rfl) ?_
  refine g_iconst 0 6 (gd rfl) rfl rfl ?_
  refine g_istore 8 (gd rfl) rfl (Nat.le_of_ble_eq_true rfl) ?_
  have n8 : SAJ (s.1 9) s s x2 (x2) := by exact saj_0
  exact gg_w (by first | exact Nat.le_of_ble_eq_true rfl | omega) (gg_f (gf_cons rfl (gf_cons rfl (gf_cons rfl (gf_cons rfl (gf_cons rfl (gf_cons rfl gf_nil)))))) (ct8 34 s x2 (Int32.ofInt 0) (Int32.ofInt 0) hI fr_rf (in_w 0 33 (in_c 0 rfl) rfl) n8 (m_in 34 (in_w 0 33 (in_c 0 rfl) rfl) rfl)))

theorem oc_49_60_39 : (Int32.ofInt (-1)).toInt = (-1) ∧ (Int32.ofInt 0).toInt = 0 ∧ (Int32.ofInt 1).toInt = 1 ∧ (Int32.ofInt 32).toInt = 32 := ⟨rfl, rfl, rfl, rfl⟩
/-- GraphHouse$Colours.setAside -/
theorem f_49_60_39 {Z : AmZ} {A : Nat → Nat} {s : GS} {ex : va_W} {d : Nat} {X : AmX} {x2 : Int32} (hd : 4 ≤ d) (hI : Inv s)  : GC Z d 49 [.ref (A 60), .ref (A 39), .int x2] (WW Z A s ++ ex) 0 0 (fun v u => ∃ t : GS, Inv t ∧ Fr fm_49_60_39 s t ∧ ∃ z : Int32, v = some (.int z) ∧ u = WW Z A t ++ ex ∧ In z (-2147483648) 2147483647 ∧ (SAJ (s.1 39) s t x2 z)) X := by
  intro post xp hP hX
  have ct8 : ∀ (k8 : Nat) (sc8 : GS) (y8_3 : Int32) (y8_4 : Int32) (y8_5 : Int32), Inv sc8 → Fr fm_49_60_39 s sc8 → (In y8_5 0 33) → (SAJ (s.1 39) s sc8 x2 (y8_3)) → 33 - (y8_5).toInt < (k8 : Int) → GG Z (d - 1) 49 post (gx xp) (1 + k8 * 3865470569101) 8 (fun j => xlook j [(0, .ref (A 60)), (1, .ref (A 39)), (2, .int x2), (3, .int y8_3), (4, .int y8_4), (5, .int y8_5)]) [] (WW Z A sc8 ++ ex) 0 0 := by
    intro k8
    induction k8 with
    | zero => intro sc8 y8_3 y8_4 y8_5 hIc8 hFc8 j8_5 g8_0 mm8; exact m_no mm8 j8_5 rfl
    | succ k8 ih8 =>
      intro sc8 y8_3 y8_4 y8_5 hIc8 hFc8 j8_5 g8_0 mm8
      refine gg_w (M := 1 + k8 * 3865470569101 + 3865470569101) gws ?_
      have ct27 : ∀ (k27 : Nat) (sc27 : GS) (y27_3 : Int32) (y27_4 : Int32) (y27_6 : Int32), Inv sc27 → Fr fm_49_60_39 s sc27 → (In y8_5 0 32) → (SAJ (s.1 39) s sc27 x2 (y27_3)) → ((∀ u : Nat, bt (y27_6) u = true → bt (y27_3) u = true)) → ((y27_6.toBitVec.toNat : Nat) : Int) < (k27 : Int) → GG Z (d - 1) 49 post (gx xp) (1 + k8 * 3865470569101 + 1 + k27 * 900) 27 (fun j => xlook j [(0, .ref (A 60)), (1, .ref (A 39)), (2, .int x2), (3, .int y27_3), (4, .int y27_4), (5, .int y8_5), (6, .int y27_6)]) [] (WW Z A sc27 ++ ex) 0 0 := by
        intro k27
        induction k27 with
        | zero => intro sc27 y27_3 y27_4 y27_6 hIc27 hFc27 j27_5 g27_0 g27_1 mm27; exact absurd mm27 (Int.not_lt.mpr (Int.natCast_nonneg _))
        | succ k27 ih27 =>
          intro sc27 y27_3 y27_4 y27_6 hIc27 hFc27 j27_5 g27_0 g27_1 mm27
          refine gg_w (M := 1 + k8 * 3865470569101 + 1 + k27 * 900 + 900) gws ?_
          refine g_iload 29 (gd rfl) rfl rfl ?_
          refine g_if_eq 32 110 (gd rfl) rfl rfl (fun c29 => ?_) (fun c29 => ?_)
          · skip
            have i29 := z_eq 0 0 c29 (i_rng y27_6) rfl
            refine g_iinc 113 (gd rfl) rfl rfl (Nat.le_of_ble_eq_true rfl) (fun z110 e110 => ?_)
            have i110 := in_add 1 33 e110 j27_5 (in_c 1 rfl) rfl rfl
            refine g_goto 8 (gd rfl) rfl ?_
            have n8 : SAJ (s.1 39) s sc27 x2 (y27_3) := by exact g27_0
            exact gg_w (by first | exact Nat.le_add_right _ _ | exact gw2 | exact gw3 | exact gwe rfl | exact gwf rfl | exact gwg rfl | exact gwh rfl | omega) (gg_f (gf_cons rfl (gf_cons rfl (gf_cons rfl (gf_cons rfl (gf_cons rfl (gf_cons rfl gf_nil)))))) (ih8 sc27 y27_3 y27_4 z110 hIc27 hFc27 (in_w 0 33 i110 rfl) n8 (m_up mm8 (t_add e110 j27_5 (in_c 1 rfl) rfl) (in_w 1 1 (in_c 1 rfl) rfl))))
          · skip
            refine g_iload 34 (gd rfl) rfl rfl ?_
            refine g_calls (As := [.int y27_6]) (r := []) 37 (gd rfl) rfl rfl rfl rfl rfl (Nat.le_of_ble_eq_true rfl) (Nat.zero_le _) (Nat.zero_le _) (k_264n (by first | exact dq1 hd rfl | exact dq0 hd rfl | exact dq2 hd rfl | exact dq3 hd rfl | omega) c29) (fun v u h => ?_)
            obtain ⟨z34, rfl, rfl, i34, hb34, hl34⟩ := h
            show GG _ _ _ _ _ _ _ _ [.int z34] _ _ _
            refine g_istore 39 (gd rfl) rfl (Nat.le_of_ble_eq_true rfl) ?_
            refine g_aload_n 40 (gd rfl) rfl rfl ?_
            refine g_aload_n 41 (gd rfl) rfl rfl ?_
            refine g_iload 43 (gd rfl) rfl rfl ?_
            refine g_iaload 44 (gd rfl) rfl (n := 32) rfl (in_ix i34 rfl) (fun z43 e43 => ?_)
            refine g_callv (X := _) (As := [.int z43]) (r := []) (b := A 60) (q := 60) 47 (gd rfl) rfl rfl rfl rfl rfl (ww_o rfl) (Nat.le_of_ble_eq_true rfl) (Nat.zero_le _) (Nat.zero_le _) (f_51_60 (by first | exact dq1 hd rfl | exact dq0 hd rfl | exact dq2 hd rfl | exact dq3 hd rfl | omega) hIc27 ) (fun e u h => h) (fun v u h => ?_)
            obtain ⟨z44, rfl, rfl, i44, p44⟩ := h
            show GG _ _ _ _ _ _ _ _ [.int z44] _ _ _
            refine g_aload_n 48 (gd rfl) rfl rfl ?_
            refine g_iload 50 (gd rfl) rfl rfl ?_
            refine g_iaload 51 (gd rfl) rfl (n := 32) rfl (in_ix i34 rfl) (fun z50 e50 => ?_)
            have q50 : z43 = z50 := (e43).trans e50.symm
            subst q50
            refine g_iload_n 52 (gd rfl) rfl rfl ?_
            refine g_iand 53 (gd rfl) rfl (fun z52 e52 => ?_)
            refine g_calls (As := [.int z52]) (r := [.int z44]) 56 (gd rfl) rfl rfl rfl rfl rfl (Nat.le_of_ble_eq_true rfl) (Nat.zero_le _) (Nat.zero_le _) (f_414 (by first | exact dq1 hd rfl | exact dq0 hd rfl | exact dq2 hd rfl | exact dq3 hd rfl | omega) hIc27 ) (fun v u h => ?_)
            obtain ⟨z53, rfl, rfl, i53, p53⟩ := h
            show GG _ _ _ _ _ _ _ _ [.int z53, .int z44] _ _ _
            refine g_cmp_le 59 98 (gd rfl) rfl rfl (fun c56 => ?_) (fun c56 => ?_)
            · skip
              refine g_iload 100 (gd rfl) rfl rfl ?_
              refine g_iload 102 (gd rfl) rfl rfl ?_
              refine g_iconst 1 103 (gd rfl) rfl rfl ?_
              refine g_isub 104 (gd rfl) rfl (fun z103 e103 => ?_)
              refine g_iand 105 (gd rfl) rfl (fun z104 e104 => ?_)
              refine g_istore 107 (gd rfl) rfl (Nat.le_of_ble_eq_true rfl) ?_
              refine g_goto 27 (gd rfl) rfl ?_
              have n27 : SAJ (s.1 39) s sc27 x2 (y27_3) := by exact g27_0
              have n27a : (∀ u : Nat, bt (z104) u = true → bt (y27_3) u = true) := by exact lf_n g27_1 e104
              exact gg_w (by first | exact Nat.le_add_right _ _ | exact gw2 | exact gw3 | exact gwe rfl | exact gwf rfl | exact gwg rfl | exact gwh rfl | omega) (gg_f (gf_cons rfl (gf_cons rfl (gf_cons rfl (gf_cons rfl (gf_cons rfl (gf_cons rfl (gf_cons rfl gf_nil))))))) (ih27 sc27 y27_3 y27_4 z104 hIc27 hFc27 (in_w 0 32 j27_5 rfl) n27 n27a (mb e104 e103 c29 mm27)))
            · skip
              have i56 := r_lt1 0 31 c56 i53 i44 rfl
              have i56a := r_lt2 1 32 c56 i53 i44 rfl
              refine g_aload_n 60 (gd rfl) rfl rfl ?_
              refine g_getI 63 (gd rfl) rfl rfl rfl (fun z60 e60 => ?_)
              have i60 := inv_F hIc27 0 32 rfl e60
              refine g_bipush 32 65 (gd rfl) rfl rfl ?_
              refine g_cmp_ge 68 98 (gd rfl) rfl rfl (fun c65 => ?_) (fun c65 => ?_)
              · skip
                have i65 := r_le2 32 32 c65 (in_c 32 rfl) i60 rfl
                refine g_iload 100 (gd rfl) rfl rfl ?_
                refine g_iload 102 (gd rfl) rfl rfl ?_
                refine g_iconst 1 103 (gd rfl) rfl rfl ?_
                refine g_isub 104 (gd rfl) rfl (fun z103 e103 => ?_)
                refine g_iand 105 (gd rfl) rfl (fun z104 e104 => ?_)
                refine g_istore 107 (gd rfl) rfl (Nat.le_of_ble_eq_true rfl) ?_
                refine g_goto 27 (gd rfl) rfl ?_
                have n27 : SAJ (s.1 39) s sc27 x2 (y27_3) := by exact g27_0
                have n27a : (∀ u : Nat, bt (z104) u = true → bt (y27_3) u = true) := by exact lf_n g27_1 e104
                exact gg_w (by first | exact Nat.le_add_right _ _ | exact gw2 | exact gw3 | exact gwe rfl | exact gwf rfl | exact gwg rfl | exact gwh rfl | omega) (gg_f (gf_cons rfl (gf_cons rfl (gf_cons rfl (gf_cons rfl (gf_cons rfl (gf_cons rfl (gf_cons rfl gf_nil))))))) (ih27 sc27 y27_3 y27_4 z104 hIc27 hFc27 (in_w 0 32 j27_5 rfl) n27 n27a (mb e104 e103 c29 mm27)))
              · skip
                have i65 := r_lt1 0 31 c65 i60 (in_c 32 rfl) rfl
                refine g_aload_n 69 (gd rfl) rfl rfl ?_
                refine g_getA (q2 := 63) 72 (gd rfl) rfl rfl rfl rfl ?_
                refine g_aload_n 73 (gd rfl) rfl rfl ?_
                refine g_getI 76 (gd rfl) rfl rfl rfl (fun z73 e73 => ?_)
                have q73 : z60 = z73 := (e60).trans e73.symm
                subst q73
                refine g_iload 78 (gd rfl) rfl rfl ?_
                refine g_iastore 79 (gd rfl) rfl (n := 32) rfl (in_ix i65 rfl) ?_
                have hI78 := inv_sI (q := 63) (j := z60.toNatClampNeg) hIc27 rfl (in_w 0 31 i34 rfl)
                refine g_aload_n 80 (gd rfl) rfl rfl ?_
                refine g_dup 81 (gd rfl) rfl rfl ?_
                refine g_getI 84 (gd rfl) rfl rfl rfl (fun z81 e81 => ?_)
                have q81 : z60 = z81 := (sI_F (e60)).trans e81.symm
                subst q81
                refine g_iconst 1 85 (gd rfl) rfl rfl ?_
                refine g_iadd 86 (gd rfl) rfl (fun z85 e85 => ?_)
                have i85 := in_add 1 32 e85 i65 (in_c 1 rfl) rfl rfl
                refine g_putI 89 (gd rfl) rfl rfl rfl rfl ?_
                have hI86 := inv_sF (q := 60) (j := 7) hI78 rfl (in_w 0 32 i85 rfl)
                refine g_iload_n 90 (gd rfl) rfl rfl ?_
                refine g_iconst 1 91 (gd rfl) rfl rfl ?_
                refine g_iload 93 (gd rfl) rfl rfl ?_
                refine g_ishl 94 (gd rfl) rfl (fun z93 e93 => ?_)
                refine g_iconst (-1) 95 (gd rfl) rfl rfl ?_
                refine g_ixor 96 (gd rfl) rfl (fun z95 e95 => ?_)
                refine g_iand 97 (gd rfl) rfl (fun z96 e96 => ?_)
                refine g_istore_n 98 (gd rfl) rfl (Nat.le_of_ble_eq_true rfl) ?_
                refine g_iload 100 (gd rfl) rfl rfl ?_
                refine g_iload 102 (gd rfl) rfl rfl ?_
                refine g_iconst 1 103 (gd rfl) rfl rfl ?_
                refine g_isub 104 (gd rfl) rfl (fun z103 e103 => ?_)
                refine g_iand 105 (gd rfl) rfl (fun z104 e104 => ?_)
                refine g_istore 107 (gd rfl) rfl (Nat.le_of_ble_eq_true rfl) ?_
                refine g_goto 27 (gd rfl) rfl ?_
                have n27 : SAJ (s.1 39) s (sF (sI sc27 63 z60.toNatClampNeg z34) 60 7 z85) x2 (z96) := by exact saj_s g27_0 (inv_F hI (z := s.2.2.1 60 7) 0 32 rfl rfl).1 e60 (by (first | have a0 := oa3 j27_5 i34 i85 | ((first | have a0 := in_u j27_5 | (have a0 := j27_5; unfold In at a0)); (first | have a1 := in_u i34 | (have a1 := i34; unfold In at a1)); (first | have a2 := in_u i85 | (have a2 := i85; unfold In at a2)))); have a3 := t_add e85 i65 (in_c 1 rfl) rfl; (first | have a4 := oa2 ((in_c 1 rfl)) i65 | ((first | have a4 := in_u ((in_c 1 rfl)) | (have a4 := (in_c 1 rfl); unfold In at a4)); (first | have a5 := in_u i65 | (have a5 := i65; unfold In at a5)))); have oc := oc_49_60_39; omega) (g27_1 _ hb34) i34 e93 e95 e96 (saj_c g27_0 (hFc27.2.2.1 60 3 rfl) (hFc27.1 61 rfl) (e43.trans (congrFun (hFc27.1 39 rfl) _)) p44 e52 p53 c56)
                have n27a : (∀ u : Nat, bt (z104) u = true → bt (z96) u = true) := by exact lf_s g27_1 hl34 i34 e93 e95 e96 e103 e104
                exact gg_w (by first | exact Nat.le_add_right _ _ | exact gw2 | exact gw3 | exact gwe rfl | exact gwf rfl | exact gwg rfl | exact gwh rfl | omega) (gg_f (gf_cons rfl (gf_cons rfl (gf_cons rfl (gf_cons rfl (gf_cons rfl (gf_cons rfl (gf_cons rfl gf_nil))))))) (ih27 (sF (sI sc27 63 z60.toNatClampNeg z34) 60 7 z85) z96 y27_4 z104 hI86 (fr_sF rfl (fr_sI rfl hFc27)) (in_w 0 32 j27_5 rfl) n27 n27a (mb e104 e103 c29 mm27)))
      refine g_iload 10 (gd rfl) rfl rfl ?_
      refine g_bipush 32 12 (gd rfl) rfl rfl ?_
      refine g_cmp_gt 15 116 (gd rfl) rfl rfl (fun c12 => ?_) (fun c12 => ?_)
      · skip
        have i12 := r_lt2 33 33 c12 (in_c 32 rfl) j8_5 rfl
        refine g_iload_n 117 (gd rfl) rfl rfl ?_
        have n117 : SAJ (s.1 39) s sc8 x2 y8_3 := by exact g8_0
        exact g_ireturn (gd rfl) rfl rfl (hP _ _ ⟨sc8, hIc8, hFc8, y8_3, rfl, rfl, in_w (-2147483648) 2147483647 (i_rng y8_3) rfl, n117⟩)
      · skip
        have i12 := r_le1 0 32 c12 j8_5 (in_c 32 rfl) rfl
        refine g_iload_n 16 (gd rfl) rfl rfl ?_
        refine g_iload 18 (gd rfl) rfl rfl ?_
        refine g_cmp_eq 21 116 (gd rfl) rfl rfl (fun c18 => ?_) (fun c18 => ?_)
        · skip
          refine g_iload_n 117 (gd rfl) rfl rfl ?_
          have n117 : SAJ (s.1 39) s sc8 x2 y8_3 := by exact g8_0
          exact g_ireturn (gd rfl) rfl rfl (hP _ _ ⟨sc8, hIc8, hFc8, y8_3, rfl, rfl, in_w (-2147483648) 2147483647 (i_rng y8_3) rfl, n117⟩)
        · skip
          refine g_iload_n 22 (gd rfl) rfl rfl ?_
          refine g_istore 24 (gd rfl) rfl (Nat.le_of_ble_eq_true rfl) ?_
          refine g_iload_n 25 (gd rfl) rfl rfl ?_
          refine g_istore 27 (gd rfl) rfl (Nat.le_of_ble_eq_true rfl) ?_
          have n27 : SAJ (s.1 39) s sc8 x2 (y8_3) := by exact g8_0
          have n27a : (∀ u : Nat, bt (y8_3) u = true → bt (y8_3) u = true) := by exact fun _ h9 => h9
          exact gg_w (by first | exact Nat.le_add_right _ _ | exact gw2 | exact gw3 | exact gwe rfl | exact gwf rfl | exact gwg rfl | exact gwh rfl | omega) (gg_f (gf_cons rfl (gf_cons rfl (gf_cons rfl (gf_cons rfl (gf_cons rfl (gf_cons rfl (gf_cons rfl gf_nil))))))) (ct27 4294967296 sc8 y8_3 y8_3 y8_3 hIc8 hFc8 (in_w 0 32 i12 rfl) n27 n27a (mb_in _)))
  refine g_enter2 (k := 49) (N := 131425999350335) (by first | exact dq1 hd rfl | exact dq0 hd rfl | exact dq2 hd rfl | exact dq3 hd rfl | omega) rfl (Nat.le_of_ble_eq_true rfl) ?_
  refine g_iload_n 1 (gd rfl) rfl rfl ?_
  refine g_istore_n 2 (gd rfl) rfl (Nat.le_of_ble_eq_true rfl) ?_
  refine g_iconst 0 3 (gd rfl) rfl rfl ?_
  refine g_istore 5 (gd rfl) rfl (Nat.le_of_ble_eq_true rfl) ?_
  refine g_iconst 0 6 (gd rfl) rfl rfl ?_
  refine g_istore 8 (gd rfl) rfl (Nat.le_of_ble_eq_true rfl) ?_
  have n8 : SAJ (s.1 39) s s x2 (x2) := by exact saj_0
  exact gg_w (by first | exact Nat.le_of_ble_eq_true rfl | omega) (gg_f (gf_cons rfl (gf_cons rfl (gf_cons rfl (gf_cons rfl (gf_cons rfl (gf_cons rfl gf_nil)))))) (ct8 34 s x2 (Int32.ofInt 0) (Int32.ofInt 0) hI fr_rf (in_w 0 33 (in_c 0 rfl) rfl) n8 (m_in 34 (in_w 0 33 (in_c 0 rfl) rfl) rfl)))

theorem oc_50_60_9 : (Int32.ofInt (-1)).toInt = (-1) ∧ (Int32.ofInt 0).toInt = 0 ∧ (Int32.ofInt 1).toInt = 1 := ⟨rfl, rfl, rfl⟩
/-- GraphHouse$Colours.takeBack -/
theorem f_50_60_9 {Z : AmZ} {A : Nat → Nat} {s : GS} {ex : va_W} {d : Nat} {X : AmX} {x2 : Int32} (hd : 1 ≤ d) (hI : Inv s) (h2 : In x2 0 32) (q_0 : SYR (s.1 9)) (q_1 : (x2).toInt ≤ (s.2.2.1 60 7).toInt) : GC Z d 50 [.ref (A 60), .ref (A 9), .int x2] (WW Z A s ++ ex) 0 0 (fun v u => ∃ t : GS, Inv t ∧ Fr fm_50_60_9 s t ∧ v = none ∧ u = WW Z A t ++ ex ∧ ((t.2.2.1 60 7).toInt = (x2).toInt) ∧ (TBJ (s.1 9) s t x2)) X := by
  intro post xp hP hX
  obtain ⟨u_60_3, e_60_3⟩ : ∃ w, w = s.2.2.1 60 3 := ⟨_, rfl⟩
  have ro_60_3 := inv_F hI 0 32 rfl e_60_3
  have ct0 : ∀ (k0 : Nat) (sc0 : GS) (w0_60_7 : Int32), Inv sc0 → Fr fm_50_60_9 s sc0 → (w0_60_7 = sc0.2.2.1 60 7) → (TBJ (s.1 9) s sc0 x2) → ((x2).toInt ≤ (sc0.2.2.1 60 7).toInt) → (w0_60_7).toInt < (k0 : Int) → GG Z (d - 1) 50 post (gx xp) (1 + k0 * 31501) 0 (fun j => xlook j [(0, .ref (A 60)), (1, .ref (A 9)), (2, .int x2)]) [] (WW Z A sc0 ++ ex) 0 0 := by
    intro k0
    induction k0 with
    | zero => intro sc0 w0_60_7 hIc0 hFc0 v0_60_7 g0_0 g0_1 mm0; exfalso; (first | have a0 := oa3 h2 ro_60_3 ((inv_F hIc0 0 32 rfl v0_60_7)) | ((first | have a0 := in_u h2 | (have a0 := h2; unfold In at a0)); (first | have a1 := in_u ro_60_3 | (have a1 := ro_60_3; unfold In at a1)); (first | have a2 := in_u ((inv_F hIc0 0 32 rfl v0_60_7)) | (have a2 := (inv_F hIc0 0 32 rfl v0_60_7); unfold In at a2)))); have oc := oc_50_60_9; omega
    | succ k0 ih0 =>
      intro sc0 w0_60_7 hIc0 hFc0 v0_60_7 g0_0 g0_1 mm0
      refine gg_w (M := 1 + k0 * 31501 + 31501) gws ?_
      have ct23 : ∀ (k23 : Nat) (sc23 : GS) (y23_3 : Int32) (y23_4 : Int32) (w23_60_7 : Int32), Inv sc23 → Fr fm_50_60_9 s sc23 → (In x2 0 31) → (In y23_3 0 31) → (In y23_4 0 31) → (w23_60_7 = sc23.2.2.1 60 7) → (1 ≤ (w23_60_7).toInt) → ((w23_60_7).toInt = w0_60_7.toInt) → (TBJ (s.1 9) s sc23 x2) → (BLK (s.1 9) (sc23.1 61) (y23_3).toNatClampNeg (y23_4).toInt) → ((y23_3) = s.1 63 (((sc23).2.2.1 60 7).toInt - 1).toNat) → ((x2).toInt < (sc23.2.2.1 60 7).toInt) → 31 - (y23_4).toInt < (k23 : Int) → GG Z (d - 1) 50 post (gx xp) (1 + k0 * 31501 + 1 + k23 * 900) 23 (fun j => xlook j [(0, .ref (A 60)), (1, .ref (A 9)), (2, .int x2), (3, .int y23_3), (4, .int y23_4)]) [] (WW Z A sc23 ++ ex) 0 0 := by
        intro k23
        induction k23 with
        | zero => intro sc23 y23_3 y23_4 w23_60_7 hIc23 hFc23 j23_2 j23_3 j23_4 v23_60_7 n23_0 n23_1 g23_0 g23_1 g23_2 g23_3 mm23; exact m_no mm23 j23_4 rfl
        | succ k23 ih23 =>
          intro sc23 y23_3 y23_4 w23_60_7 hIc23 hFc23 j23_2 j23_3 j23_4 v23_60_7 n23_0 n23_1 g23_0 g23_1 g23_2 g23_3 mm23
          refine gg_w (M := 1 + k0 * 31501 + 1 + k23 * 900 + 900) gws ?_
          refine g_iload 25 (gd rfl) rfl rfl ?_
          refine g_aload_n 26 (gd rfl) rfl rfl ?_
          refine g_getI 29 (gd rfl) rfl rfl rfl (fun z26 e26 => ?_)
          have q26 : u_60_3 = z26 := (fr_F e_60_3 hFc23 rfl).trans e26.symm
          subst q26
          refine g_iconst 1 30 (gd rfl) rfl rfl ?_
          refine g_isub 31 (gd rfl) rfl (fun z30 e30 => ?_)
          have i30 := in_sub (-1) 31 e30 ro_60_3 (in_c 1 rfl) rfl rfl
          refine g_cmp_ge 34 54 (gd rfl) rfl rfl (fun c31 => ?_) (fun c31 => ?_)
          · skip
            refine g_aload_n 55 (gd rfl) rfl rfl ?_
            refine g_getA (q2 := 61) 58 (gd rfl) rfl rfl rfl rfl ?_
            refine g_iload 60 (gd rfl) rfl rfl ?_
            refine g_dup2 61 (gd rfl) rfl rfl rfl ?_
            refine g_iaload 62 (gd rfl) rfl (n := 32) rfl (in_ix j23_4 rfl) (fun z61 e61 => ?_)
            refine g_iconst 1 63 (gd rfl) rfl rfl ?_
            refine g_iload_n 64 (gd rfl) rfl rfl ?_
            refine g_ishl 65 (gd rfl) rfl (fun z64 e64 => ?_)
            refine g_ior 66 (gd rfl) rfl (fun z65 e65 => ?_)
            refine g_iastore 67 (gd rfl) rfl (n := 32) rfl (in_ix j23_4 rfl) ?_
            have hI66 := inv_sI (q := 61) (j := y23_4.toNatClampNeg) hIc23 rfl (in_w (-2147483648) 2147483647 (i_rng z65) rfl)
            refine g_aload_n 68 (gd rfl) rfl rfl ?_
            refine g_dup 69 (gd rfl) rfl rfl ?_
            refine g_getI 72 (gd rfl) rfl rfl rfl (fun z69 e69 => ?_)
            have q69 : w23_60_7 = z69 := (sI_F (v23_60_7)).trans e69.symm
            subst q69
            refine g_iconst 1 73 (gd rfl) rfl rfl ?_
            refine g_isub 74 (gd rfl) rfl (fun z73 e73 => ?_)
            have i73 := in_sub (-1) 31 e73 (inv_F hIc23 0 32 rfl v23_60_7) (in_c 1 rfl) rfl rfl
            have i74 : In z73 0 32 := by (first | have a0 := oa6 j23_2 ro_60_3 ((inv_F hIc23 0 32 rfl v23_60_7)) j23_4 j23_3 i73 | ((first | have a0 := in_u j23_2 | (have a0 := j23_2; unfold In at a0)); (first | have a1 := in_u ro_60_3 | (have a1 := ro_60_3; unfold In at a1)); (first | have a2 := in_u ((inv_F hIc23 0 32 rfl v23_60_7)) | (have a2 := (inv_F hIc23 0 32 rfl v23_60_7); unfold In at a2)); (first | have a3 := in_u j23_4 | (have a3 := j23_4; unfold In at a3)); (first | have a4 := in_u j23_3 | (have a4 := j23_3; unfold In at a4)); (first | have a5 := in_u i73 | (have a5 := i73; unfold In at a5)))); have a6 := t_sub e73 (inv_F hIc23 0 32 rfl v23_60_7) (in_c 1 rfl) rfl; (first | have a7 := oa2 ((in_c 1 rfl)) i30 | ((first | have a7 := in_u ((in_c 1 rfl)) | (have a7 := (in_c 1 rfl); unfold In at a7)); (first | have a8 := in_u i30 | (have a8 := i30; unfold In at a8)))); have a9 := t_sub e30 ro_60_3 (in_c 1 rfl) rfl; have oc := oc_50_60_9; exact ⟨by omega, by omega⟩
            refine g_putI 77 (gd rfl) rfl rfl rfl rfl ?_
            have hI74 := inv_sF (q := 60) (j := 7) hI66 rfl (in_w 0 32 i74 rfl)
            refine g_goto 0 (gd rfl) rfl ?_
            have v0 : z73 = (sF (sI sc23 61 y23_4.toNatClampNeg z65) 60 7 z73).2.2.1 60 7 := sF_get
            have n0 : TBJ (s.1 9) s (sF (sI sc23 61 y23_4.toNatClampNeg z65) 60 7 z73) x2 := by exact tbj_s g23_0 q_0 (by rw [← e_60_3]; (first | have a0 := oa6 j23_2 ro_60_3 ((inv_F hIc23 0 32 rfl v23_60_7)) j23_4 j23_3 i74 | ((first | have a0 := in_u j23_2 | (have a0 := j23_2; unfold In at a0)); (first | have a1 := in_u ro_60_3 | (have a1 := ro_60_3; unfold In at a1)); (first | have a2 := in_u ((inv_F hIc23 0 32 rfl v23_60_7)) | (have a2 := (inv_F hIc23 0 32 rfl v23_60_7); unfold In at a2)); (first | have a3 := in_u j23_4 | (have a3 := j23_4; unfold In at a3)); (first | have a4 := in_u j23_3 | (have a4 := j23_3; unfold In at a4)); (first | have a5 := in_u i74 | (have a5 := i74; unfold In at a5)))); have a6 := t_sub e73 (inv_F hIc23 0 32 rfl v23_60_7) (in_c 1 rfl) rfl; (first | have a7 := oa2 ((in_c 1 rfl)) i30 | ((first | have a7 := in_u ((in_c 1 rfl)) | (have a7 := (in_c 1 rfl); unfold In at a7)); (first | have a8 := in_u i30 | (have a8 := i30; unfold In at a8)))); have a9 := t_sub e30 ro_60_3 (in_c 1 rfl) rfl; have oc := oc_50_60_9; omega) (by (first | have a0 := oa6 j23_2 ro_60_3 ((inv_F hIc23 0 32 rfl v23_60_7)) j23_4 j23_3 i74 | ((first | have a0 := in_u j23_2 | (have a0 := j23_2; unfold In at a0)); (first | have a1 := in_u ro_60_3 | (have a1 := ro_60_3; unfold In at a1)); (first | have a2 := in_u ((inv_F hIc23 0 32 rfl v23_60_7)) | (have a2 := (inv_F hIc23 0 32 rfl v23_60_7); unfold In at a2)); (first | have a3 := in_u j23_4 | (have a3 := j23_4; unfold In at a3)); (first | have a4 := in_u j23_3 | (have a4 := j23_3; unfold In at a4)); (first | have a5 := in_u i74 | (have a5 := i74; unfold In at a5)))); have a6 := t_sub e73 (inv_F hIc23 0 32 rfl v23_60_7) (in_c 1 rfl) rfl; (first | have a7 := oa2 ((in_c 1 rfl)) i30 | ((first | have a7 := in_u ((in_c 1 rfl)) | (have a7 := (in_c 1 rfl); unfold In at a7)); (first | have a8 := in_u i30 | (have a8 := i30; unfold In at a8)))); have a9 := t_sub e30 ro_60_3 (in_c 1 rfl) rfl; have oc := oc_50_60_9; omega) g23_2 j23_3 j23_4 g23_3 g23_1 (Or.inl (by rw [← e_60_3]; (first | have a0 := oa6 j23_2 ro_60_3 ((inv_F hIc23 0 32 rfl v23_60_7)) j23_4 j23_3 i74 | ((first | have a0 := in_u j23_2 | (have a0 := j23_2; unfold In at a0)); (first | have a1 := in_u ro_60_3 | (have a1 := ro_60_3; unfold In at a1)); (first | have a2 := in_u ((inv_F hIc23 0 32 rfl v23_60_7)) | (have a2 := (inv_F hIc23 0 32 rfl v23_60_7); unfold In at a2)); (first | have a3 := in_u j23_4 | (have a3 := j23_4; unfold In at a3)); (first | have a4 := in_u j23_3 | (have a4 := j23_3; unfold In at a4)); (first | have a5 := in_u i74 | (have a5 := i74; unfold In at a5)))); have a6 := t_sub e73 (inv_F hIc23 0 32 rfl v23_60_7) (in_c 1 rfl) rfl; (first | have a7 := oa2 ((in_c 1 rfl)) i30 | ((first | have a7 := in_u ((in_c 1 rfl)) | (have a7 := (in_c 1 rfl); unfold In at a7)); (first | have a8 := in_u i30 | (have a8 := i30; unfold In at a8)))); have a9 := t_sub e30 ro_60_3 (in_c 1 rfl) rfl; have oc := oc_50_60_9; omega)) e61 e64 e65 (by rw [← v23_60_7]; (first | have a0 := oa6 j23_2 ro_60_3 ((inv_F hIc23 0 32 rfl v23_60_7)) j23_4 j23_3 i74 | ((first | have a0 := in_u j23_2 | (have a0 := j23_2; unfold In at a0)); (first | have a1 := in_u ro_60_3 | (have a1 := ro_60_3; unfold In at a1)); (first | have a2 := in_u ((inv_F hIc23 0 32 rfl v23_60_7)) | (have a2 := (inv_F hIc23 0 32 rfl v23_60_7); unfold In at a2)); (first | have a3 := in_u j23_4 | (have a3 := j23_4; unfold In at a3)); (first | have a4 := in_u j23_3 | (have a4 := j23_3; unfold In at a4)); (first | have a5 := in_u i74 | (have a5 := i74; unfold In at a5)))); have a6 := t_sub e73 (inv_F hIc23 0 32 rfl v23_60_7) (in_c 1 rfl) rfl; (first | have a7 := oa2 ((in_c 1 rfl)) i30 | ((first | have a7 := in_u ((in_c 1 rfl)) | (have a7 := (in_c 1 rfl); unfold In at a7)); (first | have a8 := in_u i30 | (have a8 := i30; unfold In at a8)))); have a9 := t_sub e30 ro_60_3 (in_c 1 rfl) rfl; have oc := oc_50_60_9; omega)
            have n0a : (x2).toInt ≤ ((sF (sI sc23 61 y23_4.toNatClampNeg z65) 60 7 z73).2.2.1 60 7).toInt := by rw [← (show z73 = (sF (sI sc23 61 y23_4.toNatClampNeg z65) 60 7 z73).2.2.1 60 7 from sF_get)]; have h9 := g23_3; rw [← v23_60_7] at h9; (first | have a0 := oa6 j23_2 ro_60_3 ((inv_F hIc23 0 32 rfl v23_60_7)) j23_4 j23_3 i74 | ((first | have a0 := in_u j23_2 | (have a0 := j23_2; unfold In at a0)); (first | have a1 := in_u ro_60_3 | (have a1 := ro_60_3; unfold In at a1)); (first | have a2 := in_u ((inv_F hIc23 0 32 rfl v23_60_7)) | (have a2 := (inv_F hIc23 0 32 rfl v23_60_7); unfold In at a2)); (first | have a3 := in_u j23_4 | (have a3 := j23_4; unfold In at a3)); (first | have a4 := in_u j23_3 | (have a4 := j23_3; unfold In at a4)); (first | have a5 := in_u i74 | (have a5 := i74; unfold In at a5)))); have a6 := t_sub e73 (inv_F hIc23 0 32 rfl v23_60_7) (in_c 1 rfl) rfl; (first | have a7 := oa2 ((in_c 1 rfl)) i30 | ((first | have a7 := in_u ((in_c 1 rfl)) | (have a7 := (in_c 1 rfl); unfold In at a7)); (first | have a8 := in_u i30 | (have a8 := i30; unfold In at a8)))); have a9 := t_sub e30 ro_60_3 (in_c 1 rfl) rfl; have oc := oc_50_60_9; omega
            have m0 : (z73).toInt < ((k0 : Nat) : Int) := by (first | have a0 := oa6 j23_2 ro_60_3 ((inv_F hIc23 0 32 rfl v23_60_7)) j23_4 j23_3 i74 | ((first | have a0 := in_u j23_2 | (have a0 := j23_2; unfold In at a0)); (first | have a1 := in_u ro_60_3 | (have a1 := ro_60_3; unfold In at a1)); (first | have a2 := in_u ((inv_F hIc23 0 32 rfl v23_60_7)) | (have a2 := (inv_F hIc23 0 32 rfl v23_60_7); unfold In at a2)); (first | have a3 := in_u j23_4 | (have a3 := j23_4; unfold In at a3)); (first | have a4 := in_u j23_3 | (have a4 := j23_3; unfold In at a4)); (first | have a5 := in_u i74 | (have a5 := i74; unfold In at a5)))); have a6 := t_sub e73 (inv_F hIc23 0 32 rfl v23_60_7) (in_c 1 rfl) rfl; (first | have a7 := oa2 ((in_c 1 rfl)) i30 | ((first | have a7 := in_u ((in_c 1 rfl)) | (have a7 := (in_c 1 rfl); unfold In at a7)); (first | have a8 := in_u i30 | (have a8 := i30; unfold In at a8)))); have a9 := t_sub e30 ro_60_3 (in_c 1 rfl) rfl; have oc := oc_50_60_9; omega
            exact gg_w (by first | exact Nat.le_add_right _ _ | exact gw2 | exact gw3 | exact gwe rfl | exact gwf rfl | exact gwg rfl | exact gwh rfl | omega) (gg_f (gf_cons rfl (gf_cons rfl (gf_cons rfl gf_nil))) (ih0  (sF (sI sc23 61 y23_4.toNatClampNeg z65) 60 7 z73) z73 hI74 (fr_sF rfl (fr_sI rfl hFc23)) v0 n0 n0a m0))
          · skip
            have i31 := r_lt1 0 30 c31 j23_4 i30 rfl
            have i31a := r_lt2 1 31 c31 j23_4 i30 rfl
            refine g_aload_n 35 (gd rfl) rfl rfl ?_
            refine g_getA (q2 := 61) 38 (gd rfl) rfl rfl rfl rfl ?_
            refine g_iload 40 (gd rfl) rfl rfl ?_
            refine g_iaload 41 (gd rfl) rfl (n := 32) rfl (in_ix i31 rfl) (fun z40 e40 => ?_)
            refine g_aload_n 42 (gd rfl) rfl rfl ?_
            refine g_iload_n 43 (gd rfl) rfl rfl ?_
            refine g_iaload 44 (gd rfl) rfl (n := 32) rfl (in_ix j23_3 rfl) (fun z43 e43 => ?_)
            refine g_iand 45 (gd rfl) rfl (fun z44 e44 => ?_)
            refine g_if_eq 48 54 (gd rfl) rfl rfl (fun c45 => ?_) (fun c45 => ?_)
            · skip
              have i45 := z_eq 0 0 c45 (i_rng z44) rfl
              refine g_aload_n 55 (gd rfl) rfl rfl ?_
              refine g_getA (q2 := 61) 58 (gd rfl) rfl rfl rfl rfl ?_
              refine g_iload 60 (gd rfl) rfl rfl ?_
              refine g_dup2 61 (gd rfl) rfl rfl rfl ?_
              refine g_iaload 62 (gd rfl) rfl (n := 32) rfl (in_ix i31 rfl) (fun z61 e61 => ?_)
              have q61 : z40 = z61 := (e40).trans e61.symm
              subst q61
              refine g_iconst 1 63 (gd rfl) rfl rfl ?_
              refine g_iload_n 64 (gd rfl) rfl rfl ?_
              refine g_ishl 65 (gd rfl) rfl (fun z64 e64 => ?_)
              refine g_ior 66 (gd rfl) rfl (fun z65 e65 => ?_)
              refine g_iastore 67 (gd rfl) rfl (n := 32) rfl (in_ix i31 rfl) ?_
              have hI66 := inv_sI (q := 61) (j := y23_4.toNatClampNeg) hIc23 rfl (in_w (-2147483648) 2147483647 (i_rng z65) rfl)
              refine g_aload_n 68 (gd rfl) rfl rfl ?_
              refine g_dup 69 (gd rfl) rfl rfl ?_
              refine g_getI 72 (gd rfl) rfl rfl rfl (fun z69 e69 => ?_)
              have q69 : w23_60_7 = z69 := (sI_F (v23_60_7)).trans e69.symm
              subst q69
              refine g_iconst 1 73 (gd rfl) rfl rfl ?_
              refine g_isub 74 (gd rfl) rfl (fun z73 e73 => ?_)
              have i73 := in_sub (-1) 31 e73 (inv_F hIc23 0 32 rfl v23_60_7) (in_c 1 rfl) rfl rfl
              have i74 : In z73 0 32 := by (first | have a0 := oa6 j23_2 ro_60_3 ((inv_F hIc23 0 32 rfl v23_60_7)) i31 j23_3 i73 | ((first | have a0 := in_u j23_2 | (have a0 := j23_2; unfold In at a0)); (first | have a1 := in_u ro_60_3 | (have a1 := ro_60_3; unfold In at a1)); (first | have a2 := in_u ((inv_F hIc23 0 32 rfl v23_60_7)) | (have a2 := (inv_F hIc23 0 32 rfl v23_60_7); unfold In at a2)); (first | have a3 := in_u i31 | (have a3 := i31; unfold In at a3)); (first | have a4 := in_u j23_3 | (have a4 := j23_3; unfold In at a4)); (first | have a5 := in_u i73 | (have a5 := i73; unfold In at a5)))); have a6 := t_sub e73 (inv_F hIc23 0 32 rfl v23_60_7) (in_c 1 rfl) rfl; (first | have a7 := oa2 ((in_c 1 rfl)) i31a | ((first | have a7 := in_u ((in_c 1 rfl)) | (have a7 := (in_c 1 rfl); unfold In at a7)); (first | have a8 := in_u i31a | (have a8 := i31a; unfold In at a8)))); have a9 := t_sub e30 ro_60_3 (in_c 1 rfl) rfl; have oc := oc_50_60_9; exact ⟨by omega, by omega⟩
              refine g_putI 77 (gd rfl) rfl rfl rfl rfl ?_
              have hI74 := inv_sF (q := 60) (j := 7) hI66 rfl (in_w 0 32 i74 rfl)
              refine g_goto 0 (gd rfl) rfl ?_
              have v0 : z73 = (sF (sI sc23 61 y23_4.toNatClampNeg z65) 60 7 z73).2.2.1 60 7 := sF_get
              have n0 : TBJ (s.1 9) s (sF (sI sc23 61 y23_4.toNatClampNeg z65) 60 7 z73) x2 := by exact tbj_s g23_0 q_0 (by rw [← e_60_3]; (first | have a0 := oa6 j23_2 ro_60_3 ((inv_F hIc23 0 32 rfl v23_60_7)) i31 j23_3 i74 | ((first | have a0 := in_u j23_2 | (have a0 := j23_2; unfold In at a0)); (first | have a1 := in_u ro_60_3 | (have a1 := ro_60_3; unfold In at a1)); (first | have a2 := in_u ((inv_F hIc23 0 32 rfl v23_60_7)) | (have a2 := (inv_F hIc23 0 32 rfl v23_60_7); unfold In at a2)); (first | have a3 := in_u i31 | (have a3 := i31; unfold In at a3)); (first | have a4 := in_u j23_3 | (have a4 := j23_3; unfold In at a4)); (first | have a5 := in_u i74 | (have a5 := i74; unfold In at a5)))); have a6 := t_sub e73 (inv_F hIc23 0 32 rfl v23_60_7) (in_c 1 rfl) rfl; (first | have a7 := oa2 ((in_c 1 rfl)) i31a | ((first | have a7 := in_u ((in_c 1 rfl)) | (have a7 := (in_c 1 rfl); unfold In at a7)); (first | have a8 := in_u i31a | (have a8 := i31a; unfold In at a8)))); have a9 := t_sub e30 ro_60_3 (in_c 1 rfl) rfl; have oc := oc_50_60_9; omega) (by (first | have a0 := oa6 j23_2 ro_60_3 ((inv_F hIc23 0 32 rfl v23_60_7)) i31 j23_3 i74 | ((first | have a0 := in_u j23_2 | (have a0 := j23_2; unfold In at a0)); (first | have a1 := in_u ro_60_3 | (have a1 := ro_60_3; unfold In at a1)); (first | have a2 := in_u ((inv_F hIc23 0 32 rfl v23_60_7)) | (have a2 := (inv_F hIc23 0 32 rfl v23_60_7); unfold In at a2)); (first | have a3 := in_u i31 | (have a3 := i31; unfold In at a3)); (first | have a4 := in_u j23_3 | (have a4 := j23_3; unfold In at a4)); (first | have a5 := in_u i74 | (have a5 := i74; unfold In at a5)))); have a6 := t_sub e73 (inv_F hIc23 0 32 rfl v23_60_7) (in_c 1 rfl) rfl; (first | have a7 := oa2 ((in_c 1 rfl)) i31a | ((first | have a7 := in_u ((in_c 1 rfl)) | (have a7 := (in_c 1 rfl); unfold In at a7)); (first | have a8 := in_u i31a | (have a8 := i31a; unfold In at a8)))); have a9 := t_sub e30 ro_60_3 (in_c 1 rfl) rfl; have oc := oc_50_60_9; omega) g23_2 j23_3 j23_4 g23_3 g23_1 (Or.inr (fun u h9 => bf_f (fun h8 => bt_nz (x := z44) (k := u) (by rw [bt_and e44, e40, (e43.trans (congrFun (hFc23.1 9 rfl) _)), h9, h8]; rfl) c45))) e61 e64 e65 (by rw [← v23_60_7]; (first | have a0 := oa6 j23_2 ro_60_3 ((inv_F hIc23 0 32 rfl v23_60_7)) i31 j23_3 i74 | ((first | have a0 := in_u j23_2 | (have a0 := j23_2; unfold In at a0)); (first | have a1 := in_u ro_60_3 | (have a1 := ro_60_3; unfold In at a1)); (first | have a2 := in_u ((inv_F hIc23 0 32 rfl v23_60_7)) | (have a2 := (inv_F hIc23 0 32 rfl v23_60_7); unfold In at a2)); (first | have a3 := in_u i31 | (have a3 := i31; unfold In at a3)); (first | have a4 := in_u j23_3 | (have a4 := j23_3; unfold In at a4)); (first | have a5 := in_u i74 | (have a5 := i74; unfold In at a5)))); have a6 := t_sub e73 (inv_F hIc23 0 32 rfl v23_60_7) (in_c 1 rfl) rfl; (first | have a7 := oa2 ((in_c 1 rfl)) i31a | ((first | have a7 := in_u ((in_c 1 rfl)) | (have a7 := (in_c 1 rfl); unfold In at a7)); (first | have a8 := in_u i31a | (have a8 := i31a; unfold In at a8)))); have a9 := t_sub e30 ro_60_3 (in_c 1 rfl) rfl; have oc := oc_50_60_9; omega)
              have n0a : (x2).toInt ≤ ((sF (sI sc23 61 y23_4.toNatClampNeg z65) 60 7 z73).2.2.1 60 7).toInt := by rw [← (show z73 = (sF (sI sc23 61 y23_4.toNatClampNeg z65) 60 7 z73).2.2.1 60 7 from sF_get)]; have h9 := g23_3; rw [← v23_60_7] at h9; (first | have a0 := oa6 j23_2 ro_60_3 ((inv_F hIc23 0 32 rfl v23_60_7)) i31 j23_3 i74 | ((first | have a0 := in_u j23_2 | (have a0 := j23_2; unfold In at a0)); (first | have a1 := in_u ro_60_3 | (have a1 := ro_60_3; unfold In at a1)); (first | have a2 := in_u ((inv_F hIc23 0 32 rfl v23_60_7)) | (have a2 := (inv_F hIc23 0 32 rfl v23_60_7); unfold In at a2)); (first | have a3 := in_u i31 | (have a3 := i31; unfold In at a3)); (first | have a4 := in_u j23_3 | (have a4 := j23_3; unfold In at a4)); (first | have a5 := in_u i74 | (have a5 := i74; unfold In at a5)))); have a6 := t_sub e73 (inv_F hIc23 0 32 rfl v23_60_7) (in_c 1 rfl) rfl; (first | have a7 := oa2 ((in_c 1 rfl)) i31a | ((first | have a7 := in_u ((in_c 1 rfl)) | (have a7 := (in_c 1 rfl); unfold In at a7)); (first | have a8 := in_u i31a | (have a8 := i31a; unfold In at a8)))); have a9 := t_sub e30 ro_60_3 (in_c 1 rfl) rfl; have oc := oc_50_60_9; omega
              have m0 : (z73).toInt < ((k0 : Nat) : Int) := by (first | have a0 := oa6 j23_2 ro_60_3 ((inv_F hIc23 0 32 rfl v23_60_7)) i31 j23_3 i74 | ((first | have a0 := in_u j23_2 | (have a0 := j23_2; unfold In at a0)); (first | have a1 := in_u ro_60_3 | (have a1 := ro_60_3; unfold In at a1)); (first | have a2 := in_u ((inv_F hIc23 0 32 rfl v23_60_7)) | (have a2 := (inv_F hIc23 0 32 rfl v23_60_7); unfold In at a2)); (first | have a3 := in_u i31 | (have a3 := i31; unfold In at a3)); (first | have a4 := in_u j23_3 | (have a4 := j23_3; unfold In at a4)); (first | have a5 := in_u i74 | (have a5 := i74; unfold In at a5)))); have a6 := t_sub e73 (inv_F hIc23 0 32 rfl v23_60_7) (in_c 1 rfl) rfl; (first | have a7 := oa2 ((in_c 1 rfl)) i31a | ((first | have a7 := in_u ((in_c 1 rfl)) | (have a7 := (in_c 1 rfl); unfold In at a7)); (first | have a8 := in_u i31a | (have a8 := i31a; unfold In at a8)))); have a9 := t_sub e30 ro_60_3 (in_c 1 rfl) rfl; have oc := oc_50_60_9; omega
              exact gg_w (by first | exact Nat.le_add_right _ _ | exact gw2 | exact gw3 | exact gwe rfl | exact gwf rfl | exact gwg rfl | exact gwh rfl | omega) (gg_f (gf_cons rfl (gf_cons rfl (gf_cons rfl gf_nil))) (ih0  (sF (sI sc23 61 y23_4.toNatClampNeg z65) 60 7 z73) z73 hI74 (fr_sF rfl (fr_sI rfl hFc23)) v0 n0 n0a m0))
            · skip
              refine g_iinc 51 (gd rfl) rfl rfl (Nat.le_of_ble_eq_true rfl) (fun z48 e48 => ?_)
              have i48 := in_add 1 31 e48 i31 (in_c 1 rfl) rfl rfl
              refine g_goto 23 (gd rfl) rfl ?_
              have n23 : 1 ≤ (w23_60_7).toInt := by first | exact n23_0 | ((first | have a0 := oa6 j23_2 ro_60_3 ((inv_F hIc23 0 32 rfl v23_60_7)) i31 j23_3 i48 | ((first | have a0 := in_u j23_2 | (have a0 := j23_2; unfold In at a0)); (first | have a1 := in_u ro_60_3 | (have a1 := ro_60_3; unfold In at a1)); (first | have a2 := in_u ((inv_F hIc23 0 32 rfl v23_60_7)) | (have a2 := (inv_F hIc23 0 32 rfl v23_60_7); unfold In at a2)); (first | have a3 := in_u i31 | (have a3 := i31; unfold In at a3)); (first | have a4 := in_u j23_3 | (have a4 := j23_3; unfold In at a4)); (first | have a5 := in_u i48 | (have a5 := i48; unfold In at a5)))); have a6 := t_add e48 i31 (in_c 1 rfl) rfl; (first | have a7 := oa2 ((in_c 1 rfl)) i31a | ((first | have a7 := in_u ((in_c 1 rfl)) | (have a7 := (in_c 1 rfl); unfold In at a7)); (first | have a8 := in_u i31a | (have a8 := i31a; unfold In at a8)))); have a9 := t_sub e30 ro_60_3 (in_c 1 rfl) rfl; have oc := oc_50_60_9; omega)
              have n23a : (w23_60_7).toInt = w0_60_7.toInt := by first | exact n23_1 | ((first | have a0 := oa6 j23_2 ro_60_3 ((inv_F hIc23 0 32 rfl v23_60_7)) i31 j23_3 i48 | ((first | have a0 := in_u j23_2 | (have a0 := j23_2; unfold In at a0)); (first | have a1 := in_u ro_60_3 | (have a1 := ro_60_3; unfold In at a1)); (first | have a2 := in_u ((inv_F hIc23 0 32 rfl v23_60_7)) | (have a2 := (inv_F hIc23 0 32 rfl v23_60_7); unfold In at a2)); (first | have a3 := in_u i31 | (have a3 := i31; unfold In at a3)); (first | have a4 := in_u j23_3 | (have a4 := j23_3; unfold In at a4)); (first | have a5 := in_u i48 | (have a5 := i48; unfold In at a5)))); have a6 := t_add e48 i31 (in_c 1 rfl) rfl; (first | have a7 := oa2 ((in_c 1 rfl)) i31a | ((first | have a7 := in_u ((in_c 1 rfl)) | (have a7 := (in_c 1 rfl); unfold In at a7)); (first | have a8 := in_u i31a | (have a8 := i31a; unfold In at a8)))); have a9 := t_sub e30 ro_60_3 (in_c 1 rfl) rfl; have oc := oc_50_60_9; omega)
              have n23b : TBJ (s.1 9) s sc23 x2 := by exact g23_0
              have n23c : BLK (s.1 9) (sc23.1 61) (y23_3).toNatClampNeg (z48).toInt := by exact blk_s g23_1 (by (first | have a0 := oa6 j23_2 ro_60_3 ((inv_F hIc23 0 32 rfl v23_60_7)) i31 j23_3 i48 | ((first | have a0 := in_u j23_2 | (have a0 := j23_2; unfold In at a0)); (first | have a1 := in_u ro_60_3 | (have a1 := ro_60_3; unfold In at a1)); (first | have a2 := in_u ((inv_F hIc23 0 32 rfl v23_60_7)) | (have a2 := (inv_F hIc23 0 32 rfl v23_60_7); unfold In at a2)); (first | have a3 := in_u i31 | (have a3 := i31; unfold In at a3)); (first | have a4 := in_u j23_3 | (have a4 := j23_3; unfold In at a4)); (first | have a5 := in_u i48 | (have a5 := i48; unfold In at a5)))); have a6 := t_add e48 i31 (in_c 1 rfl) rfl; (first | have a7 := oa2 ((in_c 1 rfl)) i31a | ((first | have a7 := in_u ((in_c 1 rfl)) | (have a7 := (in_c 1 rfl); unfold In at a7)); (first | have a8 := in_u i31a | (have a8 := i31a; unfold In at a8)))); have a9 := t_sub e30 ro_60_3 (in_c 1 rfl) rfl; have oc := oc_50_60_9; omega) e40 (e43.trans (congrFun (hFc23.1 9 rfl) _)) e44 c45 (by (first | have a0 := oa6 j23_2 ro_60_3 ((inv_F hIc23 0 32 rfl v23_60_7)) i31 j23_3 i48 | ((first | have a0 := in_u j23_2 | (have a0 := j23_2; unfold In at a0)); (first | have a1 := in_u ro_60_3 | (have a1 := ro_60_3; unfold In at a1)); (first | have a2 := in_u ((inv_F hIc23 0 32 rfl v23_60_7)) | (have a2 := (inv_F hIc23 0 32 rfl v23_60_7); unfold In at a2)); (first | have a3 := in_u i31 | (have a3 := i31; unfold In at a3)); (first | have a4 := in_u j23_3 | (have a4 := j23_3; unfold In at a4)); (first | have a5 := in_u i48 | (have a5 := i48; unfold In at a5)))); have a6 := t_add e48 i31 (in_c 1 rfl) rfl; (first | have a7 := oa2 ((in_c 1 rfl)) i31a | ((first | have a7 := in_u ((in_c 1 rfl)) | (have a7 := (in_c 1 rfl); unfold In at a7)); (first | have a8 := in_u i31a | (have a8 := i31a; unfold In at a8)))); have a9 := t_sub e30 ro_60_3 (in_c 1 rfl) rfl; have oc := oc_50_60_9; omega)
              have n23d : (y23_3) = s.1 63 (((sc23).2.2.1 60 7).toInt - 1).toNat := by exact g23_2
              have n23e : (x2).toInt < (sc23.2.2.1 60 7).toInt := by exact g23_3
              exact gg_w (by first | exact Nat.le_add_right _ _ | exact gw2 | exact gw3 | exact gwe rfl | exact gwf rfl | exact gwg rfl | exact gwh rfl | omega) (gg_f (gf_cons rfl (gf_cons rfl (gf_cons rfl (gf_cons rfl (gf_cons rfl gf_nil))))) (ih23 sc23 y23_3 z48 w23_60_7 hIc23 hFc23 (in_w 0 31 j23_2 rfl) (in_w 0 31 j23_3 rfl) (in_w 0 31 i48 rfl) v23_60_7 n23 n23a n23b n23c n23d n23e (m_up mm23 (t_add e48 i31 (in_c 1 rfl) rfl) (in_w 1 1 (in_c 1 rfl) rfl))))
      refine g_aload_n 1 (gd rfl) rfl rfl ?_
      refine g_getI 4 (gd rfl) rfl rfl rfl (fun z1 e1 => ?_)
      have q1 : w0_60_7 = z1 := (v0_60_7).trans e1.symm
      subst q1
      refine g_iload_n 5 (gd rfl) rfl rfl ?_
      refine g_cmp_le 8 80 (gd rfl) rfl rfl (fun c5 => ?_) (fun c5 => ?_)
      · skip
        have n80 : (sc0.2.2.1 60 7).toInt = (x2).toInt := by have h9 := g0_1; rw [← v0_60_7] at h9 ⊢; (first | have a0 := oa3 h2 ro_60_3 ((inv_F hIc0 0 32 rfl v0_60_7)) | ((first | have a0 := in_u h2 | (have a0 := h2; unfold In at a0)); (first | have a1 := in_u ro_60_3 | (have a1 := ro_60_3; unfold In at a1)); (first | have a2 := in_u ((inv_F hIc0 0 32 rfl v0_60_7)) | (have a2 := (inv_F hIc0 0 32 rfl v0_60_7); unfold In at a2)))); have oc := oc_50_60_9; omega
        have n80a : TBJ (s.1 9) s sc0 x2 := by exact g0_0
        exact g_return (gd rfl) rfl (hP _ _ ⟨sc0, hIc0, hFc0, rfl, rfl, n80, n80a⟩)
      · skip
        have i5 := r_lt1 0 31 c5 h2 (inv_F hIc0 0 32 rfl v0_60_7) rfl
        have i5a := r_lt2 1 32 c5 h2 (inv_F hIc0 0 32 rfl v0_60_7) rfl
        refine g_aload_n 9 (gd rfl) rfl rfl ?_
        refine g_getA (q2 := 63) 12 (gd rfl) rfl rfl rfl rfl ?_
        refine g_aload_n 13 (gd rfl) rfl rfl ?_
        refine g_getI 16 (gd rfl) rfl rfl rfl (fun z13 e13 => ?_)
        have q13 : w0_60_7 = z13 := (v0_60_7).trans e13.symm
        subst q13
        refine g_iconst 1 17 (gd rfl) rfl rfl ?_
        refine g_isub 18 (gd rfl) rfl (fun z17 e17 => ?_)
        have i17 := in_sub 0 31 e17 i5a (in_c 1 rfl) rfl rfl
        refine g_iaload 19 (gd rfl) rfl (n := 32) rfl (in_ix i17 rfl) (fun z18 e18 => ?_)
        have i18 := inv_I hIc0 (n := 32) (t := 0) 0 31 rfl (in_ix i17 rfl) rfl e18
        refine g_istore_n 20 (gd rfl) rfl (Nat.le_of_ble_eq_true rfl) ?_
        refine g_iconst 0 21 (gd rfl) rfl rfl ?_
        refine g_istore 23 (gd rfl) rfl (Nat.le_of_ble_eq_true rfl) ?_
        have n23 : 1 ≤ (w0_60_7).toInt := by (first | have a0 := oa6 i5 ro_60_3 i5a ((in_c 0 rfl)) i18 i17 | ((first | have a0 := in_u i5 | (have a0 := i5; unfold In at a0)); (first | have a1 := in_u ro_60_3 | (have a1 := ro_60_3; unfold In at a1)); (first | have a2 := in_u i5a | (have a2 := i5a; unfold In at a2)); (first | have a3 := in_u ((in_c 0 rfl)) | (have a3 := (in_c 0 rfl); unfold In at a3)); (first | have a4 := in_u i18 | (have a4 := i18; unfold In at a4)); (first | have a5 := in_u i17 | (have a5 := i17; unfold In at a5)))); have a6 := t_sub e17 i5a (in_c 1 rfl) rfl; (first | have a7 := in_u ((in_c 1 rfl)) | (have a7 := (in_c 1 rfl); unfold In at a7)); have oc := oc_50_60_9; omega
        have n23a : (w0_60_7).toInt = w0_60_7.toInt := by (first | have a0 := oa6 i5 ro_60_3 i5a ((in_c 0 rfl)) i18 i17 | ((first | have a0 := in_u i5 | (have a0 := i5; unfold In at a0)); (first | have a1 := in_u ro_60_3 | (have a1 := ro_60_3; unfold In at a1)); (first | have a2 := in_u i5a | (have a2 := i5a; unfold In at a2)); (first | have a3 := in_u ((in_c 0 rfl)) | (have a3 := (in_c 0 rfl); unfold In at a3)); (first | have a4 := in_u i18 | (have a4 := i18; unfold In at a4)); (first | have a5 := in_u i17 | (have a5 := i17; unfold In at a5)))); have a6 := t_sub e17 i5a (in_c 1 rfl) rfl; (first | have a7 := in_u ((in_c 1 rfl)) | (have a7 := (in_c 1 rfl); unfold In at a7)); have oc := oc_50_60_9; omega
        have n23b : TBJ (s.1 9) s sc0 x2 := by exact g0_0
        have n23c : BLK (s.1 9) (sc0.1 61) (z18).toNatClampNeg ((Int32.ofInt 0)).toInt := by exact fun d hd => (by have o9 : (Int32.ofInt 0).toInt = 0 := rfl; omega)
        have n23d : (z18) = s.1 63 (((sc0).2.2.1 60 7).toInt - 1).toNat := by rw [e18, hFc0.1 63 rfl]; exact congrArg (s.1 63) (by show (z17).toInt.toNat = ((sc0.2.2.1 60 7).toInt - 1).toNat; rw [← v0_60_7]; (first | have a0 := oa6 i5 ro_60_3 i5a ((in_c 0 rfl)) i18 i17 | ((first | have a0 := in_u i5 | (have a0 := i5; unfold In at a0)); (first | have a1 := in_u ro_60_3 | (have a1 := ro_60_3; unfold In at a1)); (first | have a2 := in_u i5a | (have a2 := i5a; unfold In at a2)); (first | have a3 := in_u ((in_c 0 rfl)) | (have a3 := (in_c 0 rfl); unfold In at a3)); (first | have a4 := in_u i18 | (have a4 := i18; unfold In at a4)); (first | have a5 := in_u i17 | (have a5 := i17; unfold In at a5)))); have a6 := t_sub e17 i5a (in_c 1 rfl) rfl; (first | have a7 := in_u ((in_c 1 rfl)) | (have a7 := (in_c 1 rfl); unfold In at a7)); have oc := oc_50_60_9; omega)
        have n23e : (x2).toInt < (sc0.2.2.1 60 7).toInt := by rw [← v0_60_7]; (first | have a0 := oa6 i5 ro_60_3 i5a ((in_c 0 rfl)) i18 i17 | ((first | have a0 := in_u i5 | (have a0 := i5; unfold In at a0)); (first | have a1 := in_u ro_60_3 | (have a1 := ro_60_3; unfold In at a1)); (first | have a2 := in_u i5a | (have a2 := i5a; unfold In at a2)); (first | have a3 := in_u ((in_c 0 rfl)) | (have a3 := (in_c 0 rfl); unfold In at a3)); (first | have a4 := in_u i18 | (have a4 := i18; unfold In at a4)); (first | have a5 := in_u i17 | (have a5 := i17; unfold In at a5)))); have a6 := t_sub e17 i5a (in_c 1 rfl) rfl; (first | have a7 := in_u ((in_c 1 rfl)) | (have a7 := (in_c 1 rfl); unfold In at a7)); have oc := oc_50_60_9; omega
        exact gg_w (by first | exact Nat.le_add_right _ _ | exact gw2 | exact gw3 | exact gwe rfl | exact gwf rfl | exact gwg rfl | exact gwh rfl | omega) (gg_f (gf_cons rfl (gf_cons rfl (gf_cons rfl (gf_cons rfl (gf_cons rfl gf_nil))))) (ct23 32 sc0 z18 (Int32.ofInt 0) w0_60_7 hIc0 hFc0 (in_w 0 31 i5 rfl) (in_w 0 31 i18 rfl) (in_w 0 31 (in_c 0 rfl) rfl) v0_60_7 n23 n23a n23b n23c n23d n23e (m_in 32 (in_w 0 31 (in_c 0 rfl) rfl) rfl)))
  refine g_enter2 (k := 50) (N := 1260941) (by first | exact dq1 hd rfl | exact dq0 hd rfl | exact dq2 hd rfl | exact dq3 hd rfl | omega) rfl (Nat.le_of_ble_eq_true rfl) ?_
  have n0 : TBJ (s.1 9) s s x2 := by exact fun _ _ h9 => h9
  have n0a : (x2).toInt ≤ (s.2.2.1 60 7).toInt := by exact q_1
  have m0 : ((s.2.2.1 60 7)).toInt < ((40 : Nat) : Int) := by (first | have a0 := oa3 ro_60_3 h2 ((show In (s.2.2.1 60 7) 0 32 from inv_F hI 0 32 rfl rfl)) | ((first | have a0 := in_u ro_60_3 | (have a0 := ro_60_3; unfold In at a0)); (first | have a1 := in_u h2 | (have a1 := h2; unfold In at a1)); (first | have a2 := in_u ((show In (s.2.2.1 60 7) 0 32 from inv_F hI 0 32 rfl rfl)) | (have a2 := (show In (s.2.2.1 60 7) 0 32 from inv_F hI 0 32 rfl rfl); unfold In at a2)))); have oc := oc_50_60_9; omega
  exact gg_w (by first | exact Nat.le_of_ble_eq_true rfl | omega) (gg_f (gf_cons rfl (gf_cons rfl (gf_cons rfl gf_nil))) (ct0 40 s _ hI fr_rf rfl n0 n0a m0))

theorem oc_50_60_39 : (Int32.ofInt (-1)).toInt = (-1) ∧ (Int32.ofInt 0).toInt = 0 ∧ (Int32.ofInt 1).toInt = 1 := ⟨rfl, rfl, rfl⟩
/-- GraphHouse$Colours.takeBack -/
theorem f_50_60_39 {Z : AmZ} {A : Nat → Nat} {s : GS} {ex : va_W} {d : Nat} {X : AmX} {x2 : Int32} (hd : 1 ≤ d) (hI : Inv s) (h2 : In x2 0 32) (q_0 : SYR (s.1 39)) (q_1 : (x2).toInt ≤ (s.2.2.1 60 7).toInt) : GC Z d 50 [.ref (A 60), .ref (A 39), .int x2] (WW Z A s ++ ex) 0 0 (fun v u => ∃ t : GS, Inv t ∧ Fr fm_50_60_39 s t ∧ v = none ∧ u = WW Z A t ++ ex ∧ ((t.2.2.1 60 7).toInt = (x2).toInt) ∧ (TBJ (s.1 39) s t x2)) X := by
  intro post xp hP hX
  obtain ⟨u_60_3, e_60_3⟩ : ∃ w, w = s.2.2.1 60 3 := ⟨_, rfl⟩
  have ro_60_3 := inv_F hI 0 32 rfl e_60_3
  have ct0 : ∀ (k0 : Nat) (sc0 : GS) (w0_60_7 : Int32), Inv sc0 → Fr fm_50_60_39 s sc0 → (w0_60_7 = sc0.2.2.1 60 7) → (TBJ (s.1 39) s sc0 x2) → ((x2).toInt ≤ (sc0.2.2.1 60 7).toInt) → (w0_60_7).toInt < (k0 : Int) → GG Z (d - 1) 50 post (gx xp) (1 + k0 * 31501) 0 (fun j => xlook j [(0, .ref (A 60)), (1, .ref (A 39)), (2, .int x2)]) [] (WW Z A sc0 ++ ex) 0 0 := by
    intro k0
    induction k0 with
    | zero => intro sc0 w0_60_7 hIc0 hFc0 v0_60_7 g0_0 g0_1 mm0; exfalso; (first | have a0 := oa3 h2 ro_60_3 ((inv_F hIc0 0 32 rfl v0_60_7)) | ((first | have a0 := in_u h2 | (have a0 := h2; unfold In at a0)); (first | have a1 := in_u ro_60_3 | (have a1 := ro_60_3; unfold In at a1)); (first | have a2 := in_u ((inv_F hIc0 0 32 rfl v0_60_7)) | (have a2 := (inv_F hIc0 0 32 rfl v0_60_7); unfold In at a2)))); have oc := oc_50_60_39; omega
    | succ k0 ih0 =>
      intro sc0 w0_60_7 hIc0 hFc0 v0_60_7 g0_0 g0_1 mm0
      refine gg_w (M := 1 + k0 * 31501 + 31501) gws ?_
      have ct23 : ∀ (k23 : Nat) (sc23 : GS) (y23_3 : Int32) (y23_4 : Int32) (w23_60_7 : Int32), Inv sc23 → Fr fm_50_60_39 s sc23 → (In x2 0 31) → (In y23_3 0 31) → (In y23_4 0 31) → (w23_60_7 = sc23.2.2.1 60 7) → (1 ≤ (w23_60_7).toInt) → ((w23_60_7).toInt = w0_60_7.toInt) → (TBJ (s.1 39) s sc23 x2) → (BLK (s.1 39) (sc23.1 61) (y23_3).toNatClampNeg (y23_4).toInt) → ((y23_3) = s.1 63 (((sc23).2.2.1 60 7).toInt - 1).toNat) → ((x2).toInt < (sc23.2.2.1 60 7).toInt) → 31 - (y23_4).toInt < (k23 : Int) → GG Z (d - 1) 50 post (gx xp) (1 + k0 * 31501 + 1 + k23 * 900) 23 (fun j => xlook j [(0, .ref (A 60)), (1, .ref (A 39)), (2, .int x2), (3, .int y23_3), (4, .int y23_4)]) [] (WW Z A sc23 ++ ex) 0 0 := by
        intro k23
        induction k23 with
        | zero => intro sc23 y23_3 y23_4 w23_60_7 hIc23 hFc23 j23_2 j23_3 j23_4 v23_60_7 n23_0 n23_1 g23_0 g23_1 g23_2 g23_3 mm23; exact m_no mm23 j23_4 rfl
        | succ k23 ih23 =>
          intro sc23 y23_3 y23_4 w23_60_7 hIc23 hFc23 j23_2 j23_3 j23_4 v23_60_7 n23_0 n23_1 g23_0 g23_1 g23_2 g23_3 mm23
          refine gg_w (M := 1 + k0 * 31501 + 1 + k23 * 900 + 900) gws ?_
          refine g_iload 25 (gd rfl) rfl rfl ?_
          refine g_aload_n 26 (gd rfl) rfl rfl ?_
          refine g_getI 29 (gd rfl) rfl rfl rfl (fun z26 e26 => ?_)
          have q26 : u_60_3 = z26 := (fr_F e_60_3 hFc23 rfl).trans e26.symm
          subst q26
          refine g_iconst 1 30 (gd rfl) rfl rfl ?_
          refine g_isub 31 (gd rfl) rfl (fun z30 e30 => ?_)
          have i30 := in_sub (-1) 31 e30 ro_60_3 (in_c 1 rfl) rfl rfl
          refine g_cmp_ge 34 54 (gd rfl) rfl rfl (fun c31 => ?_) (fun c31 => ?_)
          · skip
            refine g_aload_n 55 (gd rfl) rfl rfl ?_
            refine g_getA (q2 := 61) 58 (gd rfl) rfl rfl rfl rfl ?_
            refine g_iload 60 (gd rfl) rfl rfl ?_
            refine g_dup2 61 (gd rfl) rfl rfl rfl ?_
            refine g_iaload 62 (gd rfl) rfl (n := 32) rfl (in_ix j23_4 rfl) (fun z61 e61 => ?_)
            refine g_iconst 1 63 (gd rfl) rfl rfl ?_
            refine g_iload_n 64 (gd rfl) rfl rfl ?_
            refine g_ishl 65 (gd rfl) rfl (fun z64 e64 => ?_)
            refine g_ior 66 (gd rfl) rfl (fun z65 e65 => ?_)
            refine g_iastore 67 (gd rfl) rfl (n := 32) rfl (in_ix j23_4 rfl) ?_
            have hI66 := inv_sI (q := 61) (j := y23_4.toNatClampNeg) hIc23 rfl (in_w (-2147483648) 2147483647 (i_rng z65) rfl)
            refine g_aload_n 68 (gd rfl) rfl rfl ?_
            refine g_dup 69 (gd rfl) rfl rfl ?_
            refine g_getI 72 (gd rfl) rfl rfl rfl (fun z69 e69 => ?_)
            have q69 : w23_60_7 = z69 := (sI_F (v23_60_7)).trans e69.symm
            subst q69
            refine g_iconst 1 73 (gd rfl) rfl rfl ?_
            refine g_isub 74 (gd rfl) rfl (fun z73 e73 => ?_)
            have i73 := in_sub (-1) 31 e73 (inv_F hIc23 0 32 rfl v23_60_7) (in_c 1 rfl) rfl rfl
            have i74 : In z73 0 32 := by (first | have a0 := oa6 j23_2 ro_60_3 ((inv_F hIc23 0 32 rfl v23_60_7)) j23_4 j23_3 i73 | ((first | have a0 := in_u j23_2 | (have a0 := j23_2; unfold In at a0)); (first | have a1 := in_u ro_60_3 | (have a1 := ro_60_3; unfold In at a1)); (first | have a2 := in_u ((inv_F hIc23 0 32 rfl v23_60_7)) | (have a2 := (inv_F hIc23 0 32 rfl v23_60_7); unfold In at a2)); (first | have a3 := in_u j23_4 | (have a3 := j23_4; unfold In at a3)); (first | have a4 := in_u j23_3 | (have a4 := j23_3; unfold In at a4)); (first | have a5 := in_u i73 | (have a5 := i73; unfold In at a5)))); have a6 := t_sub e73 (inv_F hIc23 0 32 rfl v23_60_7) (in_c 1 rfl) rfl; (first | have a7 := oa2 ((in_c 1 rfl)) i30 | ((first | have a7 := in_u ((in_c 1 rfl)) | (have a7 := (in_c 1 rfl); unfold In at a7)); (first | have a8 := in_u i30 | (have a8 := i30; unfold In at a8)))); have a9 := t_sub e30 ro_60_3 (in_c 1 rfl) rfl; have oc := oc_50_60_39; exact ⟨by omega, by omega⟩
            refine g_putI 77 (gd rfl) rfl rfl rfl rfl ?_
            have hI74 := inv_sF (q := 60) (j := 7) hI66 rfl (in_w 0 32 i74 rfl)
            refine g_goto 0 (gd rfl) rfl ?_
            have v0 : z73 = (sF (sI sc23 61 y23_4.toNatClampNeg z65) 60 7 z73).2.2.1 60 7 := sF_get
            have n0 : TBJ (s.1 39) s (sF (sI sc23 61 y23_4.toNatClampNeg z65) 60 7 z73) x2 := by exact tbj_s g23_0 q_0 (by rw [← e_60_3]; (first | have a0 := oa6 j23_2 ro_60_3 ((inv_F hIc23 0 32 rfl v23_60_7)) j23_4 j23_3 i74 | ((first | have a0 := in_u j23_2 | (have a0 := j23_2; unfold In at a0)); (first | have a1 := in_u ro_60_3 | (have a1 := ro_60_3; unfold In at a1)); (first | have a2 := in_u ((inv_F hIc23 0 32 rfl v23_60_7)) | (have a2 := (inv_F hIc23 0 32 rfl v23_60_7); unfold In at a2)); (first | have a3 := in_u j23_4 | (have a3 := j23_4; unfold In at a3)); (first | have a4 := in_u j23_3 | (have a4 := j23_3; unfold In at a4)); (first | have a5 := in_u i74 | (have a5 := i74; unfold In at a5)))); have a6 := t_sub e73 (inv_F hIc23 0 32 rfl v23_60_7) (in_c 1 rfl) rfl; (first | have a7 := oa2 ((in_c 1 rfl)) i30 | ((first | have a7 := in_u ((in_c 1 rfl)) | (have a7 := (in_c 1 rfl); unfold In at a7)); (first | have a8 := in_u i30 | (have a8 := i30; unfold In at a8)))); have a9 := t_sub e30 ro_60_3 (in_c 1 rfl) rfl; have oc := oc_50_60_39; omega) (by (first | have a0 := oa6 j23_2 ro_60_3 ((inv_F hIc23 0 32 rfl v23_60_7)) j23_4 j23_3 i74 | ((first | have a0 := in_u j23_2 | (have a0 := j23_2; unfold In at a0)); (first | have a1 := in_u ro_60_3 | (have a1 := ro_60_3; unfold In at a1)); (first | have a2 := in_u ((inv_F hIc23 0 32 rfl v23_60_7)) | (have a2 := (inv_F hIc23 0 32 rfl v23_60_7); unfold In at a2)); (first | have a3 := in_u j23_4 | (have a3 := j23_4; unfold In at a3)); (first | have a4 := in_u j23_3 | (have a4 := j23_3; unfold In at a4)); (first | have a5 := in_u i74 | (have a5 := i74; unfold In at a5)))); have a6 := t_sub e73 (inv_F hIc23 0 32 rfl v23_60_7) (in_c 1 rfl) rfl; (first | have a7 := oa2 ((in_c 1 rfl)) i30 | ((first | have a7 := in_u ((in_c 1 rfl)) | (have a7 := (in_c 1 rfl); unfold In at a7)); (first | have a8 := in_u i30 | (have a8 := i30; unfold In at a8)))); have a9 := t_sub e30 ro_60_3 (in_c 1 rfl) rfl; have oc := oc_50_60_39; omega) g23_2 j23_3 j23_4 g23_3 g23_1 (Or.inl (by rw [← e_60_3]; (first | have a0 := oa6 j23_2 ro_60_3 ((inv_F hIc23 0 32 rfl v23_60_7)) j23_4 j23_3 i74 | ((first | have a0 := in_u j23_2 | (have a0 := j23_2; unfold In at a0)); (first | have a1 := in_u ro_60_3 | (have a1 := ro_60_3; unfold In at a1)); (first | have a2 := in_u ((inv_F hIc23 0 32 rfl v23_60_7)) | (have a2 := (inv_F hIc23 0 32 rfl v23_60_7); unfold In at a2)); (first | have a3 := in_u j23_4 | (have a3 := j23_4; unfold In at a3)); (first | have a4 := in_u j23_3 | (have a4 := j23_3; unfold In at a4)); (first | have a5 := in_u i74 | (have a5 := i74; unfold In at a5)))); have a6 := t_sub e73 (inv_F hIc23 0 32 rfl v23_60_7) (in_c 1 rfl) rfl; (first | have a7 := oa2 ((in_c 1 rfl)) i30 | ((first | have a7 := in_u ((in_c 1 rfl)) | (have a7 := (in_c 1 rfl); unfold In at a7)); (first | have a8 := in_u i30 | (have a8 := i30; unfold In at a8)))); have a9 := t_sub e30 ro_60_3 (in_c 1 rfl) rfl; have oc := oc_50_60_39; omega)) e61 e64 e65 (by rw [← v23_60_7]; (first | have a0 := oa6 j23_2 ro_60_3 ((inv_F hIc23 0 32 rfl v23_60_7)) j23_4 j23_3 i74 | ((first | have a0 := in_u j23_2 | (have a0 := j23_2; unfold In at a0)); (first | have a1 := in_u ro_60_3 | (have a1 := ro_60_3; unfold In at a1)); (first | have a2 := in_u ((inv_F hIc23 0 32 rfl v23_60_7)) | (have a2 := (inv_F hIc23 0 32 rfl v23_60_7); unfold In at a2)); (first | have a3 := in_u j23_4 | (have a3 := j23_4; unfold In at a3)); (first | have a4 := in_u j23_3 | (have a4 := j23_3; unfold In at a4)); (first | have a5 := in_u i74 | (have a5 := i74; unfold In at a5)))); have a6 := t_sub e73 (inv_F hIc23 0 32 rfl v23_60_7) (in_c 1 rfl) rfl; (first | have a7 := oa2 ((in_c 1 rfl)) i30 | ((first | have a7 := in_u ((in_c 1 rfl)) | (have a7 := (in_c 1 rfl); unfold In at a7)); (first | have a8 := in_u i30 | (have a8 := i30; unfold In at a8)))); have a9 := t_sub e30 ro_60_3 (in_c 1 rfl) rfl; have oc := oc_50_60_39; omega)
            have n0a : (x2).toInt ≤ ((sF (sI sc23 61 y23_4.toNatClampNeg z65) 60 7 z73).2.2.1 60 7).toInt := by rw [← (show z73 = (sF (sI sc23 61 y23_4.toNatClampNeg z65) 60 7 z73).2.2.1 60 7 from sF_get)]; have h9 := g23_3; rw [← v23_60_7] at h9; (first | have a0 := oa6 j23_2 ro_60_3 ((inv_F hIc23 0 32 rfl v23_60_7)) j23_4 j23_3 i74 | ((first | have a0 := in_u j23_2 | (have a0 := j23_2; unfold In at a0)); (first | have a1 := in_u ro_60_3 | (have a1 := ro_60_3; unfold In at a1)); (first | have a2 := in_u ((inv_F hIc23 0 32 rfl v23_60_7)) | (have a2 := (inv_F hIc23 0 32 rfl v23_60_7); unfold In at a2)); (first | have a3 := in_u j23_4 | (have a3 := j23_4; unfold In at a3)); (first | have a4 := in_u j23_3 | (have a4 := j23_3; unfold In at a4)); (first | have a5 := in_u i74 | (have a5 := i74; unfold In at a5)))); have a6 := t_sub e73 (inv_F hIc23 0 32 rfl v23_60_7) (in_c 1 rfl) rfl; (first | have a7 := oa2 ((in_c 1 rfl)) i30 | ((first | have a7 := in_u ((in_c 1 rfl)) | (have a7 := (in_c 1 rfl); unfold In at a7)); (first | have a8 := in_u i30 | (have a8 := i30; unfold In at a8)))); have a9 := t_sub e30 ro_60_3 (in_c 1 rfl) rfl; have oc := oc_50_60_39; omega
            have m0 : (z73).toInt < ((k0 : Nat) : Int) := by (first | have a0 := oa6 j23_2 ro_60_3 ((inv_F hIc23 0 32 rfl v23_60_7)) j23_4 j23_3 i74 | ((first | have a0 := in_u j23_2 | (have a0 := j23_2; unfold In at a0)); (first | have a1 := in_u ro_60_3 | (have a1 := ro_60_3; unfold In at a1)); (first | have a2 := in_u ((inv_F hIc23 0 32 rfl v23_60_7)) | (have a2 := (inv_F hIc23 0 32 rfl v23_60_7); unfold In at a2)); (first | have a3 := in_u j23_4 | (have a3 := j23_4; unfold In at a3)); (first | have a4 := in_u j23_3 | (have a4 := j23_3; unfold In at a4)); (first | have a5 := in_u i74 | (have a5 := i74; unfold In at a5)))); have a6 := t_sub e73 (inv_F hIc23 0 32 rfl v23_60_7) (in_c 1 rfl) rfl; (first | have a7 := oa2 ((in_c 1 rfl)) i30 | ((first | have a7 := in_u ((in_c 1 rfl)) | (have a7 := (in_c 1 rfl); unfold In at a7)); (first | have a8 := in_u i30 | (have a8 := i30; unfold In at a8)))); have a9 := t_sub e30 ro_60_3 (in_c 1 rfl) rfl; have oc := oc_50_60_39; omega
            exact gg_w (by first | exact Nat.le_add_right _ _ | exact gw2 | exact gw3 | exact gwe rfl | exact gwf rfl | exact gwg rfl | exact gwh rfl | omega) (gg_f (gf_cons rfl (gf_cons rfl (gf_cons rfl gf_nil))) (ih0  (sF (sI sc23 61 y23_4.toNatClampNeg z65) 60 7 z73) z73 hI74 (fr_sF rfl (fr_sI rfl hFc23)) v0 n0 n0a m0))
          · skip
            have i31 := r_lt1 0 30 c31 j23_4 i30 rfl
            have i31a := r_lt2 1 31 c31 j23_4 i30 rfl
            refine g_aload_n 35 (gd rfl) rfl rfl ?_
            refine g_getA (q2 := 61) 38 (gd rfl) rfl rfl rfl rfl ?_
            refine g_iload 40 (gd rfl) rfl rfl ?_
            refine g_iaload 41 (gd rfl) rfl (n := 32) rfl (in_ix i31 rfl) (fun z40 e40 => ?_)
            refine g_aload_n 42 (gd rfl) rfl rfl ?_
            refine g_iload_n 43 (gd rfl) rfl rfl ?_
            refine g_iaload 44 (gd rfl) rfl (n := 32) rfl (in_ix j23_3 rfl) (fun z43 e43 => ?_)
            refine g_iand 45 (gd rfl) rfl (fun z44 e44 => ?_)
            refine g_if_eq 48 54 (gd rfl) rfl rfl (fun c45 => ?_) (fun c45 => ?_)
            · skip
              have i45 := z_eq 0 0 c45 (i_rng z44) rfl
              refine g_aload_n 55 (gd rfl) rfl rfl ?_
              refine g_getA (q2 := 61) 58 (gd rfl) rfl rfl rfl rfl ?_
              refine g_iload 60 (gd rfl) rfl rfl ?_
              refine g_dup2 61 (gd rfl) rfl rfl rfl ?_
              refine g_iaload 62 (gd rfl) rfl (n := 32) rfl (in_ix i31 rfl) (fun z61 e61 => ?_)
              have q61 : z40 = z61 := (e40).trans e61.symm
              subst q61
              refine g_iconst 1 63 (gd rfl) rfl rfl ?_
              refine g_iload_n 64 (gd rfl) rfl rfl ?_
              refine g_ishl 65 (gd rfl) rfl (fun z64 e64 => ?_)
              refine g_ior 66 (gd rfl) rfl (fun z65 e65 => ?_)
              refine g_iastore 67 (gd rfl) rfl (n := 32) rfl (in_ix i31 rfl) ?_
              have hI66 := inv_sI (q := 61) (j := y23_4.toNatClampNeg) hIc23 rfl (in_w (-2147483648) 2147483647 (i_rng z65) rfl)
              refine g_aload_n 68 (gd rfl) rfl rfl ?_
              refine g_dup 69 (gd rfl) rfl rfl ?_
              refine g_getI 72 (gd rfl) rfl rfl rfl (fun z69 e69 => ?_)
              have q69 : w23_60_7 = z69 := (sI_F (v23_60_7)).trans e69.symm
              subst q69
              refine g_iconst 1 73 (gd rfl) rfl rfl ?_
              refine g_isub 74 (gd rfl) rfl (fun z73 e73 => ?_)
              have i73 := in_sub (-1) 31 e73 (inv_F hIc23 0 32 rfl v23_60_7) (in_c 1 rfl) rfl rfl
              have i74 : In z73 0 32 := by (first | have a0 := oa6 j23_2 ro_60_3 ((inv_F hIc23 0 32 rfl v23_60_7)) i31 j23_3 i73 | ((first | have a0 := in_u j23_2 | (have a0 := j23_2; unfold In at a0)); (first | have a1 := in_u ro_60_3 | (have a1 := ro_60_3; unfold In at a1)); (first | have a2 := in_u ((inv_F hIc23 0 32 rfl v23_60_7)) | (have a2 := (inv_F hIc23 0 32 rfl v23_60_7); unfold In at a2)); (first | have a3 := in_u i31 | (have a3 := i31; unfold In at a3)); (first | have a4 := in_u j23_3 | (have a4 := j23_3; unfold In at a4)); (first | have a5 := in_u i73 | (have a5 := i73; unfold In at a5)))); have a6 := t_sub e73 (inv_F hIc23 0 32 rfl v23_60_7) (in_c 1 rfl) rfl; (first | have a7 := oa2 ((in_c 1 rfl)) i31a | ((first | have a7 := in_u ((in_c 1 rfl)) | (have a7 := (in_c 1 rfl); unfold In at a7)); (first | have a8 := in_u i31a | (have a8 := i31a; unfold In at a8)))); have a9 := t_sub e30 ro_60_3 (in_c 1 rfl) rfl; have oc := oc_50_60_39; exact ⟨by omega, by omega⟩
              refine g_putI 77 (gd rfl) rfl rfl rfl rfl ?_
              have hI74 := inv_sF (q := 60) (j := 7) hI66 rfl (in_w 0 32 i74 rfl)
              refine g_goto 0 (gd rfl) rfl ?_
              have v0 : z73 = (sF (sI sc23 61 y23_4.toNatClampNeg z65) 60 7 z73).2.2.1 60 7 := sF_get
              have n0 : TBJ (s.1 39) s (sF (sI sc23 61 y23_4.toNatClampNeg z65) 60 7 z73) x2 := by exact tbj_s g23_0 q_0 (by rw [← e_60_3]; (first | have a0 := oa6 j23_2 ro_60_3 ((inv_F hIc23 0 32 rfl v23_60_7)) i31 j23_3 i74 | ((first | have a0 := in_u j23_2 | (have a0 := j23_2; unfold In at a0)); (first | have a1 := in_u ro_60_3 | (have a1 := ro_60_3; unfold In at a1)); (first | have a2 := in_u ((inv_F hIc23 0 32 rfl v23_60_7)) | (have a2 := (inv_F hIc23 0 32 rfl v23_60_7); unfold In at a2)); (first | have a3 := in_u i31 | (have a3 := i31; unfold In at a3)); (first | have a4 := in_u j23_3 | (have a4 := j23_3; unfold In at a4)); (first | have a5 := in_u i74 | (have a5 := i74; unfold In at a5)))); have a6 := t_sub e73 (inv_F hIc23 0 32 rfl v23_60_7) (in_c 1 rfl) rfl; (first | have a7 := oa2 ((in_c 1 rfl)) i31a | ((first | have a7 := in_u ((in_c 1 rfl)) | (have a7 := (in_c 1 rfl); unfold In at a7)); (first | have a8 := in_u i31a | (have a8 := i31a; unfold In at a8)))); have a9 := t_sub e30 ro_60_3 (in_c 1 rfl) rfl; have oc := oc_50_60_39; omega) (by (first | have a0 := oa6 j23_2 ro_60_3 ((inv_F hIc23 0 32 rfl v23_60_7)) i31 j23_3 i74 | ((first | have a0 := in_u j23_2 | (have a0 := j23_2; unfold In at a0)); (first | have a1 := in_u ro_60_3 | (have a1 := ro_60_3; unfold In at a1)); (first | have a2 := in_u ((inv_F hIc23 0 32 rfl v23_60_7)) | (have a2 := (inv_F hIc23 0 32 rfl v23_60_7); unfold In at a2)); (first | have a3 := in_u i31 | (have a3 := i31; unfold In at a3)); (first | have a4 := in_u j23_3 | (have a4 := j23_3; unfold In at a4)); (first | have a5 := in_u i74 | (have a5 := i74; unfold In at a5)))); have a6 := t_sub e73 (inv_F hIc23 0 32 rfl v23_60_7) (in_c 1 rfl) rfl; (first | have a7 := oa2 ((in_c 1 rfl)) i31a | ((first | have a7 := in_u ((in_c 1 rfl)) | (have a7 := (in_c 1 rfl); unfold In at a7)); (first | have a8 := in_u i31a | (have a8 := i31a; unfold In at a8)))); have a9 := t_sub e30 ro_60_3 (in_c 1 rfl) rfl; have oc := oc_50_60_39; omega) g23_2 j23_3 j23_4 g23_3 g23_1 (Or.inr (fun u h9 => bf_f (fun h8 => bt_nz (x := z44) (k := u) (by rw [bt_and e44, e40, (e43.trans (congrFun (hFc23.1 39 rfl) _)), h9, h8]; rfl) c45))) e61 e64 e65 (by rw [← v23_60_7]; (first | have a0 := oa6 j23_2 ro_60_3 ((inv_F hIc23 0 32 rfl v23_60_7)) i31 j23_3 i74 | ((first | have a0 := in_u j23_2 | (have a0 := j23_2; unfold In at a0)); (first | have a1 := in_u ro_60_3 | (have a1 := ro_60_3; unfold In at a1)); (first | have a2 := in_u ((inv_F hIc23 0 32 rfl v23_60_7)) | (have a2 := (inv_F hIc23 0 32 rfl v23_60_7); unfold In at a2)); (first | have a3 := in_u i31 | (have a3 := i31; unfold In at a3)); (first | have a4 := in_u j23_3 | (have a4 := j23_3; unfold In at a4)); (first | have a5 := in_u i74 | (have a5 := i74; unfold In at a5)))); have a6 := t_sub e73 (inv_F hIc23 0 32 rfl v23_60_7) (in_c 1 rfl) rfl; (first | have a7 := oa2 ((in_c 1 rfl)) i31a | ((first | have a7 := in_u ((in_c 1 rfl)) | (have a7 := (in_c 1 rfl); unfold In at a7)); (first | have a8 := in_u i31a | (have a8 := i31a; unfold In at a8)))); have a9 := t_sub e30 ro_60_3 (in_c 1 rfl) rfl; have oc := oc_50_60_39; omega)
              have n0a : (x2).toInt ≤ ((sF (sI sc23 61 y23_4.toNatClampNeg z65) 60 7 z73).2.2.1 60 7).toInt := by rw [← (show z73 = (sF (sI sc23 61 y23_4.toNatClampNeg z65) 60 7 z73).2.2.1 60 7 from sF_get)]; have h9 := g23_3; rw [← v23_60_7] at h9; (first | have a0 := oa6 j23_2 ro_60_3 ((inv_F hIc23 0 32 rfl v23_60_7)) i31 j23_3 i74 | ((first | have a0 := in_u j23_2 | (have a0 := j23_2; unfold In at a0)); (first | have a1 := in_u ro_60_3 | (have a1 := ro_60_3; unfold In at a1)); (first | have a2 := in_u ((inv_F hIc23 0 32 rfl v23_60_7)) | (have a2 := (inv_F hIc23 0 32 rfl v23_60_7); unfold In at a2)); (first | have a3 := in_u i31 | (have a3 := i31; unfold In at a3)); (first | have a4 := in_u j23_3 | (have a4 := j23_3; unfold In at a4)); (first | have a5 := in_u i74 | (have a5 := i74; unfold In at a5)))); have a6 := t_sub e73 (inv_F hIc23 0 32 rfl v23_60_7) (in_c 1 rfl) rfl; (first | have a7 := oa2 ((in_c 1 rfl)) i31a | ((first | have a7 := in_u ((in_c 1 rfl)) | (have a7 := (in_c 1 rfl); unfold In at a7)); (first | have a8 := in_u i31a | (have a8 := i31a; unfold In at a8)))); have a9 := t_sub e30 ro_60_3 (in_c 1 rfl) rfl; have oc := oc_50_60_39; omega
              have m0 : (z73).toInt < ((k0 : Nat) : Int) := by (first | have a0 := oa6 j23_2 ro_60_3 ((inv_F hIc23 0 32 rfl v23_60_7)) i31 j23_3 i74 | ((first | have a0 := in_u j23_2 | (have a0 := j23_2; unfold In at a0)); (first | have a1 := in_u ro_60_3 | (have a1 := ro_60_3; unfold In at a1)); (first | have a2 := in_u ((inv_F hIc23 0 32 rfl v23_60_7)) | (have a2 := (inv_F hIc23 0 32 rfl v23_60_7); unfold In at a2)); (first | have a3 := in_u i31 | (have a3 := i31; unfold In at a3)); (first | have a4 := in_u j23_3 | (have a4 := j23_3; unfold In at a4)); (first | have a5 := in_u i74 | (have a5 := i74; unfold In at a5)))); have a6 := t_sub e73 (inv_F hIc23 0 32 rfl v23_60_7) (in_c 1 rfl) rfl; (first | have a7 := oa2 ((in_c 1 rfl)) i31a | ((first | have a7 := in_u ((in_c 1 rfl)) | (have a7 := (in_c 1 rfl); unfold In at a7)); (first | have a8 := in_u i31a | (have a8 := i31a; unfold In at a8)))); have a9 := t_sub e30 ro_60_3 (in_c 1 rfl) rfl; have oc := oc_50_60_39; omega
              exact gg_w (by first | exact Nat.le_add_right _ _ | exact gw2 | exact gw3 | exact gwe rfl | exact gwf rfl | exact gwg rfl | exact gwh rfl | omega) (gg_f (gf_cons rfl (gf_cons rfl (gf_cons rfl gf_nil))) (ih0  (sF (sI sc23 61 y23_4.toNatClampNeg z65) 60 7 z73) z73 hI74 (fr_sF rfl (fr_sI rfl hFc23)) v0 n0 n0a m0))
            · skip
              refine g_iinc 51 (gd rfl) rfl rfl (Nat.le_of_ble_eq_true rfl) (fun z48 e48 => ?_)
              have i48 := in_add 1 31 e48 i31 (in_c 1 rfl) rfl rfl
              refine g_goto 23 (gd rfl) rfl ?_
              have n23 : 1 ≤ (w23_60_7).toInt := by first | exact n23_0 | ((first | have a0 := oa6 j23_2 ro_60_3 ((inv_F hIc23 0 32 rfl v23_60_7)) i31 j23_3 i48 | ((first | have a0 := in_u j23_2 | (have a0 := j23_2; unfold In at a0)); (first | have a1 := in_u ro_60_3 | (have a1 := ro_60_3; unfold In at a1)); (first | have a2 := in_u ((inv_F hIc23 0 32 rfl v23_60_7)) | (have a2 := (inv_F hIc23 0 32 rfl v23_60_7); unfold In at a2)); (first | have a3 := in_u i31 | (have a3 := i31; unfold In at a3)); (first | have a4 := in_u j23_3 | (have a4 := j23_3; unfold In at a4)); (first | have a5 := in_u i48 | (have a5 := i48; unfold In at a5)))); have a6 := t_add e48 i31 (in_c 1 rfl) rfl; (first | have a7 := oa2 ((in_c 1 rfl)) i31a | ((first | have a7 := in_u ((in_c 1 rfl)) | (have a7 := (in_c 1 rfl); unfold In at a7)); (first | have a8 := in_u i31a | (have a8 := i31a; unfold In at a8)))); have a9 := t_sub e30 ro_60_3 (in_c 1 rfl) rfl; have oc := oc_50_60_39; omega)
              have n23a : (w23_60_7).toInt = w0_60_7.toInt := by first | exact n23_1 | ((first | have a0 := oa6 j23_2 ro_60_3 ((inv_F hIc23 0 32 rfl v23_60_7)) i31 j23_3 i48 | ((first | have a0 := in_u j23_2 | (have a0 := j23_2; unfold In at a0)); (first | have a1 := in_u ro_60_3 | (have a1 := ro_60_3; unfold In at a1)); (first | have a2 := in_u ((inv_F hIc23 0 32 rfl v23_60_7)) | (have a2 := (inv_F hIc23 0 32 rfl v23_60_7); unfold In at a2)); (first | have a3 := in_u i31 | (have a3 := i31; unfold In at a3)); (first | have a4 := in_u j23_3 | (have a4 := j23_3; unfold In at a4)); (first | have a5 := in_u i48 | (have a5 := i48; unfold In at a5)))); have a6 := t_add e48 i31 (in_c 1 rfl) rfl; (first | have a7 := oa2 ((in_c 1 rfl)) i31a | ((first | have a7 := in_u ((in_c 1 rfl)) | (have a7 := (in_c 1 rfl); unfold In at a7)); (first | have a8 := in_u i31a | (have a8 := i31a; unfold In at a8)))); have a9 := t_sub e30 ro_60_3 (in_c 1 rfl) rfl; have oc := oc_50_60_39; omega)
              have n23b : TBJ (s.1 39) s sc23 x2 := by exact g23_0
              have n23c : BLK (s.1 39) (sc23.1 61) (y23_3).toNatClampNeg (z48).toInt := by exact blk_s g23_1 (by (first | have a0 := oa6 j23_2 ro_60_3 ((inv_F hIc23 0 32 rfl v23_60_7)) i31 j23_3 i48 | ((first | have a0 := in_u j23_2 | (have a0 := j23_2; unfold In at a0)); (first | have a1 := in_u ro_60_3 | (have a1 := ro_60_3; unfold In at a1)); (first | have a2 := in_u ((inv_F hIc23 0 32 rfl v23_60_7)) | (have a2 := (inv_F hIc23 0 32 rfl v23_60_7); unfold In at a2)); (first | have a3 := in_u i31 | (have a3 := i31; unfold In at a3)); (first | have a4 := in_u j23_3 | (have a4 := j23_3; unfold In at a4)); (first | have a5 := in_u i48 | (have a5 := i48; unfold In at a5)))); have a6 := t_add e48 i31 (in_c 1 rfl) rfl; (first | have a7 := oa2 ((in_c 1 rfl)) i31a | ((first | have a7 := in_u ((in_c 1 rfl)) | (have a7 := (in_c 1 rfl); unfold In at a7)); (first | have a8 := in_u i31a | (have a8 := i31a; unfold In at a8)))); have a9 := t_sub e30 ro_60_3 (in_c 1 rfl) rfl; have oc := oc_50_60_39; omega) e40 (e43.trans (congrFun (hFc23.1 39 rfl) _)) e44 c45 (by (first | have a0 := oa6 j23_2 ro_60_3 ((inv_F hIc23 0 32 rfl v23_60_7)) i31 j23_3 i48 | ((first | have a0 := in_u j23_2 | (have a0 := j23_2; unfold In at a0)); (first | have a1 := in_u ro_60_3 | (have a1 := ro_60_3; unfold In at a1)); (first | have a2 := in_u ((inv_F hIc23 0 32 rfl v23_60_7)) | (have a2 := (inv_F hIc23 0 32 rfl v23_60_7); unfold In at a2)); (first | have a3 := in_u i31 | (have a3 := i31; unfold In at a3)); (first | have a4 := in_u j23_3 | (have a4 := j23_3; unfold In at a4)); (first | have a5 := in_u i48 | (have a5 := i48; unfold In at a5)))); have a6 := t_add e48 i31 (in_c 1 rfl) rfl; (first | have a7 := oa2 ((in_c 1 rfl)) i31a | ((first | have a7 := in_u ((in_c 1 rfl)) | (have a7 := (in_c 1 rfl); unfold In at a7)); (first | have a8 := in_u i31a | (have a8 := i31a; unfold In at a8)))); have a9 := t_sub e30 ro_60_3 (in_c 1 rfl) rfl; have oc := oc_50_60_39; omega)
              have n23d : (y23_3) = s.1 63 (((sc23).2.2.1 60 7).toInt - 1).toNat := by exact g23_2
              have n23e : (x2).toInt < (sc23.2.2.1 60 7).toInt := by exact g23_3
              exact gg_w (by first | exact Nat.le_add_right _ _ | exact gw2 | exact gw3 | exact gwe rfl | exact gwf rfl | exact gwg rfl | exact gwh rfl | omega) (gg_f (gf_cons rfl (gf_cons rfl (gf_cons rfl (gf_cons rfl (gf_cons rfl gf_nil))))) (ih23 sc23 y23_3 z48 w23_60_7 hIc23 hFc23 (in_w 0 31 j23_2 rfl) (in_w 0 31 j23_3 rfl) (in_w 0 31 i48 rfl) v23_60_7 n23 n23a n23b n23c n23d n23e (m_up mm23 (t_add e48 i31 (in_c 1 rfl) rfl) (in_w 1 1 (in_c 1 rfl) rfl))))
      refine g_aload_n 1 (gd rfl) rfl rfl ?_
      refine g_getI 4 (gd rfl) rfl rfl rfl (fun z1 e1 => ?_)
      have q1 : w0_60_7 = z1 := (v0_60_7).trans e1.symm
      subst q1
      refine g_iload_n 5 (gd rfl) rfl rfl ?_
      refine g_cmp_le 8 80 (gd rfl) rfl rfl (fun c5 => ?_) (fun c5 => ?_)
      · skip
        have n80 : (sc0.2.2.1 60 7).toInt = (x2).toInt := by have h9 := g0_1; rw [← v0_60_7] at h9 ⊢; (first | have a0 := oa3 h2 ro_60_3 ((inv_F hIc0 0 32 rfl v0_60_7)) | ((first | have a0 := in_u h2 | (have a0 := h2; unfold In at a0)); (first | have a1 := in_u ro_60_3 | (have a1 := ro_60_3; unfold In at a1)); (first | have a2 := in_u ((inv_F hIc0 0 32 rfl v0_60_7)) | (have a2 := (inv_F hIc0 0 32 rfl v0_60_7); unfold In at a2)))); have oc := oc_50_60_39; omega
        have n80a : TBJ (s.1 39) s sc0 x2 := by exact g0_0
        exact g_return (gd rfl) rfl (hP _ _ ⟨sc0, hIc0, hFc0, rfl, rfl, n80, n80a⟩)
      · skip
        have i5 := r_lt1 0 31 c5 h2 (inv_F hIc0 0 32 rfl v0_60_7) rfl
        have i5a := r_lt2 1 32 c5 h2 (inv_F hIc0 0 32 rfl v0_60_7) rfl
        refine g_aload_n 9 (gd rfl) rfl rfl ?_
        refine g_getA (q2 := 63) 12 (gd rfl) rfl rfl rfl rfl ?_
        refine g_aload_n 13 (gd rfl) rfl rfl ?_
        refine g_getI 16 (gd rfl) rfl rfl rfl (fun z13 e13 => ?_)
        have q13 : w0_60_7 = z13 := (v0_60_7).trans e13.symm
        subst q13
        refine g_iconst 1 17 (gd rfl) rfl rfl ?_
        refine g_isub 18 (gd rfl) rfl (fun z17 e17 => ?_)
        have i17 := in_sub 0 31 e17 i5a (in_c 1 rfl) rfl rfl
        refine g_iaload 19 (gd rfl) rfl (n := 32) rfl (in_ix i17 rfl) (fun z18 e18 => ?_)
        have i18 := inv_I hIc0 (n := 32) (t := 0) 0 31 rfl (in_ix i17 rfl) rfl e18
        refine g_istore_n 20 (gd rfl) rfl (Nat.le_of_ble_eq_true rfl) ?_
        refine g_iconst 0 21 (gd rfl) rfl rfl ?_
        refine g_istore 23 (gd rfl) rfl (Nat.le_of_ble_eq_true rfl) ?_
        have n23 : 1 ≤ (w0_60_7).toInt := by (first | have a0 := oa6 i5 ro_60_3 i5a ((in_c 0 rfl)) i18 i17 | ((first | have a0 := in_u i5 | (have a0 := i5; unfold In at a0)); (first | have a1 := in_u ro_60_3 | (have a1 := ro_60_3; unfold In at a1)); (first | have a2 := in_u i5a | (have a2 := i5a; unfold In at a2)); (first | have a3 := in_u ((in_c 0 rfl)) | (have a3 := (in_c 0 rfl); unfold In at a3)); (first | have a4 := in_u i18 | (have a4 := i18; unfold In at a4)); (first | have a5 := in_u i17 | (have a5 := i17; unfold In at a5)))); have a6 := t_sub e17 i5a (in_c 1 rfl) rfl; (first | have a7 := in_u ((in_c 1 rfl)) | (have a7 := (in_c 1 rfl); unfold In at a7)); have oc := oc_50_60_39; omega
        have n23a : (w0_60_7).toInt = w0_60_7.toInt := by (first | have a0 := oa6 i5 ro_60_3 i5a ((in_c 0 rfl)) i18 i17 | ((first | have a0 := in_u i5 | (have a0 := i5; unfold In at a0)); (first | have a1 := in_u ro_60_3 | (have a1 := ro_60_3; unfold In at a1)); (first | have a2 := in_u i5a | (have a2 := i5a; unfold In at a2)); (first | have a3 := in_u ((in_c 0 rfl)) | (have a3 := (in_c 0 rfl); unfold In at a3)); (first | have a4 := in_u i18 | (have a4 := i18; unfold In at a4)); (first | have a5 := in_u i17 | (have a5 := i17; unfold In at a5)))); have a6 := t_sub e17 i5a (in_c 1 rfl) rfl; (first | have a7 := in_u ((in_c 1 rfl)) | (have a7 := (in_c 1 rfl); unfold In at a7)); have oc := oc_50_60_39; omega
        have n23b : TBJ (s.1 39) s sc0 x2 := by exact g0_0
        have n23c : BLK (s.1 39) (sc0.1 61) (z18).toNatClampNeg ((Int32.ofInt 0)).toInt := by exact fun d hd => (by have o9 : (Int32.ofInt 0).toInt = 0 := rfl; omega)
        have n23d : (z18) = s.1 63 (((sc0).2.2.1 60 7).toInt - 1).toNat := by rw [e18, hFc0.1 63 rfl]; exact congrArg (s.1 63) (by show (z17).toInt.toNat = ((sc0.2.2.1 60 7).toInt - 1).toNat; rw [← v0_60_7]; (first | have a0 := oa6 i5 ro_60_3 i5a ((in_c 0 rfl)) i18 i17 | ((first | have a0 := in_u i5 | (have a0 := i5; unfold In at a0)); (first | have a1 := in_u ro_60_3 | (have a1 := ro_60_3; unfold In at a1)); (first | have a2 := in_u i5a | (have a2 := i5a; unfold In at a2)); (first | have a3 := in_u ((in_c 0 rfl)) | (have a3 := (in_c 0 rfl); unfold In at a3)); (first | have a4 := in_u i18 | (have a4 := i18; unfold In at a4)); (first | have a5 := in_u i17 | (have a5 := i17; unfold In at a5)))); have a6 := t_sub e17 i5a (in_c 1 rfl) rfl; (first | have a7 := in_u ((in_c 1 rfl)) | (have a7 := (in_c 1 rfl); unfold In at a7)); have oc := oc_50_60_39; omega)
        have n23e : (x2).toInt < (sc0.2.2.1 60 7).toInt := by rw [← v0_60_7]; (first | have a0 := oa6 i5 ro_60_3 i5a ((in_c 0 rfl)) i18 i17 | ((first | have a0 := in_u i5 | (have a0 := i5; unfold In at a0)); (first | have a1 := in_u ro_60_3 | (have a1 := ro_60_3; unfold In at a1)); (first | have a2 := in_u i5a | (have a2 := i5a; unfold In at a2)); (first | have a3 := in_u ((in_c 0 rfl)) | (have a3 := (in_c 0 rfl); unfold In at a3)); (first | have a4 := in_u i18 | (have a4 := i18; unfold In at a4)); (first | have a5 := in_u i17 | (have a5 := i17; unfold In at a5)))); have a6 := t_sub e17 i5a (in_c 1 rfl) rfl; (first | have a7 := in_u ((in_c 1 rfl)) | (have a7 := (in_c 1 rfl); unfold In at a7)); have oc := oc_50_60_39; omega
        exact gg_w (by first | exact Nat.le_add_right _ _ | exact gw2 | exact gw3 | exact gwe rfl | exact gwf rfl | exact gwg rfl | exact gwh rfl | omega) (gg_f (gf_cons rfl (gf_cons rfl (gf_cons rfl (gf_cons rfl (gf_cons rfl gf_nil))))) (ct23 32 sc0 z18 (Int32.ofInt 0) w0_60_7 hIc0 hFc0 (in_w 0 31 i5 rfl) (in_w 0 31 i18 rfl) (in_w 0 31 (in_c 0 rfl) rfl) v0_60_7 n23 n23a n23b n23c n23d n23e (m_in 32 (in_w 0 31 (in_c 0 rfl) rfl) rfl)))
  refine g_enter2 (k := 50) (N := 1260941) (by first | exact dq1 hd rfl | exact dq0 hd rfl | exact dq2 hd rfl | exact dq3 hd rfl | omega) rfl (Nat.le_of_ble_eq_true rfl) ?_
  have n0 : TBJ (s.1 39) s s x2 := by exact fun _ _ h9 => h9
  have n0a : (x2).toInt ≤ (s.2.2.1 60 7).toInt := by exact q_1
  have m0 : ((s.2.2.1 60 7)).toInt < ((40 : Nat) : Int) := by (first | have a0 := oa3 ro_60_3 h2 ((show In (s.2.2.1 60 7) 0 32 from inv_F hI 0 32 rfl rfl)) | ((first | have a0 := in_u ro_60_3 | (have a0 := ro_60_3; unfold In at a0)); (first | have a1 := in_u h2 | (have a1 := h2; unfold In at a1)); (first | have a2 := in_u ((show In (s.2.2.1 60 7) 0 32 from inv_F hI 0 32 rfl rfl)) | (have a2 := (show In (s.2.2.1 60 7) 0 32 from inv_F hI 0 32 rfl rfl); unfold In at a2)))); have oc := oc_50_60_39; omega
  exact gg_w (by first | exact Nat.le_of_ble_eq_true rfl | omega) (gg_f (gf_cons rfl (gf_cons rfl (gf_cons rfl gf_nil))) (ct0 40 s _ hI fr_rf rfl n0 n0a m0))

theorem oc_45_60 : (Int32.ofInt (-1)).toInt = (-1) ∧ (Int32.ofInt 0).toInt = 0 ∧ (Int32.ofInt 1).toInt = 1 ∧ (Int32.ofInt 32).toInt = 32 := ⟨rfl, rfl, rfl, rfl⟩
/-- GraphHouse$Colours.classOf -/
theorem f_45_60 {Z : AmZ} {A : Nat → Nat} {s : GS} {ex : va_W} {d : Nat} {X : AmX} {x1 : Int32} (hd : 1 ≤ d) (hI : Inv s) (h1 : In x1 0 31) : GC Z d 45 [.ref (A 60), .int x1] (WW Z A s ++ ex) 0 0 (fun v u => ∃ z : Int32, v = some (.int z) ∧ u = WW Z A s ++ ex ∧ In z 0 31 ∧ (((∃ c : Nat, c < 32 ∧ bt (s.1 61 c) (x1).toNatClampNeg = true) → bt (s.1 61 (z).toNatClampNeg) (x1).toNatClampNeg = true))) X := by
  intro post xp hP hX
  have ct2 : ∀ (k2 : Nat) (y2_2 : Int32), (In y2_2 0 32) → ((∀ c : Nat, (c : Int) < (y2_2).toInt → bt (s.1 61 c) (x1).toNatClampNeg = false)) → 32 - (y2_2).toInt < (k2 : Int) → GG Z (d - 1) 45 post (gx xp) (1 + k2 * 900) 2 (fun j => xlook j [(0, .ref (A 60)), (1, .int x1), (2, .int y2_2)]) [] (WW Z A s ++ ex) 0 0 := by
    intro k2
    induction k2 with
    | zero => intro y2_2 j2_2 g2_0 mm2; exact m_no mm2 j2_2 rfl
    | succ k2 ih2 =>
      intro y2_2 j2_2 g2_0 mm2
      refine gg_w (M := 1 + k2 * 900 + 900) gws ?_
      refine g_iload_n 3 (gd rfl) rfl rfl ?_
      refine g_bipush 32 5 (gd rfl) rfl rfl ?_
      refine g_cmp_ge 8 29 (gd rfl) rfl rfl (fun c5 => ?_) (fun c5 => ?_)
      · skip
        have i5 := r_le2 32 32 c5 (in_c 32 rfl) j2_2 rfl
        refine g_iconst 0 30 (gd rfl) rfl rfl ?_
        have n30 : ((∃ c : Nat, c < 32 ∧ bt (s.1 61 c) (x1).toNatClampNeg = true) → bt (s.1 61 ((Int32.ofInt 0)).toNatClampNeg) (x1).toNatClampNeg = true) := by (intro h9; obtain ⟨c, c1, c2⟩ := h9; rw [g2_0 c (by (first | have a0 := oa2 h1 i5 | ((first | have a0 := in_u h1 | (have a0 := h1; unfold In at a0)); (first | have a1 := in_u i5 | (have a1 := i5; unfold In at a1)))); have oc := oc_45_60; omega)] at c2; cases c2)
        exact g_ireturn (gd rfl) rfl rfl (hP _ _ ⟨(Int32.ofInt 0), rfl, rfl, in_w 0 31 (in_c 0 rfl) rfl, n30⟩)
      · skip
        have i5 := r_lt1 0 31 c5 j2_2 (in_c 32 rfl) rfl
        refine g_aload_n 9 (gd rfl) rfl rfl ?_
        refine g_getA (q2 := 61) 12 (gd rfl) rfl rfl rfl rfl ?_
        refine g_iload_n 13 (gd rfl) rfl rfl ?_
        refine g_iaload 14 (gd rfl) rfl (n := 32) rfl (in_ix i5 rfl) (fun z13 e13 => ?_)
        refine g_iload_n 15 (gd rfl) rfl rfl ?_
        refine g_ishr 16 (gd rfl) rfl (fun z15 e15 => ?_)
        refine g_iconst 1 17 (gd rfl) rfl rfl ?_
        refine g_iand 18 (gd rfl) rfl (fun z17 e17 => ?_)
        have i17 := in_and2 e17 (in_c 1 rfl) rfl
        refine g_if_eq 21 23 (gd rfl) rfl rfl (fun c18 => ?_) (fun c18 => ?_)
        · skip
          have i18 := z_eq 0 0 c18 i17 rfl
          refine g_iinc 26 (gd rfl) rfl rfl (Nat.le_of_ble_eq_true rfl) (fun z23 e23 => ?_)
          have i23 := in_add 1 32 e23 i5 (in_c 1 rfl) rfl rfl
          refine g_goto 2 (gd rfl) rfl ?_
          have n2 : (∀ c : Nat, (c : Int) < (z23).toInt → bt (s.1 61 c) (x1).toNatClampNeg = false) := by (intro c hc; have h8 := clx (show 0 ≤ (y2_2).toInt from (by (first | have a0 := oa3 h1 i5 i23 | ((first | have a0 := in_u h1 | (have a0 := h1; unfold In at a0)); (first | have a1 := in_u i5 | (have a1 := i5; unfold In at a1)); (first | have a2 := in_u i23 | (have a2 := i23; unfold In at a2)))); have a3 := t_add e23 i5 (in_c 1 rfl) rfl; (first | have a4 := in_u ((in_c 1 rfl)) | (have a4 := (in_c 1 rfl); unfold In at a4)); have oc := oc_45_60; omega)); by_cases q9 : c = (y2_2).toNatClampNeg; (rw [q9, ← e13]; exact bt_f0 (bt_ask e15 e17 h1) c18); (exact g2_0 c (by (first | have a0 := oa3 h1 i5 i23 | ((first | have a0 := in_u h1 | (have a0 := h1; unfold In at a0)); (first | have a1 := in_u i5 | (have a1 := i5; unfold In at a1)); (first | have a2 := in_u i23 | (have a2 := i23; unfold In at a2)))); have a3 := t_add e23 i5 (in_c 1 rfl) rfl; (first | have a4 := in_u ((in_c 1 rfl)) | (have a4 := (in_c 1 rfl); unfold In at a4)); have oc := oc_45_60; omega)))
          exact gg_w (by first | exact Nat.le_add_right _ _ | exact gw2 | exact gw3 | exact gwe rfl | exact gwf rfl | exact gwg rfl | exact gwh rfl | omega) (gg_f (gf_cons rfl (gf_cons rfl (gf_cons rfl gf_nil))) (ih2  z23  (in_w 0 32 i23 rfl) n2 (m_up mm2 (t_add e23 i5 (in_c 1 rfl) rfl) (in_w 1 1 (in_c 1 rfl) rfl))))
        · skip
          have i18 := z_ne 1 1 c18 i17 rfl
          refine g_iload_n 22 (gd rfl) rfl rfl ?_
          have n22 : ((∃ c : Nat, c < 32 ∧ bt (s.1 61 c) (x1).toNatClampNeg = true) → bt (s.1 61 (y2_2).toNatClampNeg) (x1).toNatClampNeg = true) := by exact fun _ => (by rw [← e13]; exact bt_t1 (bt_ask e15 e17 h1) c18)
          exact g_ireturn (gd rfl) rfl rfl (hP _ _ ⟨y2_2, rfl, rfl, in_w 0 31 i5 rfl, n22⟩)
  refine g_enter2 (k := 45) (N := 30601) (by first | exact dq1 hd rfl | exact dq0 hd rfl | exact dq2 hd rfl | exact dq3 hd rfl | omega) rfl (Nat.le_of_ble_eq_true rfl) ?_
  refine g_iconst 0 1 (gd rfl) rfl rfl ?_
  refine g_istore_n 2 (gd rfl) rfl (Nat.le_of_ble_eq_true rfl) ?_
  have n2 : (∀ c : Nat, (c : Int) < ((Int32.ofInt 0)).toInt → bt (s.1 61 c) (x1).toNatClampNeg = false) := by (intro c hc; exfalso; have o9 : (Int32.ofInt 0).toInt = 0 := rfl; omega)
  exact gg_w (by first | exact Nat.le_of_ble_eq_true rfl | omega) (gg_f (gf_cons rfl (gf_cons rfl (gf_cons rfl gf_nil))) (ct2 33  (Int32.ofInt 0)  (in_w 0 32 (in_c 0 rfl) rfl) n2 (m_in 33 (in_w 0 32 (in_c 0 rfl) rfl) rfl)))

theorem ocf_mut9 : (Int32.ofInt (-1)).toInt = (-1) ∧ (Int32.ofInt 0).toInt = 0 ∧ (Int32.ofInt 1).toInt = 1 ∧ (Int32.ofInt 32).toInt = 32 := ⟨rfl, rfl, rfl, rfl⟩
set_option maxHeartbeats 2000000 in
theorem f_47_60_9_r {Z : AmZ} {A : Nat → Nat} {ex : va_W} (kk : Nat) (ihF : ∀ {s : GS} {d : Nat} {X : AmX} {x2 : Int32} {x3 : Int32}, 40 + kk * 10 ≤ d → Inv s → (In x3 0 33) → (FLX (s.1 9) s x2 (x3).toInt) → 33 - (x3).toInt < ((kk : Nat) : Int) → GC Z d 46 [.ref (A 60), .ref (A 9), .int x2, .int x3] (WW Z A s ++ ex) 0 0 (fun v u => ∃ t : GS, Inv t ∧ Fr fm_46_60_9 s t ∧ ∃ z : Int32, v = some (.int z) ∧ u = WW Z A t ++ ex ∧ In z 0 1 ∧ (FRE (s.1 9) (s.2.2.1 60 3).toInt x2 (s.1 61) ((t).1 61) (z).toInt) ∧ (ASI s t)) X) : ∀ {s : GS} {d : Nat} {X : AmX} {x2 : Int32} {x3 : Int32}, 45 + kk * 10 ≤ d → Inv s → (In x3 0 32) → (x2.toInt ≠ 0) → (FLX (s.1 9) s x2 (x3).toInt) → 33 - (x3).toInt < ((kk + 1 : Nat) : Int) → GC Z d 47 [.ref (A 60), .ref (A 9), .int x2, .int x3] (WW Z A s ++ ex) 0 0 (fun v u => ∃ t : GS, Inv t ∧ Fr fm_47_60_9 s t ∧ ∃ z : Int32, v = some (.int z) ∧ u = WW Z A t ++ ex ∧ In z 0 1 ∧ (FRE (s.1 9) (s.2.2.1 60 3).toInt x2 (s.1 61) ((t).1 61) (z).toInt) ∧ (ASI s t)) X := by
  intro s d X x2 x3 hd hI h3 nza_2 q_0 hm
  intro post xp hP hX
  obtain ⟨u_60_3, e_60_3⟩ : ∃ w, w = s.2.2.1 60 3 := ⟨_, rfl⟩
  have ro_60_3 := inv_F hI 0 32 rfl e_60_3
  have ct27 : ∀ (k27 : Nat) (sc27 : GS) (y27_4 : Int32) (y27_5 : Int32) (y27_6 : Int32) (y27_7 : Int32) (y27_8 : Int32), Inv sc27 → Fr fm_47_60_9 s sc27 → (In y27_4 0 31) → (In y27_7 0 1) → (In y27_8 0 32) → (CEQL (s.1 61) (sc27.1 61)) → (ASI s sc27) → (bt x2 (y27_4).toNatClampNeg = true) → ((y27_5) = Int32.ofInt 1 <<< ((y27_4) &&& 31)) → (BSX (s.1 9) x2 (y27_6)) → (FPI (s.1 9) (s.2.2.1 60 3).toInt (s.1 61) x2 (y27_4).toNatClampNeg (y27_6) (y27_8).toInt (y27_7).toInt) → 32 - (y27_8).toInt < (k27 : Int) → GG Z (d - 1) 47 post (gx xp) (1 + k27 * 900) 27 (fun j => xlook j [(0, .ref (A 60)), (1, .ref (A 9)), (2, .int x2), (3, .int x3), (4, .int y27_4), (5, .int y27_5), (6, .int y27_6), (7, .int y27_7), (8, .int y27_8)]) [] (WW Z A sc27 ++ ex) 0 0 := by
    intro k27
    induction k27 with
    | zero => intro sc27 y27_4 y27_5 y27_6 y27_7 y27_8 hIc27 hFc27 j27_4 j27_7 j27_8 g27_0 g27_1 g27_2 g27_3 g27_4 g27_5 mm27; exact m_no mm27 j27_8 rfl
    | succ k27 ih27 =>
      intro sc27 y27_4 y27_5 y27_6 y27_7 y27_8 hIc27 hFc27 j27_4 j27_7 j27_8 g27_0 g27_1 g27_2 g27_3 g27_4 g27_5 mm27
      refine gg_w (M := 1 + k27 * 900 + 900) gws ?_
      refine g_iload 29 (gd rfl) rfl rfl ?_
      refine g_aload_n 30 (gd rfl) rfl rfl ?_
      refine g_getI 33 (gd rfl) rfl rfl rfl (fun z30 e30 => ?_)
      have q30 : u_60_3 = z30 := (fr_F e_60_3 hFc27 rfl).trans e30.symm
      subst q30
      refine g_cmp_ge 36 139 (gd rfl) rfl rfl (fun c33 => ?_) (fun c33 => ?_)
      · skip
        refine g_iconst 0 140 (gd rfl) rfl rfl ?_
        have n140 : FRE (s.1 9) (s.2.2.1 60 3).toInt x2 (s.1 61) ((sc27).1 61) ((Int32.ofInt 0)).toInt := by exact fp_e g27_5 g27_2 (by (first | have a0 := oa5 h3 ro_60_3 j27_8 j27_7 j27_4 | ((first | have a0 := in_u h3 | (have a0 := h3; unfold In at a0)); (first | have a1 := in_u ro_60_3 | (have a1 := ro_60_3; unfold In at a1)); (first | have a2 := in_u j27_8 | (have a2 := j27_8; unfold In at a2)); (first | have a3 := in_u j27_7 | (have a3 := j27_7; unfold In at a3)); (first | have a4 := in_u j27_4 | (have a4 := j27_4; unfold In at a4)))); have oc := ocf_mut9; omega) (by rw [← e_60_3]; (first | have a0 := oa5 h3 ro_60_3 j27_8 j27_7 j27_4 | ((first | have a0 := in_u h3 | (have a0 := h3; unfold In at a0)); (first | have a1 := in_u ro_60_3 | (have a1 := ro_60_3; unfold In at a1)); (first | have a2 := in_u j27_8 | (have a2 := j27_8; unfold In at a2)); (first | have a3 := in_u j27_7 | (have a3 := j27_7; unfold In at a3)); (first | have a4 := in_u j27_4 | (have a4 := j27_4; unfold In at a4)))); have oc := ocf_mut9; omega) g27_0 rfl
        have n140a : ASI s sc27 := by exact g27_1
        exact g_ireturn (gd rfl) rfl (nb01 (in_w 0 1 (in_c 0 rfl) rfl)) (hP _ _ ⟨sc27, hIc27, hFc27, (Int32.ofInt 0), rfl, rfl, in_w 0 1 (in_c 0 rfl) rfl, n140, n140a⟩)
      · skip
        have i33 := r_lt1 0 31 c33 j27_8 ro_60_3 rfl
        have i33a := r_lt2 1 32 c33 j27_8 ro_60_3 rfl
        refine g_aload_n 37 (gd rfl) rfl rfl ?_
        refine g_getA (q2 := 61) 40 (gd rfl) rfl rfl rfl rfl ?_
        refine g_iload 42 (gd rfl) rfl rfl ?_
        refine g_iaload 43 (gd rfl) rfl (n := 32) rfl (in_ix i33 rfl) (fun z42 e42 => ?_)
        refine g_iload 45 (gd rfl) rfl rfl ?_
        refine g_iand 46 (gd rfl) rfl (fun z45 e45 => ?_)
        refine g_if_ne 49 53 (gd rfl) rfl rfl (fun c46 => ?_) (fun c46 => ?_)
        · skip
          refine g_iconst 0 54 (gd rfl) rfl rfl ?_
          refine g_istore 56 (gd rfl) rfl (Nat.le_of_ble_eq_true rfl) ?_
          refine g_aload_n 57 (gd rfl) rfl rfl ?_
          refine g_getA (q2 := 61) 60 (gd rfl) rfl rfl rfl rfl ?_
          refine g_iload 62 (gd rfl) rfl rfl ?_
          refine g_iaload 63 (gd rfl) rfl (n := 32) rfl (in_ix i33 rfl) (fun z62 e62 => ?_)
          have q62 : z42 = z62 := (e42).trans e62.symm
          subst q62
          refine g_aload_n 64 (gd rfl) rfl rfl ?_
          refine g_iload 66 (gd rfl) rfl rfl ?_
          refine g_iaload 67 (gd rfl) rfl (n := 32) rfl (in_ix j27_4 rfl) (fun z66 e66 => ?_)
          refine g_iand 68 (gd rfl) rfl (fun z67 e67 => ?_)
          refine g_if_ne 71 133 (gd rfl) rfl rfl (fun c68 => ?_) (fun c68 => ?_)
          · skip
            refine g_iinc 136 (gd rfl) rfl rfl (Nat.le_of_ble_eq_true rfl) (fun z133 e133 => ?_)
            have i133 := in_add 1 32 e133 i33 (in_c 1 rfl) rfl rfl
            refine g_goto 27 (gd rfl) rfl ?_
            have n27 : CEQL (s.1 61) (sc27.1 61) := by exact g27_0
            have n27a : ASI s sc27 := by exact g27_1
            have n27b : bt x2 (y27_4).toNatClampNeg = true := by exact g27_2
            have n27c : (y27_5) = Int32.ofInt 1 <<< ((y27_4) &&& 31) := by exact g27_3
            have n27d : BSX (s.1 9) x2 (y27_6) := by exact g27_4
            have n27e : FPI (s.1 9) (s.2.2.1 60 3).toInt (s.1 61) x2 (y27_4).toNatClampNeg (y27_6) (z133).toInt (y27_7).toInt := by exact fp_b g27_5 q_0.2.1 g27_2 g27_0 i33 e42 (e66.trans (congrFun (hFc27.1 9 rfl) _)) e67 c68 (by (first | have a0 := oa7 h3 i33a i33 j27_7 j27_4 ((in_c 0 rfl)) i133 | ((first | have a0 := in_u h3 | (have a0 := h3; unfold In at a0)); (first | have a1 := in_u i33a | (have a1 := i33a; unfold In at a1)); (first | have a2 := in_u i33 | (have a2 := i33; unfold In at a2)); (first | have a3 := in_u j27_7 | (have a3 := j27_7; unfold In at a3)); (first | have a4 := in_u j27_4 | (have a4 := j27_4; unfold In at a4)); (first | have a5 := in_u ((in_c 0 rfl)) | (have a5 := (in_c 0 rfl); unfold In at a5)); (first | have a6 := in_u i133 | (have a6 := i133; unfold In at a6)))); have a7 := t_add e133 i33 (in_c 1 rfl) rfl; (first | have a8 := in_u ((in_c 1 rfl)) | (have a8 := (in_c 1 rfl); unfold In at a8)); have oc := ocf_mut9; omega)
            exact gg_w (by first | exact Nat.le_add_right _ _ | exact gw2 | exact gw3 | exact gwe rfl | exact gwf rfl | exact gwg rfl | exact gwh rfl | omega) (gg_f (gf_cons rfl (gf_cons rfl (gf_cons rfl (gf_cons rfl (gf_cons rfl (gf_cons rfl (gf_cons rfl (gf_cons rfl (gf_cons rfl gf_nil))))))))) (ih27 sc27 y27_4 y27_5 y27_6 y27_7 z133 hIc27 hFc27 (in_w 0 31 j27_4 rfl) (in_w 0 1 j27_7 rfl) (in_w 0 32 i133 rfl) n27 n27a n27b n27c n27d n27e (m_up mm27 (t_add e133 i33 (in_c 1 rfl) rfl) (in_w 1 1 (in_c 1 rfl) rfl))))
          · skip
            have i68 := z_eq 0 0 c68 (i_rng z67) rfl
            refine g_iload 73 (gd rfl) rfl rfl ?_
            refine g_if_eq 76 81 (gd rfl) rfl rfl (fun c73 => ?_) (fun c73 => ?_)
            · skip
              refine g_iload 83 (gd rfl) rfl rfl ?_
              refine g_iload 85 (gd rfl) rfl rfl ?_
              refine g_ior 86 (gd rfl) rfl (fun z85 e85 => ?_)
              have i85 := in_or 1 e85 (in_w 0 1 j27_7 rfl) (in_w 0 1 (in_c 0 rfl) rfl) rfl
              refine g_istore 88 (gd rfl) rfl (Nat.le_of_ble_eq_true rfl) ?_
              refine g_aload_n 89 (gd rfl) rfl rfl ?_
              refine g_getA (q2 := 61) 92 (gd rfl) rfl rfl rfl rfl ?_
              refine g_iload 94 (gd rfl) rfl rfl ?_
              refine g_dup2 95 (gd rfl) rfl rfl rfl ?_
              refine g_iaload 96 (gd rfl) rfl (n := 32) rfl (in_ix i33 rfl) (fun z95 e95 => ?_)
              have q95 : z42 = z95 := (e42).trans e95.symm
              subst q95
              refine g_iload 98 (gd rfl) rfl rfl ?_
              refine g_ior 99 (gd rfl) rfl (fun z98 e98 => ?_)
              refine g_iastore 100 (gd rfl) rfl (n := 32) rfl (in_ix i33 rfl) ?_
              have hI99 := inv_sI (q := 61) (j := y27_8.toNatClampNeg) hIc27 rfl (in_w (-2147483648) 2147483647 (i_rng z98) rfl)
              refine g_aload_n 101 (gd rfl) rfl rfl ?_
              refine g_aload_n 102 (gd rfl) rfl rfl ?_
              refine g_iload_n 103 (gd rfl) rfl rfl ?_
              refine g_iload 105 (gd rfl) rfl rfl ?_
              refine g_iconst (-1) 106 (gd rfl) rfl rfl ?_
              refine g_ixor 107 (gd rfl) rfl (fun z106 e106 => ?_)
              refine g_iand 108 (gd rfl) rfl (fun z107 e107 => ?_)
              refine g_iload_n 109 (gd rfl) rfl rfl ?_
              refine g_iconst 1 110 (gd rfl) rfl rfl ?_
              refine g_iadd 111 (gd rfl) rfl (fun z110 e110 => ?_)
              have i110 := in_add 1 33 e110 h3 (in_c 1 rfl) rfl rfl
              have p111 : FLX ((sI sc27 61 y27_8.toNatClampNeg z98).1 9) (sI sc27 61 y27_8.toNatClampNeg z98) z107 (z110).toInt := by rw [sI_p (show Nat.beq 9 61 = false from rfl), hFc27.1 9 rfl]; exact (fp_x q_0 g27_0 g27_1 (hFc27.2.2.1 60 3 rfl) g27_2 j27_4 i33 (by rw [← e_60_3]; (first | have a0 := oa8 h3 i33a i33 j27_7 j27_4 ((in_c 0 rfl)) i85 i110 | ((first | have a0 := in_u h3 | (have a0 := h3; unfold In at a0)); (first | have a1 := in_u i33a | (have a1 := i33a; unfold In at a1)); (first | have a2 := in_u i33 | (have a2 := i33; unfold In at a2)); (first | have a3 := in_u j27_7 | (have a3 := j27_7; unfold In at a3)); (first | have a4 := in_u j27_4 | (have a4 := j27_4; unfold In at a4)); (first | have a5 := in_u ((in_c 0 rfl)) | (have a5 := (in_c 0 rfl); unfold In at a5)); (first | have a6 := in_u i85 | (have a6 := i85; unfold In at a6)); (first | have a7 := in_u i110 | (have a7 := i110; unfold In at a7)))); have a8 := t_add e110 h3 (in_c 1 rfl) rfl; (first | have a9 := in_u ((in_c 1 rfl)) | (have a9 := (in_c 1 rfl); unfold In at a9)); have oc := ocf_mut9; omega) g27_3 e42 (e66.trans (congrFun (hFc27.1 9 rfl) _)) e67 c68 e98 e106 e107 (show (z110).toInt = (x3).toInt + 1 from (by (first | have a0 := oa8 h3 i33a i33 j27_7 j27_4 ((in_c 0 rfl)) i85 i110 | ((first | have a0 := in_u h3 | (have a0 := h3; unfold In at a0)); (first | have a1 := in_u i33a | (have a1 := i33a; unfold In at a1)); (first | have a2 := in_u i33 | (have a2 := i33; unfold In at a2)); (first | have a3 := in_u j27_7 | (have a3 := j27_7; unfold In at a3)); (first | have a4 := in_u j27_4 | (have a4 := j27_4; unfold In at a4)); (first | have a5 := in_u ((in_c 0 rfl)) | (have a5 := (in_c 0 rfl); unfold In at a5)); (first | have a6 := in_u i85 | (have a6 := i85; unfold In at a6)); (first | have a7 := in_u i110 | (have a7 := i110; unfold In at a7)))); have a8 := t_add e110 h3 (in_c 1 rfl) rfl; (first | have a9 := in_u ((in_c 1 rfl)) | (have a9 := (in_c 1 rfl); unfold In at a9)); have oc := ocf_mut9; omega))).1
              have n111 : 33 - (z110).toInt < ((kk : Nat) : Int) := by (first | have a0 := oa8 h3 i33a i33 j27_7 j27_4 ((in_c 0 rfl)) i85 i110 | ((first | have a0 := in_u h3 | (have a0 := h3; unfold In at a0)); (first | have a1 := in_u i33a | (have a1 := i33a; unfold In at a1)); (first | have a2 := in_u i33 | (have a2 := i33; unfold In at a2)); (first | have a3 := in_u j27_7 | (have a3 := j27_7; unfold In at a3)); (first | have a4 := in_u j27_4 | (have a4 := j27_4; unfold In at a4)); (first | have a5 := in_u ((in_c 0 rfl)) | (have a5 := (in_c 0 rfl); unfold In at a5)); (first | have a6 := in_u i85 | (have a6 := i85; unfold In at a6)); (first | have a7 := in_u i110 | (have a7 := i110; unfold In at a7)))); have a8 := t_add e110 h3 (in_c 1 rfl) rfl; (first | have a9 := in_u ((in_c 1 rfl)) | (have a9 := (in_c 1 rfl); unfold In at a9)); have oc := ocf_mut9; omega
              refine g_callv (X := _) (As := [.ref (A 9), .int z107, .int z110]) (r := []) (b := A 60) (q := 60) 114 (gd rfl) rfl rfl rfl rfl rfl (ww_o rfl) (Nat.le_of_ble_eq_true rfl) (Nat.zero_le _) (Nat.zero_le _) (ihF (by omega) hI99 (in_w 0 33 i110 rfl) p111 n111) (fun e u h => h) (fun v u h => ?_)
              obtain ⟨s111, hI111, hF111, z111, rfl, rfl, i111, p111a, p111b⟩ := h
              show GG _ _ _ _ _ _ _ _ [.int z111] _ _ _
              refine g_if_eq 117 119 (gd rfl) rfl rfl (fun c114 => ?_) (fun c114 => ?_)
              · skip
                have i114 := z_eq 0 0 c114 i111 rfl
                refine g_aload_n 120 (gd rfl) rfl rfl ?_
                refine g_getA (q2 := 61) 123 (gd rfl) rfl rfl rfl rfl ?_
                refine g_iload 125 (gd rfl) rfl rfl ?_
                refine g_dup2 126 (gd rfl) rfl rfl rfl ?_
                refine g_iaload 127 (gd rfl) rfl (n := 32) rfl (in_ix i33 rfl) (fun z126 e126 => ?_)
                refine g_iload 129 (gd rfl) rfl rfl ?_
                refine g_iconst (-1) 130 (gd rfl) rfl rfl ?_
                refine g_ixor 131 (gd rfl) rfl (fun z130 e130 => ?_)
                refine g_iand 132 (gd rfl) rfl (fun z131 e131 => ?_)
                refine g_iastore 133 (gd rfl) rfl (n := 32) rfl (in_ix i33 rfl) ?_
                have hI132 := inv_sI (q := 61) (j := y27_8.toNatClampNeg) hI111 rfl (in_w (-2147483648) 2147483647 (i_rng z131) rfl)
                refine g_iinc 136 (gd rfl) rfl rfl (Nat.le_of_ble_eq_true rfl) (fun z133 e133 => ?_)
                have i133 := in_add 1 32 e133 i33 (in_c 1 rfl) rfl rfl
                refine g_goto 27 (gd rfl) rfl ?_
                have n27 : CEQL (s.1 61) ((sI s111 61 y27_8.toNatClampNeg z131).1 61) := by exact (fp_t (z85 := z85) q_0 g27_5 g27_0 (fp_x q_0 g27_0 g27_1 (hFc27.2.2.1 60 3 rfl) g27_2 j27_4 i33 (by rw [← e_60_3]; (first | have a0 := oa7 h3 i33a i33 j27_7 j27_4 ((in_c 0 rfl)) i133 | ((first | have a0 := in_u h3 | (have a0 := h3; unfold In at a0)); (first | have a1 := in_u i33a | (have a1 := i33a; unfold In at a1)); (first | have a2 := in_u i33 | (have a2 := i33; unfold In at a2)); (first | have a3 := in_u j27_7 | (have a3 := j27_7; unfold In at a3)); (first | have a4 := in_u j27_4 | (have a4 := j27_4; unfold In at a4)); (first | have a5 := in_u ((in_c 0 rfl)) | (have a5 := (in_c 0 rfl); unfold In at a5)); (first | have a6 := in_u i133 | (have a6 := i133; unfold In at a6)))); have a7 := t_add e133 i33 (in_c 1 rfl) rfl; (first | have a8 := oa3 ((in_c 1 rfl)) i85 i110 | ((first | have a8 := in_u ((in_c 1 rfl)) | (have a8 := (in_c 1 rfl); unfold In at a8)); (first | have a9 := in_u i85 | (have a9 := i85; unfold In at a9)); (first | have a10 := in_u i110 | (have a10 := i110; unfold In at a10)))); have a11 := t_add e110 h3 (in_c 1 rfl) rfl; have oc := ocf_mut9; omega) g27_3 e42 (e66.trans (congrFun (hFc27.1 9 rfl) _)) e67 c68 e98 e106 e107 (show (z110).toInt = (x3).toInt + 1 from (by (first | have a0 := oa7 h3 i33a i33 j27_7 j27_4 ((in_c 0 rfl)) i133 | ((first | have a0 := in_u h3 | (have a0 := h3; unfold In at a0)); (first | have a1 := in_u i33a | (have a1 := i33a; unfold In at a1)); (first | have a2 := in_u i33 | (have a2 := i33; unfold In at a2)); (first | have a3 := in_u j27_7 | (have a3 := j27_7; unfold In at a3)); (first | have a4 := in_u j27_4 | (have a4 := j27_4; unfold In at a4)); (first | have a5 := in_u ((in_c 0 rfl)) | (have a5 := (in_c 0 rfl); unfold In at a5)); (first | have a6 := in_u i133 | (have a6 := i133; unfold In at a6)))); have a7 := t_add e133 i33 (in_c 1 rfl) rfl; (first | have a8 := oa3 ((in_c 1 rfl)) i85 i110 | ((first | have a8 := in_u ((in_c 1 rfl)) | (have a8 := (in_c 1 rfl); unfold In at a8)); (first | have a9 := in_u i85 | (have a9 := i85; unfold In at a9)); (first | have a10 := in_u i110 | (have a10 := i110; unfold In at a10)))); have a11 := t_add e110 h3 (in_c 1 rfl) rfl; have oc := ocf_mut9; omega))).2 g27_2 j27_4 i33 g27_3 e42 e98 e106 e107 (show FRE (s.1 9) (s.2.2.1 60 3).toInt z107 (upd (sc27.1 61) y27_8.toNatClampNeg z98) (s111.1 61) (z111).toInt from (by have h9 := p111a; rw [sI_p (show Nat.beq 9 61 = false from rfl), sI_q, hFc27.1 9 rfl, show (sI sc27 61 y27_8.toNatClampNeg z98).2.2.1 60 3 = s.2.2.1 60 3 from hFc27.2.2.1 60 3 rfl] at h9; exact h9)) c114 e126 e130 e131 (show (z133).toInt = (y27_8).toInt + 1 from (by (first | have a0 := oa7 h3 i33a i33 j27_7 j27_4 ((in_c 0 rfl)) i133 | ((first | have a0 := in_u h3 | (have a0 := h3; unfold In at a0)); (first | have a1 := in_u i33a | (have a1 := i33a; unfold In at a1)); (first | have a2 := in_u i33 | (have a2 := i33; unfold In at a2)); (first | have a3 := in_u j27_7 | (have a3 := j27_7; unfold In at a3)); (first | have a4 := in_u j27_4 | (have a4 := j27_4; unfold In at a4)); (first | have a5 := in_u ((in_c 0 rfl)) | (have a5 := (in_c 0 rfl); unfold In at a5)); (first | have a6 := in_u i133 | (have a6 := i133; unfold In at a6)))); have a7 := t_add e133 i33 (in_c 1 rfl) rfl; (first | have a8 := oa3 ((in_c 1 rfl)) i85 i110 | ((first | have a8 := in_u ((in_c 1 rfl)) | (have a8 := (in_c 1 rfl); unfold In at a8)); (first | have a9 := in_u i85 | (have a9 := i85; unfold In at a9)); (first | have a10 := in_u i110 | (have a10 := i110; unfold In at a10)))); have a11 := t_add e110 h3 (in_c 1 rfl) rfl; have oc := ocf_mut9; omega)) (fun h9 => Or.inl (fun h8 => h9 (or_0z e85 h8)))).1
                have n27a : ASI s (sI s111 61 y27_8.toNatClampNeg z131) := by exact asi_I (asi_t g27_1 (asi_J p111b))
                have n27b : bt x2 (y27_4).toNatClampNeg = true := by exact g27_2
                have n27c : (y27_5) = Int32.ofInt 1 <<< ((y27_4) &&& 31) := by exact g27_3
                have n27d : BSX (s.1 9) x2 (y27_6) := by exact g27_4
                have n27e : FPI (s.1 9) (s.2.2.1 60 3).toInt (s.1 61) x2 (y27_4).toNatClampNeg (y27_6) (z133).toInt (z85).toInt := by exact (fp_t (z85 := z85) q_0 g27_5 g27_0 (fp_x q_0 g27_0 g27_1 (hFc27.2.2.1 60 3 rfl) g27_2 j27_4 i33 (by rw [← e_60_3]; (first | have a0 := oa7 h3 i33a i33 j27_7 j27_4 ((in_c 0 rfl)) i133 | ((first | have a0 := in_u h3 | (have a0 := h3; unfold In at a0)); (first | have a1 := in_u i33a | (have a1 := i33a; unfold In at a1)); (first | have a2 := in_u i33 | (have a2 := i33; unfold In at a2)); (first | have a3 := in_u j27_7 | (have a3 := j27_7; unfold In at a3)); (first | have a4 := in_u j27_4 | (have a4 := j27_4; unfold In at a4)); (first | have a5 := in_u ((in_c 0 rfl)) | (have a5 := (in_c 0 rfl); unfold In at a5)); (first | have a6 := in_u i133 | (have a6 := i133; unfold In at a6)))); have a7 := t_add e133 i33 (in_c 1 rfl) rfl; (first | have a8 := oa3 ((in_c 1 rfl)) i85 i110 | ((first | have a8 := in_u ((in_c 1 rfl)) | (have a8 := (in_c 1 rfl); unfold In at a8)); (first | have a9 := in_u i85 | (have a9 := i85; unfold In at a9)); (first | have a10 := in_u i110 | (have a10 := i110; unfold In at a10)))); have a11 := t_add e110 h3 (in_c 1 rfl) rfl; have oc := ocf_mut9; omega) g27_3 e42 (e66.trans (congrFun (hFc27.1 9 rfl) _)) e67 c68 e98 e106 e107 (show (z110).toInt = (x3).toInt + 1 from (by (first | have a0 := oa7 h3 i33a i33 j27_7 j27_4 ((in_c 0 rfl)) i133 | ((first | have a0 := in_u h3 | (have a0 := h3; unfold In at a0)); (first | have a1 := in_u i33a | (have a1 := i33a; unfold In at a1)); (first | have a2 := in_u i33 | (have a2 := i33; unfold In at a2)); (first | have a3 := in_u j27_7 | (have a3 := j27_7; unfold In at a3)); (first | have a4 := in_u j27_4 | (have a4 := j27_4; unfold In at a4)); (first | have a5 := in_u ((in_c 0 rfl)) | (have a5 := (in_c 0 rfl); unfold In at a5)); (first | have a6 := in_u i133 | (have a6 := i133; unfold In at a6)))); have a7 := t_add e133 i33 (in_c 1 rfl) rfl; (first | have a8 := oa3 ((in_c 1 rfl)) i85 i110 | ((first | have a8 := in_u ((in_c 1 rfl)) | (have a8 := (in_c 1 rfl); unfold In at a8)); (first | have a9 := in_u i85 | (have a9 := i85; unfold In at a9)); (first | have a10 := in_u i110 | (have a10 := i110; unfold In at a10)))); have a11 := t_add e110 h3 (in_c 1 rfl) rfl; have oc := ocf_mut9; omega))).2 g27_2 j27_4 i33 g27_3 e42 e98 e106 e107 (show FRE (s.1 9) (s.2.2.1 60 3).toInt z107 (upd (sc27.1 61) y27_8.toNatClampNeg z98) (s111.1 61) (z111).toInt from (by have h9 := p111a; rw [sI_p (show Nat.beq 9 61 = false from rfl), sI_q, hFc27.1 9 rfl, show (sI sc27 61 y27_8.toNatClampNeg z98).2.2.1 60 3 = s.2.2.1 60 3 from hFc27.2.2.1 60 3 rfl] at h9; exact h9)) c114 e126 e130 e131 (show (z133).toInt = (y27_8).toInt + 1 from (by (first | have a0 := oa7 h3 i33a i33 j27_7 j27_4 ((in_c 0 rfl)) i133 | ((first | have a0 := in_u h3 | (have a0 := h3; unfold In at a0)); (first | have a1 := in_u i33a | (have a1 := i33a; unfold In at a1)); (first | have a2 := in_u i33 | (have a2 := i33; unfold In at a2)); (first | have a3 := in_u j27_7 | (have a3 := j27_7; unfold In at a3)); (first | have a4 := in_u j27_4 | (have a4 := j27_4; unfold In at a4)); (first | have a5 := in_u ((in_c 0 rfl)) | (have a5 := (in_c 0 rfl); unfold In at a5)); (first | have a6 := in_u i133 | (have a6 := i133; unfold In at a6)))); have a7 := t_add e133 i33 (in_c 1 rfl) rfl; (first | have a8 := oa3 ((in_c 1 rfl)) i85 i110 | ((first | have a8 := in_u ((in_c 1 rfl)) | (have a8 := (in_c 1 rfl); unfold In at a8)); (first | have a9 := in_u i85 | (have a9 := i85; unfold In at a9)); (first | have a10 := in_u i110 | (have a10 := i110; unfold In at a10)))); have a11 := t_add e110 h3 (in_c 1 rfl) rfl; have oc := ocf_mut9; omega)) (fun h9 => Or.inl (fun h8 => h9 (or_0z e85 h8)))).2
                exact gg_w (by first | exact Nat.le_add_right _ _ | exact gw2 | exact gw3 | exact gwe rfl | exact gwf rfl | exact gwg rfl | exact gwh rfl | omega) (gg_f (gf_cons rfl (gf_cons rfl (gf_cons rfl (gf_cons rfl (gf_cons rfl (gf_cons rfl (gf_cons rfl (gf_cons rfl (gf_cons rfl gf_nil))))))))) (ih27 (sI s111 61 y27_8.toNatClampNeg z131) y27_4 y27_5 y27_6 z85 z133 hI132 (fr_sI rfl (fr_tr rfl (fr_sI rfl hFc27) hF111)) (in_w 0 31 j27_4 rfl) (in_w 0 1 i85 rfl) (in_w 0 32 i133 rfl) n27 n27a n27b n27c n27d n27e (m_up mm27 (t_add e133 i33 (in_c 1 rfl) rfl) (in_w 1 1 (in_c 1 rfl) rfl))))
              · skip
                have i114 := z_ne 1 1 c114 i111 rfl
                refine g_iconst 1 118 (gd rfl) rfl rfl ?_
                have n118 : FRE (s.1 9) (s.2.2.1 60 3).toInt x2 (s.1 61) ((s111).1 61) ((Int32.ofInt 1)).toInt := by exact fp_y g27_0 g27_2 j27_4 i33 g27_3 e42 e98 e106 e107 (show FRE (s.1 9) (s.2.2.1 60 3).toInt z107 (upd (sc27.1 61) y27_8.toNatClampNeg z98) (s111.1 61) (z111).toInt from (by have h9 := p111a; rw [sI_p (show Nat.beq 9 61 = false from rfl), sI_q, hFc27.1 9 rfl, show (sI sc27 61 y27_8.toNatClampNeg z98).2.2.1 60 3 = s.2.2.1 60 3 from hFc27.2.2.1 60 3 rfl] at h9; exact h9)) c114 (by decide)
                have n118a : ASI s s111 := by exact asi_t g27_1 (asi_J p111b)
                exact g_ireturn (gd rfl) rfl (nb01 (in_w 0 1 (in_c 1 rfl) rfl)) (hP _ _ ⟨s111, hI111, (fr_tr rfl (fr_sI rfl hFc27) hF111), (Int32.ofInt 1), rfl, rfl, in_w 0 1 (in_c 1 rfl) rfl, n118, n118a⟩)
            · skip
              exact zn_ne c73 (in_c 0 rfl) rfl
        · skip
          have i46 := z_eq 0 0 c46 (i_rng z45) rfl
          refine g_iconst 1 50 (gd rfl) rfl rfl ?_
          refine g_goto 54 (gd rfl) rfl ?_
          refine g_istore 56 (gd rfl) rfl (Nat.le_of_ble_eq_true rfl) ?_
          refine g_aload_n 57 (gd rfl) rfl rfl ?_
          refine g_getA (q2 := 61) 60 (gd rfl) rfl rfl rfl rfl ?_
          refine g_iload 62 (gd rfl) rfl rfl ?_
          refine g_iaload 63 (gd rfl) rfl (n := 32) rfl (in_ix i33 rfl) (fun z62 e62 => ?_)
          have q62 : z42 = z62 := (e42).trans e62.symm
          subst q62
          refine g_aload_n 64 (gd rfl) rfl rfl ?_
          refine g_iload 66 (gd rfl) rfl rfl ?_
          refine g_iaload 67 (gd rfl) rfl (n := 32) rfl (in_ix j27_4 rfl) (fun z66 e66 => ?_)
          refine g_iand 68 (gd rfl) rfl (fun z67 e67 => ?_)
          refine g_if_ne 71 133 (gd rfl) rfl rfl (fun c68 => ?_) (fun c68 => ?_)
          · skip
            refine g_iinc 136 (gd rfl) rfl rfl (Nat.le_of_ble_eq_true rfl) (fun z133 e133 => ?_)
            have i133 := in_add 1 32 e133 i33 (in_c 1 rfl) rfl rfl
            refine g_goto 27 (gd rfl) rfl ?_
            have n27 : CEQL (s.1 61) (sc27.1 61) := by exact g27_0
            have n27a : ASI s sc27 := by exact g27_1
            have n27b : bt x2 (y27_4).toNatClampNeg = true := by exact g27_2
            have n27c : (y27_5) = Int32.ofInt 1 <<< ((y27_4) &&& 31) := by exact g27_3
            have n27d : BSX (s.1 9) x2 (y27_6) := by exact g27_4
            have n27e : FPI (s.1 9) (s.2.2.1 60 3).toInt (s.1 61) x2 (y27_4).toNatClampNeg (y27_6) (z133).toInt (y27_7).toInt := by exact fp_b g27_5 q_0.2.1 g27_2 g27_0 i33 e42 (e66.trans (congrFun (hFc27.1 9 rfl) _)) e67 c68 (by (first | have a0 := oa7 h3 i33a i33 j27_7 j27_4 ((in_c 1 rfl)) i133 | ((first | have a0 := in_u h3 | (have a0 := h3; unfold In at a0)); (first | have a1 := in_u i33a | (have a1 := i33a; unfold In at a1)); (first | have a2 := in_u i33 | (have a2 := i33; unfold In at a2)); (first | have a3 := in_u j27_7 | (have a3 := j27_7; unfold In at a3)); (first | have a4 := in_u j27_4 | (have a4 := j27_4; unfold In at a4)); (first | have a5 := in_u ((in_c 1 rfl)) | (have a5 := (in_c 1 rfl); unfold In at a5)); (first | have a6 := in_u i133 | (have a6 := i133; unfold In at a6)))); have a7 := t_add e133 i33 (in_c 1 rfl) rfl; have oc := ocf_mut9; omega)
            exact gg_w (by first | exact Nat.le_add_right _ _ | exact gw2 | exact gw3 | exact gwe rfl | exact gwf rfl | exact gwg rfl | exact gwh rfl | omega) (gg_f (gf_cons rfl (gf_cons rfl (gf_cons rfl (gf_cons rfl (gf_cons rfl (gf_cons rfl (gf_cons rfl (gf_cons rfl (gf_cons rfl gf_nil))))))))) (ih27 sc27 y27_4 y27_5 y27_6 y27_7 z133 hIc27 hFc27 (in_w 0 31 j27_4 rfl) (in_w 0 1 j27_7 rfl) (in_w 0 32 i133 rfl) n27 n27a n27b n27c n27d n27e (m_up mm27 (t_add e133 i33 (in_c 1 rfl) rfl) (in_w 1 1 (in_c 1 rfl) rfl))))
          · skip
            have i68 := z_eq 0 0 c68 (i_rng z67) rfl
            refine g_iload 73 (gd rfl) rfl rfl ?_
            refine g_if_eq 76 81 (gd rfl) rfl rfl (fun c73 => ?_) (fun c73 => ?_)
            · skip
              exact zn_eq c73 (in_c 1 rfl) rfl
            · skip
              refine g_iload 78 (gd rfl) rfl rfl ?_
              refine g_if_ne 81 133 (gd rfl) rfl rfl (fun c78 => ?_) (fun c78 => ?_)
              · skip
                have i78 := z_ne 1 1 c78 j27_7 rfl
                refine g_iinc 136 (gd rfl) rfl rfl (Nat.le_of_ble_eq_true rfl) (fun z133 e133 => ?_)
                have i133 := in_add 1 32 e133 i33 (in_c 1 rfl) rfl rfl
                refine g_goto 27 (gd rfl) rfl ?_
                have n27 : CEQL (s.1 61) (sc27.1 61) := by exact g27_0
                have n27a : ASI s sc27 := by exact g27_1
                have n27b : bt x2 (y27_4).toNatClampNeg = true := by exact g27_2
                have n27c : (y27_5) = Int32.ofInt 1 <<< ((y27_4) &&& 31) := by exact g27_3
                have n27d : BSX (s.1 9) x2 (y27_6) := by exact g27_4
                have n27e : FPI (s.1 9) (s.2.2.1 60 3).toInt (s.1 61) x2 (y27_4).toNatClampNeg (y27_6) (z133).toInt (y27_7).toInt := by exact fp_f g27_5 q_0.2.1 g27_2 g27_4 g27_0 i33 (by rw [← e_60_3]; (first | have a0 := oa7 h3 i33a i33 i78 j27_4 ((in_c 1 rfl)) i133 | ((first | have a0 := in_u h3 | (have a0 := h3; unfold In at a0)); (first | have a1 := in_u i33a | (have a1 := i33a; unfold In at a1)); (first | have a2 := in_u i33 | (have a2 := i33; unfold In at a2)); (first | have a3 := in_u i78 | (have a3 := i78; unfold In at a3)); (first | have a4 := in_u j27_4 | (have a4 := j27_4; unfold In at a4)); (first | have a5 := in_u ((in_c 1 rfl)) | (have a5 := (in_c 1 rfl); unfold In at a5)); (first | have a6 := in_u i133 | (have a6 := i133; unfold In at a6)))); have a7 := t_add e133 i33 (in_c 1 rfl) rfl; have oc := ocf_mut9; omega) e42 e45 c46 c78 (by (first | have a0 := oa7 h3 i33a i33 i78 j27_4 ((in_c 1 rfl)) i133 | ((first | have a0 := in_u h3 | (have a0 := h3; unfold In at a0)); (first | have a1 := in_u i33a | (have a1 := i33a; unfold In at a1)); (first | have a2 := in_u i33 | (have a2 := i33; unfold In at a2)); (first | have a3 := in_u i78 | (have a3 := i78; unfold In at a3)); (first | have a4 := in_u j27_4 | (have a4 := j27_4; unfold In at a4)); (first | have a5 := in_u ((in_c 1 rfl)) | (have a5 := (in_c 1 rfl); unfold In at a5)); (first | have a6 := in_u i133 | (have a6 := i133; unfold In at a6)))); have a7 := t_add e133 i33 (in_c 1 rfl) rfl; have oc := ocf_mut9; omega)
                exact gg_w (by first | exact Nat.le_add_right _ _ | exact gw2 | exact gw3 | exact gwe rfl | exact gwf rfl | exact gwg rfl | exact gwh rfl | omega) (gg_f (gf_cons rfl (gf_cons rfl (gf_cons rfl (gf_cons rfl (gf_cons rfl (gf_cons rfl (gf_cons rfl (gf_cons rfl (gf_cons rfl gf_nil))))))))) (ih27 sc27 y27_4 y27_5 y27_6 y27_7 z133 hIc27 hFc27 (in_w 0 31 j27_4 rfl) (in_w 0 1 i78 rfl) (in_w 0 32 i133 rfl) n27 n27a n27b n27c n27d n27e (m_up mm27 (t_add e133 i33 (in_c 1 rfl) rfl) (in_w 1 1 (in_c 1 rfl) rfl))))
              · skip
                have i78 := z_eq 0 0 c78 j27_7 rfl
                refine g_iload 83 (gd rfl) rfl rfl ?_
                refine g_iload 85 (gd rfl) rfl rfl ?_
                refine g_ior 86 (gd rfl) rfl (fun z85 e85 => ?_)
                have i85 := in_or 1 e85 (in_w 0 1 i78 rfl) (in_w 0 1 (in_c 1 rfl) rfl) rfl
                refine g_istore 88 (gd rfl) rfl (Nat.le_of_ble_eq_true rfl) ?_
                refine g_aload_n 89 (gd rfl) rfl rfl ?_
                refine g_getA (q2 := 61) 92 (gd rfl) rfl rfl rfl rfl ?_
                refine g_iload 94 (gd rfl) rfl rfl ?_
                refine g_dup2 95 (gd rfl) rfl rfl rfl ?_
                refine g_iaload 96 (gd rfl) rfl (n := 32) rfl (in_ix i33 rfl) (fun z95 e95 => ?_)
                have q95 : z42 = z95 := (e42).trans e95.symm
                subst q95
                refine g_iload 98 (gd rfl) rfl rfl ?_
                refine g_ior 99 (gd rfl) rfl (fun z98 e98 => ?_)
                refine g_iastore 100 (gd rfl) rfl (n := 32) rfl (in_ix i33 rfl) ?_
                have hI99 := inv_sI (q := 61) (j := y27_8.toNatClampNeg) hIc27 rfl (in_w (-2147483648) 2147483647 (i_rng z98) rfl)
                refine g_aload_n 101 (gd rfl) rfl rfl ?_
                refine g_aload_n 102 (gd rfl) rfl rfl ?_
                refine g_iload_n 103 (gd rfl) rfl rfl ?_
                refine g_iload 105 (gd rfl) rfl rfl ?_
                refine g_iconst (-1) 106 (gd rfl) rfl rfl ?_
                refine g_ixor 107 (gd rfl) rfl (fun z106 e106 => ?_)
                refine g_iand 108 (gd rfl) rfl (fun z107 e107 => ?_)
                refine g_iload_n 109 (gd rfl) rfl rfl ?_
                refine g_iconst 1 110 (gd rfl) rfl rfl ?_
                refine g_iadd 111 (gd rfl) rfl (fun z110 e110 => ?_)
                have i110 := in_add 1 33 e110 h3 (in_c 1 rfl) rfl rfl
                have p111 : FLX ((sI sc27 61 y27_8.toNatClampNeg z98).1 9) (sI sc27 61 y27_8.toNatClampNeg z98) z107 (z110).toInt := by rw [sI_p (show Nat.beq 9 61 = false from rfl), hFc27.1 9 rfl]; exact (fp_x q_0 g27_0 g27_1 (hFc27.2.2.1 60 3 rfl) g27_2 j27_4 i33 (by rw [← e_60_3]; (first | have a0 := oa8 h3 i33a i33 i78 j27_4 ((in_c 1 rfl)) i85 i110 | ((first | have a0 := in_u h3 | (have a0 := h3; unfold In at a0)); (first | have a1 := in_u i33a | (have a1 := i33a; unfold In at a1)); (first | have a2 := in_u i33 | (have a2 := i33; unfold In at a2)); (first | have a3 := in_u i78 | (have a3 := i78; unfold In at a3)); (first | have a4 := in_u j27_4 | (have a4 := j27_4; unfold In at a4)); (first | have a5 := in_u ((in_c 1 rfl)) | (have a5 := (in_c 1 rfl); unfold In at a5)); (first | have a6 := in_u i85 | (have a6 := i85; unfold In at a6)); (first | have a7 := in_u i110 | (have a7 := i110; unfold In at a7)))); have a8 := t_add e110 h3 (in_c 1 rfl) rfl; have oc := ocf_mut9; omega) g27_3 e42 (e66.trans (congrFun (hFc27.1 9 rfl) _)) e67 c68 e98 e106 e107 (show (z110).toInt = (x3).toInt + 1 from (by (first | have a0 := oa8 h3 i33a i33 i78 j27_4 ((in_c 1 rfl)) i85 i110 | ((first | have a0 := in_u h3 | (have a0 := h3; unfold In at a0)); (first | have a1 := in_u i33a | (have a1 := i33a; unfold In at a1)); (first | have a2 := in_u i33 | (have a2 := i33; unfold In at a2)); (first | have a3 := in_u i78 | (have a3 := i78; unfold In at a3)); (first | have a4 := in_u j27_4 | (have a4 := j27_4; unfold In at a4)); (first | have a5 := in_u ((in_c 1 rfl)) | (have a5 := (in_c 1 rfl); unfold In at a5)); (first | have a6 := in_u i85 | (have a6 := i85; unfold In at a6)); (first | have a7 := in_u i110 | (have a7 := i110; unfold In at a7)))); have a8 := t_add e110 h3 (in_c 1 rfl) rfl; have oc := ocf_mut9; omega))).1
                have n111 : 33 - (z110).toInt < ((kk : Nat) : Int) := by (first | have a0 := oa8 h3 i33a i33 i78 j27_4 ((in_c 1 rfl)) i85 i110 | ((first | have a0 := in_u h3 | (have a0 := h3; unfold In at a0)); (first | have a1 := in_u i33a | (have a1 := i33a; unfold In at a1)); (first | have a2 := in_u i33 | (have a2 := i33; unfold In at a2)); (first | have a3 := in_u i78 | (have a3 := i78; unfold In at a3)); (first | have a4 := in_u j27_4 | (have a4 := j27_4; unfold In at a4)); (first | have a5 := in_u ((in_c 1 rfl)) | (have a5 := (in_c 1 rfl); unfold In at a5)); (first | have a6 := in_u i85 | (have a6 := i85; unfold In at a6)); (first | have a7 := in_u i110 | (have a7 := i110; unfold In at a7)))); have a8 := t_add e110 h3 (in_c 1 rfl) rfl; have oc := ocf_mut9; omega
                refine g_callv (X := _) (As := [.ref (A 9), .int z107, .int z110]) (r := []) (b := A 60) (q := 60) 114 (gd rfl) rfl rfl rfl rfl rfl (ww_o rfl) (Nat.le_of_ble_eq_true rfl) (Nat.zero_le _) (Nat.zero_le _) (ihF (by omega) hI99 (in_w 0 33 i110 rfl) p111 n111) (fun e u h => h) (fun v u h => ?_)
                obtain ⟨s111, hI111, hF111, z111, rfl, rfl, i111, p111a, p111b⟩ := h
                show GG _ _ _ _ _ _ _ _ [.int z111] _ _ _
                refine g_if_eq 117 119 (gd rfl) rfl rfl (fun c114 => ?_) (fun c114 => ?_)
                · skip
                  have i114 := z_eq 0 0 c114 i111 rfl
                  refine g_aload_n 120 (gd rfl) rfl rfl ?_
                  refine g_getA (q2 := 61) 123 (gd rfl) rfl rfl rfl rfl ?_
                  refine g_iload 125 (gd rfl) rfl rfl ?_
                  refine g_dup2 126 (gd rfl) rfl rfl rfl ?_
                  refine g_iaload 127 (gd rfl) rfl (n := 32) rfl (in_ix i33 rfl) (fun z126 e126 => ?_)
                  refine g_iload 129 (gd rfl) rfl rfl ?_
                  refine g_iconst (-1) 130 (gd rfl) rfl rfl ?_
                  refine g_ixor 131 (gd rfl) rfl (fun z130 e130 => ?_)
                  refine g_iand 132 (gd rfl) rfl (fun z131 e131 => ?_)
                  refine g_iastore 133 (gd rfl) rfl (n := 32) rfl (in_ix i33 rfl) ?_
                  have hI132 := inv_sI (q := 61) (j := y27_8.toNatClampNeg) hI111 rfl (in_w (-2147483648) 2147483647 (i_rng z131) rfl)
                  refine g_iinc 136 (gd rfl) rfl rfl (Nat.le_of_ble_eq_true rfl) (fun z133 e133 => ?_)
                  have i133 := in_add 1 32 e133 i33 (in_c 1 rfl) rfl rfl
                  refine g_goto 27 (gd rfl) rfl ?_
                  have n27 : CEQL (s.1 61) ((sI s111 61 y27_8.toNatClampNeg z131).1 61) := by exact (fp_t (z85 := z85) q_0 g27_5 g27_0 (fp_x q_0 g27_0 g27_1 (hFc27.2.2.1 60 3 rfl) g27_2 j27_4 i33 (by rw [← e_60_3]; (first | have a0 := oa7 h3 i33a i33 i78 j27_4 ((in_c 1 rfl)) i133 | ((first | have a0 := in_u h3 | (have a0 := h3; unfold In at a0)); (first | have a1 := in_u i33a | (have a1 := i33a; unfold In at a1)); (first | have a2 := in_u i33 | (have a2 := i33; unfold In at a2)); (first | have a3 := in_u i78 | (have a3 := i78; unfold In at a3)); (first | have a4 := in_u j27_4 | (have a4 := j27_4; unfold In at a4)); (first | have a5 := in_u ((in_c 1 rfl)) | (have a5 := (in_c 1 rfl); unfold In at a5)); (first | have a6 := in_u i133 | (have a6 := i133; unfold In at a6)))); have a7 := t_add e133 i33 (in_c 1 rfl) rfl; (first | have a8 := oa2 i85 i110 | ((first | have a8 := in_u i85 | (have a8 := i85; unfold In at a8)); (first | have a9 := in_u i110 | (have a9 := i110; unfold In at a9)))); have a10 := t_add e110 h3 (in_c 1 rfl) rfl; have oc := ocf_mut9; omega) g27_3 e42 (e66.trans (congrFun (hFc27.1 9 rfl) _)) e67 c68 e98 e106 e107 (show (z110).toInt = (x3).toInt + 1 from (by (first | have a0 := oa7 h3 i33a i33 i78 j27_4 ((in_c 1 rfl)) i133 | ((first | have a0 := in_u h3 | (have a0 := h3; unfold In at a0)); (first | have a1 := in_u i33a | (have a1 := i33a; unfold In at a1)); (first | have a2 := in_u i33 | (have a2 := i33; unfold In at a2)); (first | have a3 := in_u i78 | (have a3 := i78; unfold In at a3)); (first | have a4 := in_u j27_4 | (have a4 := j27_4; unfold In at a4)); (first | have a5 := in_u ((in_c 1 rfl)) | (have a5 := (in_c 1 rfl); unfold In at a5)); (first | have a6 := in_u i133 | (have a6 := i133; unfold In at a6)))); have a7 := t_add e133 i33 (in_c 1 rfl) rfl; (first | have a8 := oa2 i85 i110 | ((first | have a8 := in_u i85 | (have a8 := i85; unfold In at a8)); (first | have a9 := in_u i110 | (have a9 := i110; unfold In at a9)))); have a10 := t_add e110 h3 (in_c 1 rfl) rfl; have oc := ocf_mut9; omega))).2 g27_2 j27_4 i33 g27_3 e42 e98 e106 e107 (show FRE (s.1 9) (s.2.2.1 60 3).toInt z107 (upd (sc27.1 61) y27_8.toNatClampNeg z98) (s111.1 61) (z111).toInt from (by have h9 := p111a; rw [sI_p (show Nat.beq 9 61 = false from rfl), sI_q, hFc27.1 9 rfl, show (sI sc27 61 y27_8.toNatClampNeg z98).2.2.1 60 3 = s.2.2.1 60 3 from hFc27.2.2.1 60 3 rfl] at h9; exact h9)) c114 e126 e130 e131 (show (z133).toInt = (y27_8).toInt + 1 from (by (first | have a0 := oa7 h3 i33a i33 i78 j27_4 ((in_c 1 rfl)) i133 | ((first | have a0 := in_u h3 | (have a0 := h3; unfold In at a0)); (first | have a1 := in_u i33a | (have a1 := i33a; unfold In at a1)); (first | have a2 := in_u i33 | (have a2 := i33; unfold In at a2)); (first | have a3 := in_u i78 | (have a3 := i78; unfold In at a3)); (first | have a4 := in_u j27_4 | (have a4 := j27_4; unfold In at a4)); (first | have a5 := in_u ((in_c 1 rfl)) | (have a5 := (in_c 1 rfl); unfold In at a5)); (first | have a6 := in_u i133 | (have a6 := i133; unfold In at a6)))); have a7 := t_add e133 i33 (in_c 1 rfl) rfl; (first | have a8 := oa2 i85 i110 | ((first | have a8 := in_u i85 | (have a8 := i85; unfold In at a8)); (first | have a9 := in_u i110 | (have a9 := i110; unfold In at a9)))); have a10 := t_add e110 h3 (in_c 1 rfl) rfl; have oc := ocf_mut9; omega)) (fun _ => Or.inr (fr_sh g27_0 i33 e42 e45 c46))).1
                  have n27a : ASI s (sI s111 61 y27_8.toNatClampNeg z131) := by exact asi_I (asi_t g27_1 (asi_J p111b))
                  have n27b : bt x2 (y27_4).toNatClampNeg = true := by exact g27_2
                  have n27c : (y27_5) = Int32.ofInt 1 <<< ((y27_4) &&& 31) := by exact g27_3
                  have n27d : BSX (s.1 9) x2 (y27_6) := by exact g27_4
                  have n27e : FPI (s.1 9) (s.2.2.1 60 3).toInt (s.1 61) x2 (y27_4).toNatClampNeg (y27_6) (z133).toInt (z85).toInt := by exact (fp_t (z85 := z85) q_0 g27_5 g27_0 (fp_x q_0 g27_0 g27_1 (hFc27.2.2.1 60 3 rfl) g27_2 j27_4 i33 (by rw [← e_60_3]; (first | have a0 := oa7 h3 i33a i33 i78 j27_4 ((in_c 1 rfl)) i133 | ((first | have a0 := in_u h3 | (have a0 := h3; unfold In at a0)); (first | have a1 := in_u i33a | (have a1 := i33a; unfold In at a1)); (first | have a2 := in_u i33 | (have a2 := i33; unfold In at a2)); (first | have a3 := in_u i78 | (have a3 := i78; unfold In at a3)); (first | have a4 := in_u j27_4 | (have a4 := j27_4; unfold In at a4)); (first | have a5 := in_u ((in_c 1 rfl)) | (have a5 := (in_c 1 rfl); unfold In at a5)); (first | have a6 := in_u i133 | (have a6 := i133; unfold In at a6)))); have a7 := t_add e133 i33 (in_c 1 rfl) rfl; (first | have a8 := oa2 i85 i110 | ((first | have a8 := in_u i85 | (have a8 := i85; unfold In at a8)); (first | have a9 := in_u i110 | (have a9 := i110; unfold In at a9)))); have a10 := t_add e110 h3 (in_c 1 rfl) rfl; have oc := ocf_mut9; omega) g27_3 e42 (e66.trans (congrFun (hFc27.1 9 rfl) _)) e67 c68 e98 e106 e107 (show (z110).toInt = (x3).toInt + 1 from (by (first | have a0 := oa7 h3 i33a i33 i78 j27_4 ((in_c 1 rfl)) i133 | ((first | have a0 := in_u h3 | (have a0 := h3; unfold In at a0)); (first | have a1 := in_u i33a | (have a1 := i33a; unfold In at a1)); (first | have a2 := in_u i33 | (have a2 := i33; unfold In at a2)); (first | have a3 := in_u i78 | (have a3 := i78; unfold In at a3)); (first | have a4 := in_u j27_4 | (have a4 := j27_4; unfold In at a4)); (first | have a5 := in_u ((in_c 1 rfl)) | (have a5 := (in_c 1 rfl); unfold In at a5)); (first | have a6 := in_u i133 | (have a6 := i133; unfold In at a6)))); have a7 := t_add e133 i33 (in_c 1 rfl) rfl; (first | have a8 := oa2 i85 i110 | ((first | have a8 := in_u i85 | (have a8 := i85; unfold In at a8)); (first | have a9 := in_u i110 | (have a9 := i110; unfold In at a9)))); have a10 := t_add e110 h3 (in_c 1 rfl) rfl; have oc := ocf_mut9; omega))).2 g27_2 j27_4 i33 g27_3 e42 e98 e106 e107 (show FRE (s.1 9) (s.2.2.1 60 3).toInt z107 (upd (sc27.1 61) y27_8.toNatClampNeg z98) (s111.1 61) (z111).toInt from (by have h9 := p111a; rw [sI_p (show Nat.beq 9 61 = false from rfl), sI_q, hFc27.1 9 rfl, show (sI sc27 61 y27_8.toNatClampNeg z98).2.2.1 60 3 = s.2.2.1 60 3 from hFc27.2.2.1 60 3 rfl] at h9; exact h9)) c114 e126 e130 e131 (show (z133).toInt = (y27_8).toInt + 1 from (by (first | have a0 := oa7 h3 i33a i33 i78 j27_4 ((in_c 1 rfl)) i133 | ((first | have a0 := in_u h3 | (have a0 := h3; unfold In at a0)); (first | have a1 := in_u i33a | (have a1 := i33a; unfold In at a1)); (first | have a2 := in_u i33 | (have a2 := i33; unfold In at a2)); (first | have a3 := in_u i78 | (have a3 := i78; unfold In at a3)); (first | have a4 := in_u j27_4 | (have a4 := j27_4; unfold In at a4)); (first | have a5 := in_u ((in_c 1 rfl)) | (have a5 := (in_c 1 rfl); unfold In at a5)); (first | have a6 := in_u i133 | (have a6 := i133; unfold In at a6)))); have a7 := t_add e133 i33 (in_c 1 rfl) rfl; (first | have a8 := oa2 i85 i110 | ((first | have a8 := in_u i85 | (have a8 := i85; unfold In at a8)); (first | have a9 := in_u i110 | (have a9 := i110; unfold In at a9)))); have a10 := t_add e110 h3 (in_c 1 rfl) rfl; have oc := ocf_mut9; omega)) (fun _ => Or.inr (fr_sh g27_0 i33 e42 e45 c46))).2
                  exact gg_w (by first | exact Nat.le_add_right _ _ | exact gw2 | exact gw3 | exact gwe rfl | exact gwf rfl | exact gwg rfl | exact gwh rfl | omega) (gg_f (gf_cons rfl (gf_cons rfl (gf_cons rfl (gf_cons rfl (gf_cons rfl (gf_cons rfl (gf_cons rfl (gf_cons rfl (gf_cons rfl gf_nil))))))))) (ih27 (sI s111 61 y27_8.toNatClampNeg z131) y27_4 y27_5 y27_6 z85 z133 hI132 (fr_sI rfl (fr_tr rfl (fr_sI rfl hFc27) hF111)) (in_w 0 31 j27_4 rfl) (in_w 0 1 i85 rfl) (in_w 0 32 i133 rfl) n27 n27a n27b n27c n27d n27e (m_up mm27 (t_add e133 i33 (in_c 1 rfl) rfl) (in_w 1 1 (in_c 1 rfl) rfl))))
                · skip
                  have i114 := z_ne 1 1 c114 i111 rfl
                  refine g_iconst 1 118 (gd rfl) rfl rfl ?_
                  have n118 : FRE (s.1 9) (s.2.2.1 60 3).toInt x2 (s.1 61) ((s111).1 61) ((Int32.ofInt 1)).toInt := by exact fp_y g27_0 g27_2 j27_4 i33 g27_3 e42 e98 e106 e107 (show FRE (s.1 9) (s.2.2.1 60 3).toInt z107 (upd (sc27.1 61) y27_8.toNatClampNeg z98) (s111.1 61) (z111).toInt from (by have h9 := p111a; rw [sI_p (show Nat.beq 9 61 = false from rfl), sI_q, hFc27.1 9 rfl, show (sI sc27 61 y27_8.toNatClampNeg z98).2.2.1 60 3 = s.2.2.1 60 3 from hFc27.2.2.1 60 3 rfl] at h9; exact h9)) c114 (by decide)
                  have n118a : ASI s s111 := by exact asi_t g27_1 (asi_J p111b)
                  exact g_ireturn (gd rfl) rfl (nb01 (in_w 0 1 (in_c 1 rfl) rfl)) (hP _ _ ⟨s111, hI111, (fr_tr rfl (fr_sI rfl hFc27) hF111), (Int32.ofInt 1), rfl, rfl, in_w 0 1 (in_c 1 rfl) rfl, n118, n118a⟩)
  refine g_enter2 (k := 47) (N := 30601) (by first | exact dq1 hd rfl | exact dq0 hd rfl | exact dq2 hd rfl | exact dq3 hd rfl | omega) rfl (Nat.le_of_ble_eq_true rfl) ?_
  refine g_aload_n 1 (gd rfl) rfl rfl ?_
  refine g_aload_n 2 (gd rfl) rfl rfl ?_
  refine g_iload_n 3 (gd rfl) rfl rfl ?_
  refine g_callv (X := _) (As := [.ref (A 9), .int x2]) (r := []) (b := A 60) (q := 60) 6 (gd rfl) rfl rfl rfl rfl rfl (ww_o rfl) (Nat.le_of_ble_eq_true rfl) (Nat.zero_le _) (Nat.zero_le _) (f_52_60_9 (by first | exact dq1 hd rfl | exact dq0 hd rfl | exact dq2 hd rfl | exact dq3 hd rfl | omega) hI nza_2) (fun e u h => h) (fun v u h => ?_)
  obtain ⟨z3, rfl, rfl, i3, p3⟩ := h
  show GG _ _ _ _ _ _ _ _ [.int z3] _ _ _
  refine g_istore 8 (gd rfl) rfl (Nat.le_of_ble_eq_true rfl) ?_
  refine g_iconst 1 9 (gd rfl) rfl rfl ?_
  refine g_iload 11 (gd rfl) rfl rfl ?_
  refine g_ishl 12 (gd rfl) rfl (fun z11 e11 => ?_)
  refine g_istore 14 (gd rfl) rfl (Nat.le_of_ble_eq_true rfl) ?_
  refine g_aload_n 15 (gd rfl) rfl rfl ?_
  refine g_iload_n 16 (gd rfl) rfl rfl ?_
  refine g_calls (As := [.ref (A 9), .int x2]) (r := []) 19 (gd rfl) rfl rfl rfl rfl rfl (Nat.le_of_ble_eq_true rfl) (Nat.zero_le _) (Nat.zero_le _) (f_48_9 (by first | exact dq1 hd rfl | exact dq0 hd rfl | exact dq2 hd rfl | exact dq3 hd rfl | omega) hI ) (fun v u h => ?_)
  obtain ⟨z16, rfl, rfl, i16, p16⟩ := h
  show GG _ _ _ _ _ _ _ _ [.int z16] _ _ _
  refine g_istore 21 (gd rfl) rfl (Nat.le_of_ble_eq_true rfl) ?_
  refine g_iconst 0 22 (gd rfl) rfl rfl ?_
  refine g_istore 24 (gd rfl) rfl (Nat.le_of_ble_eq_true rfl) ?_
  refine g_iconst 0 25 (gd rfl) rfl rfl ?_
  refine g_istore 27 (gd rfl) rfl (Nat.le_of_ble_eq_true rfl) ?_
  have n27 : CEQL (s.1 61) (s.1 61) := by exact cle_r
  have n27a : ASI s s := by exact asi_r
  have n27b : bt x2 (z3).toNatClampNeg = true := by exact p3
  have n27c : (z11) = Int32.ofInt 1 <<< ((z3) &&& 31) := by exact e11
  have n27d : BSX (s.1 9) x2 (z16) := by exact p16
  have n27e : FPI (s.1 9) (s.2.2.1 60 3).toInt (s.1 61) x2 (z3).toNatClampNeg (z16) ((Int32.ofInt 0)).toInt ((Int32.ofInt 0)).toInt := by exact (show FPI _ _ _ _ _ _ 0 0 from fpi_0 p3)
  exact gg_w (by first | exact Nat.le_of_ble_eq_true rfl | omega) (gg_f (gf_cons rfl (gf_cons rfl (gf_cons rfl (gf_cons rfl (gf_cons rfl (gf_cons rfl (gf_cons rfl (gf_cons rfl (gf_cons rfl gf_nil))))))))) (ct27 33 s z3 z11 z16 (Int32.ofInt 0) (Int32.ofInt 0) hI fr_rf (in_w 0 31 i3 rfl) (in_w 0 1 (in_c 0 rfl) rfl) (in_w 0 32 (in_c 0 rfl) rfl) n27 n27a n27b n27c n27d n27e (m_in 33 (in_w 0 32 (in_c 0 rfl) rfl) rfl)))
set_option maxHeartbeats 2000000 in
theorem f_46_60_9_r {Z : AmZ} {A : Nat → Nat} {ex : va_W} (kk : Nat) : ∀ {s : GS} {d : Nat} {X : AmX} {x2 : Int32} {x3 : Int32}, 40 + kk * 10 ≤ d → Inv s → (In x3 0 33) → (FLX (s.1 9) s x2 (x3).toInt) → 33 - (x3).toInt < ((kk : Nat) : Int) → GC Z d 46 [.ref (A 60), .ref (A 9), .int x2, .int x3] (WW Z A s ++ ex) 0 0 (fun v u => ∃ t : GS, Inv t ∧ Fr fm_46_60_9 s t ∧ ∃ z : Int32, v = some (.int z) ∧ u = WW Z A t ++ ex ∧ In z 0 1 ∧ (FRE (s.1 9) (s.2.2.1 60 3).toInt x2 (s.1 61) ((t).1 61) (z).toInt) ∧ (ASI s t)) X := by
  induction kk with
  | zero => intro s d X x2 x3 hd hI h3 q_0 hm; exact m_no hm h3 rfl
  | succ kk ih =>
    have ihP : ∀ {s : GS} {d : Nat} {X : AmX} {x2 : Int32} {x3 : Int32}, 45 + kk * 10 ≤ d → Inv s → (In x3 0 32) → (x2.toInt ≠ 0) → (FLX (s.1 9) s x2 (x3).toInt) → 33 - (x3).toInt < ((kk + 1 : Nat) : Int) → GC Z d 47 [.ref (A 60), .ref (A 9), .int x2, .int x3] (WW Z A s ++ ex) 0 0 (fun v u => ∃ t : GS, Inv t ∧ Fr fm_47_60_9 s t ∧ ∃ z : Int32, v = some (.int z) ∧ u = WW Z A t ++ ex ∧ In z 0 1 ∧ (FRE (s.1 9) (s.2.2.1 60 3).toInt x2 (s.1 61) ((t).1 61) (z).toInt) ∧ (ASI s t)) X := f_47_60_9_r kk ih
    intro s d X x2 x3 hd hI h3 q_0 hm
    intro post xp hP hX
    obtain ⟨u_60_3, e_60_3⟩ : ∃ w, w = s.2.2.1 60 3 := ⟨_, rfl⟩
    have ro_60_3 := inv_F hI 0 32 rfl e_60_3
    have ct65 : ∀ (k65 : Nat) (sc65 : GS) (y65_4 : Int32) (y65_5 : Int32) (y65_6 : Int32) (y65_7 : Int32) (y65_8 : Int32), Inv sc65 → Fr fm_46_60_9 s sc65 → (In x3 0 32) → (In y65_4 0 32) → (In y65_6 0 31) → (In y65_8 0 32) → ((y65_5).toInt ≠ 0) → (F65 (s.1 9) s sc65 x2 (y65_8).toInt) → ((y65_4) = s.2.2.1 60 7) → 32 - (y65_8).toInt < (k65 : Int) → GG Z (d - 1) 46 post (gx xp) (1 + k65 * 900) 65 (fun j => xlook j [(0, .ref (A 60)), (1, .ref (A 9)), (2, .int x2), (3, .int x3), (4, .int y65_4), (5, .int y65_5), (6, .int y65_6), (7, .int y65_7), (8, .int y65_8)]) [] (WW Z A sc65 ++ ex) 0 0 := by
      intro k65
      induction k65 with
      | zero => intro sc65 y65_4 y65_5 y65_6 y65_7 y65_8 hIc65 hFc65 j65_3 j65_4 j65_6 j65_8 nz65_5 g65_0 g65_1 mm65; exact m_no mm65 j65_8 rfl
      | succ k65 ih65 =>
        intro sc65 y65_4 y65_5 y65_6 y65_7 y65_8 hIc65 hFc65 j65_3 j65_4 j65_6 j65_8 nz65_5 g65_0 g65_1 mm65
        refine gg_w (M := 1 + k65 * 900 + 900) gws ?_
        refine g_iload 67 (gd rfl) rfl rfl ?_
        refine g_aload_n 68 (gd rfl) rfl rfl ?_
        refine g_getI 71 (gd rfl) rfl rfl rfl (fun z68 e68 => ?_)
        have q68 : u_60_3 = z68 := (fr_F e_60_3 hFc65 rfl).trans e68.symm
        subst q68
        refine g_cmp_ge 74 93 (gd rfl) rfl rfl (fun c71 => ?_) (fun c71 => ?_)
        · skip
          refine g_aload_n 94 (gd rfl) rfl rfl ?_
          refine g_iload 96 (gd rfl) rfl rfl ?_
          refine g_putI 99 (gd rfl) rfl rfl rfl rfl ?_
          have hI96 := inv_sF (q := 60) (j := 7) hIc65 rfl (in_w 0 32 j65_4 rfl)
          refine g_iconst 0 100 (gd rfl) rfl rfl ?_
          have n100 : FRE (s.1 9) (s.2.2.1 60 3).toInt x2 (s.1 61) (((sF sc65 60 7 y65_4)).1 61) ((Int32.ofInt 0)).toInt := by exact (f65_e g65_0 q_0 (by rw [← e_60_3]; (first | have a0 := oa5 j65_3 ro_60_3 j65_8 j65_6 j65_4 | ((first | have a0 := in_u j65_3 | (have a0 := j65_3; unfold In at a0)); (first | have a1 := in_u ro_60_3 | (have a1 := ro_60_3; unfold In at a1)); (first | have a2 := in_u j65_8 | (have a2 := j65_8; unfold In at a2)); (first | have a3 := in_u j65_6 | (have a3 := j65_6; unfold In at a3)); (first | have a4 := in_u j65_4 | (have a4 := j65_4; unfold In at a4)))); have oc := ocf_mut9; omega) g65_1 (show (Int32.ofInt 0).toInt = 0 from rfl)).1
          have n100a : ASI s (sF sc65 60 7 y65_4) := by exact (f65_e g65_0 q_0 (by rw [← e_60_3]; (first | have a0 := oa5 j65_3 ro_60_3 j65_8 j65_6 j65_4 | ((first | have a0 := in_u j65_3 | (have a0 := j65_3; unfold In at a0)); (first | have a1 := in_u ro_60_3 | (have a1 := ro_60_3; unfold In at a1)); (first | have a2 := in_u j65_8 | (have a2 := j65_8; unfold In at a2)); (first | have a3 := in_u j65_6 | (have a3 := j65_6; unfold In at a3)); (first | have a4 := in_u j65_4 | (have a4 := j65_4; unfold In at a4)))); have oc := ocf_mut9; omega) g65_1 (show (Int32.ofInt 0).toInt = 0 from rfl)).2
          exact g_ireturn (gd rfl) rfl (nb01 (in_w 0 1 (in_c 0 rfl) rfl)) (hP _ _ ⟨(sF sc65 60 7 y65_4), hI96, (fr_sF rfl hFc65), (Int32.ofInt 0), rfl, rfl, in_w 0 1 (in_c 0 rfl) rfl, n100, n100a⟩)
        · skip
          have i71 := r_lt1 0 31 c71 j65_8 ro_60_3 rfl
          have i71a := r_lt2 1 32 c71 j65_8 ro_60_3 rfl
          refine g_aload_n 75 (gd rfl) rfl rfl ?_
          refine g_getA (q2 := 61) 78 (gd rfl) rfl rfl rfl rfl ?_
          refine g_iload 80 (gd rfl) rfl rfl ?_
          refine g_dup2 81 (gd rfl) rfl rfl rfl ?_
          refine g_iaload 82 (gd rfl) rfl (n := 32) rfl (in_ix i71 rfl) (fun z81 e81 => ?_)
          refine g_iload_n 83 (gd rfl) rfl rfl ?_
          refine g_iconst (-1) 84 (gd rfl) rfl rfl ?_
          refine g_ixor 85 (gd rfl) rfl (fun z84 e84 => ?_)
          refine g_iand 86 (gd rfl) rfl (fun z85 e85 => ?_)
          refine g_iastore 87 (gd rfl) rfl (n := 32) rfl (in_ix i71 rfl) ?_
          have hI86 := inv_sI (q := 61) (j := y65_8.toNatClampNeg) hIc65 rfl (in_w (-2147483648) 2147483647 (i_rng z85) rfl)
          refine g_iinc 90 (gd rfl) rfl rfl (Nat.le_of_ble_eq_true rfl) (fun z87 e87 => ?_)
          have i87 := in_add 1 32 e87 i71 (in_c 1 rfl) rfl rfl
          refine g_goto 65 (gd rfl) rfl ?_
          have n65 : F65 (s.1 9) s (sI sc65 61 y65_8.toNatClampNeg z85) x2 (z87).toInt := by exact f65_s g65_0 q_0 i71 e81 e84 e85 (by (first | have a0 := oa6 j65_3 i71a i71 j65_6 j65_4 i87 | ((first | have a0 := in_u j65_3 | (have a0 := j65_3; unfold In at a0)); (first | have a1 := in_u i71a | (have a1 := i71a; unfold In at a1)); (first | have a2 := in_u i71 | (have a2 := i71; unfold In at a2)); (first | have a3 := in_u j65_6 | (have a3 := j65_6; unfold In at a3)); (first | have a4 := in_u j65_4 | (have a4 := j65_4; unfold In at a4)); (first | have a5 := in_u i87 | (have a5 := i87; unfold In at a5)))); have a6 := t_add e87 i71 (in_c 1 rfl) rfl; (first | have a7 := in_u ((in_c 1 rfl)) | (have a7 := (in_c 1 rfl); unfold In at a7)); have oc := ocf_mut9; omega)
          have n65a : (y65_4) = s.2.2.1 60 7 := by exact g65_1
          exact gg_w (by first | exact Nat.le_add_right _ _ | exact gw2 | exact gw3 | exact gwe rfl | exact gwf rfl | exact gwg rfl | exact gwh rfl | omega) (gg_f (gf_cons rfl (gf_cons rfl (gf_cons rfl (gf_cons rfl (gf_cons rfl (gf_cons rfl (gf_cons rfl (gf_cons rfl (gf_cons rfl gf_nil))))))))) (ih65 (sI sc65 61 y65_8.toNatClampNeg z85) y65_4 y65_5 y65_6 y65_7 z87 hI86 (fr_sI rfl hFc65) (in_w 0 32 j65_3 rfl) (in_w 0 32 j65_4 rfl) (in_w 0 31 j65_6 rfl) (in_w 0 32 i87 rfl) nz65_5 n65 n65a (m_up mm65 (t_add e87 i71 (in_c 1 rfl) rfl) (in_w 1 1 (in_c 1 rfl) rfl))))
    have ct25 : ∀ (k25 : Nat) (sc25 : GS) (y25_4 : Int32) (y25_5 : Int32) (y25_6 : Int32), Inv sc25 → Fr fm_46_60_9 s sc25 → (In x3 0 32) → (In y25_4 0 32) → (In y25_6 0 32) → (FJ (s.1 9) s sc25 x2 (y25_5)) → ((y25_6).toInt + (cb (y25_5) : Int) ≤ 32) → ((y25_4) = s.2.2.1 60 7) → 32 - (y25_6).toInt < (k25 : Int) → GG Z (d - 1) 46 post (gx xp) (29702 + k25 * 900) 25 (fun j => xlook j [(0, .ref (A 60)), (1, .ref (A 9)), (2, .int x2), (3, .int x3), (4, .int y25_4), (5, .int y25_5), (6, .int y25_6)]) [] (WW Z A sc25 ++ ex) 0 0 := by
      intro k25
      induction k25 with
      | zero => intro sc25 y25_4 y25_5 y25_6 hIc25 hFc25 j25_3 j25_4 j25_6 g25_0 g25_1 g25_2 mm25; exact m_no mm25 j25_6 rfl
      | succ k25 ih25 =>
        intro sc25 y25_4 y25_5 y25_6 hIc25 hFc25 j25_3 j25_4 j25_6 g25_0 g25_1 g25_2 mm25
        refine gg_w (M := 29702 + k25 * 900 + 900) gws ?_
        refine g_iload 27 (gd rfl) rfl rfl ?_
        refine g_bipush 32 29 (gd rfl) rfl rfl ?_
        refine g_cmp_ge 32 116 (gd rfl) rfl rfl (fun c29 => ?_) (fun c29 => ?_)
        · skip
          have i29 := r_le2 32 32 c29 (in_c 32 rfl) j25_6 rfl
          refine g_aload_n 117 (gd rfl) rfl rfl ?_
          refine g_aload_n 118 (gd rfl) rfl rfl ?_
          refine g_iload 120 (gd rfl) rfl rfl ?_
          have p120 : SYR (sc25.1 9) := by rw [hFc25.1 9 rfl]; exact q_0.1
          have p120a : (y25_4).toInt ≤ (sc25.2.2.1 60 7).toInt := by obtain ⟨n9, h9, -⟩ := g25_0; rw [g25_2]; omega
          refine g_callv (X := _) (As := [.ref (A 9), .int y25_4]) (r := []) (b := A 60) (q := 60) 123 (gd rfl) rfl rfl rfl rfl rfl (ww_o rfl) (Nat.le_of_ble_eq_true rfl) (Nat.zero_le _) (Nat.zero_le _) (f_50_60_9 (by first | exact dq1 hd rfl | exact dq0 hd rfl | exact dq2 hd rfl | exact dq3 hd rfl | omega) hIc25 (in_w 0 32 j25_4 rfl) p120 p120a) (fun e u h => h) (fun v u h => ?_)
          obtain ⟨s120, hI120, hF120, rfl, rfl, p120b, p120c⟩ := h
          show GG _ _ _ _ _ _ _ _ [] _ _ _
          refine g_iconst 1 124 (gd rfl) rfl rfl ?_
          have n124 : FRE (s.1 9) (s.2.2.1 60 3).toInt x2 (s.1 61) ((s120).1 61) ((Int32.ofInt 1)).toInt := by exact (fj_e g25_0 q_0 (inv_F hI (z := s.2.2.1 60 7) 0 32 rfl rfl).1 (fj_z g25_1 (by (first | have a0 := oa4 j25_3 ro_60_3 i29 j25_4 | ((first | have a0 := in_u j25_3 | (have a0 := j25_3; unfold In at a0)); (first | have a1 := in_u ro_60_3 | (have a1 := ro_60_3; unfold In at a1)); (first | have a2 := in_u i29 | (have a2 := i29; unfold In at a2)); (first | have a3 := in_u j25_4 | (have a3 := j25_4; unfold In at a3)))); have oc := ocf_mut9; omega)) g25_2 (hFc25.2.2.1 60 3 rfl) (show TBJ (s.1 9) sc25 s120 y25_4 from (by have h9 := p120c; rw [hFc25.1 9 rfl] at h9; exact h9)) p120b (hF120.1 63 rfl) (show (Int32.ofInt 1).toInt ≠ 0 from (by decide))).1
          have n124a : ASI s s120 := by exact (fj_e g25_0 q_0 (inv_F hI (z := s.2.2.1 60 7) 0 32 rfl rfl).1 (fj_z g25_1 (by (first | have a0 := oa4 j25_3 ro_60_3 i29 j25_4 | ((first | have a0 := in_u j25_3 | (have a0 := j25_3; unfold In at a0)); (first | have a1 := in_u ro_60_3 | (have a1 := ro_60_3; unfold In at a1)); (first | have a2 := in_u i29 | (have a2 := i29; unfold In at a2)); (first | have a3 := in_u j25_4 | (have a3 := j25_4; unfold In at a3)))); have oc := ocf_mut9; omega)) g25_2 (hFc25.2.2.1 60 3 rfl) (show TBJ (s.1 9) sc25 s120 y25_4 from (by have h9 := p120c; rw [hFc25.1 9 rfl] at h9; exact h9)) p120b (hF120.1 63 rfl) (show (Int32.ofInt 1).toInt ≠ 0 from (by decide))).2
          exact g_ireturn (gd rfl) rfl (nb01 (in_w 0 1 (in_c 1 rfl) rfl)) (hP _ _ ⟨s120, hI120, (fr_tr rfl hFc25 hF120), (Int32.ofInt 1), rfl, rfl, in_w 0 1 (in_c 1 rfl) rfl, n124, n124a⟩)
        · skip
          have i29 := r_lt1 0 31 c29 j25_6 (in_c 32 rfl) rfl
          refine g_iload 34 (gd rfl) rfl rfl ?_
          refine g_if_eq 37 116 (gd rfl) rfl rfl (fun c34 => ?_) (fun c34 => ?_)
          · skip
            have i34 := z_eq 0 0 c34 (i_rng y25_5) rfl
            refine g_aload_n 117 (gd rfl) rfl rfl ?_
            refine g_aload_n 118 (gd rfl) rfl rfl ?_
            refine g_iload 120 (gd rfl) rfl rfl ?_
            have p120 : SYR (sc25.1 9) := by rw [hFc25.1 9 rfl]; exact q_0.1
            have p120a : (y25_4).toInt ≤ (sc25.2.2.1 60 7).toInt := by obtain ⟨n9, h9, -⟩ := g25_0; rw [g25_2]; omega
            refine g_callv (X := _) (As := [.ref (A 9), .int y25_4]) (r := []) (b := A 60) (q := 60) 123 (gd rfl) rfl rfl rfl rfl rfl (ww_o rfl) (Nat.le_of_ble_eq_true rfl) (Nat.zero_le _) (Nat.zero_le _) (f_50_60_9 (by first | exact dq1 hd rfl | exact dq0 hd rfl | exact dq2 hd rfl | exact dq3 hd rfl | omega) hIc25 (in_w 0 32 j25_4 rfl) p120 p120a) (fun e u h => h) (fun v u h => ?_)
            obtain ⟨s120, hI120, hF120, rfl, rfl, p120b, p120c⟩ := h
            show GG _ _ _ _ _ _ _ _ [] _ _ _
            refine g_iconst 1 124 (gd rfl) rfl rfl ?_
            have n124 : FRE (s.1 9) (s.2.2.1 60 3).toInt x2 (s.1 61) ((s120).1 61) ((Int32.ofInt 1)).toInt := by exact (fj_e g25_0 q_0 (inv_F hI (z := s.2.2.1 60 7) 0 32 rfl rfl).1 (fun u => bt_0f c34) g25_2 (hFc25.2.2.1 60 3 rfl) (show TBJ (s.1 9) sc25 s120 y25_4 from (by have h9 := p120c; rw [hFc25.1 9 rfl] at h9; exact h9)) p120b (hF120.1 63 rfl) (show (Int32.ofInt 1).toInt ≠ 0 from (by decide))).1
            have n124a : ASI s s120 := by exact (fj_e g25_0 q_0 (inv_F hI (z := s.2.2.1 60 7) 0 32 rfl rfl).1 (fun u => bt_0f c34) g25_2 (hFc25.2.2.1 60 3 rfl) (show TBJ (s.1 9) sc25 s120 y25_4 from (by have h9 := p120c; rw [hFc25.1 9 rfl] at h9; exact h9)) p120b (hF120.1 63 rfl) (show (Int32.ofInt 1).toInt ≠ 0 from (by decide))).2
            exact g_ireturn (gd rfl) rfl (nb01 (in_w 0 1 (in_c 1 rfl) rfl)) (hP _ _ ⟨s120, hI120, (fr_tr rfl hFc25 hF120), (Int32.ofInt 1), rfl, rfl, in_w 0 1 (in_c 1 rfl) rfl, n124, n124a⟩)
          · skip
            refine g_aload_n 38 (gd rfl) rfl rfl ?_
            refine g_iload 40 (gd rfl) rfl rfl ?_
            refine g_iload 42 (gd rfl) rfl rfl ?_
            refine g_ineg 43 (gd rfl) rfl (fun z42 e42 => ?_)
            refine g_iand 44 (gd rfl) rfl (fun z43 e43 => ?_)
            refine g_iload 46 (gd rfl) rfl rfl ?_
            refine g_calls (As := [.ref (A 9), .int z43, .int y25_5]) (r := []) 49 (gd rfl) rfl rfl rfl rfl rfl (Nat.le_of_ble_eq_true rfl) (Nat.zero_le _) (Nat.zero_le _) (f_266_9 (by first | exact dq1 hd rfl | exact dq0 hd rfl | exact dq2 hd rfl | exact dq3 hd rfl | omega) hIc25 ) (fun v u h => ?_)
            obtain ⟨z46, rfl, rfl, i46, p46, p46a⟩ := h
            show GG _ _ _ _ _ _ _ _ [.int z46] _ _ _
            refine g_istore 51 (gd rfl) rfl (Nat.le_of_ble_eq_true rfl) ?_
            refine g_aload_n 52 (gd rfl) rfl rfl ?_
            refine g_aload_n 53 (gd rfl) rfl rfl ?_
            refine g_iload 55 (gd rfl) rfl rfl ?_
            refine g_iload_n 56 (gd rfl) rfl rfl ?_
            have nz56 : (z46).toInt ≠ 0 := by obtain ⟨k, hk⟩ := lsb_bit c34 e42 e43; exact bt_nz (p46 k hk)
            have p56 : FLX (sc25.1 9) sc25 z46 (x3).toInt := by rw [hFc25.1 9 rfl]; exact fj_x g25_0 q_0 (hFc25.2.2.1 60 3 rfl) (pc_in e42 e43 (show FLD (s.1 9) z43 y25_5 z46 from (by have h9 := p46a; rw [hFc25.1 9 rfl] at h9; exact h9)))
            have n56 : 33 - (x3).toInt < ((kk + 1 : Nat) : Int) := by (first | have a0 := oa4 j25_3 ro_60_3 i29 j25_4 | ((first | have a0 := in_u j25_3 | (have a0 := j25_3; unfold In at a0)); (first | have a1 := in_u ro_60_3 | (have a1 := ro_60_3; unfold In at a1)); (first | have a2 := in_u i29 | (have a2 := i29; unfold In at a2)); (first | have a3 := in_u j25_4 | (have a3 := j25_4; unfold In at a3)))); have oc := ocf_mut9; omega
            refine g_callv (X := _) (As := [.ref (A 9), .int z46, .int x3]) (r := []) (b := A 60) (q := 60) 59 (gd rfl) rfl rfl rfl rfl rfl (ww_o rfl) (Nat.le_of_ble_eq_true rfl) (Nat.zero_le _) (Nat.zero_le _) (ihP (by omega) hIc25 (in_w 0 32 j25_3 rfl) nz56 p56 n56) (fun e u h => h) (fun v u h => ?_)
            obtain ⟨s56, hI56, hF56, z56, rfl, rfl, i56, p56a, p56b⟩ := h
            show GG _ _ _ _ _ _ _ _ [.int z56] _ _ _
            refine g_if_ne 62 101 (gd rfl) rfl rfl (fun c59 => ?_) (fun c59 => ?_)
            · skip
              have i59 := z_ne 1 1 c59 i56 rfl
              refine g_iload 103 (gd rfl) rfl rfl ?_
              refine g_iload 105 (gd rfl) rfl rfl ?_
              refine g_iconst (-1) 106 (gd rfl) rfl rfl ?_
              refine g_ixor 107 (gd rfl) rfl (fun z106 e106 => ?_)
              refine g_iand 108 (gd rfl) rfl (fun z107 e107 => ?_)
              refine g_istore 110 (gd rfl) rfl (Nat.le_of_ble_eq_true rfl) ?_
              refine g_iinc 113 (gd rfl) rfl rfl (Nat.le_of_ble_eq_true rfl) (fun z110 e110 => ?_)
              have i110 := in_add 1 32 e110 i29 (in_c 1 rfl) rfl rfl
              refine g_goto 25 (gd rfl) rfl ?_
              have n25 : FJ (s.1 9) s s56 x2 (z107) := by exact fj_s g25_0 q_0 (inv_F hI (z := s.2.2.1 60 7) 0 32 rfl rfl).1 (hFc25.2.2.1 60 3 rfl) (show FLD (s.1 9) z43 y25_5 z46 from (by have h9 := p46a; rw [hFc25.1 9 rfl] at h9; exact h9)) (pc_in e42 e43 (show FLD (s.1 9) z43 y25_5 z46 from (by have h9 := p46a; rw [hFc25.1 9 rfl] at h9; exact h9))) (show FRE (s.1 9) (sc25.2.2.1 60 3).toInt z46 (sc25.1 61) (s56.1 61) (z56).toInt from (by have h9 := p56a; rw [hFc25.1 9 rfl] at h9; exact h9)) p56b c59 e106 e107
              have n25a : (z110).toInt + (cb (z107) : Int) ≤ 32 := by obtain ⟨k9, hk9⟩ := lsb_bit c34 e42 e43; exact fj_c g25_1 (bt_and1 e43 hk9) (p46 k9 hk9) e106 e107 (by (first | have a0 := oa5 j25_3 ro_60_3 i29 j25_4 i110 | ((first | have a0 := in_u j25_3 | (have a0 := j25_3; unfold In at a0)); (first | have a1 := in_u ro_60_3 | (have a1 := ro_60_3; unfold In at a1)); (first | have a2 := in_u i29 | (have a2 := i29; unfold In at a2)); (first | have a3 := in_u j25_4 | (have a3 := j25_4; unfold In at a3)); (first | have a4 := in_u i110 | (have a4 := i110; unfold In at a4)))); have a5 := t_add e110 i29 (in_c 1 rfl) rfl; (first | have a6 := in_u ((in_c 1 rfl)) | (have a6 := (in_c 1 rfl); unfold In at a6)); have oc := ocf_mut9; omega)
              have n25b : (y25_4) = s.2.2.1 60 7 := by exact g25_2
              exact gg_w (by first | exact Nat.le_add_right _ _ | exact gw2 | exact gw3 | exact gwe rfl | exact gwf rfl | exact gwg rfl | exact gwh rfl | omega) (gg_f (gf_cons rfl (gf_cons rfl (gf_cons rfl (gf_cons rfl (gf_cons rfl (gf_cons rfl (gf_cons rfl gf_nil))))))) (ih25 s56 y25_4 z107 z110 hI56 (fr_tr rfl hFc25 hF56) (in_w 0 32 j25_3 rfl) (in_w 0 32 j25_4 rfl) (in_w 0 32 i110 rfl) n25 n25a n25b (m_up mm25 (t_add e110 i29 (in_c 1 rfl) rfl) (in_w 1 1 (in_c 1 rfl) rfl))))
            · skip
              have i59 := z_eq 0 0 c59 i56 rfl
              refine g_iconst 0 63 (gd rfl) rfl rfl ?_
              refine g_istore 65 (gd rfl) rfl (Nat.le_of_ble_eq_true rfl) ?_
              have n65 : F65 (s.1 9) s s56 x2 ((Int32.ofInt 0)).toInt := by exact f65_0 g25_0 q_0 (hFc25.2.2.1 60 3 rfl) (pc_in e42 e43 (show FLD (s.1 9) z43 y25_5 z46 from (by have h9 := p46a; rw [hFc25.1 9 rfl] at h9; exact h9))) (show FRE (s.1 9) (sc25.2.2.1 60 3).toInt z46 (sc25.1 61) (s56.1 61) (z56).toInt from (by have h9 := p56a; rw [hFc25.1 9 rfl] at h9; exact h9)) p56b c59 rfl
              have n65a : (y25_4) = s.2.2.1 60 7 := by exact g25_2
              exact gg_w (by first | exact Nat.le_add_right _ _ | exact gw2 | exact gw3 | exact gwe rfl | exact gwf rfl | exact gwg rfl | exact gwh rfl | omega) (gg_f (gf_cons rfl (gf_cons rfl (gf_cons rfl (gf_cons rfl (gf_cons rfl (gf_cons rfl (gf_cons rfl (gf_cons rfl (gf_cons rfl gf_nil))))))))) (ct65 33 s56 y25_4 y25_5 y25_6 z46 (Int32.ofInt 0) hI56 (fr_tr rfl hFc25 hF56) (in_w 0 32 j25_3 rfl) (in_w 0 32 j25_4 rfl) (in_w 0 31 i29 rfl) (in_w 0 32 (in_c 0 rfl) rfl) c34 n65 n65a (m_in 33 (in_w 0 32 (in_c 0 rfl) rfl) rfl)))
    refine g_enter2 (k := 46) (N := 60302) (by first | exact dq1 hd rfl | exact dq0 hd rfl | exact dq2 hd rfl | exact dq3 hd rfl | omega) rfl (Nat.le_of_ble_eq_true rfl) ?_
    refine g_iload_n 1 (gd rfl) rfl rfl ?_
    refine g_bipush 32 3 (gd rfl) rfl rfl ?_
    refine g_cmp_le 6 8 (gd rfl) rfl rfl (fun c3 => ?_) (fun c3 => ?_)
    · skip
      have i3 := r_le1 0 32 c3 h3 (in_c 32 rfl) rfl
      refine g_aload_n 9 (gd rfl) rfl rfl ?_
      refine g_getI 12 (gd rfl) rfl rfl rfl (fun z9 e9 => ?_)
      have i9 := inv_F hI 0 32 rfl e9
      refine g_istore 14 (gd rfl) rfl (Nat.le_of_ble_eq_true rfl) ?_
      refine g_aload_n 15 (gd rfl) rfl rfl ?_
      refine g_aload_n 16 (gd rfl) rfl rfl ?_
      refine g_iload_n 17 (gd rfl) rfl rfl ?_
      refine g_callv (X := _) (As := [.ref (A 9), .int x2]) (r := []) (b := A 60) (q := 60) 20 (gd rfl) rfl rfl rfl rfl rfl (ww_o rfl) (Nat.le_of_ble_eq_true rfl) (Nat.zero_le _) (Nat.zero_le _) (f_49_60_9 (by first | exact dq1 hd rfl | exact dq0 hd rfl | exact dq2 hd rfl | exact dq3 hd rfl | omega) hI ) (fun e u h => h) (fun v u h => ?_)
      obtain ⟨s17, hI17, hF17, z17, rfl, rfl, i17, p17⟩ := h
      show GG _ _ _ _ _ _ _ _ [.int z17] _ _ _
      refine g_istore 22 (gd rfl) rfl (Nat.le_of_ble_eq_true rfl) ?_
      refine g_iconst 0 23 (gd rfl) rfl rfl ?_
      refine g_istore 25 (gd rfl) rfl (Nat.le_of_ble_eq_true rfl) ?_
      have n25 : FJ (s.1 9) s s17 x2 (z17) := by exact fj_0 p17 q_0 (hF17.1 61 rfl)
      have n25a : ((Int32.ofInt 0)).toInt + (cb (z17) : Int) ≤ 32 := by have h9 := cb_le z17; have o9 : (Int32.ofInt 0).toInt = 0 := rfl; omega
      have n25b : (z9) = s.2.2.1 60 7 := by exact e9
      exact gg_w (by first | exact Nat.le_of_ble_eq_true rfl | omega) (gg_f (gf_cons rfl (gf_cons rfl (gf_cons rfl (gf_cons rfl (gf_cons rfl (gf_cons rfl (gf_cons rfl gf_nil))))))) (ct25 33 s17 z9 z17 (Int32.ofInt 0) hI17 (fr_tr rfl fr_rf hF17) (in_w 0 32 i3 rfl) (in_w 0 32 i9 rfl) (in_w 0 32 (in_c 0 rfl) rfl) n25 n25a n25b (m_in 33 (in_w 0 32 (in_c 0 rfl) rfl) rfl)))
    · skip
      have i3 := r_lt2 33 33 c3 (in_c 32 rfl) h3 rfl
      refine g_iconst 0 7 (gd rfl) rfl rfl ?_
      have n7 : FRE (s.1 9) (s.2.2.1 60 3).toInt x2 (s.1 61) ((s).1 61) ((Int32.ofInt 0)).toInt := by exfalso; have h9 := q_0.2.2.2.2; (first | have a0 := oa2 ro_60_3 i3 | ((first | have a0 := in_u ro_60_3 | (have a0 := ro_60_3; unfold In at a0)); (first | have a1 := in_u i3 | (have a1 := i3; unfold In at a1)))); have oc := ocf_mut9; omega
      have n7a : ASI s s := by exfalso; have h9 := q_0.2.2.2.2; (first | have a0 := oa2 ro_60_3 i3 | ((first | have a0 := in_u ro_60_3 | (have a0 := ro_60_3; unfold In at a0)); (first | have a1 := in_u i3 | (have a1 := i3; unfold In at a1)))); have oc := ocf_mut9; omega
      exact g_ireturn (gd rfl) rfl (nb01 (in_w 0 1 (in_c 0 rfl) rfl)) (hP _ _ ⟨s, hI, fr_rf, (Int32.ofInt 0), rfl, rfl, in_w 0 1 (in_c 0 rfl) rfl, n7, n7a⟩)
theorem f_46_60_9 {Z : AmZ} {A : Nat → Nat} {s : GS} {ex : va_W} {d : Nat} {X : AmX} {x2 : Int32} {x3 : Int32} (hd : 380 ≤ d) (hI : Inv s) (h3 : (In x3 0 33)) (q_0 : (FLX (s.1 9) s x2 (x3).toInt)) : GC Z d 46 [.ref (A 60), .ref (A 9), .int x2, .int x3] (WW Z A s ++ ex) 0 0 (fun v u => ∃ t : GS, Inv t ∧ Fr fm_46_60_9 s t ∧ ∃ z : Int32, v = some (.int z) ∧ u = WW Z A t ++ ex ∧ In z 0 1 ∧ (FRE (s.1 9) (s.2.2.1 60 3).toInt x2 (s.1 61) ((t).1 61) (z).toInt) ∧ (ASI s t)) X := f_46_60_9_r 34 (by omega) hI h3 q_0 (m_in 34 h3 rfl)

theorem ocf_mut39 : (Int32.ofInt (-1)).toInt = (-1) ∧ (Int32.ofInt 0).toInt = 0 ∧ (Int32.ofInt 1).toInt = 1 ∧ (Int32.ofInt 32).toInt = 32 := ⟨rfl, rfl, rfl, rfl⟩
set_option maxHeartbeats 2000000 in
theorem f_47_60_39_r {Z : AmZ} {A : Nat → Nat} {ex : va_W} (kk : Nat) (ihF : ∀ {s : GS} {d : Nat} {X : AmX} {x2 : Int32} {x3 : Int32}, 40 + kk * 10 ≤ d → Inv s → (In x3 0 33) → (FLX (s.1 39) s x2 (x3).toInt) → 33 - (x3).toInt < ((kk : Nat) : Int) → GC Z d 46 [.ref (A 60), .ref (A 39), .int x2, .int x3] (WW Z A s ++ ex) 0 0 (fun v u => ∃ t : GS, Inv t ∧ Fr fm_46_60_39 s t ∧ ∃ z : Int32, v = some (.int z) ∧ u = WW Z A t ++ ex ∧ In z 0 1 ∧ (FRE (s.1 39) (s.2.2.1 60 3).toInt x2 (s.1 61) ((t).1 61) (z).toInt) ∧ (ASI s t)) X) : ∀ {s : GS} {d : Nat} {X : AmX} {x2 : Int32} {x3 : Int32}, 45 + kk * 10 ≤ d → Inv s → (In x3 0 32) → (x2.toInt ≠ 0) → (FLX (s.1 39) s x2 (x3).toInt) → 33 - (x3).toInt < ((kk + 1 : Nat) : Int) → GC Z d 47 [.ref (A 60), .ref (A 39), .int x2, .int x3] (WW Z A s ++ ex) 0 0 (fun v u => ∃ t : GS, Inv t ∧ Fr fm_47_60_39 s t ∧ ∃ z : Int32, v = some (.int z) ∧ u = WW Z A t ++ ex ∧ In z 0 1 ∧ (FRE (s.1 39) (s.2.2.1 60 3).toInt x2 (s.1 61) ((t).1 61) (z).toInt) ∧ (ASI s t)) X := by
  intro s d X x2 x3 hd hI h3 nza_2 q_0 hm
  intro post xp hP hX
  obtain ⟨u_60_3, e_60_3⟩ : ∃ w, w = s.2.2.1 60 3 := ⟨_, rfl⟩
  have ro_60_3 := inv_F hI 0 32 rfl e_60_3
  have ct27 : ∀ (k27 : Nat) (sc27 : GS) (y27_4 : Int32) (y27_5 : Int32) (y27_6 : Int32) (y27_7 : Int32) (y27_8 : Int32), Inv sc27 → Fr fm_47_60_39 s sc27 → (In y27_4 0 31) → (In y27_7 0 1) → (In y27_8 0 32) → (CEQL (s.1 61) (sc27.1 61)) → (ASI s sc27) → (bt x2 (y27_4).toNatClampNeg = true) → ((y27_5) = Int32.ofInt 1 <<< ((y27_4) &&& 31)) → (BSX (s.1 39) x2 (y27_6)) → (FPI (s.1 39) (s.2.2.1 60 3).toInt (s.1 61) x2 (y27_4).toNatClampNeg (y27_6) (y27_8).toInt (y27_7).toInt) → 32 - (y27_8).toInt < (k27 : Int) → GG Z (d - 1) 47 post (gx xp) (1 + k27 * 900) 27 (fun j => xlook j [(0, .ref (A 60)), (1, .ref (A 39)), (2, .int x2), (3, .int x3), (4, .int y27_4), (5, .int y27_5), (6, .int y27_6), (7, .int y27_7), (8, .int y27_8)]) [] (WW Z A sc27 ++ ex) 0 0 := by
    intro k27
    induction k27 with
    | zero => intro sc27 y27_4 y27_5 y27_6 y27_7 y27_8 hIc27 hFc27 j27_4 j27_7 j27_8 g27_0 g27_1 g27_2 g27_3 g27_4 g27_5 mm27; exact m_no mm27 j27_8 rfl
    | succ k27 ih27 =>
      intro sc27 y27_4 y27_5 y27_6 y27_7 y27_8 hIc27 hFc27 j27_4 j27_7 j27_8 g27_0 g27_1 g27_2 g27_3 g27_4 g27_5 mm27
      refine gg_w (M := 1 + k27 * 900 + 900) gws ?_
      refine g_iload 29 (gd rfl) rfl rfl ?_
      refine g_aload_n 30 (gd rfl) rfl rfl ?_
      refine g_getI 33 (gd rfl) rfl rfl rfl (fun z30 e30 => ?_)
      have q30 : u_60_3 = z30 := (fr_F e_60_3 hFc27 rfl).trans e30.symm
      subst q30
      refine g_cmp_ge 36 139 (gd rfl) rfl rfl (fun c33 => ?_) (fun c33 => ?_)
      · skip
        refine g_iconst 0 140 (gd rfl) rfl rfl ?_
        have n140 : FRE (s.1 39) (s.2.2.1 60 3).toInt x2 (s.1 61) ((sc27).1 61) ((Int32.ofInt 0)).toInt := by exact fp_e g27_5 g27_2 (by (first | have a0 := oa5 h3 ro_60_3 j27_8 j27_7 j27_4 | ((first | have a0 := in_u h3 | (have a0 := h3; unfold In at a0)); (first | have a1 := in_u ro_60_3 | (have a1 := ro_60_3; unfold In at a1)); (first | have a2 := in_u j27_8 | (have a2 := j27_8; unfold In at a2)); (first | have a3 := in_u j27_7 | (have a3 := j27_7; unfold In at a3)); (first | have a4 := in_u j27_4 | (have a4 := j27_4; unfold In at a4)))); have oc := ocf_mut39; omega) (by rw [← e_60_3]; (first | have a0 := oa5 h3 ro_60_3 j27_8 j27_7 j27_4 | ((first | have a0 := in_u h3 | (have a0 := h3; unfold In at a0)); (first | have a1 := in_u ro_60_3 | (have a1 := ro_60_3; unfold In at a1)); (first | have a2 := in_u j27_8 | (have a2 := j27_8; unfold In at a2)); (first | have a3 := in_u j27_7 | (have a3 := j27_7; unfold In at a3)); (first | have a4 := in_u j27_4 | (have a4 := j27_4; unfold In at a4)))); have oc := ocf_mut39; omega) g27_0 rfl
        have n140a : ASI s sc27 := by exact g27_1
        exact g_ireturn (gd rfl) rfl (nb01 (in_w 0 1 (in_c 0 rfl) rfl)) (hP _ _ ⟨sc27, hIc27, hFc27, (Int32.ofInt 0), rfl, rfl, in_w 0 1 (in_c 0 rfl) rfl, n140, n140a⟩)
      · skip
        have i33 := r_lt1 0 31 c33 j27_8 ro_60_3 rfl
        have i33a := r_lt2 1 32 c33 j27_8 ro_60_3 rfl
        refine g_aload_n 37 (gd rfl) rfl rfl ?_
        refine g_getA (q2 := 61) 40 (gd rfl) rfl rfl rfl rfl ?_
        refine g_iload 42 (gd rfl) rfl rfl ?_
        refine g_iaload 43 (gd rfl) rfl (n := 32) rfl (in_ix i33 rfl) (fun z42 e42 => ?_)
        refine g_iload 45 (gd rfl) rfl rfl ?_
        refine g_iand 46 (gd rfl) rfl (fun z45 e45 => ?_)
        refine g_if_ne 49 53 (gd rfl) rfl rfl (fun c46 => ?_) (fun c46 => ?_)
        · skip
          refine g_iconst 0 54 (gd rfl) rfl rfl ?_
          refine g_istore 56 (gd rfl) rfl (Nat.le_of_ble_eq_true rfl) ?_
          refine g_aload_n 57 (gd rfl) rfl rfl ?_
          refine g_getA (q2 := 61) 60 (gd rfl) rfl rfl rfl rfl ?_
          refine g_iload 62 (gd rfl) rfl rfl ?_
          refine g_iaload 63 (gd rfl) rfl (n := 32) rfl (in_ix i33 rfl) (fun z62 e62 => ?_)
          have q62 : z42 = z62 := (e42).trans e62.symm
          subst q62
          refine g_aload_n 64 (gd rfl) rfl rfl ?_
          refine g_iload 66 (gd rfl) rfl rfl ?_
          refine g_iaload 67 (gd rfl) rfl (n := 32) rfl (in_ix j27_4 rfl) (fun z66 e66 => ?_)
          refine g_iand 68 (gd rfl) rfl (fun z67 e67 => ?_)
          refine g_if_ne 71 133 (gd rfl) rfl rfl (fun c68 => ?_) (fun c68 => ?_)
          · skip
            refine g_iinc 136 (gd rfl) rfl rfl (Nat.le_of_ble_eq_true rfl) (fun z133 e133 => ?_)
            have i133 := in_add 1 32 e133 i33 (in_c 1 rfl) rfl rfl
            refine g_goto 27 (gd rfl) rfl ?_
            have n27 : CEQL (s.1 61) (sc27.1 61) := by exact g27_0
            have n27a : ASI s sc27 := by exact g27_1
            have n27b : bt x2 (y27_4).toNatClampNeg = true := by exact g27_2
            have n27c : (y27_5) = Int32.ofInt 1 <<< ((y27_4) &&& 31) := by exact g27_3
            have n27d : BSX (s.1 39) x2 (y27_6) := by exact g27_4
            have n27e : FPI (s.1 39) (s.2.2.1 60 3).toInt (s.1 61) x2 (y27_4).toNatClampNeg (y27_6) (z133).toInt (y27_7).toInt := by exact fp_b g27_5 q_0.2.1 g27_2 g27_0 i33 e42 (e66.trans (congrFun (hFc27.1 39 rfl) _)) e67 c68 (by (first | have a0 := oa7 h3 i33a i33 j27_7 j27_4 ((in_c 0 rfl)) i133 | ((first | have a0 := in_u h3 | (have a0 := h3; unfold In at a0)); (first | have a1 := in_u i33a | (have a1 := i33a; unfold In at a1)); (first | have a2 := in_u i33 | (have a2 := i33; unfold In at a2)); (first | have a3 := in_u j27_7 | (have a3 := j27_7; unfold In at a3)); (first | have a4 := in_u j27_4 | (have a4 := j27_4; unfold In at a4)); (first | have a5 := in_u ((in_c 0 rfl)) | (have a5 := (in_c 0 rfl); unfold In at a5)); (first | have a6 := in_u i133 | (have a6 := i133; unfold In at a6)))); have a7 := t_add e133 i33 (in_c 1 rfl) rfl; (first | have a8 := in_u ((in_c 1 rfl)) | (have a8 := (in_c 1 rfl); unfold In at a8)); have oc := ocf_mut39; omega)
            exact gg_w (by first | exact Nat.le_add_right _ _ | exact gw2 | exact gw3 | exact gwe rfl | exact gwf rfl | exact gwg rfl | exact gwh rfl | omega) (gg_f (gf_cons rfl (gf_cons rfl (gf_cons rfl (gf_cons rfl (gf_cons rfl (gf_cons rfl (gf_cons rfl (gf_cons rfl (gf_cons rfl gf_nil))))))))) (ih27 sc27 y27_4 y27_5 y27_6 y27_7 z133 hIc27 hFc27 (in_w 0 31 j27_4 rfl) (in_w 0 1 j27_7 rfl) (in_w 0 32 i133 rfl) n27 n27a n27b n27c n27d n27e (m_up mm27 (t_add e133 i33 (in_c 1 rfl) rfl) (in_w 1 1 (in_c 1 rfl) rfl))))
          · skip
            have i68 := z_eq 0 0 c68 (i_rng z67) rfl
            refine g_iload 73 (gd rfl) rfl rfl ?_
            refine g_if_eq 76 81 (gd rfl) rfl rfl (fun c73 => ?_) (fun c73 => ?_)
            · skip
              refine g_iload 83 (gd rfl) rfl rfl ?_
              refine g_iload 85 (gd rfl) rfl rfl ?_
              refine g_ior 86 (gd rfl) rfl (fun z85 e85 => ?_)
              have i85 := in_or 1 e85 (in_w 0 1 j27_7 rfl) (in_w 0 1 (in_c 0 rfl) rfl) rfl
              refine g_istore 88 (gd rfl) rfl (Nat.le_of_ble_eq_true rfl) ?_
              refine g_aload_n 89 (gd rfl) rfl rfl ?_
              refine g_getA (q2 := 61) 92 (gd rfl) rfl rfl rfl rfl ?_
              refine g_iload 94 (gd rfl) rfl rfl ?_
              refine g_dup2 95 (gd rfl) rfl rfl rfl ?_
              refine g_iaload 96 (gd rfl) rfl (n := 32) rfl (in_ix i33 rfl) (fun z95 e95 => ?_)
              have q95 : z42 = z95 := (e42).trans e95.symm
              subst q95
              refine g_iload 98 (gd rfl) rfl rfl ?_
              refine g_ior 99 (gd rfl) rfl (fun z98 e98 => ?_)
              refine g_iastore 100 (gd rfl) rfl (n := 32) rfl (in_ix i33 rfl) ?_
              have hI99 := inv_sI (q := 61) (j := y27_8.toNatClampNeg) hIc27 rfl (in_w (-2147483648) 2147483647 (i_rng z98) rfl)
              refine g_aload_n 101 (gd rfl) rfl rfl ?_
              refine g_aload_n 102 (gd rfl) rfl rfl ?_
              refine g_iload_n 103 (gd rfl) rfl rfl ?_
              refine g_iload 105 (gd rfl) rfl rfl ?_
              refine g_iconst (-1) 106 (gd rfl) rfl rfl ?_
              refine g_ixor 107 (gd rfl) rfl (fun z106 e106 => ?_)
              refine g_iand 108 (gd rfl) rfl (fun z107 e107 => ?_)
              refine g_iload_n 109 (gd rfl) rfl rfl ?_
              refine g_iconst 1 110 (gd rfl) rfl rfl ?_
              refine g_iadd 111 (gd rfl) rfl (fun z110 e110 => ?_)
              have i110 := in_add 1 33 e110 h3 (in_c 1 rfl) rfl rfl
              have p111 : FLX ((sI sc27 61 y27_8.toNatClampNeg z98).1 39) (sI sc27 61 y27_8.toNatClampNeg z98) z107 (z110).toInt := by rw [sI_p (show Nat.beq 39 61 = false from rfl), hFc27.1 39 rfl]; exact (fp_x q_0 g27_0 g27_1 (hFc27.2.2.1 60 3 rfl) g27_2 j27_4 i33 (by rw [← e_60_3]; (first | have a0 := oa8 h3 i33a i33 j27_7 j27_4 ((in_c 0 rfl)) i85 i110 | ((first | have a0 := in_u h3 | (have a0 := h3; unfold In at a0)); (first | have a1 := in_u i33a | (have a1 := i33a; unfold In at a1)); (first | have a2 := in_u i33 | (have a2 := i33; unfold In at a2)); (first | have a3 := in_u j27_7 | (have a3 := j27_7; unfold In at a3)); (first | have a4 := in_u j27_4 | (have a4 := j27_4; unfold In at a4)); (first | have a5 := in_u ((in_c 0 rfl)) | (have a5 := (in_c 0 rfl); unfold In at a5)); (first | have a6 := in_u i85 | (have a6 := i85; unfold In at a6)); (first | have a7 := in_u i110 | (have a7 := i110; unfold In at a7)))); have a8 := t_add e110 h3 (in_c 1 rfl) rfl; (first | have a9 := in_u ((in_c 1 rfl)) | (have a9 := (in_c 1 rfl); unfold In at a9)); have oc := ocf_mut39; omega) g27_3 e42 (e66.trans (congrFun (hFc27.1 39 rfl) _)) e67 c68 e98 e106 e107 (show (z110).toInt = (x3).toInt + 1 from (by (first | have a0 := oa8 h3 i33a i33 j27_7 j27_4 ((in_c 0 rfl)) i85 i110 | ((first | have a0 := in_u h3 | (have a0 := h3; unfold In at a0)); (first | have a1 := in_u i33a | (have a1 := i33a; unfold In at a1)); (first | have a2 := in_u i33 | (have a2 := i33; unfold In at a2)); (first | have a3 := in_u j27_7 | (have a3 := j27_7; unfold In at a3)); (first | have a4 := in_u j27_4 | (have a4 := j27_4; unfold In at a4)); (first | have a5 := in_u ((in_c 0 rfl)) | (have a5 := (in_c 0 rfl); unfold In at a5)); (first | have a6 := in_u i85 | (have a6 := i85; unfold In at a6)); (first | have a7 := in_u i110 | (have a7 := i110; unfold In at a7)))); have a8 := t_add e110 h3 (in_c 1 rfl) rfl; (first | have a9 := in_u ((in_c 1 rfl)) | (have a9 := (in_c 1 rfl); unfold In at a9)); have oc := ocf_mut39; omega))).1
              have n111 : 33 - (z110).toInt < ((kk : Nat) : Int) := by (first | have a0 := oa8 h3 i33a i33 j27_7 j27_4 ((in_c 0 rfl)) i85 i110 | ((first | have a0 := in_u h3 | (have a0 := h3; unfold In at a0)); (first | have a1 := in_u i33a | (have a1 := i33a; unfold In at a1)); (first | have a2 := in_u i33 | (have a2 := i33; unfold In at a2)); (first | have a3 := in_u j27_7 | (have a3 := j27_7; unfold In at a3)); (first | have a4 := in_u j27_4 | (have a4 := j27_4; unfold In at a4)); (first | have a5 := in_u ((in_c 0 rfl)) | (have a5 := (in_c 0 rfl); unfold In at a5)); (first | have a6 := in_u i85 | (have a6 := i85; unfold In at a6)); (first | have a7 := in_u i110 | (have a7 := i110; unfold In at a7)))); have a8 := t_add e110 h3 (in_c 1 rfl) rfl; (first | have a9 := in_u ((in_c 1 rfl)) | (have a9 := (in_c 1 rfl); unfold In at a9)); have oc := ocf_mut39; omega
              refine g_callv (X := _) (As := [.ref (A 39), .int z107, .int z110]) (r := []) (b := A 60) (q := 60) 114 (gd rfl) rfl rfl rfl rfl rfl (ww_o rfl) (Nat.le_of_ble_eq_true rfl) (Nat.zero_le _) (Nat.zero_le _) (ihF (by omega) hI99 (in_w 0 33 i110 rfl) p111 n111) (fun e u h => h) (fun v u h => ?_)
              obtain ⟨s111, hI111, hF111, z111, rfl, rfl, i111, p111a, p111b⟩ := h
              show GG _ _ _ _ _ _ _ _ [.int z111] _ _ _
              refine g_if_eq 117 119 (gd rfl) rfl rfl (fun c114 => ?_) (fun c114 => ?_)
              · skip
                have i114 := z_eq 0 0 c114 i111 rfl
                refine g_aload_n 120 (gd rfl) rfl rfl ?_
                refine g_getA (q2 := 61) 123 (gd rfl) rfl rfl rfl rfl ?_
                refine g_iload 125 (gd rfl) rfl rfl ?_
                refine g_dup2 126 (gd rfl) rfl rfl rfl ?_
                refine g_iaload 127 (gd rfl) rfl (n := 32) rfl (in_ix i33 rfl) (fun z126 e126 => ?_)
                refine g_iload 129 (gd rfl) rfl rfl ?_
                refine g_iconst (-1) 130 (gd rfl) rfl rfl ?_
                refine g_ixor 131 (gd rfl) rfl (fun z130 e130 => ?_)
                refine g_iand 132 (gd rfl) rfl (fun z131 e131 => ?_)
                refine g_iastore 133 (gd rfl) rfl (n := 32) rfl (in_ix i33 rfl) ?_
                have hI132 := inv_sI (q := 61) (j := y27_8.toNatClampNeg) hI111 rfl (in_w (-2147483648) 2147483647 (i_rng z131) rfl)
                refine g_iinc 136 (gd rfl) rfl rfl (Nat.le_of_ble_eq_true rfl) (fun z133 e133 => ?_)
                have i133 := in_add 1 32 e133 i33 (in_c 1 rfl) rfl rfl
                refine g_goto 27 (gd rfl) rfl ?_
                have n27 : CEQL (s.1 61) ((sI s111 61 y27_8.toNatClampNeg z131).1 61) := by exact (fp_t (z85 := z85) q_0 g27_5 g27_0 (fp_x q_0 g27_0 g27_1 (hFc27.2.2.1 60 3 rfl) g27_2 j27_4 i33 (by rw [← e_60_3]; (first | have a0 := oa7 h3 i33a i33 j27_7 j27_4 ((in_c 0 rfl)) i133 | ((first | have a0 := in_u h3 | (have a0 := h3; unfold In at a0)); (first | have a1 := in_u i33a | (have a1 := i33a; unfold In at a1)); (first | have a2 := in_u i33 | (have a2 := i33; unfold In at a2)); (first | have a3 := in_u j27_7 | (have a3 := j27_7; unfold In at a3)); (first | have a4 := in_u j27_4 | (have a4 := j27_4; unfold In at a4)); (first | have a5 := in_u ((in_c 0 rfl)) | (have a5 := (in_c 0 rfl); unfold In at a5)); (first | have a6 := in_u i133 | (have a6 := i133; unfold In at a6)))); have a7 := t_add e133 i33 (in_c 1 rfl) rfl; (first | have a8 := oa3 ((in_c 1 rfl)) i85 i110 | ((first | have a8 := in_u ((in_c 1 rfl)) | (have a8 := (in_c 1 rfl); unfold In at a8)); (first | have a9 := in_u i85 | (have a9 := i85; unfold In at a9)); (first | have a10 := in_u i110 | (have a10 := i110; unfold In at a10)))); have a11 := t_add e110 h3 (in_c 1 rfl) rfl; have oc := ocf_mut39; omega) g27_3 e42 (e66.trans (congrFun (hFc27.1 39 rfl) _)) e67 c68 e98 e106 e107 (show (z110).toInt = (x3).toInt + 1 from (by (first | have a0 := oa7 h3 i33a i33 j27_7 j27_4 ((in_c 0 rfl)) i133 | ((first | have a0 := in_u h3 | (have a0 := h3; unfold In at a0)); (first | have a1 := in_u i33a | (have a1 := i33a; unfold In at a1)); (first | have a2 := in_u i33 | (have a2 := i33; unfold In at a2)); (first | have a3 := in_u j27_7 | (have a3 := j27_7; unfold In at a3)); (first | have a4 := in_u j27_4 | (have a4 := j27_4; unfold In at a4)); (first | have a5 := in_u ((in_c 0 rfl)) | (have a5 := (in_c 0 rfl); unfold In at a5)); (first | have a6 := in_u i133 | (have a6 := i133; unfold In at a6)))); have a7 := t_add e133 i33 (in_c 1 rfl) rfl; (first | have a8 := oa3 ((in_c 1 rfl)) i85 i110 | ((first | have a8 := in_u ((in_c 1 rfl)) | (have a8 := (in_c 1 rfl); unfold In at a8)); (first | have a9 := in_u i85 | (have a9 := i85; unfold In at a9)); (first | have a10 := in_u i110 | (have a10 := i110; unfold In at a10)))); have a11 := t_add e110 h3 (in_c 1 rfl) rfl; have oc := ocf_mut39; omega))).2 g27_2 j27_4 i33 g27_3 e42 e98 e106 e107 (show FRE (s.1 39) (s.2.2.1 60 3).toInt z107 (upd (sc27.1 61) y27_8.toNatClampNeg z98) (s111.1 61) (z111).toInt from (by have h9 := p111a; rw [sI_p (show Nat.beq 39 61 = false from rfl), sI_q, hFc27.1 39 rfl, show (sI sc27 61 y27_8.toNatClampNeg z98).2.2.1 60 3 = s.2.2.1 60 3 from hFc27.2.2.1 60 3 rfl] at h9; exact h9)) c114 e126 e130 e131 (show (z133).toInt = (y27_8).toInt + 1 from (by (first | have a0 := oa7 h3 i33a i33 j27_7 j27_4 ((in_c 0 rfl)) i133 | ((first | have a0 := in_u h3 | (have a0 := h3; unfold In at a0)); (first | have a1 := in_u i33a | (have a1 := i33a; unfold In at a1)); (first | have a2 := in_u i33 | (have a2 := i33; unfold In at a2)); (first | have a3 := in_u j27_7 | (have a3 := j27_7; unfold In at a3)); (first | have a4 := in_u j27_4 | (have a4 := j27_4; unfold In at a4)); (first | have a5 := in_u ((in_c 0 rfl)) | (have a5 := (in_c 0 rfl); unfold In at a5)); (first | have a6 := in_u i133 | (have a6 := i133; unfold In at a6)))); have a7 := t_add e133 i33 (in_c 1 rfl) rfl; (first | have a8 := oa3 ((in_c 1 rfl)) i85 i110 | ((first | have a8 := in_u ((in_c 1 rfl)) | (have a8 := (in_c 1 rfl); unfold In at a8)); (first | have a9 := in_u i85 | (have a9 := i85; unfold In at a9)); (first | have a10 := in_u i110 | (have a10 := i110; unfold In at a10)))); have a11 := t_add e110 h3 (in_c 1 rfl) rfl; have oc := ocf_mut39; omega)) (fun h9 => Or.inl (fun h8 => h9 (or_0z e85 h8)))).1
                have n27a : ASI s (sI s111 61 y27_8.toNatClampNeg z131) := by exact asi_I (asi_t g27_1 (asi_J p111b))
                have n27b : bt x2 (y27_4).toNatClampNeg = true := by exact g27_2
                have n27c : (y27_5) = Int32.ofInt 1 <<< ((y27_4) &&& 31) := by exact g27_3
                have n27d : BSX (s.1 39) x2 (y27_6) := by exact g27_4
                have n27e : FPI (s.1 39) (s.2.2.1 60 3).toInt (s.1 61) x2 (y27_4).toNatClampNeg (y27_6) (z133).toInt (z85).toInt := by exact (fp_t (z85 := z85) q_0 g27_5 g27_0 (fp_x q_0 g27_0 g27_1 (hFc27.2.2.1 60 3 rfl) g27_2 j27_4 i33 (by rw [← e_60_3]; (first | have a0 := oa7 h3 i33a i33 j27_7 j27_4 ((in_c 0 rfl)) i133 | ((first | have a0 := in_u h3 | (have a0 := h3; unfold In at a0)); (first | have a1 := in_u i33a | (have a1 := i33a; unfold In at a1)); (first | have a2 := in_u i33 | (have a2 := i33; unfold In at a2)); (first | have a3 := in_u j27_7 | (have a3 := j27_7; unfold In at a3)); (first | have a4 := in_u j27_4 | (have a4 := j27_4; unfold In at a4)); (first | have a5 := in_u ((in_c 0 rfl)) | (have a5 := (in_c 0 rfl); unfold In at a5)); (first | have a6 := in_u i133 | (have a6 := i133; unfold In at a6)))); have a7 := t_add e133 i33 (in_c 1 rfl) rfl; (first | have a8 := oa3 ((in_c 1 rfl)) i85 i110 | ((first | have a8 := in_u ((in_c 1 rfl)) | (have a8 := (in_c 1 rfl); unfold In at a8)); (first | have a9 := in_u i85 | (have a9 := i85; unfold In at a9)); (first | have a10 := in_u i110 | (have a10 := i110; unfold In at a10)))); have a11 := t_add e110 h3 (in_c 1 rfl) rfl; have oc := ocf_mut39; omega) g27_3 e42 (e66.trans (congrFun (hFc27.1 39 rfl) _)) e67 c68 e98 e106 e107 (show (z110).toInt = (x3).toInt + 1 from (by (first | have a0 := oa7 h3 i33a i33 j27_7 j27_4 ((in_c 0 rfl)) i133 | ((first | have a0 := in_u h3 | (have a0 := h3; unfold In at a0)); (first | have a1 := in_u i33a | (have a1 := i33a; unfold In at a1)); (first | have a2 := in_u i33 | (have a2 := i33; unfold In at a2)); (first | have a3 := in_u j27_7 | (have a3 := j27_7; unfold In at a3)); (first | have a4 := in_u j27_4 | (have a4 := j27_4; unfold In at a4)); (first | have a5 := in_u ((in_c 0 rfl)) | (have a5 := (in_c 0 rfl); unfold In at a5)); (first | have a6 := in_u i133 | (have a6 := i133; unfold In at a6)))); have a7 := t_add e133 i33 (in_c 1 rfl) rfl; (first | have a8 := oa3 ((in_c 1 rfl)) i85 i110 | ((first | have a8 := in_u ((in_c 1 rfl)) | (have a8 := (in_c 1 rfl); unfold In at a8)); (first | have a9 := in_u i85 | (have a9 := i85; unfold In at a9)); (first | have a10 := in_u i110 | (have a10 := i110; unfold In at a10)))); have a11 := t_add e110 h3 (in_c 1 rfl) rfl; have oc := ocf_mut39; omega))).2 g27_2 j27_4 i33 g27_3 e42 e98 e106 e107 (show FRE (s.1 39) (s.2.2.1 60 3).toInt z107 (upd (sc27.1 61) y27_8.toNatClampNeg z98) (s111.1 61) (z111).toInt from (by have h9 := p111a; rw [sI_p (show Nat.beq 39 61 = false from rfl), sI_q, hFc27.1 39 rfl, show (sI sc27 61 y27_8.toNatClampNeg z98).2.2.1 60 3 = s.2.2.1 60 3 from hFc27.2.2.1 60 3 rfl] at h9; exact h9)) c114 e126 e130 e131 (show (z133).toInt = (y27_8).toInt + 1 from (by (first | have a0 := oa7 h3 i33a i33 j27_7 j27_4 ((in_c 0 rfl)) i133 | ((first | have a0 := in_u h3 | (have a0 := h3; unfold In at a0)); (first | have a1 := in_u i33a | (have a1 := i33a; unfold In at a1)); (first | have a2 := in_u i33 | (have a2 := i33; unfold In at a2)); (first | have a3 := in_u j27_7 | (have a3 := j27_7; unfold In at a3)); (first | have a4 := in_u j27_4 | (have a4 := j27_4; unfold In at a4)); (first | have a5 := in_u ((in_c 0 rfl)) | (have a5 := (in_c 0 rfl); unfold In at a5)); (first | have a6 := in_u i133 | (have a6 := i133; unfold In at a6)))); have a7 := t_add e133 i33 (in_c 1 rfl) rfl; (first | have a8 := oa3 ((in_c 1 rfl)) i85 i110 | ((first | have a8 := in_u ((in_c 1 rfl)) | (have a8 := (in_c 1 rfl); unfold In at a8)); (first | have a9 := in_u i85 | (have a9 := i85; unfold In at a9)); (first | have a10 := in_u i110 | (have a10 := i110; unfold In at a10)))); have a11 := t_add e110 h3 (in_c 1 rfl) rfl; have oc := ocf_mut39; omega)) (fun h9 => Or.inl (fun h8 => h9 (or_0z e85 h8)))).2
                exact gg_w (by first | exact Nat.le_add_right _ _ | exact gw2 | exact gw3 | exact gwe rfl | exact gwf rfl | exact gwg rfl | exact gwh rfl | omega) (gg_f (gf_cons rfl (gf_cons rfl (gf_cons rfl (gf_cons rfl (gf_cons rfl (gf_cons rfl (gf_cons rfl (gf_cons rfl (gf_cons rfl gf_nil))))))))) (ih27 (sI s111 61 y27_8.toNatClampNeg z131) y27_4 y27_5 y27_6 z85 z133 hI132 (fr_sI rfl (fr_tr rfl (fr_sI rfl hFc27) hF111)) (in_w 0 31 j27_4 rfl) (in_w 0 1 i85 rfl) (in_w 0 32 i133 rfl) n27 n27a n27b n27c n27d n27e (m_up mm27 (t_add e133 i33 (in_c 1 rfl) rfl) (in_w 1 1 (in_c 1 rfl) rfl))))
              · skip
                have i114 := z_ne 1 1 c114 i111 rfl
                refine g_iconst 1 118 (gd rfl) rfl rfl ?_
                have n118 : FRE (s.1 39) (s.2.2.1 60 3).toInt x2 (s.1 61) ((s111).1 61) ((Int32.ofInt 1)).toInt := by exact fp_y g27_0 g27_2 j27_4 i33 g27_3 e42 e98 e106 e107 (show FRE (s.1 39) (s.2.2.1 60 3).toInt z107 (upd (sc27.1 61) y27_8.toNatClampNeg z98) (s111.1 61) (z111).toInt from (by have h9 := p111a; rw [sI_p (show Nat.beq 39 61 = false from rfl), sI_q, hFc27.1 39 rfl, show (sI sc27 61 y27_8.toNatClampNeg z98).2.2.1 60 3 = s.2.2.1 60 3 from hFc27.2.2.1 60 3 rfl] at h9; exact h9)) c114 (by decide)
                have n118a : ASI s s111 := by exact asi_t g27_1 (asi_J p111b)
                exact g_ireturn (gd rfl) rfl (nb01 (in_w 0 1 (in_c 1 rfl) rfl)) (hP _ _ ⟨s111, hI111, (fr_tr rfl (fr_sI rfl hFc27) hF111), (Int32.ofInt 1), rfl, rfl, in_w 0 1 (in_c 1 rfl) rfl, n118, n118a⟩)
            · skip
              exact zn_ne c73 (in_c 0 rfl) rfl
        · skip
          have i46 := z_eq 0 0 c46 (i_rng z45) rfl
          refine g_iconst 1 50 (gd rfl) rfl rfl ?_
          refine g_goto 54 (gd rfl) rfl ?_
          refine g_istore 56 (gd rfl) rfl (Nat.le_of_ble_eq_true rfl) ?_
          refine g_aload_n 57 (gd rfl) rfl rfl ?_
          refine g_getA (q2 := 61) 60 (gd rfl) rfl rfl rfl rfl ?_
          refine g_iload 62 (gd rfl) rfl rfl ?_
          refine g_iaload 63 (gd rfl) rfl (n := 32) rfl (in_ix i33 rfl) (fun z62 e62 => ?_)
          have q62 : z42 = z62 := (e42).trans e62.symm
          subst q62
          refine g_aload_n 64 (gd rfl) rfl rfl ?_
          refine g_iload 66 (gd rfl) rfl rfl ?_
          refine g_iaload 67 (gd rfl) rfl (n := 32) rfl (in_ix j27_4 rfl) (fun z66 e66 => ?_)
          refine g_iand 68 (gd rfl) rfl (fun z67 e67 => ?_)
          refine g_if_ne 71 133 (gd rfl) rfl rfl (fun c68 => ?_) (fun c68 => ?_)
          · skip
            refine g_iinc 136 (gd rfl) rfl rfl (Nat.le_of_ble_eq_true rfl) (fun z133 e133 => ?_)
            have i133 := in_add 1 32 e133 i33 (in_c 1 rfl) rfl rfl
            refine g_goto 27 (gd rfl) rfl ?_
            have n27 : CEQL (s.1 61) (sc27.1 61) := by exact g27_0
            have n27a : ASI s sc27 := by exact g27_1
            have n27b : bt x2 (y27_4).toNatClampNeg = true := by exact g27_2
            have n27c : (y27_5) = Int32.ofInt 1 <<< ((y27_4) &&& 31) := by exact g27_3
            have n27d : BSX (s.1 39) x2 (y27_6) := by exact g27_4
            have n27e : FPI (s.1 39) (s.2.2.1 60 3).toInt (s.1 61) x2 (y27_4).toNatClampNeg (y27_6) (z133).toInt (y27_7).toInt := by exact fp_b g27_5 q_0.2.1 g27_2 g27_0 i33 e42 (e66.trans (congrFun (hFc27.1 39 rfl) _)) e67 c68 (by (first | have a0 := oa7 h3 i33a i33 j27_7 j27_4 ((in_c 1 rfl)) i133 | ((first | have a0 := in_u h3 | (have a0 := h3; unfold In at a0)); (first | have a1 := in_u i33a | (have a1 := i33a; unfold In at a1)); (first | have a2 := in_u i33 | (have a2 := i33; unfold In at a2)); (first | have a3 := in_u j27_7 | (have a3 := j27_7; unfold In at a3)); (first | have a4 := in_u j27_4 | (have a4 := j27_4; unfold In at a4)); (first | have a5 := in_u ((in_c 1 rfl)) | (have a5 := (in_c 1 rfl); unfold In at a5)); (first | have a6 := in_u i133 | (have a6 := i133; unfold In at a6)))); have a7 := t_add e133 i33 (in_c 1 rfl) rfl; have oc := ocf_mut39; omega)
            exact gg_w (by first | exact Nat.le_add_right _ _ | exact gw2 | exact gw3 | exact gwe rfl | exact gwf rfl | exact gwg rfl | exact gwh rfl | omega) (gg_f (gf_cons rfl (gf_cons rfl (gf_cons rfl (gf_cons rfl (gf_cons rfl (gf_cons rfl (gf_cons rfl (gf_cons rfl (gf_cons rfl gf_nil))))))))) (ih27 sc27 y27_4 y27_5 y27_6 y27_7 z133 hIc27 hFc27 (in_w 0 31 j27_4 rfl) (in_w 0 1 j27_7 rfl) (in_w 0 32 i133 rfl) n27 n27a n27b n27c n27d n27e (m_up mm27 (t_add e133 i33 (in_c 1 rfl) rfl) (in_w 1 1 (in_c 1 rfl) rfl))))
          · skip
            have i68 := z_eq 0 0 c68 (i_rng z67) rfl
            refine g_iload 73 (gd rfl) rfl rfl ?_
            refine g_if_eq 76 81 (gd rfl) rfl rfl (fun c73 => ?_) (fun c73 => ?_)
            · skip
              exact zn_eq c73 (in_c 1 rfl) rfl
            · skip
              refine g_iload 78 (gd rfl) rfl rfl ?_
              refine g_if_ne 81 133 (gd rfl) rfl rfl (fun c78 => ?_) (fun c78 => ?_)
              · skip
                have i78 := z_ne 1 1 c78 j27_7 rfl
                refine g_iinc 136 (gd rfl) rfl rfl (Nat.le_of_ble_eq_true rfl) (fun z133 e133 => ?_)
                have i133 := in_add 1 32 e133 i33 (in_c 1 rfl) rfl rfl
                refine g_goto 27 (gd rfl) rfl ?_
                have n27 : CEQL (s.1 61) (sc27.1 61) := by exact g27_0
                have n27a : ASI s sc27 := by exact g27_1
                have n27b : bt x2 (y27_4).toNatClampNeg = true := by exact g27_2
                have n27c : (y27_5) = Int32.ofInt 1 <<< ((y27_4) &&& 31) := by exact g27_3
                have n27d : BSX (s.1 39) x2 (y27_6) := by exact g27_4
                have n27e : FPI (s.1 39) (s.2.2.1 60 3).toInt (s.1 61) x2 (y27_4).toNatClampNeg (y27_6) (z133).toInt (y27_7).toInt := by exact fp_f g27_5 q_0.2.1 g27_2 g27_4 g27_0 i33 (by rw [← e_60_3]; (first | have a0 := oa7 h3 i33a i33 i78 j27_4 ((in_c 1 rfl)) i133 | ((first | have a0 := in_u h3 | (have a0 := h3; unfold In at a0)); (first | have a1 := in_u i33a | (have a1 := i33a; unfold In at a1)); (first | have a2 := in_u i33 | (have a2 := i33; unfold In at a2)); (first | have a3 := in_u i78 | (have a3 := i78; unfold In at a3)); (first | have a4 := in_u j27_4 | (have a4 := j27_4; unfold In at a4)); (first | have a5 := in_u ((in_c 1 rfl)) | (have a5 := (in_c 1 rfl); unfold In at a5)); (first | have a6 := in_u i133 | (have a6 := i133; unfold In at a6)))); have a7 := t_add e133 i33 (in_c 1 rfl) rfl; have oc := ocf_mut39; omega) e42 e45 c46 c78 (by (first | have a0 := oa7 h3 i33a i33 i78 j27_4 ((in_c 1 rfl)) i133 | ((first | have a0 := in_u h3 | (have a0 := h3; unfold In at a0)); (first | have a1 := in_u i33a | (have a1 := i33a; unfold In at a1)); (first | have a2 := in_u i33 | (have a2 := i33; unfold In at a2)); (first | have a3 := in_u i78 | (have a3 := i78; unfold In at a3)); (first | have a4 := in_u j27_4 | (have a4 := j27_4; unfold In at a4)); (first | have a5 := in_u ((in_c 1 rfl)) | (have a5 := (in_c 1 rfl); unfold In at a5)); (first | have a6 := in_u i133 | (have a6 := i133; unfold In at a6)))); have a7 := t_add e133 i33 (in_c 1 rfl) rfl; have oc := ocf_mut39; omega)
                exact gg_w (by first | exact Nat.le_add_right _ _ | exact gw2 | exact gw3 | exact gwe rfl | exact gwf rfl | exact gwg rfl | exact gwh rfl | omega) (gg_f (gf_cons rfl (gf_cons rfl (gf_cons rfl (gf_cons rfl (gf_cons rfl (gf_cons rfl (gf_cons rfl (gf_cons rfl (gf_cons rfl gf_nil))))))))) (ih27 sc27 y27_4 y27_5 y27_6 y27_7 z133 hIc27 hFc27 (in_w 0 31 j27_4 rfl) (in_w 0 1 i78 rfl) (in_w 0 32 i133 rfl) n27 n27a n27b n27c n27d n27e (m_up mm27 (t_add e133 i33 (in_c 1 rfl) rfl) (in_w 1 1 (in_c 1 rfl) rfl))))
              · skip
                have i78 := z_eq 0 0 c78 j27_7 rfl
                refine g_iload 83 (gd rfl) rfl rfl ?_
                refine g_iload 85 (gd rfl) rfl rfl ?_
                refine g_ior 86 (gd rfl) rfl (fun z85 e85 => ?_)
                have i85 := in_or 1 e85 (in_w 0 1 i78 rfl) (in_w 0 1 (in_c 1 rfl) rfl) rfl
                refine g_istore 88 (gd rfl) rfl (Nat.le_of_ble_eq_true rfl) ?_
                refine g_aload_n 89 (gd rfl) rfl rfl ?_
                refine g_getA (q2 := 61) 92 (gd rfl) rfl rfl rfl rfl ?_
                refine g_iload 94 (gd rfl) rfl rfl ?_
                refine g_dup2 95 (gd rfl) rfl rfl rfl ?_
                refine g_iaload 96 (gd rfl) rfl (n := 32) rfl (in_ix i33 rfl) (fun z95 e95 => ?_)
                have q95 : z42 = z95 := (e42).trans e95.symm
                subst q95
                refine g_iload 98 (gd rfl) rfl rfl ?_
                refine g_ior 99 (gd rfl) rfl (fun z98 e98 => ?_)
                refine g_iastore 100 (gd rfl) rfl (n := 32) rfl (in_ix i33 rfl) ?_
                have hI99 := inv_sI (q := 61) (j := y27_8.toNatClampNeg) hIc27 rfl (in_w (-2147483648) 2147483647 (i_rng z98) rfl)
                refine g_aload_n 101 (gd rfl) rfl rfl ?_
                refine g_aload_n 102 (gd rfl) rfl rfl ?_
                refine g_iload_n 103 (gd rfl) rfl rfl ?_
                refine g_iload 105 (gd rfl) rfl rfl ?_
                refine g_iconst (-1) 106 (gd rfl) rfl rfl ?_
                refine g_ixor 107 (gd rfl) rfl (fun z106 e106 => ?_)
                refine g_iand 108 (gd rfl) rfl (fun z107 e107 => ?_)
                refine g_iload_n 109 (gd rfl) rfl rfl ?_
                refine g_iconst 1 110 (gd rfl) rfl rfl ?_
                refine g_iadd 111 (gd rfl) rfl (fun z110 e110 => ?_)
                have i110 := in_add 1 33 e110 h3 (in_c 1 rfl) rfl rfl
                have p111 : FLX ((sI sc27 61 y27_8.toNatClampNeg z98).1 39) (sI sc27 61 y27_8.toNatClampNeg z98) z107 (z110).toInt := by rw [sI_p (show Nat.beq 39 61 = false from rfl), hFc27.1 39 rfl]; exact (fp_x q_0 g27_0 g27_1 (hFc27.2.2.1 60 3 rfl) g27_2 j27_4 i33 (by rw [← e_60_3]; (first | have a0 := oa8 h3 i33a i33 i78 j27_4 ((in_c 1 rfl)) i85 i110 | ((first | have a0 := in_u h3 | (have a0 := h3; unfold In at a0)); (first | have a1 := in_u i33a | (have a1 := i33a; unfold In at a1)); (first | have a2 := in_u i33 | (have a2 := i33; unfold In at a2)); (first | have a3 := in_u i78 | (have a3 := i78; unfold In at a3)); (first | have a4 := in_u j27_4 | (have a4 := j27_4; unfold In at a4)); (first | have a5 := in_u ((in_c 1 rfl)) | (have a5 := (in_c 1 rfl); unfold In at a5)); (first | have a6 := in_u i85 | (have a6 := i85; unfold In at a6)); (first | have a7 := in_u i110 | (have a7 := i110; unfold In at a7)))); have a8 := t_add e110 h3 (in_c 1 rfl) rfl; have oc := ocf_mut39; omega) g27_3 e42 (e66.trans (congrFun (hFc27.1 39 rfl) _)) e67 c68 e98 e106 e107 (show (z110).toInt = (x3).toInt + 1 from (by (first | have a0 := oa8 h3 i33a i33 i78 j27_4 ((in_c 1 rfl)) i85 i110 | ((first | have a0 := in_u h3 | (have a0 := h3; unfold In at a0)); (first | have a1 := in_u i33a | (have a1 := i33a; unfold In at a1)); (first | have a2 := in_u i33 | (have a2 := i33; unfold In at a2)); (first | have a3 := in_u i78 | (have a3 := i78; unfold In at a3)); (first | have a4 := in_u j27_4 | (have a4 := j27_4; unfold In at a4)); (first | have a5 := in_u ((in_c 1 rfl)) | (have a5 := (in_c 1 rfl); unfold In at a5)); (first | have a6 := in_u i85 | (have a6 := i85; unfold In at a6)); (first | have a7 := in_u i110 | (have a7 := i110; unfold In at a7)))); have a8 := t_add e110 h3 (in_c 1 rfl) rfl; have oc := ocf_mut39; omega))).1
                have n111 : 33 - (z110).toInt < ((kk : Nat) : Int) := by (first | have a0 := oa8 h3 i33a i33 i78 j27_4 ((in_c 1 rfl)) i85 i110 | ((first | have a0 := in_u h3 | (have a0 := h3; unfold In at a0)); (first | have a1 := in_u i33a | (have a1 := i33a; unfold In at a1)); (first | have a2 := in_u i33 | (have a2 := i33; unfold In at a2)); (first | have a3 := in_u i78 | (have a3 := i78; unfold In at a3)); (first | have a4 := in_u j27_4 | (have a4 := j27_4; unfold In at a4)); (first | have a5 := in_u ((in_c 1 rfl)) | (have a5 := (in_c 1 rfl); unfold In at a5)); (first | have a6 := in_u i85 | (have a6 := i85; unfold In at a6)); (first | have a7 := in_u i110 | (have a7 := i110; unfold In at a7)))); have a8 := t_add e110 h3 (in_c 1 rfl) rfl; have oc := ocf_mut39; omega
                refine g_callv (X := _) (As := [.ref (A 39), .int z107, .int z110]) (r := []) (b := A 60) (q := 60) 114 (gd rfl) rfl rfl rfl rfl rfl (ww_o rfl) (Nat.le_of_ble_eq_true rfl) (Nat.zero_le _) (Nat.zero_le _) (ihF (by omega) hI99 (in_w 0 33 i110 rfl) p111 n111) (fun e u h => h) (fun v u h => ?_)
                obtain ⟨s111, hI111, hF111, z111, rfl, rfl, i111, p111a, p111b⟩ := h
                show GG _ _ _ _ _ _ _ _ [.int z111] _ _ _
                refine g_if_eq 117 119 (gd rfl) rfl rfl (fun c114 => ?_) (fun c114 => ?_)
                · skip
                  have i114 := z_eq 0 0 c114 i111 rfl
                  refine g_aload_n 120 (gd rfl) rfl rfl ?_
                  refine g_getA (q2 := 61) 123 (gd rfl) rfl rfl rfl rfl ?_
                  refine g_iload 125 (gd rfl) rfl rfl ?_
                  refine g_dup2 126 (gd rfl) rfl rfl rfl ?_
                  refine g_iaload 127 (gd rfl) rfl (n := 32) rfl (in_ix i33 rfl) (fun z126 e126 => ?_)
                  refine g_iload 129 (gd rfl) rfl rfl ?_
                  refine g_iconst (-1) 130 (gd rfl) rfl rfl ?_
                  refine g_ixor 131 (gd rfl) rfl (fun z130 e130 => ?_)
                  refine g_iand 132 (gd rfl) rfl (fun z131 e131 => ?_)
                  refine g_iastore 133 (gd rfl) rfl (n := 32) rfl (in_ix i33 rfl) ?_
                  have hI132 := inv_sI (q := 61) (j := y27_8.toNatClampNeg) hI111 rfl (in_w (-2147483648) 2147483647 (i_rng z131) rfl)
                  refine g_iinc 136 (gd rfl) rfl rfl (Nat.le_of_ble_eq_true rfl) (fun z133 e133 => ?_)
                  have i133 := in_add 1 32 e133 i33 (in_c 1 rfl) rfl rfl
                  refine g_goto 27 (gd rfl) rfl ?_
                  have n27 : CEQL (s.1 61) ((sI s111 61 y27_8.toNatClampNeg z131).1 61) := by exact (fp_t (z85 := z85) q_0 g27_5 g27_0 (fp_x q_0 g27_0 g27_1 (hFc27.2.2.1 60 3 rfl) g27_2 j27_4 i33 (by rw [← e_60_3]; (first | have a0 := oa7 h3 i33a i33 i78 j27_4 ((in_c 1 rfl)) i133 | ((first | have a0 := in_u h3 | (have a0 := h3; unfold In at a0)); (first | have a1 := in_u i33a | (have a1 := i33a; unfold In at a1)); (first | have a2 := in_u i33 | (have a2 := i33; unfold In at a2)); (first | have a3 := in_u i78 | (have a3 := i78; unfold In at a3)); (first | have a4 := in_u j27_4 | (have a4 := j27_4; unfold In at a4)); (first | have a5 := in_u ((in_c 1 rfl)) | (have a5 := (in_c 1 rfl); unfold In at a5)); (first | have a6 := in_u i133 | (have a6 := i133; unfold In at a6)))); have a7 := t_add e133 i33 (in_c 1 rfl) rfl; (first | have a8 := oa2 i85 i110 | ((first | have a8 := in_u i85 | (have a8 := i85; unfold In at a8)); (first | have a9 := in_u i110 | (have a9 := i110; unfold In at a9)))); have a10 := t_add e110 h3 (in_c 1 rfl) rfl; have oc := ocf_mut39; omega) g27_3 e42 (e66.trans (congrFun (hFc27.1 39 rfl) _)) e67 c68 e98 e106 e107 (show (z110).toInt = (x3).toInt + 1 from (by (first | have a0 := oa7 h3 i33a i33 i78 j27_4 ((in_c 1 rfl)) i133 | ((first | have a0 := in_u h3 | (have a0 := h3; unfold In at a0)); (first | have a1 := in_u i33a | (have a1 := i33a; unfold In at a1)); (first | have a2 := in_u i33 | (have a2 := i33; unfold In at a2)); (first | have a3 := in_u i78 | (have a3 := i78; unfold In at a3)); (first | have a4 := in_u j27_4 | (have a4 := j27_4; unfold In at a4)); (first | have a5 := in_u ((in_c 1 rfl)) | (have a5 := (in_c 1 rfl); unfold In at a5)); (first | have a6 := in_u i133 | (have a6 := i133; unfold In at a6)))); have a7 := t_add e133 i33 (in_c 1 rfl) rfl; (first | have a8 := oa2 i85 i110 | ((first | have a8 := in_u i85 | (have a8 := i85; unfold In at a8)); (first | have a9 := in_u i110 | (have a9 := i110; unfold In at a9)))); have a10 := t_add e110 h3 (in_c 1 rfl) rfl; have oc := ocf_mut39; omega))).2 g27_2 j27_4 i33 g27_3 e42 e98 e106 e107 (show FRE (s.1 39) (s.2.2.1 60 3).toInt z107 (upd (sc27.1 61) y27_8.toNatClampNeg z98) (s111.1 61) (z111).toInt from (by have h9 := p111a; rw [sI_p (show Nat.beq 39 61 = false from rfl), sI_q, hFc27.1 39 rfl, show (sI sc27 61 y27_8.toNatClampNeg z98).2.2.1 60 3 = s.2.2.1 60 3 from hFc27.2.2.1 60 3 rfl] at h9; exact h9)) c114 e126 e130 e131 (show (z133).toInt = (y27_8).toInt + 1 from (by (first | have a0 := oa7 h3 i33a i33 i78 j27_4 ((in_c 1 rfl)) i133 | ((first | have a0 := in_u h3 | (have a0 := h3; unfold In at a0)); (first | have a1 := in_u i33a | (have a1 := i33a; unfold In at a1)); (first | have a2 := in_u i33 | (have a2 := i33; unfold In at a2)); (first | have a3 := in_u i78 | (have a3 := i78; unfold In at a3)); (first | have a4 := in_u j27_4 | (have a4 := j27_4; unfold In at a4)); (first | have a5 := in_u ((in_c 1 rfl)) | (have a5 := (in_c 1 rfl); unfold In at a5)); (first | have a6 := in_u i133 | (have a6 := i133; unfold In at a6)))); have a7 := t_add e133 i33 (in_c 1 rfl) rfl; (first | have a8 := oa2 i85 i110 | ((first | have a8 := in_u i85 | (have a8 := i85; unfold In at a8)); (first | have a9 := in_u i110 | (have a9 := i110; unfold In at a9)))); have a10 := t_add e110 h3 (in_c 1 rfl) rfl; have oc := ocf_mut39; omega)) (fun _ => Or.inr (fr_sh g27_0 i33 e42 e45 c46))).1
                  have n27a : ASI s (sI s111 61 y27_8.toNatClampNeg z131) := by exact asi_I (asi_t g27_1 (asi_J p111b))
                  have n27b : bt x2 (y27_4).toNatClampNeg = true := by exact g27_2
                  have n27c : (y27_5) = Int32.ofInt 1 <<< ((y27_4) &&& 31) := by exact g27_3
                  have n27d : BSX (s.1 39) x2 (y27_6) := by exact g27_4
                  have n27e : FPI (s.1 39) (s.2.2.1 60 3).toInt (s.1 61) x2 (y27_4).toNatClampNeg (y27_6) (z133).toInt (z85).toInt := by exact (fp_t (z85 := z85) q_0 g27_5 g27_0 (fp_x q_0 g27_0 g27_1 (hFc27.2.2.1 60 3 rfl) g27_2 j27_4 i33 (by rw [← e_60_3]; (first | have a0 := oa7 h3 i33a i33 i78 j27_4 ((in_c 1 rfl)) i133 | ((first | have a0 := in_u h3 | (have a0 := h3; unfold In at a0)); (first | have a1 := in_u i33a | (have a1 := i33a; unfold In at a1)); (first | have a2 := in_u i33 | (have a2 := i33; unfold In at a2)); (first | have a3 := in_u i78 | (have a3 := i78; unfold In at a3)); (first | have a4 := in_u j27_4 | (have a4 := j27_4; unfold In at a4)); (first | have a5 := in_u ((in_c 1 rfl)) | (have a5 := (in_c 1 rfl); unfold In at a5)); (first | have a6 := in_u i133 | (have a6 := i133; unfold In at a6)))); have a7 := t_add e133 i33 (in_c 1 rfl) rfl; (first | have a8 := oa2 i85 i110 | ((first | have a8 := in_u i85 | (have a8 := i85; unfold In at a8)); (first | have a9 := in_u i110 | (have a9 := i110; unfold In at a9)))); have a10 := t_add e110 h3 (in_c 1 rfl) rfl; have oc := ocf_mut39; omega) g27_3 e42 (e66.trans (congrFun (hFc27.1 39 rfl) _)) e67 c68 e98 e106 e107 (show (z110).toInt = (x3).toInt + 1 from (by (first | have a0 := oa7 h3 i33a i33 i78 j27_4 ((in_c 1 rfl)) i133 | ((first | have a0 := in_u h3 | (have a0 := h3; unfold In at a0)); (first | have a1 := in_u i33a | (have a1 := i33a; unfold In at a1)); (first | have a2 := in_u i33 | (have a2 := i33; unfold In at a2)); (first | have a3 := in_u i78 | (have a3 := i78; unfold In at a3)); (first | have a4 := in_u j27_4 | (have a4 := j27_4; unfold In at a4)); (first | have a5 := in_u ((in_c 1 rfl)) | (have a5 := (in_c 1 rfl); unfold In at a5)); (first | have a6 := in_u i133 | (have a6 := i133; unfold In at a6)))); have a7 := t_add e133 i33 (in_c 1 rfl) rfl; (first | have a8 := oa2 i85 i110 | ((first | have a8 := in_u i85 | (have a8 := i85; unfold In at a8)); (first | have a9 := in_u i110 | (have a9 := i110; unfold In at a9)))); have a10 := t_add e110 h3 (in_c 1 rfl) rfl; have oc := ocf_mut39; omega))).2 g27_2 j27_4 i33 g27_3 e42 e98 e106 e107 (show FRE (s.1 39) (s.2.2.1 60 3).toInt z107 (upd (sc27.1 61) y27_8.toNatClampNeg z98) (s111.1 61) (z111).toInt from (by have h9 := p111a; rw [sI_p (show Nat.beq 39 61 = false from rfl), sI_q, hFc27.1 39 rfl, show (sI sc27 61 y27_8.toNatClampNeg z98).2.2.1 60 3 = s.2.2.1 60 3 from hFc27.2.2.1 60 3 rfl] at h9; exact h9)) c114 e126 e130 e131 (show (z133).toInt = (y27_8).toInt + 1 from (by (first | have a0 := oa7 h3 i33a i33 i78 j27_4 ((in_c 1 rfl)) i133 | ((first | have a0 := in_u h3 | (have a0 := h3; unfold In at a0)); (first | have a1 := in_u i33a | (have a1 := i33a; unfold In at a1)); (first | have a2 := in_u i33 | (have a2 := i33; unfold In at a2)); (first | have a3 := in_u i78 | (have a3 := i78; unfold In at a3)); (first | have a4 := in_u j27_4 | (have a4 := j27_4; unfold In at a4)); (first | have a5 := in_u ((in_c 1 rfl)) | (have a5 := (in_c 1 rfl); unfold In at a5)); (first | have a6 := in_u i133 | (have a6 := i133; unfold In at a6)))); have a7 := t_add e133 i33 (in_c 1 rfl) rfl; (first | have a8 := oa2 i85 i110 | ((first | have a8 := in_u i85 | (have a8 := i85; unfold In at a8)); (first | have a9 := in_u i110 | (have a9 := i110; unfold In at a9)))); have a10 := t_add e110 h3 (in_c 1 rfl) rfl; have oc := ocf_mut39; omega)) (fun _ => Or.inr (fr_sh g27_0 i33 e42 e45 c46))).2
                  exact gg_w (by first | exact Nat.le_add_right _ _ | exact gw2 | exact gw3 | exact gwe rfl | exact gwf rfl | exact gwg rfl | exact gwh rfl | omega) (gg_f (gf_cons rfl (gf_cons rfl (gf_cons rfl (gf_cons rfl (gf_cons rfl (gf_cons rfl (gf_cons rfl (gf_cons rfl (gf_cons rfl gf_nil))))))))) (ih27 (sI s111 61 y27_8.toNatClampNeg z131) y27_4 y27_5 y27_6 z85 z133 hI132 (fr_sI rfl (fr_tr rfl (fr_sI rfl hFc27) hF111)) (in_w 0 31 j27_4 rfl) (in_w 0 1 i85 rfl) (in_w 0 32 i133 rfl) n27 n27a n27b n27c n27d n27e (m_up mm27 (t_add e133 i33 (in_c 1 rfl) rfl) (in_w 1 1 (in_c 1 rfl) rfl))))
                · skip
                  have i114 := z_ne 1 1 c114 i111 rfl
                  refine g_iconst 1 118 (gd rfl) rfl rfl ?_
                  have n118 : FRE (s.1 39) (s.2.2.1 60 3).toInt x2 (s.1 61) ((s111).1 61) ((Int32.ofInt 1)).toInt := by exact fp_y g27_0 g27_2 j27_4 i33 g27_3 e42 e98 e106 e107 (show FRE (s.1 39) (s.2.2.1 60 3).toInt z107 (upd (sc27.1 61) y27_8.toNatClampNeg z98) (s111.1 61) (z111).toInt from (by have h9 := p111a; rw [sI_p (show Nat.beq 39 61 = false from rfl), sI_q, hFc27.1 39 rfl, show (sI sc27 61 y27_8.toNatClampNeg z98).2.2.1 60 3 = s.2.2.1 60 3 from hFc27.2.2.1 60 3 rfl] at h9; exact h9)) c114 (by decide)
                  have n118a : ASI s s111 := by exact asi_t g27_1 (asi_J p111b)
                  exact g_ireturn (gd rfl) rfl (nb01 (in_w 0 1 (in_c 1 rfl) rfl)) (hP _ _ ⟨s111, hI111, (fr_tr rfl (fr_sI rfl hFc27) hF111), (Int32.ofInt 1), rfl, rfl, in_w 0 1 (in_c 1 rfl) rfl, n118, n118a⟩)
  refine g_enter2 (k := 47) (N := 30601) (by first | exact dq1 hd rfl | exact dq0 hd rfl | exact dq2 hd rfl | exact dq3 hd rfl | omega) rfl (Nat.le_of_ble_eq_true rfl) ?_
  refine g_aload_n 1 (gd rfl) rfl rfl ?_
  refine g_aload_n 2 (gd rfl) rfl rfl ?_
  refine g_iload_n 3 (gd rfl) rfl rfl ?_
  refine g_callv (X := _) (As := [.ref (A 39), .int x2]) (r := []) (b := A 60) (q := 60) 6 (gd rfl) rfl rfl rfl rfl rfl (ww_o rfl) (Nat.le_of_ble_eq_true rfl) (Nat.zero_le _) (Nat.zero_le _) (f_52_60_39 (by first | exact dq1 hd rfl | exact dq0 hd rfl | exact dq2 hd rfl | exact dq3 hd rfl | omega) hI nza_2) (fun e u h => h) (fun v u h => ?_)
  obtain ⟨z3, rfl, rfl, i3, p3⟩ := h
  show GG _ _ _ _ _ _ _ _ [.int z3] _ _ _
  refine g_istore 8 (gd rfl) rfl (Nat.le_of_ble_eq_true rfl) ?_
  refine g_iconst 1 9 (gd rfl) rfl rfl ?_
  refine g_iload 11 (gd rfl) rfl rfl ?_
  refine g_ishl 12 (gd rfl) rfl (fun z11 e11 => ?_)
  refine g_istore 14 (gd rfl) rfl (Nat.le_of_ble_eq_true rfl) ?_
  refine g_aload_n 15 (gd rfl) rfl rfl ?_
  refine g_iload_n 16 (gd rfl) rfl rfl ?_
  refine g_calls (As := [.ref (A 39), .int x2]) (r := []) 19 (gd rfl) rfl rfl rfl rfl rfl (Nat.le_of_ble_eq_true rfl) (Nat.zero_le _) (Nat.zero_le _) (f_48_39 (by first | exact dq1 hd rfl | exact dq0 hd rfl | exact dq2 hd rfl | exact dq3 hd rfl | omega) hI ) (fun v u h => ?_)
  obtain ⟨z16, rfl, rfl, i16, p16⟩ := h
  show GG _ _ _ _ _ _ _ _ [.int z16] _ _ _
  refine g_istore 21 (gd rfl) rfl (Nat.le_of_ble_eq_true rfl) ?_
  refine g_iconst 0 22 (gd rfl) rfl rfl ?_
  refine g_istore 24 (gd rfl) rfl (Nat.le_of_ble_eq_true rfl) ?_
  refine g_iconst 0 25 (gd rfl) rfl rfl ?_
  refine g_istore 27 (gd rfl) rfl (Nat.le_of_ble_eq_true rfl) ?_
  have n27 : CEQL (s.1 61) (s.1 61) := by exact cle_r
  have n27a : ASI s s := by exact asi_r
  have n27b : bt x2 (z3).toNatClampNeg = true := by exact p3
  have n27c : (z11) = Int32.ofInt 1 <<< ((z3) &&& 31) := by exact e11
  have n27d : BSX (s.1 39) x2 (z16) := by exact p16
  have n27e : FPI (s.1 39) (s.2.2.1 60 3).toInt (s.1 61) x2 (z3).toNatClampNeg (z16) ((Int32.ofInt 0)).toInt ((Int32.ofInt 0)).toInt := by exact (show FPI _ _ _ _ _ _ 0 0 from fpi_0 p3)
  exact gg_w (by first | exact Nat.le_of_ble_eq_true rfl | omega) (gg_f (gf_cons rfl (gf_cons rfl (gf_cons rfl (gf_cons rfl (gf_cons rfl (gf_cons rfl (gf_cons rfl (gf_cons rfl (gf_cons rfl gf_nil))))))))) (ct27 33 s z3 z11 z16 (Int32.ofInt 0) (Int32.ofInt 0) hI fr_rf (in_w 0 31 i3 rfl) (in_w 0 1 (in_c 0 rfl) rfl) (in_w 0 32 (in_c 0 rfl) rfl) n27 n27a n27b n27c n27d n27e (m_in 33 (in_w 0 32 (in_c 0 rfl) rfl) rfl)))
set_option maxHeartbeats 2000000 in
theorem f_46_60_39_r {Z : AmZ} {A : Nat → Nat} {ex : va_W} (kk : Nat) : ∀ {s : GS} {d : Nat} {X : AmX} {x2 : Int32} {x3 : Int32}, 40 + kk * 10 ≤ d → Inv s → (In x3 0 33) → (FLX (s.1 39) s x2 (x3).toInt) → 33 - (x3).toInt < ((kk : Nat) : Int) → GC Z d 46 [.ref (A 60), .ref (A 39), .int x2, .int x3] (WW Z A s ++ ex) 0 0 (fun v u => ∃ t : GS, Inv t ∧ Fr fm_46_60_39 s t ∧ ∃ z : Int32, v = some (.int z) ∧ u = WW Z A t ++ ex ∧ In z 0 1 ∧ (FRE (s.1 39) (s.2.2.1 60 3).toInt x2 (s.1 61) ((t).1 61) (z).toInt) ∧ (ASI s t)) X := by
  induction kk with
  | zero => intro s d X x2 x3 hd hI h3 q_0 hm; exact m_no hm h3 rfl
  | succ kk ih =>
    have ihP : ∀ {s : GS} {d : Nat} {X : AmX} {x2 : Int32} {x3 : Int32}, 45 + kk * 10 ≤ d → Inv s → (In x3 0 32) → (x2.toInt ≠ 0) → (FLX (s.1 39) s x2 (x3).toInt) → 33 - (x3).toInt < ((kk + 1 : Nat) : Int) → GC Z d 47 [.ref (A 60), .ref (A 39), .int x2, .int x3] (WW Z A s ++ ex) 0 0 (fun v u => ∃ t : GS, Inv t ∧ Fr fm_47_60_39 s t ∧ ∃ z : Int32, v = some (.int z) ∧ u = WW Z A t ++ ex ∧ In z 0 1 ∧ (FRE (s.1 39) (s.2.2.1 60 3).toInt x2 (s.1 61) ((t).1 61) (z).toInt) ∧ (ASI s t)) X := f_47_60_39_r kk ih
    intro s d X x2 x3 hd hI h3 q_0 hm
    intro post xp hP hX
    obtain ⟨u_60_3, e_60_3⟩ : ∃ w, w = s.2.2.1 60 3 := ⟨_, rfl⟩
    have ro_60_3 := inv_F hI 0 32 rfl e_60_3
    have ct65 : ∀ (k65 : Nat) (sc65 : GS) (y65_4 : Int32) (y65_5 : Int32) (y65_6 : Int32) (y65_7 : Int32) (y65_8 : Int32), Inv sc65 → Fr fm_46_60_39 s sc65 → (In x3 0 32) → (In y65_4 0 32) → (In y65_6 0 31) → (In y65_8 0 32) → ((y65_5).toInt ≠ 0) → (F65 (s.1 39) s sc65 x2 (y65_8).toInt) → ((y65_4) = s.2.2.1 60 7) → 32 - (y65_8).toInt < (k65 : Int) → GG Z (d - 1) 46 post (gx xp) (1 + k65 * 900) 65 (fun j => xlook j [(0, .ref (A 60)), (1, .ref (A 39)), (2, .int x2), (3, .int x3), (4, .int y65_4), (5, .int y65_5), (6, .int y65_6), (7, .int y65_7), (8, .int y65_8)]) [] (WW Z A sc65 ++ ex) 0 0 := by
      intro k65
      induction k65 with
      | zero => intro sc65 y65_4 y65_5 y65_6 y65_7 y65_8 hIc65 hFc65 j65_3 j65_4 j65_6 j65_8 nz65_5 g65_0 g65_1 mm65; exact m_no mm65 j65_8 rfl
      | succ k65 ih65 =>
        intro sc65 y65_4 y65_5 y65_6 y65_7 y65_8 hIc65 hFc65 j65_3 j65_4 j65_6 j65_8 nz65_5 g65_0 g65_1 mm65
        refine gg_w (M := 1 + k65 * 900 + 900) gws ?_
        refine g_iload 67 (gd rfl) rfl rfl ?_
        refine g_aload_n 68 (gd rfl) rfl rfl ?_
        refine g_getI 71 (gd rfl) rfl rfl rfl (fun z68 e68 => ?_)
        have q68 : u_60_3 = z68 := (fr_F e_60_3 hFc65 rfl).trans e68.symm
        subst q68
        refine g_cmp_ge 74 93 (gd rfl) rfl rfl (fun c71 => ?_) (fun c71 => ?_)
        · skip
          refine g_aload_n 94 (gd rfl) rfl rfl ?_
          refine g_iload 96 (gd rfl) rfl rfl ?_
          refine g_putI 99 (gd rfl) rfl rfl rfl rfl ?_
          have hI96 := inv_sF (q := 60) (j := 7) hIc65 rfl (in_w 0 32 j65_4 rfl)
          refine g_iconst 0 100 (gd rfl) rfl rfl ?_
          have n100 : FRE (s.1 39) (s.2.2.1 60 3).toInt x2 (s.1 61) (((sF sc65 60 7 y65_4)).1 61) ((Int32.ofInt 0)).toInt := by exact (f65_e g65_0 q_0 (by rw [← e_60_3]; (first | have a0 := oa5 j65_3 ro_60_3 j65_8 j65_6 j65_4 | ((first | have a0 := in_u j65_3 | (have a0 := j65_3; unfold In at a0)); (first | have a1 := in_u ro_60_3 | (have a1 := ro_60_3; unfold In at a1)); (first | have a2 := in_u j65_8 | (have a2 := j65_8; unfold In at a2)); (first | have a3 := in_u j65_6 | (have a3 := j65_6; unfold In at a3)); (first | have a4 := in_u j65_4 | (have a4 := j65_4; unfold In at a4)))); have oc := ocf_mut39; omega) g65_1 (show (Int32.ofInt 0).toInt = 0 from rfl)).1
          have n100a : ASI s (sF sc65 60 7 y65_4) := by exact (f65_e g65_0 q_0 (by rw [← e_60_3]; (first | have a0 := oa5 j65_3 ro_60_3 j65_8 j65_6 j65_4 | ((first | have a0 := in_u j65_3 | (have a0 := j65_3; unfold In at a0)); (first | have a1 := in_u ro_60_3 | (have a1 := ro_60_3; unfold In at a1)); (first | have a2 := in_u j65_8 | (have a2 := j65_8; unfold In at a2)); (first | have a3 := in_u j65_6 | (have a3 := j65_6; unfold In at a3)); (first | have a4 := in_u j65_4 | (have a4 := j65_4; unfold In at a4)))); have oc := ocf_mut39; omega) g65_1 (show (Int32.ofInt 0).toInt = 0 from rfl)).2
          exact g_ireturn (gd rfl) rfl (nb01 (in_w 0 1 (in_c 0 rfl) rfl)) (hP _ _ ⟨(sF sc65 60 7 y65_4), hI96, (fr_sF rfl hFc65), (Int32.ofInt 0), rfl, rfl, in_w 0 1 (in_c 0 rfl) rfl, n100, n100a⟩)
        · skip
          have i71 := r_lt1 0 31 c71 j65_8 ro_60_3 rfl
          have i71a := r_lt2 1 32 c71 j65_8 ro_60_3 rfl
          refine g_aload_n 75 (gd rfl) rfl rfl ?_
          refine g_getA (q2 := 61) 78 (gd rfl) rfl rfl rfl rfl ?_
          refine g_iload 80 (gd rfl) rfl rfl ?_
          refine g_dup2 81 (gd rfl) rfl rfl rfl ?_
          refine g_iaload 82 (gd rfl) rfl (n := 32) rfl (in_ix i71 rfl) (fun z81 e81 => ?_)
          refine g_iload_n 83 (gd rfl) rfl rfl ?_
          refine g_iconst (-1) 84 (gd rfl) rfl rfl ?_
          refine g_ixor 85 (gd rfl) rfl (fun z84 e84 => ?_)
          refine g_iand 86 (gd rfl) rfl (fun z85 e85 => ?_)
          refine g_iastore 87 (gd rfl) rfl (n := 32) rfl (in_ix i71 rfl) ?_
          have hI86 := inv_sI (q := 61) (j := y65_8.toNatClampNeg) hIc65 rfl (in_w (-2147483648) 2147483647 (i_rng z85) rfl)
          refine g_iinc 90 (gd rfl) rfl rfl (Nat.le_of_ble_eq_true rfl) (fun z87 e87 => ?_)
          have i87 := in_add 1 32 e87 i71 (in_c 1 rfl) rfl rfl
          refine g_goto 65 (gd rfl) rfl ?_
          have n65 : F65 (s.1 39) s (sI sc65 61 y65_8.toNatClampNeg z85) x2 (z87).toInt := by exact f65_s g65_0 q_0 i71 e81 e84 e85 (by (first | have a0 := oa6 j65_3 i71a i71 j65_6 j65_4 i87 | ((first | have a0 := in_u j65_3 | (have a0 := j65_3; unfold In at a0)); (first | have a1 := in_u i71a | (have a1 := i71a; unfold In at a1)); (first | have a2 := in_u i71 | (have a2 := i71; unfold In at a2)); (first | have a3 := in_u j65_6 | (have a3 := j65_6; unfold In at a3)); (first | have a4 := in_u j65_4 | (have a4 := j65_4; unfold In at a4)); (first | have a5 := in_u i87 | (have a5 := i87; unfold In at a5)))); have a6 := t_add e87 i71 (in_c 1 rfl) rfl; (first | have a7 := in_u ((in_c 1 rfl)) | (have a7 := (in_c 1 rfl); unfold In at a7)); have oc := ocf_mut39; omega)
          have n65a : (y65_4) = s.2.2.1 60 7 := by exact g65_1
          exact gg_w (by first | exact Nat.le_add_right _ _ | exact gw2 | exact gw3 | exact gwe rfl | exact gwf rfl | exact gwg rfl | exact gwh rfl | omega) (gg_f (gf_cons rfl (gf_cons rfl (gf_cons rfl (gf_cons rfl (gf_cons rfl (gf_cons rfl (gf_cons rfl (gf_cons rfl (gf_cons rfl gf_nil))))))))) (ih65 (sI sc65 61 y65_8.toNatClampNeg z85) y65_4 y65_5 y65_6 y65_7 z87 hI86 (fr_sI rfl hFc65) (in_w 0 32 j65_3 rfl) (in_w 0 32 j65_4 rfl) (in_w 0 31 j65_6 rfl) (in_w 0 32 i87 rfl) nz65_5 n65 n65a (m_up mm65 (t_add e87 i71 (in_c 1 rfl) rfl) (in_w 1 1 (in_c 1 rfl) rfl))))
    have ct25 : ∀ (k25 : Nat) (sc25 : GS) (y25_4 : Int32) (y25_5 : Int32) (y25_6 : Int32), Inv sc25 → Fr fm_46_60_39 s sc25 → (In x3 0 32) → (In y25_4 0 32) → (In y25_6 0 32) → (FJ (s.1 39) s sc25 x2 (y25_5)) → ((y25_6).toInt + (cb (y25_5) : Int) ≤ 32) → ((y25_4) = s.2.2.1 60 7) → 32 - (y25_6).toInt < (k25 : Int) → GG Z (d - 1) 46 post (gx xp) (29702 + k25 * 900) 25 (fun j => xlook j [(0, .ref (A 60)), (1, .ref (A 39)), (2, .int x2), (3, .int x3), (4, .int y25_4), (5, .int y25_5), (6, .int y25_6)]) [] (WW Z A sc25 ++ ex) 0 0 := by
      intro k25
      induction k25 with
      | zero => intro sc25 y25_4 y25_5 y25_6 hIc25 hFc25 j25_3 j25_4 j25_6 g25_0 g25_1 g25_2 mm25; exact m_no mm25 j25_6 rfl
      | succ k25 ih25 =>
        intro sc25 y25_4 y25_5 y25_6 hIc25 hFc25 j25_3 j25_4 j25_6 g25_0 g25_1 g25_2 mm25
        refine gg_w (M := 29702 + k25 * 900 + 900) gws ?_
        refine g_iload 27 (gd rfl) rfl rfl ?_
        refine g_bipush 32 29 (gd rfl) rfl rfl ?_
        refine g_cmp_ge 32 116 (gd rfl) rfl rfl (fun c29 => ?_) (fun c29 => ?_)
        · skip
          have i29 := r_le2 32 32 c29 (in_c 32 rfl) j25_6 rfl
          refine g_aload_n 117 (gd rfl) rfl rfl ?_
          refine g_aload_n 118 (gd rfl) rfl rfl ?_
          refine g_iload 120 (gd rfl) rfl rfl ?_
          have p120 : SYR (sc25.1 39) := by rw [hFc25.1 39 rfl]; exact q_0.1
          have p120a : (y25_4).toInt ≤ (sc25.2.2.1 60 7).toInt := by obtain ⟨n9, h9, -⟩ := g25_0; rw [g25_2]; omega
          refine g_callv (X := _) (As := [.ref (A 39), .int y25_4]) (r := []) (b := A 60) (q := 60) 123 (gd rfl) rfl rfl rfl rfl rfl (ww_o rfl) (Nat.le_of_ble_eq_true rfl) (Nat.zero_le _) (Nat.zero_le _) (f_50_60_39 (by first | exact dq1 hd rfl | exact dq0 hd rfl | exact dq2 hd rfl | exact dq3 hd rfl | omega) hIc25 (in_w 0 32 j25_4 rfl) p120 p120a) (fun e u h => h) (fun v u h => ?_)
          obtain ⟨s120, hI120, hF120, rfl, rfl, p120b, p120c⟩ := h
          show GG _ _ _ _ _ _ _ _ [] _ _ _
          refine g_iconst 1 124 (gd rfl) rfl rfl ?_
          have n124 : FRE (s.1 39) (s.2.2.1 60 3).toInt x2 (s.1 61) ((s120).1 61) ((Int32.ofInt 1)).toInt := by exact (fj_e g25_0 q_0 (inv_F hI (z := s.2.2.1 60 7) 0 32 rfl rfl).1 (fj_z g25_1 (by (first | have a0 := oa4 j25_3 ro_60_3 i29 j25_4 | ((first | have a0 := in_u j25_3 | (have a0 := j25_3; unfold In at a0)); (first | have a1 := in_u ro_60_3 | (have a1 := ro_60_3; unfold In at a1)); (first | have a2 := in_u i29 | (have a2 := i29; unfold In at a2)); (first | have a3 := in_u j25_4 | (have a3 := j25_4; unfold In at a3)))); have oc := ocf_mut39; omega)) g25_2 (hFc25.2.2.1 60 3 rfl) (show TBJ (s.1 39) sc25 s120 y25_4 from (by have h9 := p120c; rw [hFc25.1 39 rfl] at h9; exact h9)) p120b (hF120.1 63 rfl) (show (Int32.ofInt 1).toInt ≠ 0 from (by decide))).1
          have n124a : ASI s s120 := by exact (fj_e g25_0 q_0 (inv_F hI (z := s.2.2.1 60 7) 0 32 rfl rfl).1 (fj_z g25_1 (by (first | have a0 := oa4 j25_3 ro_60_3 i29 j25_4 | ((first | have a0 := in_u j25_3 | (have a0 := j25_3; unfold In at a0)); (first | have a1 := in_u ro_60_3 | (have a1 := ro_60_3; unfold In at a1)); (first | have a2 := in_u i29 | (have a2 := i29; unfold In at a2)); (first | have a3 := in_u j25_4 | (have a3 := j25_4; unfold In at a3)))); have oc := ocf_mut39; omega)) g25_2 (hFc25.2.2.1 60 3 rfl) (show TBJ (s.1 39) sc25 s120 y25_4 from (by have h9 := p120c; rw [hFc25.1 39 rfl] at h9; exact h9)) p120b (hF120.1 63 rfl) (show (Int32.ofInt 1).toInt ≠ 0 from (by decide))).2
          exact g_ireturn (gd rfl) rfl (nb01 (in_w 0 1 (in_c 1 rfl) rfl)) (hP _ _ ⟨s120, hI120, (fr_tr rfl hFc25 hF120), (Int32.ofInt 1), rfl, rfl, in_w 0 1 (in_c 1 rfl) rfl, n124, n124a⟩)
        · skip
          have i29 := r_lt1 0 31 c29 j25_6 (in_c 32 rfl) rfl
          refine g_iload 34 (gd rfl) rfl rfl ?_
          refine g_if_eq 37 116 (gd rfl) rfl rfl (fun c34 => ?_) (fun c34 => ?_)
          · skip
            have i34 := z_eq 0 0 c34 (i_rng y25_5) rfl
            refine g_aload_n 117 (gd rfl) rfl rfl ?_
            refine g_aload_n 118 (gd rfl) rfl rfl ?_
            refine g_iload 120 (gd rfl) rfl rfl ?_
            have p120 : SYR (sc25.1 39) := by rw [hFc25.1 39 rfl]; exact q_0.1
            have p120a : (y25_4).toInt ≤ (sc25.2.2.1 60 7).toInt := by obtain ⟨n9, h9, -⟩ := g25_0; rw [g25_2]; omega
            refine g_callv (X := _) (As := [.ref (A 39), .int y25_4]) (r := []) (b := A 60) (q := 60) 123 (gd rfl) rfl rfl rfl rfl rfl (ww_o rfl) (Nat.le_of_ble_eq_true rfl) (Nat.zero_le _) (Nat.zero_le _) (f_50_60_39 (by first | exact dq1 hd rfl | exact dq0 hd rfl | exact dq2 hd rfl | exact dq3 hd rfl | omega) hIc25 (in_w 0 32 j25_4 rfl) p120 p120a) (fun e u h => h) (fun v u h => ?_)
            obtain ⟨s120, hI120, hF120, rfl, rfl, p120b, p120c⟩ := h
            show GG _ _ _ _ _ _ _ _ [] _ _ _
            refine g_iconst 1 124 (gd rfl) rfl rfl ?_
            have n124 : FRE (s.1 39) (s.2.2.1 60 3).toInt x2 (s.1 61) ((s120).1 61) ((Int32.ofInt 1)).toInt := by exact (fj_e g25_0 q_0 (inv_F hI (z := s.2.2.1 60 7) 0 32 rfl rfl).1 (fun u => bt_0f c34) g25_2 (hFc25.2.2.1 60 3 rfl) (show TBJ (s.1 39) sc25 s120 y25_4 from (by have h9 := p120c; rw [hFc25.1 39 rfl] at h9; exact h9)) p120b (hF120.1 63 rfl) (show (Int32.ofInt 1).toInt ≠ 0 from (by decide))).1
            have n124a : ASI s s120 := by exact (fj_e g25_0 q_0 (inv_F hI (z := s.2.2.1 60 7) 0 32 rfl rfl).1 (fun u => bt_0f c34) g25_2 (hFc25.2.2.1 60 3 rfl) (show TBJ (s.1 39) sc25 s120 y25_4 from (by have h9 := p120c; rw [hFc25.1 39 rfl] at h9; exact h9)) p120b (hF120.1 63 rfl) (show (Int32.ofInt 1).toInt ≠ 0 from (by decide))).2
            exact g_ireturn (gd rfl) rfl (nb01 (in_w 0 1 (in_c 1 rfl) rfl)) (hP _ _ ⟨s120, hI120, (fr_tr rfl hFc25 hF120), (Int32.ofInt 1), rfl, rfl, in_w 0 1 (in_c 1 rfl) rfl, n124, n124a⟩)
          · skip
            refine g_aload_n 38 (gd rfl) rfl rfl ?_
            refine g_iload 40 (gd rfl) rfl rfl ?_
            refine g_iload 42 (gd rfl) rfl rfl ?_
            refine g_ineg 43 (gd rfl) rfl (fun z42 e42 => ?_)
            refine g_iand 44 (gd rfl) rfl (fun z43 e43 => ?_)
            refine g_iload 46 (gd rfl) rfl rfl ?_
            refine g_calls (As := [.ref (A 39), .int z43, .int y25_5]) (r := []) 49 (gd rfl) rfl rfl rfl rfl rfl (Nat.le_of_ble_eq_true rfl) (Nat.zero_le _) (Nat.zero_le _) (f_266_39 (by first | exact dq1 hd rfl | exact dq0 hd rfl | exact dq2 hd rfl | exact dq3 hd rfl | omega) hIc25 ) (fun v u h => ?_)
            obtain ⟨z46, rfl, rfl, i46, p46, p46a⟩ := h
            show GG _ _ _ _ _ _ _ _ [.int z46] _ _ _
            refine g_istore 51 (gd rfl) rfl (Nat.le_of_ble_eq_true rfl) ?_
            refine g_aload_n 52 (gd rfl) rfl rfl ?_
            refine g_aload_n 53 (gd rfl) rfl rfl ?_
            refine g_iload 55 (gd rfl) rfl rfl ?_
            refine g_iload_n 56 (gd rfl) rfl rfl ?_
            have nz56 : (z46).toInt ≠ 0 := by obtain ⟨k, hk⟩ := lsb_bit c34 e42 e43; exact bt_nz (p46 k hk)
            have p56 : FLX (sc25.1 39) sc25 z46 (x3).toInt := by rw [hFc25.1 39 rfl]; exact fj_x g25_0 q_0 (hFc25.2.2.1 60 3 rfl) (pc_in e42 e43 (show FLD (s.1 39) z43 y25_5 z46 from (by have h9 := p46a; rw [hFc25.1 39 rfl] at h9; exact h9)))
            have n56 : 33 - (x3).toInt < ((kk + 1 : Nat) : Int) := by (first | have a0 := oa4 j25_3 ro_60_3 i29 j25_4 | ((first | have a0 := in_u j25_3 | (have a0 := j25_3; unfold In at a0)); (first | have a1 := in_u ro_60_3 | (have a1 := ro_60_3; unfold In at a1)); (first | have a2 := in_u i29 | (have a2 := i29; unfold In at a2)); (first | have a3 := in_u j25_4 | (have a3 := j25_4; unfold In at a3)))); have oc := ocf_mut39; omega
            refine g_callv (X := _) (As := [.ref (A 39), .int z46, .int x3]) (r := []) (b := A 60) (q := 60) 59 (gd rfl) rfl rfl rfl rfl rfl (ww_o rfl) (Nat.le_of_ble_eq_true rfl) (Nat.zero_le _) (Nat.zero_le _) (ihP (by omega) hIc25 (in_w 0 32 j25_3 rfl) nz56 p56 n56) (fun e u h => h) (fun v u h => ?_)
            obtain ⟨s56, hI56, hF56, z56, rfl, rfl, i56, p56a, p56b⟩ := h
            show GG _ _ _ _ _ _ _ _ [.int z56] _ _ _
            refine g_if_ne 62 101 (gd rfl) rfl rfl (fun c59 => ?_) (fun c59 => ?_)
            · skip
              have i59 := z_ne 1 1 c59 i56 rfl
              refine g_iload 103 (gd rfl) rfl rfl ?_
              refine g_iload 105 (gd rfl) rfl rfl ?_
              refine g_iconst (-1) 106 (gd rfl) rfl rfl ?_
              refine g_ixor 107 (gd rfl) rfl (fun z106 e106 => ?_)
              refine g_iand 108 (gd rfl) rfl (fun z107 e107 => ?_)
              refine g_istore 110 (gd rfl) rfl (Nat.le_of_ble_eq_true rfl) ?_
              refine g_iinc 113 (gd rfl) rfl rfl (Nat.le_of_ble_eq_true rfl) (fun z110 e110 => ?_)
              have i110 := in_add 1 32 e110 i29 (in_c 1 rfl) rfl rfl
              refine g_goto 25 (gd rfl) rfl ?_
              have n25 : FJ (s.1 39) s s56 x2 (z107) := by exact fj_s g25_0 q_0 (inv_F hI (z := s.2.2.1 60 7) 0 32 rfl rfl).1 (hFc25.2.2.1 60 3 rfl) (show FLD (s.1 39) z43 y25_5 z46 from (by have h9 := p46a; rw [hFc25.1 39 rfl] at h9; exact h9)) (pc_in e42 e43 (show FLD (s.1 39) z43 y25_5 z46 from (by have h9 := p46a; rw [hFc25.1 39 rfl] at h9; exact h9))) (show FRE (s.1 39) (sc25.2.2.1 60 3).toInt z46 (sc25.1 61) (s56.1 61) (z56).toInt from (by have h9 := p56a; rw [hFc25.1 39 rfl] at h9; exact h9)) p56b c59 e106 e107
              have n25a : (z110).toInt + (cb (z107) : Int) ≤ 32 := by obtain ⟨k9, hk9⟩ := lsb_bit c34 e42 e43; exact fj_c g25_1 (bt_and1 e43 hk9) (p46 k9 hk9) e106 e107 (by (first | have a0 := oa5 j25_3 ro_60_3 i29 j25_4 i110 | ((first | have a0 := in_u j25_3 | (have a0 := j25_3; unfold In at a0)); (first | have a1 := in_u ro_60_3 | (have a1 := ro_60_3; unfold In at a1)); (first | have a2 := in_u i29 | (have a2 := i29; unfold In at a2)); (first | have a3 := in_u j25_4 | (have a3 := j25_4; unfold In at a3)); (first | have a4 := in_u i110 | (have a4 := i110; unfold In at a4)))); have a5 := t_add e110 i29 (in_c 1 rfl) rfl; (first | have a6 := in_u ((in_c 1 rfl)) | (have a6 := (in_c 1 rfl); unfold In at a6)); have oc := ocf_mut39; omega)
              have n25b : (y25_4) = s.2.2.1 60 7 := by exact g25_2
              exact gg_w (by first | exact Nat.le_add_right _ _ | exact gw2 | exact gw3 | exact gwe rfl | exact gwf rfl | exact gwg rfl | exact gwh rfl | omega) (gg_f (gf_cons rfl (gf_cons rfl (gf_cons rfl (gf_cons rfl (gf_cons rfl (gf_cons rfl (gf_cons rfl gf_nil))))))) (ih25 s56 y25_4 z107 z110 hI56 (fr_tr rfl hFc25 hF56) (in_w 0 32 j25_3 rfl) (in_w 0 32 j25_4 rfl) (in_w 0 32 i110 rfl) n25 n25a n25b (m_up mm25 (t_add e110 i29 (in_c 1 rfl) rfl) (in_w 1 1 (in_c 1 rfl) rfl))))
            · skip
              have i59 := z_eq 0 0 c59 i56 rfl
              refine g_iconst 0 63 (gd rfl) rfl rfl ?_
              refine g_istore 65 (gd rfl) rfl (Nat.le_of_ble_eq_true rfl) ?_
              have n65 : F65 (s.1 39) s s56 x2 ((Int32.ofInt 0)).toInt := by exact f65_0 g25_0 q_0 (hFc25.2.2.1 60 3 rfl) (pc_in e42 e43 (show FLD (s.1 39) z43 y25_5 z46 from (by have h9 := p46a; rw [hFc25.1 39 rfl] at h9; exact h9))) (show FRE (s.1 39) (sc25.2.2.1 60 3).toInt z46 (sc25.1 61) (s56.1 61) (z56).toInt from (by have h9 := p56a; rw [hFc25.1 39 rfl] at h9; exact h9)) p56b c59 rfl
              have n65a : (y25_4) = s.2.2.1 60 7 := by exact g25_2
              exact gg_w (by first | exact Nat.le_add_right _ _ | exact gw2 | exact gw3 | exact gwe rfl | exact gwf rfl | exact gwg rfl | exact gwh rfl | omega) (gg_f (gf_cons rfl (gf_cons rfl (gf_cons rfl (gf_cons rfl (gf_cons rfl (gf_cons rfl (gf_cons rfl (gf_cons rfl (gf_cons rfl gf_nil))))))))) (ct65 33 s56 y25_4 y25_5 y25_6 z46 (Int32.ofInt 0) hI56 (fr_tr rfl hFc25 hF56) (in_w 0 32 j25_3 rfl) (in_w 0 32 j25_4 rfl) (in_w 0 31 i29 rfl) (in_w 0 32 (in_c 0 rfl) rfl) c34 n65 n65a (m_in 33 (in_w 0 32 (in_c 0 rfl) rfl) rfl)))
    refine g_enter2 (k := 46) (N := 60302) (by first | exact dq1 hd rfl | exact dq0 hd rfl | exact dq2 hd rfl | exact dq3 hd rfl | omega) rfl (Nat.le_of_ble_eq_true rfl) ?_
    refine g_iload_n 1 (gd rfl) rfl rfl ?_
    refine g_bipush 32 3 (gd rfl) rfl rfl ?_
    refine g_cmp_le 6 8 (gd rfl) rfl rfl (fun c3 => ?_) (fun c3 => ?_)
    · skip
      have i3 := r_le1 0 32 c3 h3 (in_c 32 rfl) rfl
      refine g_aload_n 9 (gd rfl) rfl rfl ?_
      refine g_getI 12 (gd rfl) rfl rfl rfl (fun z9 e9 => ?_)
      have i9 := inv_F hI 0 32 rfl e9
      refine g_istore 14 (gd rfl) rfl (Nat.le_of_ble_eq_true rfl) ?_
      refine g_aload_n 15 (gd rfl) rfl rfl ?_
      refine g_aload_n 16 (gd rfl) rfl rfl ?_
      refine g_iload_n 17 (gd rfl) rfl rfl ?_
      refine g_callv (X := _) (As := [.ref (A 39), .int x2]) (r := []) (b := A 60) (q := 60) 20 (gd rfl) rfl rfl rfl rfl rfl (ww_o rfl) (Nat.le_of_ble_eq_true rfl) (Nat.zero_le _) (Nat.zero_le _) (f_49_60_39 (by first | exact dq1 hd rfl | exact dq0 hd rfl | exact dq2 hd rfl | exact dq3 hd rfl | omega) hI ) (fun e u h => h) (fun v u h => ?_)
      obtain ⟨s17, hI17, hF17, z17, rfl, rfl, i17, p17⟩ := h
      show GG _ _ _ _ _ _ _ _ [.int z17] _ _ _
      refine g_istore 22 (gd rfl) rfl (Nat.le_of_ble_eq_true rfl) ?_
      refine g_iconst 0 23 (gd rfl) rfl rfl ?_
      refine g_istore 25 (gd rfl) rfl (Nat.le_of_ble_eq_true rfl) ?_
      have n25 : FJ (s.1 39) s s17 x2 (z17) := by exact fj_0 p17 q_0 (hF17.1 61 rfl)
      have n25a : ((Int32.ofInt 0)).toInt + (cb (z17) : Int) ≤ 32 := by have h9 := cb_le z17; have o9 : (Int32.ofInt 0).toInt = 0 := rfl; omega
      have n25b : (z9) = s.2.2.1 60 7 := by exact e9
      exact gg_w (by first | exact Nat.le_of_ble_eq_true rfl | omega) (gg_f (gf_cons rfl (gf_cons rfl (gf_cons rfl (gf_cons rfl (gf_cons rfl (gf_cons rfl (gf_cons rfl gf_nil))))))) (ct25 33 s17 z9 z17 (Int32.ofInt 0) hI17 (fr_tr rfl fr_rf hF17) (in_w 0 32 i3 rfl) (in_w 0 32 i9 rfl) (in_w 0 32 (in_c 0 rfl) rfl) n25 n25a n25b (m_in 33 (in_w 0 32 (in_c 0 rfl) rfl) rfl)))
    · skip
      have i3 := r_lt2 33 33 c3 (in_c 32 rfl) h3 rfl
      refine g_iconst 0 7 (gd rfl) rfl rfl ?_
      have n7 : FRE (s.1 39) (s.2.2.1 60 3).toInt x2 (s.1 61) ((s).1 61) ((Int32.ofInt 0)).toInt := by exfalso; have h9 := q_0.2.2.2.2; (first | have a0 := oa2 ro_60_3 i3 | ((first | have a0 := in_u ro_60_3 | (have a0 := ro_60_3; unfold In at a0)); (first | have a1 := in_u i3 | (have a1 := i3; unfold In at a1)))); have oc := ocf_mut39; omega
      have n7a : ASI s s := by exfalso; have h9 := q_0.2.2.2.2; (first | have a0 := oa2 ro_60_3 i3 | ((first | have a0 := in_u ro_60_3 | (have a0 := ro_60_3; unfold In at a0)); (first | have a1 := in_u i3 | (have a1 := i3; unfold In at a1)))); have oc := ocf_mut39; omega
      exact g_ireturn (gd rfl) rfl (nb01 (in_w 0 1 (in_c 0 rfl) rfl)) (hP _ _ ⟨s, hI, fr_rf, (Int32.ofInt 0), rfl, rfl, in_w 0 1 (in_c 0 rfl) rfl, n7, n7a⟩)
theorem f_46_60_39 {Z : AmZ} {A : Nat → Nat} {s : GS} {ex : va_W} {d : Nat} {X : AmX} {x2 : Int32} {x3 : Int32} (hd : 380 ≤ d) (hI : Inv s) (h3 : (In x3 0 33)) (q_0 : (FLX (s.1 39) s x2 (x3).toInt)) : GC Z d 46 [.ref (A 60), .ref (A 39), .int x2, .int x3] (WW Z A s ++ ex) 0 0 (fun v u => ∃ t : GS, Inv t ∧ Fr fm_46_60_39 s t ∧ ∃ z : Int32, v = some (.int z) ∧ u = WW Z A t ++ ex ∧ In z 0 1 ∧ (FRE (s.1 39) (s.2.2.1 60 3).toInt x2 (s.1 61) ((t).1 61) (z).toInt) ∧ (ASI s t)) X := f_46_60_39_r 34 (by omega) hI h3 q_0 (m_in 34 h3 rfl)
