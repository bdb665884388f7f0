theorem oc_244_0 : (Int32.ofInt (-1)).toInt = (-1) ∧ (Int32.ofInt 0).toInt = 0 ∧ (Int32.ofInt 1).toInt = 1 := ⟨rfl, rfl, rfl⟩
/-- GraphHouse.pairing -/
theorem f_244_0 {Z : AmZ} {A : Nat → Nat} {s : GS} {ex : va_W} {d : Nat} {x1 : Int32} (hd : 7 ≤ d) (hI : Inv s) (q_0 : TQ s) (q_1 : TQD s) (q_2 : NDC s) (q_3 : PRC s) : GC Z d 244 [.ref (A 0), .int x1] (WW Z A s ++ ex) 3 18 (fun v u => ∃ t : GS, Inv t ∧ Fr fm_244_0 s t ∧ ∃ z : Int64, v = some (.long z) ∧ u = WW Z A t ++ ex ∧ (In x1 0 1 ∧ PRA (shC s) x1.toInt (z).toInt) ∧ (PRQ (shC s) t)) (gEx Z A ex ([], [], [], []) s (¬ In x1 0 1) (False)) := by
  intro post xp hP hX
  obtain ⟨u_0_2, e_0_2⟩ : ∃ w, w = s.2.2.1 0 2 := ⟨_, rfl⟩
  have ro_0_2 := inv_F hI (-1) 4000 rfl e_0_2
  refine g_enter2 (k := 244) (N := 900) (by first | exact dq1 hd rfl | exact dq0 hd rfl | exact dq2 hd rfl | exact dq3 hd rfl | omega) rfl (Nat.le_of_ble_eq_true rfl) ?_
  refine g_iload_n 1 (gd rfl) rfl rfl ?_
  refine g_if_lt 4 13 (gd rfl) rfl rfl (fun c1 => ?_) (fun c1 => ?_)
  · skip
    have i1 := z_lt (-2147483648) (-1) c1 (i_rng x1) rfl
    refine g_iconst 0 14 (gd rfl) rfl rfl ?_
    refine g_thr (E := am_IA) (y := yX11_allow) 17 (gd rfl) rfl rfl (Or.inl ⟨rfl, rfl, rfl⟩) (by first | exact dq1 hd rfl | exact dq0 hd rfl | exact dq2 hd rfl | exact dq3 hd rfl | omega) (Nat.le_of_ble_eq_true rfl) (Nat.le_of_ble_eq_true rfl) (Nat.le_of_ble_eq_true rfl) (fun c14 => ?_) (fun c14 => ?_)
    · skip
      exact zn_ne c14 (in_c 0 rfl) rfl
    · skip
      have n14 : ¬ In x1 0 1 := by unfold In; exact (have a0 := in_u ro_0_2; have a1 := in_u i1; have oc := oc_244_0; by omega)
      exact (hX _ _ ⟨Or.inl ⟨rfl, n14⟩, s, hI, fr_rf, rfl⟩)
  · skip
    have i1 := z_ge 0 2147483647 c1 (i_rng x1) rfl
    refine g_iload_n 5 (gd rfl) rfl rfl ?_
    refine g_iconst 1 6 (gd rfl) rfl rfl ?_
    refine g_cmp_gt 9 13 (gd rfl) rfl rfl (fun c6 => ?_) (fun c6 => ?_)
    · skip
      have i6 := r_lt2 2 2147483647 c6 (in_c 1 rfl) i1 rfl
      refine g_iconst 0 14 (gd rfl) rfl rfl ?_
      refine g_thr (E := am_IA) (y := yX11_allow) 17 (gd rfl) rfl rfl (Or.inl ⟨rfl, rfl, rfl⟩) (by first | exact dq1 hd rfl | exact dq0 hd rfl | exact dq2 hd rfl | exact dq3 hd rfl | omega) (Nat.le_of_ble_eq_true rfl) (Nat.le_of_ble_eq_true rfl) (Nat.le_of_ble_eq_true rfl) (fun c14 => ?_) (fun c14 => ?_)
      · skip
        exact zn_ne c14 (in_c 0 rfl) rfl
      · skip
        have n14 : ¬ In x1 0 1 := by unfold In; exact (have a0 := in_u ro_0_2; have a1 := in_u i6; have oc := oc_244_0; by omega)
        exact (hX _ _ ⟨Or.inl ⟨rfl, n14⟩, s, hI, fr_rf, rfl⟩)
    · skip
      have i6 := r_le1 0 1 c6 i1 (in_c 1 rfl) rfl
      refine g_iconst 1 10 (gd rfl) rfl rfl ?_
      refine g_goto 14 (gd rfl) rfl ?_
      refine g_thr (E := am_IA) (y := yX11_allow) 17 (gd rfl) rfl rfl (Or.inl ⟨rfl, rfl, rfl⟩) (by first | exact dq1 hd rfl | exact dq0 hd rfl | exact dq2 hd rfl | exact dq3 hd rfl | omega) (Nat.le_of_ble_eq_true rfl) (Nat.le_of_ble_eq_true rfl) (Nat.le_of_ble_eq_true rfl) (fun c14 => ?_) (fun c14 => ?_)
      · skip
        refine g_aload_n 18 (gd rfl) rfl rfl ?_
        refine g_getA (q2 := 65) 21 (gd rfl) rfl rfl rfl rfl ?_
        refine g_aload_n 22 (gd rfl) rfl rfl ?_
        refine g_callv (X := _) (As := []) (r := [.ref (A 65)]) (b := A 0) (q := 0) 25 (gd rfl) rfl rfl rfl rfl rfl (ww_o rfl) (Nat.le_of_ble_eq_true rfl) (mc := 0) (ms := 0) (Nat.zero_le _) (Nat.zero_le _) (P := fun v u => _) ?_ (fun e u h => h) (fun v u h => h)
        intro po22 xx22 hp22 hx22
        refine g_enter2 (k := 259) (N := 300) (by first | exact dq1 hd rfl | exact dq0 hd rfl | exact dq2 hd rfl | exact dq3 hd rfl | omega) rfl (Nat.le_of_ble_eq_true rfl) ?_
        refine g_aload_n 1 (gd rfl) rfl rfl ?_
        refine g_getI 4 (gd rfl) rfl rfl rfl (fun z22x1 e22x1 => ?_)
        have q22x1 : u_0_2 = z22x1 := (e_0_2).trans e22x1.symm
        subst q22x1
        refine g_iconst (-1) 5 (gd rfl) rfl rfl ?_
        refine g_cmp_ne 8 18 (gd rfl) rfl rfl (fun c22x5 => ?_) (fun c22x5 => ?_)
        · skip
          have i22x5 := r_ne1 0 4000 c22x5 ro_0_2 (in_c (-1) rfl) rfl
          refine g_aload_n 19 (gd rfl) rfl rfl ?_
          refine g_getA (q2 := 32) 22 (gd rfl) rfl rfl rfl rfl ?_
          refine g_areturn (gd rfl) rfl (hp22 _ _ ?_)
          show GG _ _ _ _ _ _ _ _ [.ref (A 32), .ref (A 65)] _ _ _
          have p25 : TQD s := by first | exact q_0 | exact q_1
          have p25a : NDQ (gvD s) := by first | (rw [← shC_n (by rw [← e22x1]; exact c22x5)]; exact q_2) | (rw [← shC_d (by rw [← e22x1]; exact c22x5)]; exact q_2)
          have p25b : PRB (gvD s) s := by first | (rw [← shC_n (by rw [← e22x1]; exact c22x5)]; exact q_3) | (rw [← shC_d (by rw [← e22x1]; exact c22x5)]; exact q_3)
          refine g_callv (X := _) (As := [.ref (A 32)]) (r := []) (b := A 65) (q := 65) 28 (gd rfl) rfl rfl rfl rfl rfl (ww_o rfl) (Nat.le_of_ble_eq_true rfl) (Nat.zero_le _) (Nat.zero_le _) (f_89_65_32 (by first | exact dq1 hd rfl | exact dq0 hd rfl | exact dq2 hd rfl | exact dq3 hd rfl | omega) hI p25 p25a p25b) (fun e u h => h) (fun v u h => ?_)
          obtain ⟨s25, hI25, hF25, rfl, rfl, p25c⟩ := h
          show GG _ _ _ _ _ _ _ _ [] _ _ _
          refine g_iload_n 29 (gd rfl) rfl rfl ?_
          refine g_if_ne 32 43 (gd rfl) rfl rfl (fun c29 => ?_) (fun c29 => ?_)
          · skip
            have i29 := z_ne 1 1 c29 i6 rfl
            refine g_aload_n 44 (gd rfl) rfl rfl ?_
            refine g_getA (q2 := 65) 47 (gd rfl) rfl rfl rfl rfl ?_
            refine g_getL 50 (gd rfl) rfl rfl rfl (fun z47 e47 => ?_)
            have n50 : In x1 0 1 ∧ PRA (shC s) x1.toInt (z47).toInt := by first | (rw [shC_n (by rw [← e22x1]; exact c22x5)]; exact ⟨⟨by exact (have a0 := in_u i29; have a1 := in_u i22x5; have oc := oc_244_0; by omega), by exact (have a0 := in_u i29; have a1 := in_u i22x5; have oc := oc_244_0; by omega)⟩, _, _, p25c.2.2, fun h9 => (by exfalso; exact (have a0 := in_u i29; have a1 := in_u i22x5; have oc := oc_244_0; by omega)), fun _ => (by rw [e47])⟩) | (rw [shC_d (by rw [← e22x1]; exact c22x5)]; exact ⟨⟨by exact (have a0 := in_u i29; have a1 := in_u i22x5; have oc := oc_244_0; by omega), by exact (have a0 := in_u i29; have a1 := in_u i22x5; have oc := oc_244_0; by omega)⟩, _, _, p25c.2.2, fun h9 => (by exfalso; exact (have a0 := in_u i29; have a1 := in_u i22x5; have oc := oc_244_0; by omega)), fun _ => (by rw [e47])⟩)
            have n50a : PRQ (shC s) s25 := by first | (rw [shC_n (by rw [← e22x1]; exact c22x5)]; exact p25c) | (rw [shC_d (by rw [← e22x1]; exact c22x5)]; exact p25c)
            exact g_lreturn (gd rfl) rfl (hP _ _ ⟨s25, hI25, (fr_tr rfl fr_rf hF25), z47, rfl, rfl, n50, n50a⟩)
          · skip
            have i29 := z_eq 0 0 c29 i6 rfl
            refine g_aload_n 33 (gd rfl) rfl rfl ?_
            refine g_getA (q2 := 65) 36 (gd rfl) rfl rfl rfl rfl ?_
            refine g_getI 39 (gd rfl) rfl rfl rfl (fun z36 e36 => ?_)
            have i36 := inv_F hI25 0 32 rfl e36
            refine g_i2l 40 (gd rfl) rfl (fun z39 e39 => ?_)
            have i39 := l_i e39 i36
            refine g_goto 50 (gd rfl) rfl ?_
            have n50 : In x1 0 1 ∧ PRA (shC s) x1.toInt (z39).toInt := by first | (rw [shC_n (by rw [← e22x1]; exact c22x5)]; exact ⟨⟨by exact (have a0 := in_u i29; have a1 := in_u i22x5; have a2 := in_u i36; have a3 := tx_i2l e39; have oc := oc_244_0; by omega), by exact (have a0 := in_u i29; have a1 := in_u i22x5; have a2 := in_u i36; have a3 := tx_i2l e39; have oc := oc_244_0; by omega)⟩, _, _, p25c.2.2, fun _ => (by rw [u_i2l e39, e36]), fun h9 => (by exfalso; exact (have a0 := in_u i29; have a1 := in_u i22x5; have a2 := in_u i36; have a3 := tx_i2l e39; have oc := oc_244_0; by omega))⟩) | (rw [shC_d (by rw [← e22x1]; exact c22x5)]; exact ⟨⟨by exact (have a0 := in_u i29; have a1 := in_u i22x5; have a2 := in_u i36; have a3 := tx_i2l e39; have oc := oc_244_0; by omega), by exact (have a0 := in_u i29; have a1 := in_u i22x5; have a2 := in_u i36; have a3 := tx_i2l e39; have oc := oc_244_0; by omega)⟩, _, _, p25c.2.2, fun _ => (by rw [u_i2l e39, e36]), fun h9 => (by exfalso; exact (have a0 := in_u i29; have a1 := in_u i22x5; have a2 := in_u i36; have a3 := tx_i2l e39; have oc := oc_244_0; by omega))⟩)
            have n50a : PRQ (shC s) s25 := by first | (rw [shC_n (by rw [← e22x1]; exact c22x5)]; exact p25c) | (rw [shC_d (by rw [← e22x1]; exact c22x5)]; exact p25c)
            exact g_lreturn (gd rfl) rfl (hP _ _ ⟨s25, hI25, (fr_tr rfl fr_rf hF25), z39, rfl, rfl, n50, n50a⟩)
        · skip
          have i22x5 := r_eq1 (-1) (-1) c22x5 ro_0_2 (in_c (-1) rfl) rfl
          refine g_aload_n 9 (gd rfl) rfl rfl ?_
          refine g_getA (q2 := 1) 12 (gd rfl) rfl rfl rfl rfl ?_
          refine g_getA (q2 := 2) 15 (gd rfl) rfl rfl rfl rfl ?_
          refine g_goto 22 (gd rfl) rfl ?_
          refine g_areturn (gd rfl) rfl (hp22 _ _ ?_)
          show GG _ _ _ _ _ _ _ _ [.ref (A 2), .ref (A 65)] _ _ _
          have p25 : TQ s := by first | exact q_0 | exact q_1
          have p25a : NDQ (gvC s) := by first | (rw [← shC_n (by rw [← e22x1]; exact c22x5)]; exact q_2) | (rw [← shC_d (by rw [← e22x1]; exact c22x5)]; exact q_2)
          have p25b : PRB (gvC s) s := by first | (rw [← shC_n (by rw [← e22x1]; exact c22x5)]; exact q_3) | (rw [← shC_d (by rw [← e22x1]; exact c22x5)]; exact q_3)
          refine g_callv (X := _) (As := [.ref (A 2)]) (r := []) (b := A 65) (q := 65) 28 (gd rfl) rfl rfl rfl rfl rfl (ww_o rfl) (Nat.le_of_ble_eq_true rfl) (Nat.zero_le _) (Nat.zero_le _) (f_89_65_2 (by first | exact dq1 hd rfl | exact dq0 hd rfl | exact dq2 hd rfl | exact dq3 hd rfl | omega) hI p25 p25a p25b) (fun e u h => h) (fun v u h => ?_)
          obtain ⟨s25, hI25, hF25, rfl, rfl, p25c⟩ := h
          show GG _ _ _ _ _ _ _ _ [] _ _ _
          refine g_iload_n 29 (gd rfl) rfl rfl ?_
          refine g_if_ne 32 43 (gd rfl) rfl rfl (fun c29 => ?_) (fun c29 => ?_)
          · skip
            have i29 := z_ne 1 1 c29 i6 rfl
            refine g_aload_n 44 (gd rfl) rfl rfl ?_
            refine g_getA (q2 := 65) 47 (gd rfl) rfl rfl rfl rfl ?_
            refine g_getL 50 (gd rfl) rfl rfl rfl (fun z47 e47 => ?_)
            have n50 : In x1 0 1 ∧ PRA (shC s) x1.toInt (z47).toInt := by first | (rw [shC_n (by rw [← e22x1]; exact c22x5)]; exact ⟨⟨by exact (have a0 := in_u i29; have a1 := in_u i22x5; have oc := oc_244_0; by omega), by exact (have a0 := in_u i29; have a1 := in_u i22x5; have oc := oc_244_0; by omega)⟩, _, _, p25c.2.2, fun h9 => (by exfalso; exact (have a0 := in_u i29; have a1 := in_u i22x5; have oc := oc_244_0; by omega)), fun _ => (by rw [e47])⟩) | (rw [shC_d (by rw [← e22x1]; exact c22x5)]; exact ⟨⟨by exact (have a0 := in_u i29; have a1 := in_u i22x5; have oc := oc_244_0; by omega), by exact (have a0 := in_u i29; have a1 := in_u i22x5; have oc := oc_244_0; by omega)⟩, _, _, p25c.2.2, fun h9 => (by exfalso; exact (have a0 := in_u i29; have a1 := in_u i22x5; have oc := oc_244_0; by omega)), fun _ => (by rw [e47])⟩)
            have n50a : PRQ (shC s) s25 := by first | (rw [shC_n (by rw [← e22x1]; exact c22x5)]; exact p25c) | (rw [shC_d (by rw [← e22x1]; exact c22x5)]; exact p25c)
            exact g_lreturn (gd rfl) rfl (hP _ _ ⟨s25, hI25, (fr_tr rfl fr_rf hF25), z47, rfl, rfl, n50, n50a⟩)
          · skip
            have i29 := z_eq 0 0 c29 i6 rfl
            refine g_aload_n 33 (gd rfl) rfl rfl ?_
            refine g_getA (q2 := 65) 36 (gd rfl) rfl rfl rfl rfl ?_
            refine g_getI 39 (gd rfl) rfl rfl rfl (fun z36 e36 => ?_)
            have i36 := inv_F hI25 0 32 rfl e36
            refine g_i2l 40 (gd rfl) rfl (fun z39 e39 => ?_)
            have i39 := l_i e39 i36
            refine g_goto 50 (gd rfl) rfl ?_
            have n50 : In x1 0 1 ∧ PRA (shC s) x1.toInt (z39).toInt := by first | (rw [shC_n (by rw [← e22x1]; exact c22x5)]; exact ⟨⟨by exact (have a0 := in_u i29; have a1 := in_u i22x5; have a2 := in_u i36; have a3 := tx_i2l e39; have oc := oc_244_0; by omega), by exact (have a0 := in_u i29; have a1 := in_u i22x5; have a2 := in_u i36; have a3 := tx_i2l e39; have oc := oc_244_0; by omega)⟩, _, _, p25c.2.2, fun _ => (by rw [u_i2l e39, e36]), fun h9 => (by exfalso; exact (have a0 := in_u i29; have a1 := in_u i22x5; have a2 := in_u i36; have a3 := tx_i2l e39; have oc := oc_244_0; by omega))⟩) | (rw [shC_d (by rw [← e22x1]; exact c22x5)]; exact ⟨⟨by exact (have a0 := in_u i29; have a1 := in_u i22x5; have a2 := in_u i36; have a3 := tx_i2l e39; have oc := oc_244_0; by omega), by exact (have a0 := in_u i29; have a1 := in_u i22x5; have a2 := in_u i36; have a3 := tx_i2l e39; have oc := oc_244_0; by omega)⟩, _, _, p25c.2.2, fun _ => (by rw [u_i2l e39, e36]), fun h9 => (by exfalso; exact (have a0 := in_u i29; have a1 := in_u i22x5; have a2 := in_u i36; have a3 := tx_i2l e39; have oc := oc_244_0; by omega))⟩)
            have n50a : PRQ (shC s) s25 := by first | (rw [shC_n (by rw [← e22x1]; exact c22x5)]; exact p25c) | (rw [shC_d (by rw [← e22x1]; exact c22x5)]; exact p25c)
            exact g_lreturn (gd rfl) rfl (hP _ _ ⟨s25, hI25, (fr_tr rfl fr_rf hF25), z39, rfl, rfl, n50, n50a⟩)
      · skip
        exact zn_eq c14 (in_c 1 rfl) rfl
/-! FUNCTIONAL CONTRACTS, by fgen.py -/
theorem oc_361_109 : (Int32.ofInt (-1)).toInt = (-1) ∧ (Int32.ofInt 0).toInt = 0 ∧ (Int32.ofInt 1).toInt = 1 ∧ (Int32.ofInt 32).toInt = 32 ∧ (Int32.ofInt 1024).toInt = 1024 ∧ (Int64.ofInt 0).toInt = 0 ∧ (Int64.ofInt 9000000000000000).toInt = 9000000000000000 := ⟨rfl, rfl, rfl, rfl, rfl, rfl, rfl⟩
/-- GraphHouseModel.cheapestPair -/
theorem f_361 {Z : AmZ} {A : Nat → Nat} {s : GS} {ex : va_W} {d : Nat} {X : AmX}  (hd : 2 ≤ d) (hI : Inv s) (q_0 : PP s) : GC Z d 361 [.ref (A 109)] (WW Z A s ++ ex) 0 0 (fun v u => ∃ t : GS, Inv t ∧ Fr fm_361 s t ∧ ∃ z : Int32, v = some (.int z) ∧ u = WW Z A t ++ ex ∧ In z (-1) 31 ∧ (∃ n, n ≤ 32 ∧ FLP t (z).toInt n) ∧ (0 ≤ (z).toInt → (t.1 151 (z).toNatClampNeg).toInt < 0) ∧ (PPS s → (∃ n, FLS t (z).toInt n) ∧ ((z).toInt < 0 → PEE t))) X := by
  intro post xp hP hX
  obtain ⟨u_109_20, e_109_20⟩ : ∃ w, w = s.2.2.1 109 20 := ⟨_, rfl⟩
  have ro_109_20 := inv_F hI 0 32 rfl e_109_20
  have ct233 : ∀ (k233 : Nat) (sc233 : GS) (y233_1 : Int32) (y233_2 : Int32) (y233_3 : Int32), Inv sc233 → Fr fm_361 s sc233 → (In y233_1 0 0) → (In y233_2 (-1) 31) → (In y233_3 0 32) → (CIP s sc233) → (CLP s sc233 1024) → ((y233_2).toInt < 0 ∨ (In (y233_2) 0 31 ∧ (y233_2).toInt < nnq s ∧ ¬ FSQ s (y233_2).toNatClampNeg ∧ (s.1 151 (y233_2).toNatClampNeg).toInt < 0 ∧ (sc233.2.1 149 (y233_2).toNatClampNeg).toInt < 9000000000000000)) → (SP0 s sc233) → (NBX s sc233 (y233_3).toNatClampNeg (y233_2).toInt) → 32 - (y233_3).toInt < (k233 : Int) → GG Z (d - 1) 361 post (gx xp) (1 + k233 * 900) 233 (fun j => xlook j [(0, .ref (A 109)), (1, .int y233_1), (2, .int y233_2), (3, .int y233_3)]) [] (WW Z A sc233 ++ ex) 0 0 := by
    intro k233
    induction k233 with
    | zero => intro sc233 y233_1 y233_2 y233_3 hIc233 hFc233 j233_1 j233_2 j233_3 g233_0 g233_1 g233_2 g233_3 g233_4 mm233; exact m_no mm233 j233_3 rfl
    | succ k233 ih233 =>
      intro sc233 y233_1 y233_2 y233_3 hIc233 hFc233 j233_1 j233_2 j233_3 g233_0 g233_1 g233_2 g233_3 g233_4 mm233
      refine gg_w (M := 1 + k233 * 900 + 900) gws ?_
      refine g_iload_n 234 (gd rfl) rfl rfl ?_
      refine g_aload_n 235 (gd rfl) rfl rfl ?_
      refine g_getI 238 (gd rfl) rfl rfl rfl (fun z235 e235 => ?_)
      have q235 : u_109_20 = z235 := (fr_F e_109_20 hFc233 rfl).trans e235.symm
      subst q235
      refine g_cmp_ge 241 315 (gd rfl) rfl rfl (fun c238 => ?_) (fun c238 => ?_)
      · skip
        refine g_iload_n 316 (gd rfl) rfl rfl ?_
        have n316 : ∃ n, n ≤ 32 ∧ FLP sc233 (y233_2).toInt n := by exact flp_0 q_0 (hFc233.1 111 rfl) (hFc233.1 151 rfl) (hFc233.2.1 152 rfl) (hFc233.2.2.1 109 18 rfl) (hFc233.2.2.1 109 20 rfl) g233_0 g233_1 g233_2
        have n316a : 0 ≤ (y233_2).toInt → (sc233.1 151 (y233_2).toNatClampNeg).toInt < 0 := by intro h0; rcases g233_2 with h | h; (exfalso; omega); (rw [hFc233.1 151 rfl]; exact h.2.2.2.1)
        have n316b : PPS s → (∃ n, FLS sc233 (y233_2).toInt n) ∧ ((y233_2).toInt < 0 → PEE sc233) := by intro hs; exact fls_0 q_0 hs (hFc233.1 111 rfl) (hFc233.1 151 rfl) (hFc233.2.1 152 rfl) (hFc233.2.2.1 109 18 rfl) (hFc233.2.2.1 109 20 rfl) g233_0 g233_1 g233_3 (nbx_w g233_4 (by unfold nnq; rw [← e_109_20]; show _ ≤ (((y233_3).toInt.toNat : Nat) : Int); exact (have a0 := in_u ro_109_20; have a1 := in_u j233_3; have a2 := in_u j233_2; have a3 := in_u j233_1; have oc := oc_361_109; by omega))) g233_2
        exact g_ireturn (gd rfl) rfl rfl (hP _ _ ⟨sc233, hIc233, hFc233, y233_2, rfl, rfl, in_w (-1) 31 j233_2 rfl, n316, n316a, n316b⟩)
      · skip
        have i238 := r_lt1 0 31 c238 j233_3 ro_109_20 rfl
        have i238a := r_lt2 1 32 c238 j233_3 ro_109_20 rfl
        refine g_aload_n 242 (gd rfl) rfl rfl ?_
        refine g_iload_n 243 (gd rfl) rfl rfl ?_
        refine g_callv (X := _) (As := [.int y233_3]) (r := []) (b := A 109) (q := 109) 246 (gd rfl) rfl rfl rfl rfl rfl (ww_o rfl) (Nat.le_of_ble_eq_true rfl) (Nat.zero_le _) (Nat.zero_le _) (k_359 (by first | exact dq1 hd rfl | exact dq0 hd rfl | exact dq2 hd rfl | exact dq3 hd rfl | omega) hIc233 (in_w 0 31 i238 rfl)) (fun e u h => h) (fun v u h => ?_)
        obtain ⟨z243, rfl, rfl, i243, p243⟩ := h
        show GG _ _ _ _ _ _ _ _ [.int z243] _ _ _
        refine g_if_ne 249 275 (gd rfl) rfl rfl (fun c246 => ?_) (fun c246 => ?_)
        · skip
          have i246 := z_ne 1 1 c246 i243 rfl
          refine g_iconst 0 276 (gd rfl) rfl rfl ?_
          refine g_istore 278 (gd rfl) rfl (Nat.le_of_ble_eq_true rfl) ?_
          refine g_iload 280 (gd rfl) rfl rfl ?_
          refine g_if_eq 283 307 (gd rfl) rfl rfl (fun c280 => ?_) (fun c280 => ?_)
          · skip
            refine g_iload_n 308 (gd rfl) rfl rfl ?_
            refine g_istore_n 309 (gd rfl) rfl (Nat.le_of_ble_eq_true rfl) ?_
            refine g_iinc 312 (gd rfl) rfl rfl (Nat.le_of_ble_eq_true rfl) (fun z309 e309 => ?_)
            have i309 := in_add 1 32 e309 i238 (in_c 1 rfl) rfl rfl
            refine g_goto 233 (gd rfl) rfl ?_
            have n233 : CIP s sc233 := by first | exact g55_0 | exact g233_0
            have n233a : CLP s sc233 1024 := by first | exact g233_1 | exact g55_1 c56
            have n233b : (y233_2).toInt < 0 ∨ (In (y233_2) 0 31 ∧ (y233_2).toInt < nnq s ∧ ¬ FSQ s (y233_2).toNatClampNeg ∧ (s.1 151 (y233_2).toNatClampNeg).toInt < 0 ∧ (sc233.2.1 149 (y233_2).toNatClampNeg).toInt < 9000000000000000) := by first | exact g233_2 | (first | exact g233_2 | exact Or.inl (by decide) | exact Or.inr ⟨i238, by unfold nnq; rw [← e_109_20]; exact (have a0 := in_u i238a; have a1 := in_u i238; have a2 := in_u j233_2; have a3 := in_u j233_1; have a4 := in_u ((in_c 0 rfl)); have a5 := in_u i309; have a6 := t_add e309 i238 (in_c 1 rfl) rfl; have a7 := in_u ((in_c 1 rfl)); have oc := oc_361_109; by omega), fun h => absurd (p243.mpr ((fs_cg (hFc233.1 111 rfl) (hFc233.2.2.1 109 18 rfl)).mpr h)) (by have h2 := c246; omega), by rw [← hFc233.1 151 rfl, ← e254]; exact c255, by rw [← e263]; have h := i268a.2; omega⟩)
            have n233c : SP0 s sc233 := by exact g233_3
            have n233d : NBX s sc233 (z309).toNatClampNeg (y233_2).toInt := by rw [(show (z309).toNatClampNeg = (y233_3).toNatClampNeg + 1 from (by show (z309).toInt.toNat = (y233_3).toInt.toNat + 1; exact (have a0 := in_u i238a; have a1 := in_u i238; have a2 := in_u j233_2; have a3 := in_u j233_1; have a4 := in_u ((in_c 0 rfl)); have a5 := in_u i309; have a6 := t_add e309 i238 (in_c 1 rfl) rfl; have a7 := in_u ((in_c 1 rfl)); have oc := oc_361_109; by omega)))]; exact nbx_n g233_4 (fun nf _ _ => absurd ((fs_cg (hFc233.1 111 rfl) (hFc233.2.2.1 109 18 rfl)).mp (p243.mp c246)) nf)
            exact gg_w (by first | exact Nat.le_add_right _ _ | exact gw2 | exact gw3 | exact gwe rfl | exact gwf rfl | exact gwg rfl | exact gwh rfl | omega) (gg_f (gf_cons rfl (gf_cons rfl (gf_cons rfl (gf_cons rfl gf_nil)))) (ih233 sc233 y233_1 y233_2 z309 hIc233 hFc233 (in_w 0 0 j233_1 rfl) (in_w (-1) 31 j233_2 rfl) (in_w 0 32 i309 rfl) n233 n233a n233b n233c n233d (m_up mm233 (t_add e309 i238 (in_c 1 rfl) rfl) (in_w 1 1 (in_c 1 rfl) rfl))))
          · skip
            exact zn_ne c280 (in_c 0 rfl) rfl
        · skip
          have i246 := z_eq 0 0 c246 i243 rfl
          refine g_aload_n 250 (gd rfl) rfl rfl ?_
          refine g_getA (q2 := 151) 253 (gd rfl) rfl rfl rfl rfl ?_
          refine g_iload_n 254 (gd rfl) rfl rfl ?_
          refine g_iaload 255 (gd rfl) rfl (n := 32) rfl (in_ix i238 rfl) (fun z254 e254 => ?_)
          have i254 := inv_I hIc233 (n := 32) (t := 0) (-1) 31 rfl (in_ix i238 rfl) rfl e254
          refine g_if_ge 258 275 (gd rfl) rfl rfl (fun c255 => ?_) (fun c255 => ?_)
          · skip
            have i255 := z_ge 0 31 c255 i254 rfl
            refine g_iconst 0 276 (gd rfl) rfl rfl ?_
            refine g_istore 278 (gd rfl) rfl (Nat.le_of_ble_eq_true rfl) ?_
            refine g_iload 280 (gd rfl) rfl rfl ?_
            refine g_if_eq 283 307 (gd rfl) rfl rfl (fun c280 => ?_) (fun c280 => ?_)
            · skip
              refine g_iload_n 308 (gd rfl) rfl rfl ?_
              refine g_istore_n 309 (gd rfl) rfl (Nat.le_of_ble_eq_true rfl) ?_
              refine g_iinc 312 (gd rfl) rfl rfl (Nat.le_of_ble_eq_true rfl) (fun z309 e309 => ?_)
              have i309 := in_add 1 32 e309 i238 (in_c 1 rfl) rfl rfl
              refine g_goto 233 (gd rfl) rfl ?_
              have n233 : CIP s sc233 := by first | exact g55_0 | exact g233_0
              have n233a : CLP s sc233 1024 := by first | exact g233_1 | exact g55_1 c56
              have n233b : (y233_2).toInt < 0 ∨ (In (y233_2) 0 31 ∧ (y233_2).toInt < nnq s ∧ ¬ FSQ s (y233_2).toNatClampNeg ∧ (s.1 151 (y233_2).toNatClampNeg).toInt < 0 ∧ (sc233.2.1 149 (y233_2).toNatClampNeg).toInt < 9000000000000000) := by first | exact g233_2 | (first | exact g233_2 | exact Or.inl (by decide) | exact Or.inr ⟨i238, by unfold nnq; rw [← e_109_20]; exact (have a0 := in_u i238a; have a1 := in_u i238; have a2 := in_u j233_2; have a3 := in_u j233_1; have a4 := in_u ((in_c 0 rfl)); have a5 := in_u i309; have a6 := t_add e309 i238 (in_c 1 rfl) rfl; have a7 := in_u ((in_c 1 rfl)); have oc := oc_361_109; by omega), fun h => absurd (p243.mpr ((fs_cg (hFc233.1 111 rfl) (hFc233.2.2.1 109 18 rfl)).mpr h)) (by have h2 := c246; omega), by rw [← hFc233.1 151 rfl, ← e254]; exact c255, by rw [← e263]; have h := i268a.2; omega⟩)
              have n233c : SP0 s sc233 := by exact g233_3
              have n233d : NBX s sc233 (z309).toNatClampNeg (y233_2).toInt := by rw [(show (z309).toNatClampNeg = (y233_3).toNatClampNeg + 1 from (by show (z309).toInt.toNat = (y233_3).toInt.toNat + 1; exact (have a0 := in_u i238a; have a1 := in_u i238; have a2 := in_u j233_2; have a3 := in_u j233_1; have a4 := in_u ((in_c 0 rfl)); have a5 := in_u i309; have a6 := t_add e309 i238 (in_c 1 rfl) rfl; have a7 := in_u ((in_c 1 rfl)); have oc := oc_361_109; by omega)))]; exact nbx_n g233_4 (fun _ hm _ => by exfalso; rw [← hFc233.1 151 rfl, ← e254] at hm; have h9 := c255; omega)
              exact gg_w (by first | exact Nat.le_add_right _ _ | exact gw2 | exact gw3 | exact gwe rfl | exact gwf rfl | exact gwg rfl | exact gwh rfl | omega) (gg_f (gf_cons rfl (gf_cons rfl (gf_cons rfl (gf_cons rfl gf_nil)))) (ih233 sc233 y233_1 y233_2 z309 hIc233 hFc233 (in_w 0 0 j233_1 rfl) (in_w (-1) 31 j233_2 rfl) (in_w 0 32 i309 rfl) n233 n233a n233b n233c n233d (m_up mm233 (t_add e309 i238 (in_c 1 rfl) rfl) (in_w 1 1 (in_c 1 rfl) rfl))))
            · skip
              exact zn_ne c280 (in_c 0 rfl) rfl
          · skip
            have i255 := z_lt (-1) (-1) c255 i254 rfl
            refine g_aload_n 259 (gd rfl) rfl rfl ?_
            refine g_getA (q2 := 149) 262 (gd rfl) rfl rfl rfl rfl ?_
            refine g_iload_n 263 (gd rfl) rfl rfl ?_
            refine g_laload 264 (gd rfl) rfl (n := 34) rfl (in_ix i238 rfl) (fun z263 e263 => ?_)
            refine g_ldc2_w 9000000000000000 267 (gd rfl) rfl rfl ?_
            refine g_lcmp 268 (gd rfl) rfl (fun z267 e267 => ?_)
            have i267 := lc_in e267
            refine g_if_ge 271 275 (gd rfl) rfl rfl (fun c268 => ?_) (fun c268 => ?_)
            · skip
              have i268 := z_ge 0 1 c268 i267 rfl
              have c268a := lc_ge e267 c268
              have i268a := lr_le2 9000000000000000 9223372036854775807 c268a (l_c 9000000000000000 rfl) (l_rng z263) rfl
              refine g_iconst 0 276 (gd rfl) rfl rfl ?_
              refine g_istore 278 (gd rfl) rfl (Nat.le_of_ble_eq_true rfl) ?_
              refine g_iload 280 (gd rfl) rfl rfl ?_
              refine g_if_eq 283 307 (gd rfl) rfl rfl (fun c280 => ?_) (fun c280 => ?_)
              · skip
                refine g_iload_n 308 (gd rfl) rfl rfl ?_
                refine g_istore_n 309 (gd rfl) rfl (Nat.le_of_ble_eq_true rfl) ?_
                refine g_iinc 312 (gd rfl) rfl rfl (Nat.le_of_ble_eq_true rfl) (fun z309 e309 => ?_)
                have i309 := in_add 1 32 e309 i238 (in_c 1 rfl) rfl rfl
                refine g_goto 233 (gd rfl) rfl ?_
                have n233 : CIP s sc233 := by first | exact g55_0 | exact g233_0
                have n233a : CLP s sc233 1024 := by first | exact g233_1 | exact g55_1 c56
                have n233b : (y233_2).toInt < 0 ∨ (In (y233_2) 0 31 ∧ (y233_2).toInt < nnq s ∧ ¬ FSQ s (y233_2).toNatClampNeg ∧ (s.1 151 (y233_2).toNatClampNeg).toInt < 0 ∧ (sc233.2.1 149 (y233_2).toNatClampNeg).toInt < 9000000000000000) := by first | exact g233_2 | (first | exact g233_2 | exact Or.inl (by decide) | exact Or.inr ⟨i238, by unfold nnq; rw [← e_109_20]; exact (have a0 := in_u i238a; have a1 := in_u i238; have a2 := in_u j233_2; have a3 := in_u j233_1; have a4 := in_u ((in_c 0 rfl)); have a5 := in_u i309; have a6 := t_add e309 i238 (in_c 1 rfl) rfl; have a7 := in_u ((in_c 1 rfl)); have oc := oc_361_109; by omega), fun h => absurd (p243.mpr ((fs_cg (hFc233.1 111 rfl) (hFc233.2.2.1 109 18 rfl)).mpr h)) (by have h2 := c246; omega), by rw [← hFc233.1 151 rfl, ← e254]; exact c255, by rw [← e263]; have h := i268a.2; omega⟩)
                have n233c : SP0 s sc233 := by exact g233_3
                have n233d : NBX s sc233 (z309).toNatClampNeg (y233_2).toInt := by rw [(show (z309).toNatClampNeg = (y233_3).toNatClampNeg + 1 from (by show (z309).toInt.toNat = (y233_3).toInt.toNat + 1; exact (have a0 := in_u i238a; have a1 := in_u i238; have a2 := in_u j233_2; have a3 := in_u j233_1; have a4 := in_u ((in_c 0 rfl)); have a5 := in_u i309; have a6 := t_add e309 i238 (in_c 1 rfl) rfl; have a7 := in_u ((in_c 1 rfl)); have oc := oc_361_109; by omega)))]; exact nbx_n g233_4 (fun _ _ hp => by exfalso; rw [← e263] at hp; have h9 := i268a.1; omega)
                exact gg_w (by first | exact Nat.le_add_right _ _ | exact gw2 | exact gw3 | exact gwe rfl | exact gwf rfl | exact gwg rfl | exact gwh rfl | omega) (gg_f (gf_cons rfl (gf_cons rfl (gf_cons rfl (gf_cons rfl gf_nil)))) (ih233 sc233 y233_1 y233_2 z309 hIc233 hFc233 (in_w 0 0 j233_1 rfl) (in_w (-1) 31 j233_2 rfl) (in_w 0 32 i309 rfl) n233 n233a n233b n233c n233d (m_up mm233 (t_add e309 i238 (in_c 1 rfl) rfl) (in_w 1 1 (in_c 1 rfl) rfl))))
              · skip
                exact zn_ne c280 (in_c 0 rfl) rfl
            · skip
              have i268 := z_lt (-1) (-1) c268 i267 rfl
              have c268a := lc_lt e267 c268
              have i268a := lr_lt1 (-9223372036854775808) 8999999999999999 c268a (l_rng z263) (l_c 9000000000000000 rfl) rfl
              refine g_iconst 1 272 (gd rfl) rfl rfl ?_
              refine g_goto 276 (gd rfl) rfl ?_
              refine g_istore 278 (gd rfl) rfl (Nat.le_of_ble_eq_true rfl) ?_
              refine g_iload 280 (gd rfl) rfl rfl ?_
              refine g_if_eq 283 307 (gd rfl) rfl rfl (fun c280 => ?_) (fun c280 => ?_)
              · skip
                exact zn_eq c280 (in_c 1 rfl) rfl
              · skip
                refine g_iload_n 284 (gd rfl) rfl rfl ?_
                refine g_if_lt 287 303 (gd rfl) rfl rfl (fun c284 => ?_) (fun c284 => ?_)
                · skip
                  have i284 := z_lt (-1) (-1) c284 j233_2 rfl
                  refine g_iload_n 304 (gd rfl) rfl rfl ?_
                  refine g_goto 308 (gd rfl) rfl ?_
                  refine g_istore_n 309 (gd rfl) rfl (Nat.le_of_ble_eq_true rfl) ?_
                  refine g_iinc 312 (gd rfl) rfl rfl (Nat.le_of_ble_eq_true rfl) (fun z309 e309 => ?_)
                  have i309 := in_add 1 32 e309 i238 (in_c 1 rfl) rfl rfl
                  refine g_goto 233 (gd rfl) rfl ?_
                  have n233 : CIP s sc233 := by first | exact g55_0 | exact g233_0
                  have n233a : CLP s sc233 1024 := by first | exact g233_1 | exact g55_1 c56
                  have n233b : (y233_3).toInt < 0 ∨ (In (y233_3) 0 31 ∧ (y233_3).toInt < nnq s ∧ ¬ FSQ s (y233_3).toNatClampNeg ∧ (s.1 151 (y233_3).toNatClampNeg).toInt < 0 ∧ (sc233.2.1 149 (y233_3).toNatClampNeg).toInt < 9000000000000000) := by first | exact g233_2 | exact Or.inl (by decide) | exact Or.inr ⟨i238, by unfold nnq; rw [← e_109_20]; exact (have a0 := in_u i238a; have a1 := in_u i238; have a2 := in_u i284; have a3 := in_u j233_1; have a4 := in_u ((in_c 1 rfl)); have a5 := in_u i309; have a6 := t_add e309 i238 (in_c 1 rfl) rfl; have oc := oc_361_109; by omega), fun h => absurd (p243.mpr ((fs_cg (hFc233.1 111 rfl) (hFc233.2.2.1 109 18 rfl)).mpr h)) (by have h2 := c246; omega), by rw [← hFc233.1 151 rfl, ← e254]; exact c255, by rw [← e263]; have h := i268a.2; omega⟩
                  have n233c : SP0 s sc233 := by exact g233_3
                  have n233d : NBX s sc233 (z309).toNatClampNeg (y233_3).toInt := by rw [(show (z309).toNatClampNeg = (y233_3).toNatClampNeg + 1 from (by show (z309).toInt.toNat = (y233_3).toInt.toNat + 1; exact (have a0 := in_u i238a; have a1 := in_u i238; have a2 := in_u i284; have a3 := in_u j233_1; have a4 := in_u ((in_c 1 rfl)); have a5 := in_u i309; have a6 := t_add e309 i238 (in_c 1 rfl) rfl; have oc := oc_361_109; by omega)))]; exact nbx_y g233_4 (show (y233_3).toInt = (((y233_3).toNatClampNeg : Nat) : Int) from (clx i238.1).symm) (Or.inl c284)
                  exact gg_w (by first | exact Nat.le_add_right _ _ | exact gw2 | exact gw3 | exact gwe rfl | exact gwf rfl | exact gwg rfl | exact gwh rfl | omega) (gg_f (gf_cons rfl (gf_cons rfl (gf_cons rfl (gf_cons rfl gf_nil)))) (ih233 sc233 y233_1 y233_3 z309 hIc233 hFc233 (in_w 0 0 j233_1 rfl) (in_w (-1) 31 i238 rfl) (in_w 0 32 i309 rfl) n233 n233a n233b n233c n233d (m_up mm233 (t_add e309 i238 (in_c 1 rfl) rfl) (in_w 1 1 (in_c 1 rfl) rfl))))
                · skip
                  have i284 := z_ge 0 31 c284 j233_2 rfl
                  refine g_aload_n 288 (gd rfl) rfl rfl ?_
                  refine g_getA (q2 := 149) 291 (gd rfl) rfl rfl rfl rfl ?_
                  refine g_iload_n 292 (gd rfl) rfl rfl ?_
                  refine g_laload 293 (gd rfl) rfl (n := 34) rfl (in_ix i238 rfl) (fun z292 e292 => ?_)
                  refine g_aload_n 294 (gd rfl) rfl rfl ?_
                  refine g_getA (q2 := 149) 297 (gd rfl) rfl rfl rfl rfl ?_
                  refine g_iload_n 298 (gd rfl) rfl rfl ?_
                  refine g_laload 299 (gd rfl) rfl (n := 34) rfl (in_ix i284 rfl) (fun z298 e298 => ?_)
                  refine g_lcmp 300 (gd rfl) rfl (fun z299 e299 => ?_)
                  have i299 := lc_in e299
                  refine g_if_ge 303 307 (gd rfl) rfl rfl (fun c300 => ?_) (fun c300 => ?_)
                  · skip
                    have i300 := z_ge 0 1 c300 i299 rfl
                    have c300a := lc_ge e299 c300
                    refine g_iload_n 308 (gd rfl) rfl rfl ?_
                    refine g_istore_n 309 (gd rfl) rfl (Nat.le_of_ble_eq_true rfl) ?_
                    refine g_iinc 312 (gd rfl) rfl rfl (Nat.le_of_ble_eq_true rfl) (fun z309 e309 => ?_)
                    have i309 := in_add 1 32 e309 i238 (in_c 1 rfl) rfl rfl
                    refine g_goto 233 (gd rfl) rfl ?_
                    have n233 : CIP s sc233 := by first | exact g55_0 | exact g233_0
                    have n233a : CLP s sc233 1024 := by first | exact g233_1 | exact g55_1 c56
                    have n233b : (y233_2).toInt < 0 ∨ (In (y233_2) 0 31 ∧ (y233_2).toInt < nnq s ∧ ¬ FSQ s (y233_2).toNatClampNeg ∧ (s.1 151 (y233_2).toNatClampNeg).toInt < 0 ∧ (sc233.2.1 149 (y233_2).toNatClampNeg).toInt < 9000000000000000) := by first | exact g233_2 | (first | exact g233_2 | exact Or.inl (by decide) | exact Or.inr ⟨i238, by unfold nnq; rw [← e_109_20]; exact (have a0 := in_u i238a; have a1 := in_u i238; have a2 := in_u i284; have a3 := in_u j233_1; have a4 := in_u ((in_c 1 rfl)); have a5 := in_u i309; have a6 := t_add e309 i238 (in_c 1 rfl) rfl; have oc := oc_361_109; by omega), fun h => absurd (p243.mpr ((fs_cg (hFc233.1 111 rfl) (hFc233.2.2.1 109 18 rfl)).mpr h)) (by have h2 := c246; omega), by rw [← hFc233.1 151 rfl, ← e254]; exact c255, by rw [← e263]; have h := i268a.2; omega⟩)
                    have n233c : SP0 s sc233 := by exact g233_3
                    have n233d : NBX s sc233 (z309).toNatClampNeg (y233_2).toInt := by rw [(show (z309).toNatClampNeg = (y233_3).toNatClampNeg + 1 from (by show (z309).toInt.toNat = (y233_3).toInt.toNat + 1; exact (have a0 := in_u i238a; have a1 := in_u i238; have a2 := in_u i284; have a3 := in_u j233_1; have a4 := in_u ((in_c 1 rfl)); have a5 := in_u i309; have a6 := t_add e309 i238 (in_c 1 rfl) rfl; have oc := oc_361_109; by omega)))]; first | (exact nbx_y g233_4 (show (y233_3).toInt = (((y233_3).toNatClampNeg : Nat) : Int) from (clx i238.1).symm) (Or.inr (by rw [← e292, show sc233.2.1 149 (y233_2).toInt.toNat = z298 from e298.symm]; exact c300a))) | (exact nbx_n g233_4 (fun _ _ _ => ⟨i284.1, by rw [← e292, show sc233.2.1 149 (y233_2).toInt.toNat = z298 from e298.symm]; exact c300a⟩))
                    exact gg_w (by first | exact Nat.le_add_right _ _ | exact gw2 | exact gw3 | exact gwe rfl | exact gwf rfl | exact gwg rfl | exact gwh rfl | omega) (gg_f (gf_cons rfl (gf_cons rfl (gf_cons rfl (gf_cons rfl gf_nil)))) (ih233 sc233 y233_1 y233_2 z309 hIc233 hFc233 (in_w 0 0 j233_1 rfl) (in_w (-1) 31 i284 rfl) (in_w 0 32 i309 rfl) n233 n233a n233b n233c n233d (m_up mm233 (t_add e309 i238 (in_c 1 rfl) rfl) (in_w 1 1 (in_c 1 rfl) rfl))))
                  · skip
                    have i300 := z_lt (-1) (-1) c300 i299 rfl
                    have c300a := lc_lt e299 c300
                    have i300a := lr_lt1 (-9223372036854775808) 9223372036854775806 c300a (l_rng z292) (l_rng z298) rfl
                    have i300b := lr_lt2 (-9223372036854775807) 9223372036854775807 c300a (l_rng z292) (l_rng z298) rfl
                    refine g_iload_n 304 (gd rfl) rfl rfl ?_
                    refine g_goto 308 (gd rfl) rfl ?_
                    refine g_istore_n 309 (gd rfl) rfl (Nat.le_of_ble_eq_true rfl) ?_
                    refine g_iinc 312 (gd rfl) rfl rfl (Nat.le_of_ble_eq_true rfl) (fun z309 e309 => ?_)
                    have i309 := in_add 1 32 e309 i238 (in_c 1 rfl) rfl rfl
                    refine g_goto 233 (gd rfl) rfl ?_
                    have n233 : CIP s sc233 := by first | exact g55_0 | exact g233_0
                    have n233a : CLP s sc233 1024 := by first | exact g233_1 | exact g55_1 c56
                    have n233b : (y233_3).toInt < 0 ∨ (In (y233_3) 0 31 ∧ (y233_3).toInt < nnq s ∧ ¬ FSQ s (y233_3).toNatClampNeg ∧ (s.1 151 (y233_3).toNatClampNeg).toInt < 0 ∧ (sc233.2.1 149 (y233_3).toNatClampNeg).toInt < 9000000000000000) := by first | exact g233_2 | exact Or.inl (by decide) | exact Or.inr ⟨i238, by unfold nnq; rw [← e_109_20]; exact (have a0 := in_u i238a; have a1 := in_u i238; have a2 := in_u i284; have a3 := in_u j233_1; have a4 := in_u ((in_c 1 rfl)); have a5 := in_u i309; have a6 := t_add e309 i238 (in_c 1 rfl) rfl; have oc := oc_361_109; by omega), fun h => absurd (p243.mpr ((fs_cg (hFc233.1 111 rfl) (hFc233.2.2.1 109 18 rfl)).mpr h)) (by have h2 := c246; omega), by rw [← hFc233.1 151 rfl, ← e254]; exact c255, by rw [← e263]; have h := i268a.2; omega⟩
                    have n233c : SP0 s sc233 := by exact g233_3
                    have n233d : NBX s sc233 (z309).toNatClampNeg (y233_3).toInt := by rw [(show (z309).toNatClampNeg = (y233_3).toNatClampNeg + 1 from (by show (z309).toInt.toNat = (y233_3).toInt.toNat + 1; exact (have a0 := in_u i238a; have a1 := in_u i238; have a2 := in_u i284; have a3 := in_u j233_1; have a4 := in_u ((in_c 1 rfl)); have a5 := in_u i309; have a6 := t_add e309 i238 (in_c 1 rfl) rfl; have oc := oc_361_109; by omega)))]; first | (exact nbx_y g233_4 (show (y233_3).toInt = (((y233_3).toNatClampNeg : Nat) : Int) from (clx i238.1).symm) (Or.inr (by rw [← e292, show sc233.2.1 149 (y233_2).toInt.toNat = z298 from e298.symm]; exact c300a))) | (exact nbx_n g233_4 (fun _ _ _ => ⟨i284.1, by rw [← e292, show sc233.2.1 149 (y233_2).toInt.toNat = z298 from e298.symm]; exact c300a⟩))
                    exact gg_w (by first | exact Nat.le_add_right _ _ | exact gw2 | exact gw3 | exact gwe rfl | exact gwf rfl | exact gwg rfl | exact gwh rfl | omega) (gg_f (gf_cons rfl (gf_cons rfl (gf_cons rfl (gf_cons rfl gf_nil)))) (ih233 sc233 y233_1 y233_3 z309 hIc233 hFc233 (in_w 0 0 j233_1 rfl) (in_w (-1) 31 i238 rfl) (in_w 0 32 i309 rfl) n233 n233a n233b n233c n233d (m_up mm233 (t_add e309 i238 (in_c 1 rfl) rfl) (in_w 1 1 (in_c 1 rfl) rfl))))
  have ct55 : ∀ (k55 : Nat) (sc55 : GS) (y55_1 : Int32), Inv sc55 → Fr fm_361 s sc55 → (In y55_1 0 1) → (CIP s sc55) → ((y55_1).toInt = 0 → CLP s sc55 1024) → (SP0 s sc55) → 2 * mqp s sc55 + (y55_1).toInt.toNat < k55 → GG Z (d - 1) 361 post (gx xp) (29702 + k55 * 925201) 55 (fun j => xlook j [(0, .ref (A 109)), (1, .int y55_1)]) [] (WW Z A sc55 ++ ex) 0 0 := by
    intro k55
    induction k55 with
    | zero => intro sc55 y55_1 hIc55 hFc55 j55_1 g55_0 g55_1 g55_2 mm55; exact absurd mm55 (Nat.not_lt_zero _)
    | succ k55 ih55 =>
      intro sc55 y55_1 hIc55 hFc55 j55_1 g55_0 g55_1 g55_2 mm55
      refine gg_w (M := 29702 + k55 * 925201 + 925201) gws ?_
      have ct63 : ∀ (k63 : Nat) (sc63 : GS) (y63_1 : Int32) (y63_2 : Int32), Inv sc63 → Fr fm_361 s sc63 → (In y63_1 0 1) → (In y63_2 0 1024) → (WKP s (mqp s sc55) sc63 (y63_1).toInt (y63_2).toNatClampNeg) → (y55_1.toInt = 1) → (SP0 s sc63) → 1024 - (y63_2).toInt < (k63 : Int) → GG Z (d - 1) 361 post (gx xp) (29702 + k55 * 925201 + 1 + k63 * 900) 63 (fun j => xlook j [(0, .ref (A 109)), (1, .int y63_1), (2, .int y63_2)]) [] (WW Z A sc63 ++ ex) 0 0 := by
        intro k63
        induction k63 with
        | zero => intro sc63 y63_1 y63_2 hIc63 hFc63 j63_1 j63_2 g63_0 g63_1 g63_2 mm63; exact m_no mm63 j63_2 rfl
        | succ k63 ih63 =>
          intro sc63 y63_1 y63_2 hIc63 hFc63 j63_1 j63_2 g63_0 g63_1 g63_2 mm63
          refine gg_w (M := 29702 + k55 * 925201 + 1 + k63 * 900 + 900) gws ?_
          refine g_iload_n 64 (gd rfl) rfl rfl ?_
          refine g_sipush 1024 67 (gd rfl) rfl rfl ?_
          refine g_cmp_ge 70 226 (gd rfl) rfl rfl (fun c67 => ?_) (fun c67 => ?_)
          · skip
            have i67 := r_le2 1024 1024 c67 (in_c 1024 rfl) j63_2 rfl
            refine g_goto 55 (gd rfl) rfl ?_
            have n55 : CIP s sc63 := by first | exact g63_0.1 | exact cip_0 q_0 (hFc2.2.2.1 109 20 rfl) (fun k hk => g2_0 k (by unfold nnq at hk; rw [← e_109_20] at hk; exact (have a0 := in_u ro_109_20; have a1 := in_u i67; have a2 := in_u j63_1; have oc := oc_361_109; by omega)))
            have n55a : (y63_1).toInt = 0 → CLP s sc63 1024 := by first | (intro hz; exfalso; have h0 : (Int32.ofInt 1).toInt = 1 := rfl; omega) | (intro hz; have hc := g63_0.2.2.2 hz; rw [show y63_2.toNatClampNeg = 1024 from (by show y63_2.toInt.toNat = 1024; exact (have a0 := in_u ro_109_20; have a1 := in_u i67; have a2 := in_u j63_1; have oc := oc_361_109; by omega))] at hc; exact hc)
            have n55b : SP0 s sc63 := by exact g63_2
            have m55 : 2 * mqp s sc63 + (y63_1).toInt.toNat < k55 := by have hm := mm55; have hj := g63_1; have hm1 := g63_0.2.1; have hm2 := g63_0.2.2.1; by_cases hz : y63_1.toInt = 0; (exact (have a0 := in_u ro_109_20; have a1 := in_u i67; have a2 := in_u j63_1; have oc := oc_361_109; by omega)); (have hm3 := hm2 hz; have hjj := j63_1; unfold In at hjj; exact (have a0 := in_u ro_109_20; have a1 := in_u i67; have a2 := in_u j63_1; have oc := oc_361_109; by omega))
            exact gg_w (by first | exact Nat.le_add_right _ _ | exact gw2 | exact gw3 | exact gwe rfl | exact gwf rfl | exact gwg rfl | exact gwh rfl | omega) (gg_f (gf_cons rfl (gf_cons rfl gf_nil)) (ih55  sc63 y63_1 hIc63 hFc63 (in_w 0 1 j63_1 rfl) n55 n55a n55b m55))
          · skip
            have i67 := r_lt1 0 1023 c67 j63_2 (in_c 1024 rfl) rfl
            refine g_iload_n 71 (gd rfl) rfl rfl ?_
            refine g_bipush 32 73 (gd rfl) rfl rfl ?_
            refine g_idiv 74 (gd rfl) rfl (by decide) (fun z73 e73 => ?_)
            have i73 := in_div 0 31 e73 i67 rfl rfl
            refine g_istore_n 75 (gd rfl) rfl (Nat.le_of_ble_eq_true rfl) ?_
            refine g_iload_n 76 (gd rfl) rfl rfl ?_
            refine g_bipush 32 78 (gd rfl) rfl rfl ?_
            refine g_irem 79 (gd rfl) rfl (by decide) (fun z78 e78 => ?_)
            have i78 := in_rem 31 e78 i67 rfl rfl
            refine g_istore 81 (gd rfl) rfl (Nat.le_of_ble_eq_true rfl) ?_
            refine g_aload_n 82 (gd rfl) rfl rfl ?_
            refine g_getA (q2 := 152) 85 (gd rfl) rfl rfl rfl rfl ?_
            refine g_iload_n 86 (gd rfl) rfl rfl ?_
            refine g_laload 87 (gd rfl) rfl (n := 1024) rfl (in_ix i67 rfl) (fun z86 e86 => ?_)
            refine g_ldc2_w 9000000000000000 90 (gd rfl) rfl rfl ?_
            refine g_lcmp 91 (gd rfl) rfl (fun z90 e90 => ?_)
            have i90 := lc_in e90
            refine g_if_ge 94 220 (gd rfl) rfl rfl (fun c91 => ?_) (fun c91 => ?_)
            · skip
              have i91 := z_ge 0 1 c91 i90 rfl
              have c91a := lc_ge e90 c91
              have i91a := lr_le2 9000000000000000 9223372036854775807 c91a (l_c 9000000000000000 rfl) (l_rng z86) rfl
              refine g_iinc 223 (gd rfl) rfl rfl (Nat.le_of_ble_eq_true rfl) (fun z220 e220 => ?_)
              have i220 := in_add 1 1024 e220 i67 (in_c 1 rfl) rfl rfl
              refine g_goto 63 (gd rfl) rfl ?_
              have n63 : WKP s (mqp s sc55) sc63 (y63_1).toInt (z220).toNatClampNeg := by rw [show (z220).toNatClampNeg = y63_2.toNatClampNeg + 1 from (by show z220.toInt.toNat = y63_2.toInt.toNat + 1; exact (have a0 := in_u ro_109_20; have a1 := in_u i67; have a2 := in_u j63_1; have a3 := in_u i78; have a4 := in_u i73; have a5 := t_div e73 i67 rfl; have a6 := in_u i220; have a7 := t_add e220 i67 (in_c 1 rfl) rfl; have a8 := in_u ((in_c 1 rfl)); have oc := oc_361_109; by omega))]; exact wkp_s g63_0 i73 i78 (kp32 i67 e73 e78) (fun h1 _ _ => by exfalso; rw [← hFc63.2.1 152 rfl, ← e86] at h1; have h := i91a.1; omega)
              have n63a : y55_1.toInt = 1 := by first | exact g63_1 | (first | exact g63_1 | (have hj := j55_1; unfold In at hj; have hc := c56; omega))
              have n63b : SP0 s sc63 := by exact g63_2
              exact gg_w (by first | exact Nat.le_add_right _ _ | exact gw2 | exact gw3 | exact gwe rfl | exact gwf rfl | exact gwg rfl | exact gwh rfl | omega) (gg_f (gf_cons rfl (gf_cons rfl (gf_cons rfl gf_nil))) (ih63 sc63 y63_1 z220 hIc63 hFc63 (in_w 0 1 j63_1 rfl) (in_w 0 1024 i220 rfl) n63 n63a n63b (m_up mm63 (t_add e220 i67 (in_c 1 rfl) rfl) (in_w 1 1 (in_c 1 rfl) rfl))))
            · skip
              have i91 := z_lt (-1) (-1) c91 i90 rfl
              have c91a := lc_lt e90 c91
              have i91a := lr_lt1 (-9223372036854775808) 8999999999999999 c91a (l_rng z86) (l_c 9000000000000000 rfl) rfl
              refine g_aload_n 95 (gd rfl) rfl rfl ?_
              refine g_getA (q2 := 149) 98 (gd rfl) rfl rfl rfl rfl ?_
              refine g_iload_n 99 (gd rfl) rfl rfl ?_
              refine g_laload 100 (gd rfl) rfl (n := 34) rfl (in_ix i73 rfl) (fun z99 e99 => ?_)
              refine g_ldc2_w 9000000000000000 103 (gd rfl) rfl rfl ?_
              refine g_lcmp 104 (gd rfl) rfl (fun z103 e103 => ?_)
              have i103 := lc_in e103
              refine g_if_ge 107 220 (gd rfl) rfl rfl (fun c104 => ?_) (fun c104 => ?_)
              · skip
                have i104 := z_ge 0 1 c104 i103 rfl
                have c104a := lc_ge e103 c104
                have i104a := lr_le2 9000000000000000 9223372036854775807 c104a (l_c 9000000000000000 rfl) (l_rng z99) rfl
                refine g_iinc 223 (gd rfl) rfl rfl (Nat.le_of_ble_eq_true rfl) (fun z220 e220 => ?_)
                have i220 := in_add 1 1024 e220 i67 (in_c 1 rfl) rfl rfl
                refine g_goto 63 (gd rfl) rfl ?_
                have n63 : WKP s (mqp s sc55) sc63 (y63_1).toInt (z220).toNatClampNeg := by rw [show (z220).toNatClampNeg = y63_2.toNatClampNeg + 1 from (by show z220.toInt.toNat = y63_2.toInt.toNat + 1; exact (have a0 := in_u ro_109_20; have a1 := in_u i67; have a2 := in_u j63_1; have a3 := in_u i78; have a4 := in_u i73; have a5 := t_div e73 i67 rfl; have a6 := in_u i220; have a7 := t_add e220 i67 (in_c 1 rfl) rfl; have a8 := in_u ((in_c 1 rfl)); have oc := oc_361_109; by omega))]; exact wkp_s g63_0 i73 i78 (kp32 i67 e73 e78) (fun _ h2 _ => by exfalso; rw [← e99] at h2; have h := i104a.1; omega)
                have n63a : y55_1.toInt = 1 := by first | exact g63_1 | (first | exact g63_1 | (have hj := j55_1; unfold In at hj; have hc := c56; omega))
                have n63b : SP0 s sc63 := by exact g63_2
                exact gg_w (by first | exact Nat.le_add_right _ _ | exact gw2 | exact gw3 | exact gwe rfl | exact gwf rfl | exact gwg rfl | exact gwh rfl | omega) (gg_f (gf_cons rfl (gf_cons rfl (gf_cons rfl gf_nil))) (ih63 sc63 y63_1 z220 hIc63 hFc63 (in_w 0 1 j63_1 rfl) (in_w 0 1024 i220 rfl) n63 n63a n63b (m_up mm63 (t_add e220 i67 (in_c 1 rfl) rfl) (in_w 1 1 (in_c 1 rfl) rfl))))
              · skip
                have i104 := z_lt (-1) (-1) c104 i103 rfl
                have c104a := lc_lt e103 c104
                have i104a := lr_lt1 (-9223372036854775808) 8999999999999999 c104a (l_rng z99) (l_c 9000000000000000 rfl) rfl
                refine g_aload_n 108 (gd rfl) rfl rfl ?_
                refine g_getA (q2 := 151) 111 (gd rfl) rfl rfl rfl rfl ?_
                refine g_iload_n 112 (gd rfl) rfl rfl ?_
                refine g_iaload 113 (gd rfl) rfl (n := 32) rfl (in_ix i73 rfl) (fun z112 e112 => ?_)
                have i112 := inv_I hIc63 (n := 32) (t := 0) (-1) 31 rfl (in_ix i73 rfl) rfl e112
                refine g_iload 115 (gd rfl) rfl rfl ?_
                refine g_cmp_eq 118 220 (gd rfl) rfl rfl (fun c115 => ?_) (fun c115 => ?_)
                · skip
                  have i115 := r_eq1 0 31 c115 i112 i78 rfl
                  refine g_iinc 223 (gd rfl) rfl rfl (Nat.le_of_ble_eq_true rfl) (fun z220 e220 => ?_)
                  have i220 := in_add 1 1024 e220 i67 (in_c 1 rfl) rfl rfl
                  refine g_goto 63 (gd rfl) rfl ?_
                  have n63 : WKP s (mqp s sc55) sc63 (y63_1).toInt (z220).toNatClampNeg := by rw [show (z220).toNatClampNeg = y63_2.toNatClampNeg + 1 from (by show z220.toInt.toNat = y63_2.toInt.toNat + 1; exact (have a0 := in_u ro_109_20; have a1 := in_u i67; have a2 := in_u j63_1; have a3 := in_u i78; have a4 := in_u i73; have a5 := t_div e73 i67 rfl; have a6 := in_u i220; have a7 := t_add e220 i67 (in_c 1 rfl) rfl; have a8 := in_u ((in_c 1 rfl)); have oc := oc_361_109; by omega))]; exact wkp_s g63_0 i73 i78 (kp32 i67 e73 e78) (fun _ _ h3 => absurd (by rw [← hFc63.1 151 rfl, ← e112]; exact c115) h3)
                  have n63a : y55_1.toInt = 1 := by first | exact g63_1 | (first | exact g63_1 | (have hj := j55_1; unfold In at hj; have hc := c56; omega))
                  have n63b : SP0 s sc63 := by exact g63_2
                  exact gg_w (by first | exact Nat.le_add_right _ _ | exact gw2 | exact gw3 | exact gwe rfl | exact gwf rfl | exact gwg rfl | exact gwh rfl | omega) (gg_f (gf_cons rfl (gf_cons rfl (gf_cons rfl gf_nil))) (ih63 sc63 y63_1 z220 hIc63 hFc63 (in_w 0 1 j63_1 rfl) (in_w 0 1024 i220 rfl) n63 n63a n63b (m_up mm63 (t_add e220 i67 (in_c 1 rfl) rfl) (in_w 1 1 (in_c 1 rfl) rfl))))
                · skip
                  refine g_aload_n 119 (gd rfl) rfl rfl ?_
                  refine g_getA (q2 := 149) 122 (gd rfl) rfl rfl rfl rfl ?_
                  refine g_iload_n 123 (gd rfl) rfl rfl ?_
                  refine g_laload 124 (gd rfl) rfl (n := 34) rfl (in_ix i73 rfl) (fun z123 e123 => ?_)
                  refine g_aload_n 125 (gd rfl) rfl rfl ?_
                  refine g_getA (q2 := 152) 128 (gd rfl) rfl rfl rfl rfl ?_
                  refine g_iload_n 129 (gd rfl) rfl rfl ?_
                  refine g_laload 130 (gd rfl) rfl (n := 1024) rfl (in_ix i67 rfl) (fun z129 e129 => ?_)
                  refine g_ladd 131 (gd rfl) rfl (fun z130 e130 => ?_)
                  refine g_aload_n 132 (gd rfl) rfl rfl ?_
                  refine g_getA (q2 := 149) 135 (gd rfl) rfl rfl rfl rfl ?_
                  refine g_iload 137 (gd rfl) rfl rfl ?_
                  refine g_laload 138 (gd rfl) rfl (n := 34) rfl (in_ix i78 rfl) (fun z137 e137 => ?_)
                  refine g_lcmp 139 (gd rfl) rfl (fun z138 e138 => ?_)
                  have i138 := lc_in e138
                  refine g_if_ge 142 220 (gd rfl) rfl rfl (fun c139 => ?_) (fun c139 => ?_)
                  · skip
                    have i139 := z_ge 0 1 c139 i138 rfl
                    have c139a := lc_ge e138 c139
                    refine g_iinc 223 (gd rfl) rfl rfl (Nat.le_of_ble_eq_true rfl) (fun z220 e220 => ?_)
                    have i220 := in_add 1 1024 e220 i67 (in_c 1 rfl) rfl rfl
                    refine g_goto 63 (gd rfl) rfl ?_
                    have n63 : WKP s (mqp s sc55) sc63 (y63_1).toInt (z220).toNatClampNeg := by rw [show (z220).toNatClampNeg = y63_2.toNatClampNeg + 1 from (by show z220.toInt.toNat = y63_2.toInt.toNat + 1; exact (have a0 := in_u ro_109_20; have a1 := in_u i67; have a2 := in_u j63_1; have a3 := in_u i78; have a4 := in_u i73; have a5 := t_div e73 i67 rfl; have a6 := in_u i220; have a7 := t_add e220 i67 (in_c 1 rfl) rfl; have a8 := in_u ((in_c 1 rfl)); have oc := oc_361_109; by omega))]; exact wkp_s g63_0 i73 i78 (kp32 i67 e73 e78) (fun _ _ _ => cip_add q_0 (hFc63.2.2.1 109 20 rfl) g63_0.1 i73 i78 (kp32 i67 e73 e78) (by rw [← hFc63.2.1 152 rfl]; exact e129) (by rw [e129, ← e86]; have h := i91a.2; omega) e123 (by rw [e123, ← e99]; have h := i104a.2; omega) e130 e137 c139a)
                    have n63a : y55_1.toInt = 1 := by first | exact g63_1 | (first | exact g63_1 | (have hj := j55_1; unfold In at hj; have hc := c56; omega))
                    have n63b : SP0 s sc63 := by exact g63_2
                    exact gg_w (by first | exact Nat.le_add_right _ _ | exact gw2 | exact gw3 | exact gwe rfl | exact gwf rfl | exact gwg rfl | exact gwh rfl | omega) (gg_f (gf_cons rfl (gf_cons rfl (gf_cons rfl gf_nil))) (ih63 sc63 y63_1 z220 hIc63 hFc63 (in_w 0 1 j63_1 rfl) (in_w 0 1024 i220 rfl) n63 n63a n63b (m_up mm63 (t_add e220 i67 (in_c 1 rfl) rfl) (in_w 1 1 (in_c 1 rfl) rfl))))
                  · skip
                    have i139 := z_lt (-1) (-1) c139 i138 rfl
                    have c139a := lc_lt e138 c139
                    have i139a := lr_lt1 (-9223372036854775808) 9223372036854775806 c139a (l_rng z130) (l_rng z137) rfl
                    have i139b := lr_lt2 (-9223372036854775807) 9223372036854775807 c139a (l_rng z130) (l_rng z137) rfl
                    refine g_aload_n 143 (gd rfl) rfl rfl ?_
                    refine g_getA (q2 := 149) 146 (gd rfl) rfl rfl rfl rfl ?_
                    refine g_iload 148 (gd rfl) rfl rfl ?_
                    refine g_aload_n 149 (gd rfl) rfl rfl ?_
                    refine g_getA (q2 := 149) 152 (gd rfl) rfl rfl rfl rfl ?_
                    refine g_iload_n 153 (gd rfl) rfl rfl ?_
                    refine g_laload 154 (gd rfl) rfl (n := 34) rfl (in_ix i73 rfl) (fun z153 e153 => ?_)
                    refine g_aload_n 155 (gd rfl) rfl rfl ?_
                    refine g_getA (q2 := 152) 158 (gd rfl) rfl rfl rfl rfl ?_
                    refine g_iload_n 159 (gd rfl) rfl rfl ?_
                    refine g_laload 160 (gd rfl) rfl (n := 1024) rfl (in_ix i67 rfl) (fun z159 e159 => ?_)
                    refine g_ladd 161 (gd rfl) rfl (fun z160 e160 => ?_)
                    refine g_lastore 162 (gd rfl) rfl (n := 34) rfl (in_ix i78 rfl) ?_
                    have hI161 := inv_sL (q := 149) (j := z78.toNatClampNeg) (x := z160) hIc63 rfl (l_rng z160)
                    refine g_aload_n 163 (gd rfl) rfl rfl ?_
                    refine g_getA (q2 := 148) 166 (gd rfl) rfl rfl rfl rfl ?_
                    refine g_iload 168 (gd rfl) rfl rfl ?_
                    refine g_iload_n 169 (gd rfl) rfl rfl ?_
                    refine g_iastore 170 (gd rfl) rfl (n := 34) rfl (in_ix i78 rfl) ?_
                    have hI169 := inv_sI (q := 148) (j := z78.toNatClampNeg) hI161 rfl (in_w (-1) 1000 i73 rfl)
                    refine g_iconst 1 171 (gd rfl) rfl rfl ?_
                    refine g_istore_n 172 (gd rfl) rfl (Nat.le_of_ble_eq_true rfl) ?_
                    refine g_aload_n 173 (gd rfl) rfl rfl ?_
                    refine g_getA (q2 := 151) 176 (gd rfl) rfl rfl rfl rfl ?_
                    refine g_iload 178 (gd rfl) rfl rfl ?_
                    refine g_iaload 179 (gd rfl) rfl (n := 32) rfl (in_ix i78 rfl) (fun z178 e178 => ?_)
                    have i178 := inv_I hI169 (n := 32) (t := 0) (-1) 31 rfl (in_ix i78 rfl) rfl e178
                    refine g_if_lt 182 220 (gd rfl) rfl rfl (fun c179 => ?_) (fun c179 => ?_)
                    · skip
                      have i179 := z_lt (-1) (-1) c179 i178 rfl
                      refine g_iinc 223 (gd rfl) rfl rfl (Nat.le_of_ble_eq_true rfl) (fun z220 e220 => ?_)
                      have i220 := in_add 1 1024 e220 i67 (in_c 1 rfl) rfl rfl
                      refine g_goto 63 (gd rfl) rfl ?_
                      have n63 : WKP s (mqp s sc55) (sI (sL sc63 149 z78.toNatClampNeg z160) 148 z78.toNatClampNeg z73) ((Int32.ofInt 1)).toInt (z220).toNatClampNeg := by rw [show (z220).toNatClampNeg = y63_2.toNatClampNeg + 1 from (by show z220.toInt.toNat = y63_2.toInt.toNat + 1; exact (have a0 := in_u ro_109_20; have a1 := in_u i67; have a2 := in_u j63_1; have a3 := in_u i78; have a4 := in_u i73; have a5 := t_div e73 i67 rfl; have a6 := in_u i220; have a7 := t_add e220 i67 (in_c 1 rfl) rfl; have a8 := in_u ((in_c 1 rfl)); have oc := oc_361_109; by omega))]; exact (wkp_ch g63_0 (cip_1 q_0 (hFc63.2.2.1 109 20 rfl) g63_0.1 i73 i78 (kp32 i67 e73 e78) (by rw [← hFc63.2.1 152 rfl]; exact e159) (by rw [e159, ← e86]; have h := i91a.2; omega) e153 (by rw [e153, ← e99]; have h := i104a.2; omega) e160 (by rw [show z160 = z130 from (by rw [e160, e130, e153, e123, e159, e129]), ← e137]; exact c139a) (by rw [← hFc63.1 151 rfl, show sc63.1 151 z78.toNatClampNeg = z178 from (by rw [e178, sI_p rfl]; rfl)]; exact c179)) _)
                      have n63a : y55_1.toInt = 1 := by first | exact g63_1 | (first | exact g63_1 | (have hj := j55_1; unfold In at hj; have hc := c56; omega))
                      have n63b : SP0 s (sI (sL sc63 149 z78.toNatClampNeg z160) 148 z78.toNatClampNeg z73) := by exact (sp0_1 (T := (sI (sL sc63 149 z78.toNatClampNeg z160) 148 z78.toNatClampNeg z73)) g63_2 sL_qn (fun h => (cip_c q_0 (hFc63.2.2.1 109 20 rfl) g63_0.1 i73 i78 (kp32 i67 e73 e78) (by rw [← hFc63.2.1 152 rfl]; exact e159) (by rw [e159, ← e86]; have h := i91a.2; omega) e153 (by rw [e153, ← e99]; have h := i104a.2; omega) e160 (by rw [show z160 = z130 from (by rw [e160, e130, e153, e123, e159, e129]), ← e137]; exact c139a) ).2.2.2.2.2.2.2 h.1))
                      exact gg_w (by first | exact Nat.le_add_right _ _ | exact gw2 | exact gw3 | exact gwe rfl | exact gwf rfl | exact gwg rfl | exact gwh rfl | omega) (gg_f (gf_cons rfl (gf_cons rfl (gf_cons rfl gf_nil))) (ih63 (sI (sL sc63 149 z78.toNatClampNeg z160) 148 z78.toNatClampNeg z73) (Int32.ofInt 1) z220 hI169 (fr_sI rfl (fr_sL rfl hFc63)) (in_w 0 1 (in_c 1 rfl) rfl) (in_w 0 1024 i220 rfl) n63 n63a n63b (m_up mm63 (t_add e220 i67 (in_c 1 rfl) rfl) (in_w 1 1 (in_c 1 rfl) rfl))))
                    · skip
                      have i179 := z_ge 0 31 c179 i178 rfl
                      refine g_aload_n 183 (gd rfl) rfl rfl ?_
                      refine g_getA (q2 := 149) 186 (gd rfl) rfl rfl rfl rfl ?_
                      refine g_aload_n 187 (gd rfl) rfl rfl ?_
                      refine g_getA (q2 := 151) 190 (gd rfl) rfl rfl rfl rfl ?_
                      refine g_iload 192 (gd rfl) rfl rfl ?_
                      refine g_iaload 193 (gd rfl) rfl (n := 32) rfl (in_ix i78 rfl) (fun z192 e192 => ?_)
                      have q192 : z178 = z192 := (e178).trans e192.symm
                      subst q192
                      refine g_aload_n 194 (gd rfl) rfl rfl ?_
                      refine g_getA (q2 := 149) 197 (gd rfl) rfl rfl rfl rfl ?_
                      refine g_iload 199 (gd rfl) rfl rfl ?_
                      refine g_laload 200 (gd rfl) rfl (n := 34) rfl (in_ix i78 rfl) (fun z199 e199 => ?_)
                      refine g_aload_n 201 (gd rfl) rfl rfl ?_
                      refine g_getA (q2 := 152) 204 (gd rfl) rfl rfl rfl rfl ?_
                      refine g_bipush 32 206 (gd rfl) rfl rfl ?_
                      refine g_aload_n 207 (gd rfl) rfl rfl ?_
                      refine g_getA (q2 := 151) 210 (gd rfl) rfl rfl rfl rfl ?_
                      refine g_iload 212 (gd rfl) rfl rfl ?_
                      refine g_iaload 213 (gd rfl) rfl (n := 32) rfl (in_ix i78 rfl) (fun z212 e212 => ?_)
                      have q212 : z178 = z212 := (e178).trans e212.symm
                      subst q212
                      refine g_imul 214 (gd rfl) rfl (fun z213 e213 => ?_)
                      have i213 := in_mulc 32 0 992 (Or.inl e213) i179 rfl rfl
                      refine g_iload 216 (gd rfl) rfl rfl ?_
                      refine g_iadd 217 (gd rfl) rfl (fun z216 e216 => ?_)
                      have i216 := in_add 0 1023 e216 i213 i78 rfl rfl
                      refine g_laload 218 (gd rfl) rfl (n := 1024) rfl (in_ix i216 rfl) (fun z217 e217 => ?_)
                      refine g_lsub 219 (gd rfl) rfl (fun z218 e218 => ?_)
                      refine g_lastore 220 (gd rfl) rfl (n := 34) rfl (in_ix i179 rfl) ?_
                      have hI219 := inv_sL (q := 149) (j := z178.toNatClampNeg) (x := z218) hI169 rfl (l_rng z218)
                      refine g_iinc 223 (gd rfl) rfl rfl (Nat.le_of_ble_eq_true rfl) (fun z220 e220 => ?_)
                      have i220 := in_add 1 1024 e220 i67 (in_c 1 rfl) rfl rfl
                      refine g_goto 63 (gd rfl) rfl ?_
                      have n63 : WKP s (mqp s sc55) (sL (sI (sL sc63 149 z78.toNatClampNeg z160) 148 z78.toNatClampNeg z73) 149 z178.toNatClampNeg z218) ((Int32.ofInt 1)).toInt (z220).toNatClampNeg := by rw [show (z220).toNatClampNeg = y63_2.toNatClampNeg + 1 from (by show z220.toInt.toNat = y63_2.toInt.toNat + 1; exact (have a0 := in_u ro_109_20; have a1 := in_u i67; have a2 := in_u j63_1; have a3 := in_u i78; have a4 := in_u i73; have a5 := t_div e73 i67 rfl; have a6 := in_u i220; have a7 := t_add e220 i67 (in_c 1 rfl) rfl; have a8 := in_u ((in_c 1 rfl)); have a9 := in_u i216; have a10 := t_add e216 i213 i78 rfl; have a11 := in_u i213; have a12 := (t_mulc 32 (Or.inl e213) i179 rfl).1; have a13 := in_u i179; have oc := oc_361_109; by omega))]; exact (wkp_ch g63_0 (cip_2 (w2 := z217) q_0 (hFc63.2.2.1 109 20 rfl) g63_0.1 i73 i78 (kp32 i67 e73 e78) (by rw [← hFc63.2.1 152 rfl]; exact e159) (by rw [e159, ← e86]; have h := i91a.2; omega) e153 (by rw [e153, ← e99]; have h := i104a.2; omega) e160 (by rw [show z160 = z130 from (by rw [e160, e130, e153, e123, e159, e129]), ← e137]; exact c139a) (by rw [← hFc63.1 151 rfl, show sc63.1 151 z78.toNatClampNeg = z178 from (by rw [e178, sI_p rfl]; rfl)]; have h := c179; omega) (by rw [← hFc63.1 151 rfl, show sc63.1 151 z78.toNatClampNeg = z178 from (by rw [e178, sI_p rfl]; rfl)]) (by rw [show 32 * z178.toNatClampNeg + z78.toNatClampNeg = z216.toNatClampNeg from (by show 32 * z178.toInt.toNat + z78.toInt.toNat = z216.toInt.toNat; exact (have a0 := in_u ro_109_20; have a1 := in_u i67; have a2 := in_u j63_1; have a3 := in_u i78; have a4 := in_u i73; have a5 := t_div e73 i67 rfl; have a6 := in_u i220; have a7 := t_add e220 i67 (in_c 1 rfl) rfl; have a8 := in_u ((in_c 1 rfl)); have a9 := in_u i216; have a10 := t_add e216 i213 i78 rfl; have a11 := in_u i213; have a12 := (t_mulc 32 (Or.inl e213) i179 rfl).1; have a13 := in_u i179; have oc := oc_361_109; by omega)), ← hFc63.2.1 152 rfl, e217]; simp [sI, sL]) (by rw [e218, show z199 = z160 from (by rw [e199]; simp [sI, sL, vp_updL])])) _)
                      have n63a : y55_1.toInt = 1 := by first | exact g63_1 | (first | exact g63_1 | (have hj := j55_1; unfold In at hj; have hc := c56; omega))
                      have n63b : SP0 s (sL (sI (sL sc63 149 z78.toNatClampNeg z160) 148 z78.toNatClampNeg z73) 149 z178.toNatClampNeg z218) := by exact sp0_1 (sp0_1 (T := (sI (sL sc63 149 z78.toNatClampNeg z160) 148 z78.toNatClampNeg z73)) g63_2 sL_qn (fun h => (cip_c q_0 (hFc63.2.2.1 109 20 rfl) g63_0.1 i73 i78 (kp32 i67 e73 e78) (by rw [← hFc63.2.1 152 rfl]; exact e159) (by rw [e159, ← e86]; have h := i91a.2; omega) e153 (by rw [e153, ← e99]; have h := i104a.2; omega) e160 (by rw [show z160 = z130 from (by rw [e160, e130, e153, e123, e159, e129]), ← e137]; exact c139a) ).2.2.2.2.2.2.2 h.1)) sL_qn (sp0_2 q_0 i78 (cip_c q_0 (hFc63.2.2.1 109 20 rfl) g63_0.1 i73 i78 (kp32 i67 e73 e78) (by rw [← hFc63.2.1 152 rfl]; exact e159) (by rw [e159, ← e86]; have h := i91a.2; omega) e153 (by rw [e153, ← e99]; have h := i104a.2; omega) e160 (by rw [show z160 = z130 from (by rw [e160, e130, e153, e123, e159, e129]), ← e137]; exact c139a) ).2.2.2.2.2.2.1 (cip_c q_0 (hFc63.2.2.1 109 20 rfl) g63_0.1 i73 i78 (kp32 i67 e73 e78) (by rw [← hFc63.2.1 152 rfl]; exact e159) (by rw [e159, ← e86]; have h := i91a.2; omega) e153 (by rw [e153, ← e99]; have h := i104a.2; omega) e160 (by rw [show z160 = z130 from (by rw [e160, e130, e153, e123, e159, e129]), ← e137]; exact c139a) ).2.2.2.2.2.2.2 (by rw [← hFc63.1 151 rfl, show sc63.1 151 z78.toNatClampNeg = z178 from (by rw [e178, sI_p rfl]; rfl)]) c179)
                      exact gg_w (by first | exact Nat.le_add_right _ _ | exact gw2 | exact gw3 | exact gwe rfl | exact gwf rfl | exact gwg rfl | exact gwh rfl | omega) (gg_f (gf_cons rfl (gf_cons rfl (gf_cons rfl gf_nil))) (ih63 (sL (sI (sL sc63 149 z78.toNatClampNeg z160) 148 z78.toNatClampNeg z73) 149 z178.toNatClampNeg z218) (Int32.ofInt 1) z220 hI219 (fr_sL rfl (fr_sI rfl (fr_sL rfl hFc63))) (in_w 0 1 (in_c 1 rfl) rfl) (in_w 0 1024 i220 rfl) n63 n63a n63b (m_up mm63 (t_add e220 i67 (in_c 1 rfl) rfl) (in_w 1 1 (in_c 1 rfl) rfl))))
      refine g_iload_n 56 (gd rfl) rfl rfl ?_
      refine g_if_eq 59 229 (gd rfl) rfl rfl (fun c56 => ?_) (fun c56 => ?_)
      · skip
        have i56 := z_eq 0 0 c56 j55_1 rfl
        refine g_iconst (-1) 230 (gd rfl) rfl rfl ?_
        refine g_istore_n 231 (gd rfl) rfl (Nat.le_of_ble_eq_true rfl) ?_
        refine g_iconst 0 232 (gd rfl) rfl rfl ?_
        refine g_istore_n 233 (gd rfl) rfl (Nat.le_of_ble_eq_true rfl) ?_
        have n233 : CIP s sc55 := by first | exact g55_0 | exact g233_0
        have n233a : CLP s sc55 1024 := by first | exact g233_1 | exact g55_1 c56
        have n233b : ((Int32.ofInt (-1))).toInt < 0 ∨ (In ((Int32.ofInt (-1))) 0 31 ∧ ((Int32.ofInt (-1))).toInt < nnq s ∧ ¬ FSQ s ((Int32.ofInt (-1))).toNatClampNeg ∧ (s.1 151 ((Int32.ofInt (-1))).toNatClampNeg).toInt < 0 ∧ (sc55.2.1 149 ((Int32.ofInt (-1))).toNatClampNeg).toInt < 9000000000000000) := by first | exact g233_2 | exact Or.inl (by decide) | exact Or.inr ⟨i238, by unfold nnq; rw [← e_109_20]; exact (have a0 := in_u ro_109_20; have a1 := in_u i56; have a2 := in_u ((in_c 0 rfl)); have a3 := in_u ((in_c (-1) rfl)); have oc := oc_361_109; by omega), fun h => absurd (p243.mpr ((fs_cg (hFc233.1 111 rfl) (hFc233.2.2.1 109 18 rfl)).mpr h)) (by have h2 := c246; omega), by rw [← hFc233.1 151 rfl, ← e254]; exact c255, by rw [← e263]; have h := i268a.2; omega⟩
        have n233c : SP0 s sc55 := by exact g55_2
        have n233d : NBX s sc55 ((Int32.ofInt 0)).toNatClampNeg ((Int32.ofInt (-1))).toInt := by exact (show NBX _ _ 0 _ from fun v hv => absurd hv (Nat.not_lt_zero v))
        exact gg_w (by first | exact Nat.le_add_right _ _ | exact gw2 | exact gw3 | exact gwe rfl | exact gwf rfl | exact gwg rfl | exact gwh rfl | omega) (gg_f (gf_cons rfl (gf_cons rfl (gf_cons rfl (gf_cons rfl gf_nil)))) (ct233 33 sc55 y55_1 (Int32.ofInt (-1)) (Int32.ofInt 0) hIc55 hFc55 (in_w 0 0 i56 rfl) (in_w (-1) 31 (in_c (-1) rfl) rfl) (in_w 0 32 (in_c 0 rfl) rfl) n233 n233a n233b n233c n233d (m_in 33 (in_w 0 32 (in_c 0 rfl) rfl) rfl)))
      · skip
        have i56 := z_ne 1 1 c56 j55_1 rfl
        refine g_iconst 0 60 (gd rfl) rfl rfl ?_
        refine g_istore_n 61 (gd rfl) rfl (Nat.le_of_ble_eq_true rfl) ?_
        refine g_iconst 0 62 (gd rfl) rfl rfl ?_
        refine g_istore_n 63 (gd rfl) rfl (Nat.le_of_ble_eq_true rfl) ?_
        have n63 : WKP s (mqp s sc55) sc55 ((Int32.ofInt 0)).toInt ((Int32.ofInt 0)).toNatClampNeg := by exact wkp_0 g55_0
        have n63a : y55_1.toInt = 1 := by first | exact g63_1 | (have hj := j55_1; unfold In at hj; have hc := c56; omega)
        have n63b : SP0 s sc55 := by exact g55_2
        exact gg_w (by first | exact Nat.le_add_right _ _ | exact gw2 | exact gw3 | exact gwe rfl | exact gwf rfl | exact gwg rfl | exact gwh rfl | omega) (gg_f (gf_cons rfl (gf_cons rfl (gf_cons rfl gf_nil))) (ct63 1025 sc55 (Int32.ofInt 0) (Int32.ofInt 0) hIc55 hFc55 (in_w 0 1 (in_c 0 rfl) rfl) (in_w 0 1024 (in_c 0 rfl) rfl) n63 n63a n63b (m_in 1025 (in_w 0 1024 (in_c 0 rfl) rfl) rfl)))
  have ct2 : ∀ (k2 : Nat) (sc2 : GS) (y2_1 : Int32), Inv sc2 → Fr fm_361 s sc2 → (In y2_1 0 32) → (∀ k : Nat, (k : Int) < (y2_1).toInt → (spq s k → (sc2.2.1 149 k).toInt = 0) ∧ (¬ spq s k → (sc2.2.1 149 k).toInt = 9000000000000000)) → 32 - (y2_1).toInt < (k2 : Int) → GG Z (d - 1) 361 post (gx xp) (5921286401880105 + k2 * 900) 2 (fun j => xlook j [(0, .ref (A 109)), (1, .int y2_1)]) [] (WW Z A sc2 ++ ex) 0 0 := by
    intro k2
    induction k2 with
    | zero => intro sc2 y2_1 hIc2 hFc2 j2_1 g2_0 mm2; exact m_no mm2 j2_1 rfl
    | succ k2 ih2 =>
      intro sc2 y2_1 hIc2 hFc2 j2_1 g2_0 mm2
      refine gg_w (M := 5921286401880105 + k2 * 900 + 900) gws ?_
      refine g_iload_n 3 (gd rfl) rfl rfl ?_
      refine g_aload_n 4 (gd rfl) rfl rfl ?_
      refine g_getI 7 (gd rfl) rfl rfl rfl (fun z4 e4 => ?_)
      have q4 : u_109_20 = z4 := (fr_F e_109_20 hFc2 rfl).trans e4.symm
      subst q4
      refine g_cmp_ge 10 53 (gd rfl) rfl rfl (fun c7 => ?_) (fun c7 => ?_)
      · skip
        refine g_iconst 1 54 (gd rfl) rfl rfl ?_
        refine g_istore_n 55 (gd rfl) rfl (Nat.le_of_ble_eq_true rfl) ?_
        have n55 : CIP s sc2 := by first | exact g63_0.1 | exact cip_0 q_0 (hFc2.2.2.1 109 20 rfl) (fun k hk => g2_0 k (by unfold nnq at hk; rw [← e_109_20] at hk; exact (have a0 := in_u ro_109_20; have a1 := in_u j2_1; have a2 := in_u ((in_c 1 rfl)); have oc := oc_361_109; by omega)))
        have n55a : ((Int32.ofInt 1)).toInt = 0 → CLP s sc2 1024 := by first | (intro hz; exfalso; have h0 : (Int32.ofInt 1).toInt = 1 := rfl; omega) | (intro hz; have hc := g63_0.2.2.2 hz; rw [show y63_2.toNatClampNeg = 1024 from (by show y63_2.toInt.toNat = 1024; exact (have a0 := in_u ro_109_20; have a1 := in_u j2_1; have a2 := in_u ((in_c 1 rfl)); have oc := oc_361_109; by omega))] at hc; exact hc)
        have n55b : SP0 s sc2 := by intro k hk hs; exact (g2_0 k (by unfold nnq at hk; rw [← e_109_20] at hk; exact (have a0 := in_u ro_109_20; have a1 := in_u j2_1; have a2 := in_u ((in_c 1 rfl)); have oc := oc_361_109; by omega))).1 hs
        have m55 : 2 * mqp s sc2 + ((Int32.ofInt 1)).toInt.toNat < 6400000002 := by have hm := cip_m n55; have h1 : (Int32.ofInt 1).toInt.toNat = 1 := rfl; omega
        exact gg_w (by first | exact Nat.le_add_right _ _ | exact gw2 | exact gw3 | exact gwe rfl | exact gwf rfl | exact gwg rfl | exact gwh rfl | omega) (gg_f (gf_cons rfl (gf_cons rfl gf_nil)) (ct55 (6400000002) sc2 (Int32.ofInt 1) hIc2 hFc2 (in_w 0 1 (in_c 1 rfl) rfl) n55 n55a n55b m55))
      · skip
        have i7 := r_lt1 0 31 c7 j2_1 ro_109_20 rfl
        have i7a := r_lt2 1 32 c7 j2_1 ro_109_20 rfl
        refine g_aload_n 11 (gd rfl) rfl rfl ?_
        refine g_getA (q2 := 149) 14 (gd rfl) rfl rfl rfl rfl ?_
        refine g_iload_n 15 (gd rfl) rfl rfl ?_
        refine g_aload_n 16 (gd rfl) rfl rfl ?_
        refine g_iload_n 17 (gd rfl) rfl rfl ?_
        refine g_callv (X := _) (As := [.int y2_1]) (r := [.int y2_1, .ref (A 149)]) (b := A 109) (q := 109) 20 (gd rfl) rfl rfl rfl rfl rfl (ww_o rfl) (Nat.le_of_ble_eq_true rfl) (Nat.zero_le _) (Nat.zero_le _) (k_359 (by first | exact dq1 hd rfl | exact dq0 hd rfl | exact dq2 hd rfl | exact dq3 hd rfl | omega) hIc2 (in_w 0 31 i7 rfl)) (fun e u h => h) (fun v u h => ?_)
        obtain ⟨z17, rfl, rfl, i17, p17⟩ := h
        show GG _ _ _ _ _ _ _ _ [.int z17, .int y2_1, .ref (A 149)] _ _ _
        refine g_if_eq 23 36 (gd rfl) rfl rfl (fun c20 => ?_) (fun c20 => ?_)
        · skip
          have i20 := z_eq 0 0 c20 i17 rfl
          refine g_ldc2_w 9000000000000000 39 (gd rfl) rfl rfl ?_
          refine g_lastore 40 (gd rfl) rfl (n := 34) rfl (in_ix i7 rfl) ?_
          have hI39 := inv_sL (q := 149) (j := y2_1.toNatClampNeg) (x := (Int64.ofInt 9000000000000000)) hIc2 rfl (l_rng (Int64.ofInt 9000000000000000))
          refine g_aload_n 41 (gd rfl) rfl rfl ?_
          refine g_getA (q2 := 148) 44 (gd rfl) rfl rfl rfl rfl ?_
          refine g_iload_n 45 (gd rfl) rfl rfl ?_
          refine g_iconst (-1) 46 (gd rfl) rfl rfl ?_
          refine g_iastore 47 (gd rfl) rfl (n := 34) rfl (in_ix i7 rfl) ?_
          have hI46 := inv_sI (q := 148) (j := y2_1.toNatClampNeg) hI39 rfl (in_w (-1) 1000 (in_c (-1) rfl) rfl)
          refine g_iinc 50 (gd rfl) rfl rfl (Nat.le_of_ble_eq_true rfl) (fun z47 e47 => ?_)
          have i47 := in_add 1 32 e47 i7 (in_c 1 rfl) rfl rfl
          refine g_goto 2 (gd rfl) rfl ?_
          have n2 : ∀ k : Nat, (k : Int) < (z47).toInt → (spq s k → ((sI (sL sc2 149 y2_1.toNatClampNeg (Int64.ofInt 9000000000000000)) 148 y2_1.toNatClampNeg (Int32.ofInt (-1))).2.1 149 k).toInt = 0) ∧ (¬ spq s k → ((sI (sL sc2 149 y2_1.toNatClampNeg (Int64.ofInt 9000000000000000)) 148 y2_1.toNatClampNeg (Int32.ofInt (-1))).2.1 149 k).toInt = 9000000000000000) := by exact inp_s (w := Int64.ofInt 9000000000000000) g2_0 (by simp [sI, sL]) (by exact (have a0 := in_u i7a; have a1 := in_u i7; have a2 := in_u i47; have a3 := t_add e47 i7 (in_c 1 rfl) rfl; have a4 := in_u ((in_c 1 rfl)); have oc := oc_361_109; by omega)) (by exact (have a0 := in_u i7a; have a1 := in_u i7; have a2 := in_u i47; have a3 := t_add e47 i7 (in_c 1 rfl) rfl; have a4 := in_u ((in_c 1 rfl)); have oc := oc_361_109; by omega)) ⟨fun h => absurd (p17.mpr ((fs_cg (hFc2.1 111 rfl) (hFc2.2.2.1 109 18 rfl)).mpr h.1)) (by have h2 := c20; omega), fun _ => (by have hl : InL (Int64.ofInt 9000000000000000) 9000000000000000 9000000000000000 := l_c 9000000000000000 rfl; exact Int.le_antisymm hl.2 hl.1)⟩
          exact gg_w (by first | exact Nat.le_add_right _ _ | exact gw2 | exact gw3 | exact gwe rfl | exact gwf rfl | exact gwg rfl | exact gwh rfl | omega) (gg_f (gf_cons rfl (gf_cons rfl gf_nil)) (ih2 (sI (sL sc2 149 y2_1.toNatClampNeg (Int64.ofInt 9000000000000000)) 148 y2_1.toNatClampNeg (Int32.ofInt (-1))) z47 hI46 (fr_sI rfl (fr_sL rfl hFc2)) (in_w 0 32 i47 rfl) n2 (m_up mm2 (t_add e47 i7 (in_c 1 rfl) rfl) (in_w 1 1 (in_c 1 rfl) rfl))))
        · skip
          have i20 := z_ne 1 1 c20 i17 rfl
          refine g_aload_n 24 (gd rfl) rfl rfl ?_
          refine g_getA (q2 := 151) 27 (gd rfl) rfl rfl rfl rfl ?_
          refine g_iload_n 28 (gd rfl) rfl rfl ?_
          refine g_iaload 29 (gd rfl) rfl (n := 32) rfl (in_ix i7 rfl) (fun z28 e28 => ?_)
          have i28 := inv_I hIc2 (n := 32) (t := 0) (-1) 31 rfl (in_ix i7 rfl) rfl e28
          refine g_if_ge 32 36 (gd rfl) rfl rfl (fun c29 => ?_) (fun c29 => ?_)
          · skip
            have i29 := z_ge 0 31 c29 i28 rfl
            refine g_ldc2_w 9000000000000000 39 (gd rfl) rfl rfl ?_
            refine g_lastore 40 (gd rfl) rfl (n := 34) rfl (in_ix i7 rfl) ?_
            have hI39 := inv_sL (q := 149) (j := y2_1.toNatClampNeg) (x := (Int64.ofInt 9000000000000000)) hIc2 rfl (l_rng (Int64.ofInt 9000000000000000))
            refine g_aload_n 41 (gd rfl) rfl rfl ?_
            refine g_getA (q2 := 148) 44 (gd rfl) rfl rfl rfl rfl ?_
            refine g_iload_n 45 (gd rfl) rfl rfl ?_
            refine g_iconst (-1) 46 (gd rfl) rfl rfl ?_
            refine g_iastore 47 (gd rfl) rfl (n := 34) rfl (in_ix i7 rfl) ?_
            have hI46 := inv_sI (q := 148) (j := y2_1.toNatClampNeg) hI39 rfl (in_w (-1) 1000 (in_c (-1) rfl) rfl)
            refine g_iinc 50 (gd rfl) rfl rfl (Nat.le_of_ble_eq_true rfl) (fun z47 e47 => ?_)
            have i47 := in_add 1 32 e47 i7 (in_c 1 rfl) rfl rfl
            refine g_goto 2 (gd rfl) rfl ?_
            have n2 : ∀ k : Nat, (k : Int) < (z47).toInt → (spq s k → ((sI (sL sc2 149 y2_1.toNatClampNeg (Int64.ofInt 9000000000000000)) 148 y2_1.toNatClampNeg (Int32.ofInt (-1))).2.1 149 k).toInt = 0) ∧ (¬ spq s k → ((sI (sL sc2 149 y2_1.toNatClampNeg (Int64.ofInt 9000000000000000)) 148 y2_1.toNatClampNeg (Int32.ofInt (-1))).2.1 149 k).toInt = 9000000000000000) := by first | (exact inp_s (w := Int64.ofInt 0) g2_0 (by simp [sI, sL]) (by exact (have a0 := in_u i7a; have a1 := in_u i7; have a2 := in_u i47; have a3 := t_add e47 i7 (in_c 1 rfl) rfl; have a4 := in_u ((in_c 1 rfl)); have oc := oc_361_109; by omega)) (by exact (have a0 := in_u i7a; have a1 := in_u i7; have a2 := in_u i47; have a3 := t_add e47 i7 (in_c 1 rfl) rfl; have a4 := in_u ((in_c 1 rfl)); have oc := oc_361_109; by omega)) ⟨fun _ => by decide, fun h => absurd ⟨(fs_cg (hFc2.1 111 rfl) (hFc2.2.2.1 109 18 rfl)).mp (p17.mp c20), by rw [← hFc2.1 151 rfl, ← e28]; exact c29⟩ h⟩) | (exact inp_s (w := Int64.ofInt 9000000000000000) g2_0 (by simp [sI, sL]) (by exact (have a0 := in_u i7a; have a1 := in_u i7; have a2 := in_u i47; have a3 := t_add e47 i7 (in_c 1 rfl) rfl; have a4 := in_u ((in_c 1 rfl)); have oc := oc_361_109; by omega)) (by exact (have a0 := in_u i7a; have a1 := in_u i7; have a2 := in_u i47; have a3 := t_add e47 i7 (in_c 1 rfl) rfl; have a4 := in_u ((in_c 1 rfl)); have oc := oc_361_109; by omega)) ⟨fun h => by exfalso; have h2 := h.2; rw [← hFc2.1 151 rfl, ← e28] at h2; have h3 := c29; omega, fun _ => (by have hl : InL (Int64.ofInt 9000000000000000) 9000000000000000 9000000000000000 := l_c 9000000000000000 rfl; exact Int.le_antisymm hl.2 hl.1)⟩)
            exact gg_w (by first | exact Nat.le_add_right _ _ | exact gw2 | exact gw3 | exact gwe rfl | exact gwf rfl | exact gwg rfl | exact gwh rfl | omega) (gg_f (gf_cons rfl (gf_cons rfl gf_nil)) (ih2 (sI (sL sc2 149 y2_1.toNatClampNeg (Int64.ofInt 9000000000000000)) 148 y2_1.toNatClampNeg (Int32.ofInt (-1))) z47 hI46 (fr_sI rfl (fr_sL rfl hFc2)) (in_w 0 32 i47 rfl) n2 (m_up mm2 (t_add e47 i7 (in_c 1 rfl) rfl) (in_w 1 1 (in_c 1 rfl) rfl))))
          · skip
            have i29 := z_lt (-1) (-1) c29 i28 rfl
            refine g_lconst 0 33 (gd rfl) rfl rfl ?_
            refine g_goto 39 (gd rfl) rfl ?_
            refine g_lastore 40 (gd rfl) rfl (n := 34) rfl (in_ix i7 rfl) ?_
            have hI39 := inv_sL (q := 149) (j := y2_1.toNatClampNeg) (x := (Int64.ofInt 0)) hIc2 rfl (l_rng (Int64.ofInt 0))
            refine g_aload_n 41 (gd rfl) rfl rfl ?_
            refine g_getA (q2 := 148) 44 (gd rfl) rfl rfl rfl rfl ?_
            refine g_iload_n 45 (gd rfl) rfl rfl ?_
            refine g_iconst (-1) 46 (gd rfl) rfl rfl ?_
            refine g_iastore 47 (gd rfl) rfl (n := 34) rfl (in_ix i7 rfl) ?_
            have hI46 := inv_sI (q := 148) (j := y2_1.toNatClampNeg) hI39 rfl (in_w (-1) 1000 (in_c (-1) rfl) rfl)
            refine g_iinc 50 (gd rfl) rfl rfl (Nat.le_of_ble_eq_true rfl) (fun z47 e47 => ?_)
            have i47 := in_add 1 32 e47 i7 (in_c 1 rfl) rfl rfl
            refine g_goto 2 (gd rfl) rfl ?_
            have n2 : ∀ k : Nat, (k : Int) < (z47).toInt → (spq s k → ((sI (sL sc2 149 y2_1.toNatClampNeg (Int64.ofInt 0)) 148 y2_1.toNatClampNeg (Int32.ofInt (-1))).2.1 149 k).toInt = 0) ∧ (¬ spq s k → ((sI (sL sc2 149 y2_1.toNatClampNeg (Int64.ofInt 0)) 148 y2_1.toNatClampNeg (Int32.ofInt (-1))).2.1 149 k).toInt = 9000000000000000) := by first | (exact inp_s (w := Int64.ofInt 0) g2_0 (by simp [sI, sL]) (by exact (have a0 := in_u i7a; have a1 := in_u i7; have a2 := in_u i47; have a3 := t_add e47 i7 (in_c 1 rfl) rfl; have a4 := in_u ((in_c 1 rfl)); have oc := oc_361_109; by omega)) (by exact (have a0 := in_u i7a; have a1 := in_u i7; have a2 := in_u i47; have a3 := t_add e47 i7 (in_c 1 rfl) rfl; have a4 := in_u ((in_c 1 rfl)); have oc := oc_361_109; by omega)) ⟨fun _ => by decide, fun h => absurd ⟨(fs_cg (hFc2.1 111 rfl) (hFc2.2.2.1 109 18 rfl)).mp (p17.mp c20), by rw [← hFc2.1 151 rfl, ← e28]; exact c29⟩ h⟩) | (exact inp_s (w := Int64.ofInt 9000000000000000) g2_0 (by simp [sI, sL]) (by exact (have a0 := in_u i7a; have a1 := in_u i7; have a2 := in_u i47; have a3 := t_add e47 i7 (in_c 1 rfl) rfl; have a4 := in_u ((in_c 1 rfl)); have oc := oc_361_109; by omega)) (by exact (have a0 := in_u i7a; have a1 := in_u i7; have a2 := in_u i47; have a3 := t_add e47 i7 (in_c 1 rfl) rfl; have a4 := in_u ((in_c 1 rfl)); have oc := oc_361_109; by omega)) ⟨fun h => by exfalso; have h2 := h.2; rw [← hFc2.1 151 rfl, ← e28] at h2; have h3 := c29; omega, fun _ => (by have hl : InL (Int64.ofInt 9000000000000000) 9000000000000000 9000000000000000 := l_c 9000000000000000 rfl; exact Int.le_antisymm hl.2 hl.1)⟩)
            exact gg_w (by first | exact Nat.le_add_right _ _ | exact gw2 | exact gw3 | exact gwe rfl | exact gwf rfl | exact gwg rfl | exact gwh rfl | omega) (gg_f (gf_cons rfl (gf_cons rfl gf_nil)) (ih2 (sI (sL sc2 149 y2_1.toNatClampNeg (Int64.ofInt 0)) 148 y2_1.toNatClampNeg (Int32.ofInt (-1))) z47 hI46 (fr_sI rfl (fr_sL rfl hFc2)) (in_w 0 32 i47 rfl) n2 (m_up mm2 (t_add e47 i7 (in_c 1 rfl) rfl) (in_w 1 1 (in_c 1 rfl) rfl))))
  refine g_enter2 (k := 361) (N := 5921286401910705) (by first | exact dq1 hd rfl | exact dq0 hd rfl | exact dq2 hd rfl | exact dq3 hd rfl | omega) rfl (Nat.le_of_ble_eq_true rfl) ?_
  refine g_iconst 0 1 (gd rfl) rfl rfl ?_
  refine g_istore_n 2 (gd rfl) rfl (Nat.le_of_ble_eq_true rfl) ?_
  have n2 : ∀ k : Nat, (k : Int) < ((Int32.ofInt 0)).toInt → (spq s k → (s.2.1 149 k).toInt = 0) ∧ (¬ spq s k → (s.2.1 149 k).toInt = 9000000000000000) := by (intro k hk; exfalso; have h0 : (Int32.ofInt 0).toInt = 0 := rfl; omega)
  exact gg_w (by first | exact Nat.le_of_ble_eq_true rfl | omega) (gg_f (gf_cons rfl (gf_cons rfl gf_nil)) (ct2 33 s (Int32.ofInt 0) hI fr_rf (in_w 0 32 (in_c 0 rfl) rfl) n2 (m_in 33 (in_w 0 32 (in_c 0 rfl) rfl) rfl)))
