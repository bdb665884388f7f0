/-! FUNCTIONAL CONTRACTS, by fgen.py -/
theorem oc_236_0 : (Int32.ofInt (-1)).toInt = (-1) ∧ (Int32.ofInt 0).toInt = 0 ∧ (Int32.ofInt 1).toInt = 1 := ⟨rfl, rfl, rfl⟩
/-- GraphHouse.cut -/
theorem f_236_0 {Z : AmZ} {A : Nat → Nat} {s : GS} {ex : va_W} {d : Nat} {x1 : Int32} (hd : 7 ≤ d) (hI : Inv s) (q_0 : TQ s) (q_1 : TQD s) : GC Z d 236 [.ref (A 0), .int x1] (WW Z A s ++ ex) 3 18 (fun v u => ∃ t : GS, Inv t ∧ Fr fm_236_0 s t ∧ ∃ z : Int32, v = some (.int z) ∧ u = WW Z A t ++ ex ∧ In z 0 1 ∧ ((0 ≤ x1.toInt ∧ x1.toInt < (shC s).2.2.2.2.2.2.1) ∧ ((z).toInt ≠ 0 ↔ CUT (shC s) x1.toNatClampNeg))) (gEx Z A ex fm_236_0 s (¬ (0 ≤ x1.toInt ∧ x1.toInt < (shC s).2.2.2.2.2.2.1)) (False)) := by
  intro post xp hP hX
  obtain ⟨u_0_2, e_0_2⟩ : ∃ w, w = s.2.2.1 0 2 := ⟨_, rfl⟩
  have ro_0_2 := inv_F hI (-1) 4000 rfl e_0_2
  obtain ⟨u_2_1, e_2_1⟩ : ∃ w, w = s.2.2.1 2 1 := ⟨_, rfl⟩
  have ro_2_1 := inv_F hI 0 32 rfl e_2_1
  obtain ⟨u_32_1, e_32_1⟩ : ∃ w, w = s.2.2.1 32 1 := ⟨_, rfl⟩
  have ro_32_1 := inv_F hI 0 32 rfl e_32_1
  refine g_enter2 (k := 236) (N := 900) (by omega) rfl (Nat.le_of_ble_eq_true rfl) ?_
  refine g_aload_n 1 (gd rfl) rfl rfl ?_
  refine g_callv (X := _) (As := []) (r := []) (b := A 0) (q := 0) 4 (gd rfl) rfl rfl rfl rfl rfl (ww_o rfl) (Nat.le_of_ble_eq_true rfl) (mc := 0) (ms := 0) (Nat.zero_le _) (Nat.zero_le _) (P := fun v u => _) ?_ (fun e u h => h) (fun v u h => h)
  intro po1 xx1 hp1 hx1
  refine g_enter2 (k := 259) (N := 300) (by omega) rfl (Nat.le_of_ble_eq_true rfl) ?_
  refine g_aload_n 1 (gd rfl) rfl rfl ?_
  refine g_getI 4 (gd rfl) rfl rfl rfl (fun z1x1 e1x1 => ?_)
  have q1x1 : u_0_2 = z1x1 := (e_0_2).trans e1x1.symm
  subst q1x1
  refine g_iconst (-1) 5 (gd rfl) rfl rfl ?_
  refine g_cmp_ne 8 18 (gd rfl) rfl rfl (fun c1x5 => ?_) (fun c1x5 => ?_)
  · skip
    have i1x5 := r_ne1 0 4000 c1x5 ro_0_2 (in_c (-1) rfl) rfl
    refine g_aload_n 19 (gd rfl) rfl rfl ?_
    refine g_getA (q2 := 32) 22 (gd rfl) rfl rfl rfl rfl ?_
    refine g_areturn (gd rfl) rfl (hp1 _ _ ?_)
    show GG _ _ _ _ _ _ _ _ [.ref (A 32)] _ _ _
    refine g_astore_n 5 (gd rfl) rfl (Nat.le_of_ble_eq_true rfl) ?_
    refine g_aload_n 6 (gd rfl) rfl rfl ?_
    refine g_iload_n 7 (gd rfl) rfl rfl ?_
    refine g_callv (X := _) (As := [.int x1]) (r := []) (b := A 32) (q := 32) 10 (gd rfl) rfl rfl rfl rfl rfl (ww_o rfl) (Nat.le_of_ble_eq_true rfl) (mc := 0) (ms := 0) (Nat.zero_le _) (Nat.zero_le _) (P := fun v u => _) ?_ (fun e u h => h) (fun v u h => h)
    intro po7 xx7 hp7 hx7
    refine g_enter2 (k := 94) (N := 300) (by omega) rfl (Nat.le_of_ble_eq_true rfl) ?_
    refine g_iload_n 1 (gd rfl) rfl rfl ?_
    refine g_if_lt 4 16 (gd rfl) rfl rfl (fun c7x1 => ?_) (fun c7x1 => ?_)
    · skip
      have i7x1 := z_lt (-2147483648) (-1) c7x1 (i_rng x1) rfl
      refine g_iconst 0 17 (gd rfl) rfl rfl ?_
      refine g_ireturn (gd rfl) rfl (nb01 (in_w 0 1 (in_c 0 rfl) rfl)) (hp7 _ _ ?_)
      show GG _ _ _ _ _ _ _ _ [.int (Int32.ofInt 0)] _ _ _
      refine g_thr (E := am_IA) (y := yX11_allow) 13 (gd rfl) rfl rfl (Or.inl ⟨rfl, rfl, rfl⟩) (by omega) (Nat.le_of_ble_eq_true rfl) (Nat.le_of_ble_eq_true rfl) (Nat.le_of_ble_eq_true rfl) (fun c10 => ?_) (fun c10 => ?_)
      · skip
        exact zn_ne c10 (in_c 0 rfl) rfl
      · skip
        have n10 : ¬ (0 ≤ x1.toInt ∧ x1.toInt < (shC s).2.2.2.2.2.2.1) := by first | (rw [shC_n (by rw [← e1x1]; exact c1x5)]; show ¬ (0 ≤ x1.toInt ∧ x1.toInt < (s.2.2.1 2 1).toInt); rw [← e_2_1]; have a0 := ro_32_1; unfold In at a0; have a1 := ro_2_1; unfold In at a1; have a2 := i1x5; unfold In at a2; have a3 := i7x1; unfold In at a3; have oc := oc_236_0; omega) | (rw [shC_d (by rw [← e1x1]; exact c1x5)]; show ¬ (0 ≤ x1.toInt ∧ x1.toInt < (s.2.2.1 32 1).toInt); rw [← e_32_1]; have a0 := ro_32_1; unfold In at a0; have a1 := ro_2_1; unfold In at a1; have a2 := i1x5; unfold In at a2; have a3 := i7x1; unfold In at a3; have oc := oc_236_0; omega)
        exact (hX _ _ ⟨Or.inl ⟨rfl, n10⟩, s, hI, fr_rf, rfl⟩)
    · skip
      have i7x1 := z_ge 0 2147483647 c7x1 (i_rng x1) rfl
      refine g_iload_n 5 (gd rfl) rfl rfl ?_
      refine g_aload_n 6 (gd rfl) rfl rfl ?_
      refine g_getI 9 (gd rfl) rfl rfl rfl (fun z7x6 e7x6 => ?_)
      have q7x6 : u_32_1 = z7x6 := (e_32_1).trans e7x6.symm
      subst q7x6
      refine g_cmp_ge 12 16 (gd rfl) rfl rfl (fun c7x9 => ?_) (fun c7x9 => ?_)
      · skip
        refine g_iconst 0 17 (gd rfl) rfl rfl ?_
        refine g_ireturn (gd rfl) rfl (nb01 (in_w 0 1 (in_c 0 rfl) rfl)) (hp7 _ _ ?_)
        show GG _ _ _ _ _ _ _ _ [.int (Int32.ofInt 0)] _ _ _
        refine g_thr (E := am_IA) (y := yX11_allow) 13 (gd rfl) rfl rfl (Or.inl ⟨rfl, rfl, rfl⟩) (by omega) (Nat.le_of_ble_eq_true rfl) (Nat.le_of_ble_eq_true rfl) (Nat.le_of_ble_eq_true rfl) (fun c10 => ?_) (fun c10 => ?_)
        · skip
          exact zn_ne c10 (in_c 0 rfl) rfl
        · skip
          have n10 : ¬ (0 ≤ x1.toInt ∧ x1.toInt < (shC s).2.2.2.2.2.2.1) := by first | (rw [shC_n (by rw [← e1x1]; exact c1x5)]; show ¬ (0 ≤ x1.toInt ∧ x1.toInt < (s.2.2.1 2 1).toInt); rw [← e_2_1]; have a0 := ro_32_1; unfold In at a0; have a1 := ro_2_1; unfold In at a1; have a2 := i1x5; unfold In at a2; have a3 := i7x1; unfold In at a3; have oc := oc_236_0; omega) | (rw [shC_d (by rw [← e1x1]; exact c1x5)]; show ¬ (0 ≤ x1.toInt ∧ x1.toInt < (s.2.2.1 32 1).toInt); rw [← e_32_1]; have a0 := ro_32_1; unfold In at a0; have a1 := ro_2_1; unfold In at a1; have a2 := i1x5; unfold In at a2; have a3 := i7x1; unfold In at a3; have oc := oc_236_0; omega)
          exact (hX _ _ ⟨Or.inl ⟨rfl, n10⟩, s, hI, fr_rf, rfl⟩)
      · skip
        have i7x9 := r_lt1 0 31 c7x9 i7x1 ro_32_1 rfl
        have i7x9a := r_lt2 1 32 c7x9 i7x1 ro_32_1 rfl
        refine g_iconst 1 13 (gd rfl) rfl rfl ?_
        refine g_goto 17 (gd rfl) rfl ?_
        refine g_ireturn (gd rfl) rfl (nb01 (in_w 0 1 (in_c 1 rfl) rfl)) (hp7 _ _ ?_)
        show GG _ _ _ _ _ _ _ _ [.int (Int32.ofInt 1)] _ _ _
        refine g_thr (E := am_IA) (y := yX11_allow) 13 (gd rfl) rfl rfl (Or.inl ⟨rfl, rfl, rfl⟩) (by omega) (Nat.le_of_ble_eq_true rfl) (Nat.le_of_ble_eq_true rfl) (Nat.le_of_ble_eq_true rfl) (fun c10 => ?_) (fun c10 => ?_)
        · skip
          refine g_aload_n 14 (gd rfl) rfl rfl ?_
          refine g_getA (q2 := 56) 17 (gd rfl) rfl rfl rfl rfl ?_
          refine g_aload_n 18 (gd rfl) rfl rfl ?_
          refine g_iload_n 19 (gd rfl) rfl rfl ?_
          refine g_callv (X := _) (As := [.ref (A 32), .int x1]) (r := []) (b := A 56) (q := 56) 22 (gd rfl) rfl rfl rfl rfl rfl (ww_o rfl) (Nat.le_of_ble_eq_true rfl) (mc := 0) (ms := 0) (Nat.zero_le _) (Nat.zero_le _) (P := fun v u => _) ?_ (fun e u h => h) (fun v u h => h)
          intro po19 xx19 hp19 hx19
          refine g_enter2 (k := 143) (N := 300) (by omega) rfl (Nat.le_of_ble_eq_true rfl) ?_
          refine g_aload_n 1 (gd rfl) rfl rfl ?_
          refine g_callv (X := _) (As := []) (r := []) (b := A 32) (q := 32) 4 (gd rfl) rfl rfl rfl rfl rfl (ww_o rfl) (Nat.le_of_ble_eq_true rfl) (Nat.zero_le _) (Nat.zero_le _) (k_106_32 (by omega) hI ) (fun e u h => h) (fun v u h => ?_)
          obtain ⟨s19x1, hI19x1, hF19x1, n19x1, rfl, rfl⟩ := h
          obtain ⟨z19x1a, e19x1⟩ : ∃ w, w = s19x1.2.2.1 32 4 := ⟨_, rfl⟩
          have i19x1a := inv_F hI19x1 (-1) 4000 rfl e19x1
          obtain ⟨z19x1b, e19x1a⟩ : ∃ w, w = s19x1.2.2.1 32 0 := ⟨_, rfl⟩
          have i19x1b := inv_F hI19x1 0 4000 rfl e19x1a
          rw [← (show z19x1a = s19x1.2.2.1 32 4 from e19x1)] at n19x1
          rw [← (show z19x1b = s19x1.2.2.1 32 0 from e19x1a)] at n19x1
          show GG _ _ _ _ _ _ _ _ [] _ _ _
          refine g_aload_n 5 (gd rfl) rfl rfl ?_
          refine g_getA (q2 := 39) 8 (gd rfl) rfl rfl rfl rfl ?_
          refine g_iload_n 9 (gd rfl) rfl rfl ?_
          refine g_iaload 10 (gd rfl) rfl (n := 32) rfl (in_ix i7x9 rfl) (fun z19x9 e19x9 => ?_)
          refine g_istore_n 11 (gd rfl) rfl (Nat.le_of_ble_eq_true rfl) ?_
          refine g_aload_n 12 (gd rfl) rfl rfl ?_
          refine g_getA (q2 := 39) 15 (gd rfl) rfl rfl rfl rfl ?_
          refine g_iload_n 16 (gd rfl) rfl rfl ?_
          refine g_iload_n 17 (gd rfl) rfl rfl ?_
          refine g_ineg 18 (gd rfl) rfl (fun z19x17 e19x17 => ?_)
          refine g_iand 19 (gd rfl) rfl (fun z19x18 e19x18 => ?_)
          refine g_iconst 1 20 (gd rfl) rfl rfl ?_
          refine g_iload_n 21 (gd rfl) rfl rfl ?_
          refine g_ishl 22 (gd rfl) rfl (fun z19x21 e19x21 => ?_)
          refine g_iconst (-1) 23 (gd rfl) rfl rfl ?_
          refine g_ixor 24 (gd rfl) rfl (fun z19x23 e19x23 => ?_)
          refine g_calls (As := [.ref (A 39), .int z19x18, .int z19x23]) (r := []) 27 (gd rfl) rfl rfl rfl rfl rfl (Nat.le_of_ble_eq_true rfl) (Nat.zero_le _) (Nat.zero_le _) (f_266_39 (by omega) hI19x1 ) (fun v u h => ?_)
          obtain ⟨z19x24, rfl, rfl, i19x24, p19x24, p19x24a⟩ := h
          show GG _ _ _ _ _ _ _ _ [.int z19x24] _ _ _
          refine g_istore 29 (gd rfl) rfl (Nat.le_of_ble_eq_true rfl) ?_
          refine g_iload_n 30 (gd rfl) rfl rfl ?_
          refine g_iload 32 (gd rfl) rfl rfl ?_
          refine g_iconst (-1) 33 (gd rfl) rfl rfl ?_
          refine g_ixor 34 (gd rfl) rfl (fun z19x33 e19x33 => ?_)
          refine g_iand 35 (gd rfl) rfl (fun z19x34 e19x34 => ?_)
          refine g_if_eq 38 42 (gd rfl) rfl rfl (fun c19x35 => ?_) (fun c19x35 => ?_)
          · skip
            have i19x35 := z_eq 0 0 c19x35 (i_rng z19x34) rfl
            refine g_iconst 0 43 (gd rfl) rfl rfl ?_
            refine g_ireturn (gd rfl) rfl (nb01 (in_w 0 1 (in_c 0 rfl) rfl)) (hp19 _ _ ?_)
            show GG _ _ _ _ _ _ _ _ [.int (Int32.ofInt 0)] _ _ _
            have n22 : (0 ≤ x1.toInt ∧ x1.toInt < (shC s).2.2.2.2.2.2.1) ∧ (((Int32.ofInt 0)).toInt ≠ 0 ↔ CUT (shC s) x1.toNatClampNeg) := by first | (rw [shC_n (by rw [← e1x1]; exact c1x5)]; first | (exact ⟨⟨by have a0 := i7x9; unfold In at a0; have a1 := i7x9a; unfold In at a1; have a2 := ro_2_1; unfold In at a2; have a3 := i1x5; unfold In at a3; have a4 := i19x1b; unfold In at a4; have a5 := i19x1a; unfold In at a5; have oc := oc_236_0; omega, by show x1.toInt < (s.2.2.1 2 1).toInt; rw [← e_2_1]; have a0 := i7x9; unfold In at a0; have a1 := i7x9a; unfold In at a1; have a2 := ro_2_1; unfold In at a2; have a3 := i1x5; unfold In at a3; have a4 := i19x1b; unfold In at a4; have a5 := i19x1a; unfold In at a5; have oc := oc_236_0; omega⟩, ⟨fun _ => (cut_c (fe_2 hI19x1 hF19x1 rfl rfl rfl (by rw [← (show z19x1a = s19x1.2.2.1 2 4 from e19x1), ← (show z19x1b = s19x1.2.2.1 2 0 from e19x1a)]; exact n19x1) q_0).2.2 ⟨by have a0 := i7x9; unfold In at a0; have a1 := i7x9a; unfold In at a1; have a2 := ro_2_1; unfold In at a2; have a3 := i1x5; unfold In at a3; have a4 := i19x1b; unfold In at a4; have a5 := i19x1a; unfold In at a5; have oc := oc_236_0; omega, by have a0 := i7x9; unfold In at a0; have a1 := i7x9a; unfold In at a1; have a2 := ro_2_1; unfold In at a2; have a3 := i1x5; unfold In at a3; have a4 := i19x1b; unfold In at a4; have a5 := i19x1a; unfold In at a5; have oc := oc_236_0; omega⟩ e19x9 e19x17 e19x18 e19x21 e19x23 p19x24a e19x33 e19x34).mp c19x35, fun _ => by decide⟩⟩) | (exact ⟨⟨by have a0 := i7x9; unfold In at a0; have a1 := i7x9a; unfold In at a1; have a2 := ro_2_1; unfold In at a2; have a3 := i1x5; unfold In at a3; have a4 := i19x1b; unfold In at a4; have a5 := i19x1a; unfold In at a5; have oc := oc_236_0; omega, by show x1.toInt < (s.2.2.1 2 1).toInt; rw [← e_2_1]; have a0 := i7x9; unfold In at a0; have a1 := i7x9a; unfold In at a1; have a2 := ro_2_1; unfold In at a2; have a3 := i1x5; unfold In at a3; have a4 := i19x1b; unfold In at a4; have a5 := i19x1a; unfold In at a5; have oc := oc_236_0; omega⟩, ⟨fun h => absurd rfl h, fun h => absurd c19x35 ((cut_c (fe_2 hI19x1 hF19x1 rfl rfl rfl (by rw [← (show z19x1a = s19x1.2.2.1 2 4 from e19x1), ← (show z19x1b = s19x1.2.2.1 2 0 from e19x1a)]; exact n19x1) q_0).2.2 ⟨by have a0 := i7x9; unfold In at a0; have a1 := i7x9a; unfold In at a1; have a2 := ro_2_1; unfold In at a2; have a3 := i1x5; unfold In at a3; have a4 := i19x1b; unfold In at a4; have a5 := i19x1a; unfold In at a5; have oc := oc_236_0; omega, by have a0 := i7x9; unfold In at a0; have a1 := i7x9a; unfold In at a1; have a2 := ro_2_1; unfold In at a2; have a3 := i1x5; unfold In at a3; have a4 := i19x1b; unfold In at a4; have a5 := i19x1a; unfold In at a5; have oc := oc_236_0; omega⟩ e19x9 e19x17 e19x18 e19x21 e19x23 p19x24a e19x33 e19x34).mpr h)⟩⟩)) | (rw [shC_d (by rw [← e1x1]; exact c1x5)]; first | (exact ⟨⟨by have a0 := i7x9; unfold In at a0; have a1 := i7x9a; unfold In at a1; have a2 := ro_2_1; unfold In at a2; have a3 := i1x5; unfold In at a3; have a4 := i19x1b; unfold In at a4; have a5 := i19x1a; unfold In at a5; have oc := oc_236_0; omega, by show x1.toInt < (s.2.2.1 32 1).toInt; rw [← e_32_1]; have a0 := i7x9; unfold In at a0; have a1 := i7x9a; unfold In at a1; have a2 := ro_2_1; unfold In at a2; have a3 := i1x5; unfold In at a3; have a4 := i19x1b; unfold In at a4; have a5 := i19x1a; unfold In at a5; have oc := oc_236_0; omega⟩, ⟨fun _ => (cut_c (fe_32 hI19x1 hF19x1 rfl rfl rfl (by rw [← (show z19x1a = s19x1.2.2.1 32 4 from e19x1), ← (show z19x1b = s19x1.2.2.1 32 0 from e19x1a)]; exact n19x1) q_1).2.2 ⟨by have a0 := i7x9; unfold In at a0; have a1 := i7x9a; unfold In at a1; have a2 := ro_2_1; unfold In at a2; have a3 := i1x5; unfold In at a3; have a4 := i19x1b; unfold In at a4; have a5 := i19x1a; unfold In at a5; have oc := oc_236_0; omega, by have a0 := i7x9; unfold In at a0; have a1 := i7x9a; unfold In at a1; have a2 := ro_2_1; unfold In at a2; have a3 := i1x5; unfold In at a3; have a4 := i19x1b; unfold In at a4; have a5 := i19x1a; unfold In at a5; have oc := oc_236_0; omega⟩ e19x9 e19x17 e19x18 e19x21 e19x23 p19x24a e19x33 e19x34).mp c19x35, fun _ => by decide⟩⟩) | (exact ⟨⟨by have a0 := i7x9; unfold In at a0; have a1 := i7x9a; unfold In at a1; have a2 := ro_2_1; unfold In at a2; have a3 := i1x5; unfold In at a3; have a4 := i19x1b; unfold In at a4; have a5 := i19x1a; unfold In at a5; have oc := oc_236_0; omega, by show x1.toInt < (s.2.2.1 32 1).toInt; rw [← e_32_1]; have a0 := i7x9; unfold In at a0; have a1 := i7x9a; unfold In at a1; have a2 := ro_2_1; unfold In at a2; have a3 := i1x5; unfold In at a3; have a4 := i19x1b; unfold In at a4; have a5 := i19x1a; unfold In at a5; have oc := oc_236_0; omega⟩, ⟨fun h => absurd rfl h, fun h => absurd c19x35 ((cut_c (fe_32 hI19x1 hF19x1 rfl rfl rfl (by rw [← (show z19x1a = s19x1.2.2.1 32 4 from e19x1), ← (show z19x1b = s19x1.2.2.1 32 0 from e19x1a)]; exact n19x1) q_1).2.2 ⟨by have a0 := i7x9; unfold In at a0; have a1 := i7x9a; unfold In at a1; have a2 := ro_2_1; unfold In at a2; have a3 := i1x5; unfold In at a3; have a4 := i19x1b; unfold In at a4; have a5 := i19x1a; unfold In at a5; have oc := oc_236_0; omega, by have a0 := i7x9; unfold In at a0; have a1 := i7x9a; unfold In at a1; have a2 := ro_2_1; unfold In at a2; have a3 := i1x5; unfold In at a3; have a4 := i19x1b; unfold In at a4; have a5 := i19x1a; unfold In at a5; have oc := oc_236_0; omega⟩ e19x9 e19x17 e19x18 e19x21 e19x23 p19x24a e19x33 e19x34).mpr h)⟩⟩))
            exact g_ireturn (gd rfl) rfl (nb01 (in_w 0 1 (in_c 0 rfl) rfl)) (hP _ _ ⟨s19x1, hI19x1, (fr_tr rfl fr_rf hF19x1), (Int32.ofInt 0), rfl, rfl, in_w 0 1 (in_c 0 rfl) rfl, n22⟩)
          · skip
            refine g_iconst 1 39 (gd rfl) rfl rfl ?_
            refine g_goto 43 (gd rfl) rfl ?_
            refine g_ireturn (gd rfl) rfl (nb01 (in_w 0 1 (in_c 1 rfl) rfl)) (hp19 _ _ ?_)
            show GG _ _ _ _ _ _ _ _ [.int (Int32.ofInt 1)] _ _ _
            have n22 : (0 ≤ x1.toInt ∧ x1.toInt < (shC s).2.2.2.2.2.2.1) ∧ (((Int32.ofInt 1)).toInt ≠ 0 ↔ CUT (shC s) x1.toNatClampNeg) := by first | (rw [shC_n (by rw [← e1x1]; exact c1x5)]; first | (exact ⟨⟨by have a0 := i7x9; unfold In at a0; have a1 := i7x9a; unfold In at a1; have a2 := ro_2_1; unfold In at a2; have a3 := i1x5; unfold In at a3; have a4 := i19x1b; unfold In at a4; have a5 := i19x1a; unfold In at a5; have oc := oc_236_0; omega, by show x1.toInt < (s.2.2.1 2 1).toInt; rw [← e_2_1]; have a0 := i7x9; unfold In at a0; have a1 := i7x9a; unfold In at a1; have a2 := ro_2_1; unfold In at a2; have a3 := i1x5; unfold In at a3; have a4 := i19x1b; unfold In at a4; have a5 := i19x1a; unfold In at a5; have oc := oc_236_0; omega⟩, ⟨fun _ => (cut_c (fe_2 hI19x1 hF19x1 rfl rfl rfl (by rw [← (show z19x1a = s19x1.2.2.1 2 4 from e19x1), ← (show z19x1b = s19x1.2.2.1 2 0 from e19x1a)]; exact n19x1) q_0).2.2 ⟨by have a0 := i7x9; unfold In at a0; have a1 := i7x9a; unfold In at a1; have a2 := ro_2_1; unfold In at a2; have a3 := i1x5; unfold In at a3; have a4 := i19x1b; unfold In at a4; have a5 := i19x1a; unfold In at a5; have oc := oc_236_0; omega, by have a0 := i7x9; unfold In at a0; have a1 := i7x9a; unfold In at a1; have a2 := ro_2_1; unfold In at a2; have a3 := i1x5; unfold In at a3; have a4 := i19x1b; unfold In at a4; have a5 := i19x1a; unfold In at a5; have oc := oc_236_0; omega⟩ e19x9 e19x17 e19x18 e19x21 e19x23 p19x24a e19x33 e19x34).mp c19x35, fun _ => by decide⟩⟩) | (exact ⟨⟨by have a0 := i7x9; unfold In at a0; have a1 := i7x9a; unfold In at a1; have a2 := ro_2_1; unfold In at a2; have a3 := i1x5; unfold In at a3; have a4 := i19x1b; unfold In at a4; have a5 := i19x1a; unfold In at a5; have oc := oc_236_0; omega, by show x1.toInt < (s.2.2.1 2 1).toInt; rw [← e_2_1]; have a0 := i7x9; unfold In at a0; have a1 := i7x9a; unfold In at a1; have a2 := ro_2_1; unfold In at a2; have a3 := i1x5; unfold In at a3; have a4 := i19x1b; unfold In at a4; have a5 := i19x1a; unfold In at a5; have oc := oc_236_0; omega⟩, ⟨fun h => absurd rfl h, fun h => absurd c19x35 ((cut_c (fe_2 hI19x1 hF19x1 rfl rfl rfl (by rw [← (show z19x1a = s19x1.2.2.1 2 4 from e19x1), ← (show z19x1b = s19x1.2.2.1 2 0 from e19x1a)]; exact n19x1) q_0).2.2 ⟨by have a0 := i7x9; unfold In at a0; have a1 := i7x9a; unfold In at a1; have a2 := ro_2_1; unfold In at a2; have a3 := i1x5; unfold In at a3; have a4 := i19x1b; unfold In at a4; have a5 := i19x1a; unfold In at a5; have oc := oc_236_0; omega, by have a0 := i7x9; unfold In at a0; have a1 := i7x9a; unfold In at a1; have a2 := ro_2_1; unfold In at a2; have a3 := i1x5; unfold In at a3; have a4 := i19x1b; unfold In at a4; have a5 := i19x1a; unfold In at a5; have oc := oc_236_0; omega⟩ e19x9 e19x17 e19x18 e19x21 e19x23 p19x24a e19x33 e19x34).mpr h)⟩⟩)) | (rw [shC_d (by rw [← e1x1]; exact c1x5)]; first | (exact ⟨⟨by have a0 := i7x9; unfold In at a0; have a1 := i7x9a; unfold In at a1; have a2 := ro_2_1; unfold In at a2; have a3 := i1x5; unfold In at a3; have a4 := i19x1b; unfold In at a4; have a5 := i19x1a; unfold In at a5; have oc := oc_236_0; omega, by show x1.toInt < (s.2.2.1 32 1).toInt; rw [← e_32_1]; have a0 := i7x9; unfold In at a0; have a1 := i7x9a; unfold In at a1; have a2 := ro_2_1; unfold In at a2; have a3 := i1x5; unfold In at a3; have a4 := i19x1b; unfold In at a4; have a5 := i19x1a; unfold In at a5; have oc := oc_236_0; omega⟩, ⟨fun _ => (cut_c (fe_32 hI19x1 hF19x1 rfl rfl rfl (by rw [← (show z19x1a = s19x1.2.2.1 32 4 from e19x1), ← (show z19x1b = s19x1.2.2.1 32 0 from e19x1a)]; exact n19x1) q_1).2.2 ⟨by have a0 := i7x9; unfold In at a0; have a1 := i7x9a; unfold In at a1; have a2 := ro_2_1; unfold In at a2; have a3 := i1x5; unfold In at a3; have a4 := i19x1b; unfold In at a4; have a5 := i19x1a; unfold In at a5; have oc := oc_236_0; omega, by have a0 := i7x9; unfold In at a0; have a1 := i7x9a; unfold In at a1; have a2 := ro_2_1; unfold In at a2; have a3 := i1x5; unfold In at a3; have a4 := i19x1b; unfold In at a4; have a5 := i19x1a; unfold In at a5; have oc := oc_236_0; omega⟩ e19x9 e19x17 e19x18 e19x21 e19x23 p19x24a e19x33 e19x34).mp c19x35, fun _ => by decide⟩⟩) | (exact ⟨⟨by have a0 := i7x9; unfold In at a0; have a1 := i7x9a; unfold In at a1; have a2 := ro_2_1; unfold In at a2; have a3 := i1x5; unfold In at a3; have a4 := i19x1b; unfold In at a4; have a5 := i19x1a; unfold In at a5; have oc := oc_236_0; omega, by show x1.toInt < (s.2.2.1 32 1).toInt; rw [← e_32_1]; have a0 := i7x9; unfold In at a0; have a1 := i7x9a; unfold In at a1; have a2 := ro_2_1; unfold In at a2; have a3 := i1x5; unfold In at a3; have a4 := i19x1b; unfold In at a4; have a5 := i19x1a; unfold In at a5; have oc := oc_236_0; omega⟩, ⟨fun h => absurd rfl h, fun h => absurd c19x35 ((cut_c (fe_32 hI19x1 hF19x1 rfl rfl rfl (by rw [← (show z19x1a = s19x1.2.2.1 32 4 from e19x1), ← (show z19x1b = s19x1.2.2.1 32 0 from e19x1a)]; exact n19x1) q_1).2.2 ⟨by have a0 := i7x9; unfold In at a0; have a1 := i7x9a; unfold In at a1; have a2 := ro_2_1; unfold In at a2; have a3 := i1x5; unfold In at a3; have a4 := i19x1b; unfold In at a4; have a5 := i19x1a; unfold In at a5; have oc := oc_236_0; omega, by have a0 := i7x9; unfold In at a0; have a1 := i7x9a; unfold In at a1; have a2 := ro_2_1; unfold In at a2; have a3 := i1x5; unfold In at a3; have a4 := i19x1b; unfold In at a4; have a5 := i19x1a; unfold In at a5; have oc := oc_236_0; omega⟩ e19x9 e19x17 e19x18 e19x21 e19x23 p19x24a e19x33 e19x34).mpr h)⟩⟩))
            exact g_ireturn (gd rfl) rfl (nb01 (in_w 0 1 (in_c 1 rfl) rfl)) (hP _ _ ⟨s19x1, hI19x1, (fr_tr rfl fr_rf hF19x1), (Int32.ofInt 1), rfl, rfl, in_w 0 1 (in_c 1 rfl) rfl, n22⟩)
        · skip
          exact zn_eq c10 (in_c 1 rfl) rfl
  · skip
    have i1x5 := r_eq1 (-1) (-1) c1x5 ro_0_2 (in_c (-1) rfl) rfl
    refine g_aload_n 9 (gd rfl) rfl rfl ?_
    refine g_getA (q2 := 1) 12 (gd rfl) rfl rfl rfl rfl ?_
    refine g_getA (q2 := 2) 15 (gd rfl) rfl rfl rfl rfl ?_
    refine g_goto 22 (gd rfl) rfl ?_
    refine g_areturn (gd rfl) rfl (hp1 _ _ ?_)
    show GG _ _ _ _ _ _ _ _ [.ref (A 2)] _ _ _
    refine g_astore_n 5 (gd rfl) rfl (Nat.le_of_ble_eq_true rfl) ?_
    refine g_aload_n 6 (gd rfl) rfl rfl ?_
    refine g_iload_n 7 (gd rfl) rfl rfl ?_
    refine g_callv (X := _) (As := [.int x1]) (r := []) (b := A 2) (q := 2) 10 (gd rfl) rfl rfl rfl rfl rfl (ww_o rfl) (Nat.le_of_ble_eq_true rfl) (mc := 0) (ms := 0) (Nat.zero_le _) (Nat.zero_le _) (P := fun v u => _) ?_ (fun e u h => h) (fun v u h => h)
    intro po7 xx7 hp7 hx7
    refine g_enter2 (k := 94) (N := 300) (by omega) rfl (Nat.le_of_ble_eq_true rfl) ?_
    refine g_iload_n 1 (gd rfl) rfl rfl ?_
    refine g_if_lt 4 16 (gd rfl) rfl rfl (fun c7x1 => ?_) (fun c7x1 => ?_)
    · skip
      have i7x1 := z_lt (-2147483648) (-1) c7x1 (i_rng x1) rfl
      refine g_iconst 0 17 (gd rfl) rfl rfl ?_
      refine g_ireturn (gd rfl) rfl (nb01 (in_w 0 1 (in_c 0 rfl) rfl)) (hp7 _ _ ?_)
      show GG _ _ _ _ _ _ _ _ [.int (Int32.ofInt 0)] _ _ _
      refine g_thr (E := am_IA) (y := yX11_allow) 13 (gd rfl) rfl rfl (Or.inl ⟨rfl, rfl, rfl⟩) (by omega) (Nat.le_of_ble_eq_true rfl) (Nat.le_of_ble_eq_true rfl) (Nat.le_of_ble_eq_true rfl) (fun c10 => ?_) (fun c10 => ?_)
      · skip
        exact zn_ne c10 (in_c 0 rfl) rfl
      · skip
        have n10 : ¬ (0 ≤ x1.toInt ∧ x1.toInt < (shC s).2.2.2.2.2.2.1) := by first | (rw [shC_n (by rw [← e1x1]; exact c1x5)]; show ¬ (0 ≤ x1.toInt ∧ x1.toInt < (s.2.2.1 2 1).toInt); rw [← e_2_1]; have a0 := ro_32_1; unfold In at a0; have a1 := ro_2_1; unfold In at a1; have a2 := i1x5; unfold In at a2; have a3 := i7x1; unfold In at a3; have oc := oc_236_0; omega) | (rw [shC_d (by rw [← e1x1]; exact c1x5)]; show ¬ (0 ≤ x1.toInt ∧ x1.toInt < (s.2.2.1 32 1).toInt); rw [← e_32_1]; have a0 := ro_32_1; unfold In at a0; have a1 := ro_2_1; unfold In at a1; have a2 := i1x5; unfold In at a2; have a3 := i7x1; unfold In at a3; have oc := oc_236_0; omega)
        exact (hX _ _ ⟨Or.inl ⟨rfl, n10⟩, s, hI, fr_rf, rfl⟩)
    · skip
      have i7x1 := z_ge 0 2147483647 c7x1 (i_rng x1) rfl
      refine g_iload_n 5 (gd rfl) rfl rfl ?_
      refine g_aload_n 6 (gd rfl) rfl rfl ?_
      refine g_getI 9 (gd rfl) rfl rfl rfl (fun z7x6 e7x6 => ?_)
      have q7x6 : u_2_1 = z7x6 := (e_2_1).trans e7x6.symm
      subst q7x6
      refine g_cmp_ge 12 16 (gd rfl) rfl rfl (fun c7x9 => ?_) (fun c7x9 => ?_)
      · skip
        refine g_iconst 0 17 (gd rfl) rfl rfl ?_
        refine g_ireturn (gd rfl) rfl (nb01 (in_w 0 1 (in_c 0 rfl) rfl)) (hp7 _ _ ?_)
        show GG _ _ _ _ _ _ _ _ [.int (Int32.ofInt 0)] _ _ _
        refine g_thr (E := am_IA) (y := yX11_allow) 13 (gd rfl) rfl rfl (Or.inl ⟨rfl, rfl, rfl⟩) (by omega) (Nat.le_of_ble_eq_true rfl) (Nat.le_of_ble_eq_true rfl) (Nat.le_of_ble_eq_true rfl) (fun c10 => ?_) (fun c10 => ?_)
        · skip
          exact zn_ne c10 (in_c 0 rfl) rfl
        · skip
          have n10 : ¬ (0 ≤ x1.toInt ∧ x1.toInt < (shC s).2.2.2.2.2.2.1) := by first | (rw [shC_n (by rw [← e1x1]; exact c1x5)]; show ¬ (0 ≤ x1.toInt ∧ x1.toInt < (s.2.2.1 2 1).toInt); rw [← e_2_1]; have a0 := ro_32_1; unfold In at a0; have a1 := ro_2_1; unfold In at a1; have a2 := i1x5; unfold In at a2; have a3 := i7x1; unfold In at a3; have oc := oc_236_0; omega) | (rw [shC_d (by rw [← e1x1]; exact c1x5)]; show ¬ (0 ≤ x1.toInt ∧ x1.toInt < (s.2.2.1 32 1).toInt); rw [← e_32_1]; have a0 := ro_32_1; unfold In at a0; have a1 := ro_2_1; unfold In at a1; have a2 := i1x5; unfold In at a2; have a3 := i7x1; unfold In at a3; have oc := oc_236_0; omega)
          exact (hX _ _ ⟨Or.inl ⟨rfl, n10⟩, s, hI, fr_rf, rfl⟩)
      · skip
        have i7x9 := r_lt1 0 31 c7x9 i7x1 ro_2_1 rfl
        have i7x9a := r_lt2 1 32 c7x9 i7x1 ro_2_1 rfl
        refine g_iconst 1 13 (gd rfl) rfl rfl ?_
        refine g_goto 17 (gd rfl) rfl ?_
        refine g_ireturn (gd rfl) rfl (nb01 (in_w 0 1 (in_c 1 rfl) rfl)) (hp7 _ _ ?_)
        show GG _ _ _ _ _ _ _ _ [.int (Int32.ofInt 1)] _ _ _
        refine g_thr (E := am_IA) (y := yX11_allow) 13 (gd rfl) rfl rfl (Or.inl ⟨rfl, rfl, rfl⟩) (by omega) (Nat.le_of_ble_eq_true rfl) (Nat.le_of_ble_eq_true rfl) (Nat.le_of_ble_eq_true rfl) (fun c10 => ?_) (fun c10 => ?_)
        · skip
          refine g_aload_n 14 (gd rfl) rfl rfl ?_
          refine g_getA (q2 := 56) 17 (gd rfl) rfl rfl rfl rfl ?_
          refine g_aload_n 18 (gd rfl) rfl rfl ?_
          refine g_iload_n 19 (gd rfl) rfl rfl ?_
          refine g_callv (X := _) (As := [.ref (A 2), .int x1]) (r := []) (b := A 56) (q := 56) 22 (gd rfl) rfl rfl rfl rfl rfl (ww_o rfl) (Nat.le_of_ble_eq_true rfl) (mc := 0) (ms := 0) (Nat.zero_le _) (Nat.zero_le _) (P := fun v u => _) ?_ (fun e u h => h) (fun v u h => h)
          intro po19 xx19 hp19 hx19
          refine g_enter2 (k := 143) (N := 300) (by omega) rfl (Nat.le_of_ble_eq_true rfl) ?_
          refine g_aload_n 1 (gd rfl) rfl rfl ?_
          refine g_callv (X := _) (As := []) (r := []) (b := A 2) (q := 2) 4 (gd rfl) rfl rfl rfl rfl rfl (ww_o rfl) (Nat.le_of_ble_eq_true rfl) (Nat.zero_le _) (Nat.zero_le _) (k_106_2 (by omega) hI ) (fun e u h => h) (fun v u h => ?_)
          obtain ⟨s19x1, hI19x1, hF19x1, n19x1, rfl, rfl⟩ := h
          obtain ⟨z19x1a, e19x1⟩ : ∃ w, w = s19x1.2.2.1 2 4 := ⟨_, rfl⟩
          have i19x1a := inv_F hI19x1 (-1) 4000 rfl e19x1
          obtain ⟨z19x1b, e19x1a⟩ : ∃ w, w = s19x1.2.2.1 2 0 := ⟨_, rfl⟩
          have i19x1b := inv_F hI19x1 0 4000 rfl e19x1a
          rw [← (show z19x1a = s19x1.2.2.1 2 4 from e19x1)] at n19x1
          rw [← (show z19x1b = s19x1.2.2.1 2 0 from e19x1a)] at n19x1
          show GG _ _ _ _ _ _ _ _ [] _ _ _
          refine g_aload_n 5 (gd rfl) rfl rfl ?_
          refine g_getA (q2 := 9) 8 (gd rfl) rfl rfl rfl rfl ?_
          refine g_iload_n 9 (gd rfl) rfl rfl ?_
          refine g_iaload 10 (gd rfl) rfl (n := 32) rfl (in_ix i7x9 rfl) (fun z19x9 e19x9 => ?_)
          refine g_istore_n 11 (gd rfl) rfl (Nat.le_of_ble_eq_true rfl) ?_
          refine g_aload_n 12 (gd rfl) rfl rfl ?_
          refine g_getA (q2 := 9) 15 (gd rfl) rfl rfl rfl rfl ?_
          refine g_iload_n 16 (gd rfl) rfl rfl ?_
          refine g_iload_n 17 (gd rfl) rfl rfl ?_
          refine g_ineg 18 (gd rfl) rfl (fun z19x17 e19x17 => ?_)
          refine g_iand 19 (gd rfl) rfl (fun z19x18 e19x18 => ?_)
          refine g_iconst 1 20 (gd rfl) rfl rfl ?_
          refine g_iload_n 21 (gd rfl) rfl rfl ?_
          refine g_ishl 22 (gd rfl) rfl (fun z19x21 e19x21 => ?_)
          refine g_iconst (-1) 23 (gd rfl) rfl rfl ?_
          refine g_ixor 24 (gd rfl) rfl (fun z19x23 e19x23 => ?_)
          refine g_calls (As := [.ref (A 9), .int z19x18, .int z19x23]) (r := []) 27 (gd rfl) rfl rfl rfl rfl rfl (Nat.le_of_ble_eq_true rfl) (Nat.zero_le _) (Nat.zero_le _) (f_266_9 (by omega) hI19x1 ) (fun v u h => ?_)
          obtain ⟨z19x24, rfl, rfl, i19x24, p19x24, p19x24a⟩ := h
          show GG _ _ _ _ _ _ _ _ [.int z19x24] _ _ _
          refine g_istore 29 (gd rfl) rfl (Nat.le_of_ble_eq_true rfl) ?_
          refine g_iload_n 30 (gd rfl) rfl rfl ?_
          refine g_iload 32 (gd rfl) rfl rfl ?_
          refine g_iconst (-1) 33 (gd rfl) rfl rfl ?_
          refine g_ixor 34 (gd rfl) rfl (fun z19x33 e19x33 => ?_)
          refine g_iand 35 (gd rfl) rfl (fun z19x34 e19x34 => ?_)
          refine g_if_eq 38 42 (gd rfl) rfl rfl (fun c19x35 => ?_) (fun c19x35 => ?_)
          · skip
            have i19x35 := z_eq 0 0 c19x35 (i_rng z19x34) rfl
            refine g_iconst 0 43 (gd rfl) rfl rfl ?_
            refine g_ireturn (gd rfl) rfl (nb01 (in_w 0 1 (in_c 0 rfl) rfl)) (hp19 _ _ ?_)
            show GG _ _ _ _ _ _ _ _ [.int (Int32.ofInt 0)] _ _ _
            have n22 : (0 ≤ x1.toInt ∧ x1.toInt < (shC s).2.2.2.2.2.2.1) ∧ (((Int32.ofInt 0)).toInt ≠ 0 ↔ CUT (shC s) x1.toNatClampNeg) := by first | (rw [shC_n (by rw [← e1x1]; exact c1x5)]; first | (exact ⟨⟨by have a0 := i7x9; unfold In at a0; have a1 := ro_32_1; unfold In at a1; have a2 := i7x9a; unfold In at a2; have a3 := i1x5; unfold In at a3; have a4 := i19x1b; unfold In at a4; have a5 := i19x1a; unfold In at a5; have oc := oc_236_0; omega, by show x1.toInt < (s.2.2.1 2 1).toInt; rw [← e_2_1]; have a0 := i7x9; unfold In at a0; have a1 := ro_32_1; unfold In at a1; have a2 := i7x9a; unfold In at a2; have a3 := i1x5; unfold In at a3; have a4 := i19x1b; unfold In at a4; have a5 := i19x1a; unfold In at a5; have oc := oc_236_0; omega⟩, ⟨fun _ => (cut_c (fe_2 hI19x1 hF19x1 rfl rfl rfl (by rw [← (show z19x1a = s19x1.2.2.1 2 4 from e19x1), ← (show z19x1b = s19x1.2.2.1 2 0 from e19x1a)]; exact n19x1) q_0).2.2 ⟨by have a0 := i7x9; unfold In at a0; have a1 := ro_32_1; unfold In at a1; have a2 := i7x9a; unfold In at a2; have a3 := i1x5; unfold In at a3; have a4 := i19x1b; unfold In at a4; have a5 := i19x1a; unfold In at a5; have oc := oc_236_0; omega, by have a0 := i7x9; unfold In at a0; have a1 := ro_32_1; unfold In at a1; have a2 := i7x9a; unfold In at a2; have a3 := i1x5; unfold In at a3; have a4 := i19x1b; unfold In at a4; have a5 := i19x1a; unfold In at a5; have oc := oc_236_0; omega⟩ e19x9 e19x17 e19x18 e19x21 e19x23 p19x24a e19x33 e19x34).mp c19x35, fun _ => by decide⟩⟩) | (exact ⟨⟨by have a0 := i7x9; unfold In at a0; have a1 := ro_32_1; unfold In at a1; have a2 := i7x9a; unfold In at a2; have a3 := i1x5; unfold In at a3; have a4 := i19x1b; unfold In at a4; have a5 := i19x1a; unfold In at a5; have oc := oc_236_0; omega, by show x1.toInt < (s.2.2.1 2 1).toInt; rw [← e_2_1]; have a0 := i7x9; unfold In at a0; have a1 := ro_32_1; unfold In at a1; have a2 := i7x9a; unfold In at a2; have a3 := i1x5; unfold In at a3; have a4 := i19x1b; unfold In at a4; have a5 := i19x1a; unfold In at a5; have oc := oc_236_0; omega⟩, ⟨fun h => absurd rfl h, fun h => absurd c19x35 ((cut_c (fe_2 hI19x1 hF19x1 rfl rfl rfl (by rw [← (show z19x1a = s19x1.2.2.1 2 4 from e19x1), ← (show z19x1b = s19x1.2.2.1 2 0 from e19x1a)]; exact n19x1) q_0).2.2 ⟨by have a0 := i7x9; unfold In at a0; have a1 := ro_32_1; unfold In at a1; have a2 := i7x9a; unfold In at a2; have a3 := i1x5; unfold In at a3; have a4 := i19x1b; unfold In at a4; have a5 := i19x1a; unfold In at a5; have oc := oc_236_0; omega, by have a0 := i7x9; unfold In at a0; have a1 := ro_32_1; unfold In at a1; have a2 := i7x9a; unfold In at a2; have a3 := i1x5; unfold In at a3; have a4 := i19x1b; unfold In at a4; have a5 := i19x1a; unfold In at a5; have oc := oc_236_0; omega⟩ e19x9 e19x17 e19x18 e19x21 e19x23 p19x24a e19x33 e19x34).mpr h)⟩⟩)) | (rw [shC_d (by rw [← e1x1]; exact c1x5)]; first | (exact ⟨⟨by have a0 := i7x9; unfold In at a0; have a1 := ro_32_1; unfold In at a1; have a2 := i7x9a; unfold In at a2; have a3 := i1x5; unfold In at a3; have a4 := i19x1b; unfold In at a4; have a5 := i19x1a; unfold In at a5; have oc := oc_236_0; omega, by show x1.toInt < (s.2.2.1 32 1).toInt; rw [← e_32_1]; have a0 := i7x9; unfold In at a0; have a1 := ro_32_1; unfold In at a1; have a2 := i7x9a; unfold In at a2; have a3 := i1x5; unfold In at a3; have a4 := i19x1b; unfold In at a4; have a5 := i19x1a; unfold In at a5; have oc := oc_236_0; omega⟩, ⟨fun _ => (cut_c (fe_32 hI19x1 hF19x1 rfl rfl rfl (by rw [← (show z19x1a = s19x1.2.2.1 32 4 from e19x1), ← (show z19x1b = s19x1.2.2.1 32 0 from e19x1a)]; exact n19x1) q_1).2.2 ⟨by have a0 := i7x9; unfold In at a0; have a1 := ro_32_1; unfold In at a1; have a2 := i7x9a; unfold In at a2; have a3 := i1x5; unfold In at a3; have a4 := i19x1b; unfold In at a4; have a5 := i19x1a; unfold In at a5; have oc := oc_236_0; omega, by have a0 := i7x9; unfold In at a0; have a1 := ro_32_1; unfold In at a1; have a2 := i7x9a; unfold In at a2; have a3 := i1x5; unfold In at a3; have a4 := i19x1b; unfold In at a4; have a5 := i19x1a; unfold In at a5; have oc := oc_236_0; omega⟩ e19x9 e19x17 e19x18 e19x21 e19x23 p19x24a e19x33 e19x34).mp c19x35, fun _ => by decide⟩⟩) | (exact ⟨⟨by have a0 := i7x9; unfold In at a0; have a1 := ro_32_1; unfold In at a1; have a2 := i7x9a; unfold In at a2; have a3 := i1x5; unfold In at a3; have a4 := i19x1b; unfold In at a4; have a5 := i19x1a; unfold In at a5; have oc := oc_236_0; omega, by show x1.toInt < (s.2.2.1 32 1).toInt; rw [← e_32_1]; have a0 := i7x9; unfold In at a0; have a1 := ro_32_1; unfold In at a1; have a2 := i7x9a; unfold In at a2; have a3 := i1x5; unfold In at a3; have a4 := i19x1b; unfold In at a4; have a5 := i19x1a; unfold In at a5; have oc := oc_236_0; omega⟩, ⟨fun h => absurd rfl h, fun h => absurd c19x35 ((cut_c (fe_32 hI19x1 hF19x1 rfl rfl rfl (by rw [← (show z19x1a = s19x1.2.2.1 32 4 from e19x1), ← (show z19x1b = s19x1.2.2.1 32 0 from e19x1a)]; exact n19x1) q_1).2.2 ⟨by have a0 := i7x9; unfold In at a0; have a1 := ro_32_1; unfold In at a1; have a2 := i7x9a; unfold In at a2; have a3 := i1x5; unfold In at a3; have a4 := i19x1b; unfold In at a4; have a5 := i19x1a; unfold In at a5; have oc := oc_236_0; omega, by have a0 := i7x9; unfold In at a0; have a1 := ro_32_1; unfold In at a1; have a2 := i7x9a; unfold In at a2; have a3 := i1x5; unfold In at a3; have a4 := i19x1b; unfold In at a4; have a5 := i19x1a; unfold In at a5; have oc := oc_236_0; omega⟩ e19x9 e19x17 e19x18 e19x21 e19x23 p19x24a e19x33 e19x34).mpr h)⟩⟩))
            exact g_ireturn (gd rfl) rfl (nb01 (in_w 0 1 (in_c 0 rfl) rfl)) (hP _ _ ⟨s19x1, hI19x1, (fr_tr rfl fr_rf hF19x1), (Int32.ofInt 0), rfl, rfl, in_w 0 1 (in_c 0 rfl) rfl, n22⟩)
          · skip
            refine g_iconst 1 39 (gd rfl) rfl rfl ?_
            refine g_goto 43 (gd rfl) rfl ?_
            refine g_ireturn (gd rfl) rfl (nb01 (in_w 0 1 (in_c 1 rfl) rfl)) (hp19 _ _ ?_)
            show GG _ _ _ _ _ _ _ _ [.int (Int32.ofInt 1)] _ _ _
            have n22 : (0 ≤ x1.toInt ∧ x1.toInt < (shC s).2.2.2.2.2.2.1) ∧ (((Int32.ofInt 1)).toInt ≠ 0 ↔ CUT (shC s) x1.toNatClampNeg) := by first | (rw [shC_n (by rw [← e1x1]; exact c1x5)]; first | (exact ⟨⟨by have a0 := i7x9; unfold In at a0; have a1 := ro_32_1; unfold In at a1; have a2 := i7x9a; unfold In at a2; have a3 := i1x5; unfold In at a3; have a4 := i19x1b; unfold In at a4; have a5 := i19x1a; unfold In at a5; have oc := oc_236_0; omega, by show x1.toInt < (s.2.2.1 2 1).toInt; rw [← e_2_1]; have a0 := i7x9; unfold In at a0; have a1 := ro_32_1; unfold In at a1; have a2 := i7x9a; unfold In at a2; have a3 := i1x5; unfold In at a3; have a4 := i19x1b; unfold In at a4; have a5 := i19x1a; unfold In at a5; have oc := oc_236_0; omega⟩, ⟨fun _ => (cut_c (fe_2 hI19x1 hF19x1 rfl rfl rfl (by rw [← (show z19x1a = s19x1.2.2.1 2 4 from e19x1), ← (show z19x1b = s19x1.2.2.1 2 0 from e19x1a)]; exact n19x1) q_0).2.2 ⟨by have a0 := i7x9; unfold In at a0; have a1 := ro_32_1; unfold In at a1; have a2 := i7x9a; unfold In at a2; have a3 := i1x5; unfold In at a3; have a4 := i19x1b; unfold In at a4; have a5 := i19x1a; unfold In at a5; have oc := oc_236_0; omega, by have a0 := i7x9; unfold In at a0; have a1 := ro_32_1; unfold In at a1; have a2 := i7x9a; unfold In at a2; have a3 := i1x5; unfold In at a3; have a4 := i19x1b; unfold In at a4; have a5 := i19x1a; unfold In at a5; have oc := oc_236_0; omega⟩ e19x9 e19x17 e19x18 e19x21 e19x23 p19x24a e19x33 e19x34).mp c19x35, fun _ => by decide⟩⟩) | (exact ⟨⟨by have a0 := i7x9; unfold In at a0; have a1 := ro_32_1; unfold In at a1; have a2 := i7x9a; unfold In at a2; have a3 := i1x5; unfold In at a3; have a4 := i19x1b; unfold In at a4; have a5 := i19x1a; unfold In at a5; have oc := oc_236_0; omega, by show x1.toInt < (s.2.2.1 2 1).toInt; rw [← e_2_1]; have a0 := i7x9; unfold In at a0; have a1 := ro_32_1; unfold In at a1; have a2 := i7x9a; unfold In at a2; have a3 := i1x5; unfold In at a3; have a4 := i19x1b; unfold In at a4; have a5 := i19x1a; unfold In at a5; have oc := oc_236_0; omega⟩, ⟨fun h => absurd rfl h, fun h => absurd c19x35 ((cut_c (fe_2 hI19x1 hF19x1 rfl rfl rfl (by rw [← (show z19x1a = s19x1.2.2.1 2 4 from e19x1), ← (show z19x1b = s19x1.2.2.1 2 0 from e19x1a)]; exact n19x1) q_0).2.2 ⟨by have a0 := i7x9; unfold In at a0; have a1 := ro_32_1; unfold In at a1; have a2 := i7x9a; unfold In at a2; have a3 := i1x5; unfold In at a3; have a4 := i19x1b; unfold In at a4; have a5 := i19x1a; unfold In at a5; have oc := oc_236_0; omega, by have a0 := i7x9; unfold In at a0; have a1 := ro_32_1; unfold In at a1; have a2 := i7x9a; unfold In at a2; have a3 := i1x5; unfold In at a3; have a4 := i19x1b; unfold In at a4; have a5 := i19x1a; unfold In at a5; have oc := oc_236_0; omega⟩ e19x9 e19x17 e19x18 e19x21 e19x23 p19x24a e19x33 e19x34).mpr h)⟩⟩)) | (rw [shC_d (by rw [← e1x1]; exact c1x5)]; first | (exact ⟨⟨by have a0 := i7x9; unfold In at a0; have a1 := ro_32_1; unfold In at a1; have a2 := i7x9a; unfold In at a2; have a3 := i1x5; unfold In at a3; have a4 := i19x1b; unfold In at a4; have a5 := i19x1a; unfold In at a5; have oc := oc_236_0; omega, by show x1.toInt < (s.2.2.1 32 1).toInt; rw [← e_32_1]; have a0 := i7x9; unfold In at a0; have a1 := ro_32_1; unfold In at a1; have a2 := i7x9a; unfold In at a2; have a3 := i1x5; unfold In at a3; have a4 := i19x1b; unfold In at a4; have a5 := i19x1a; unfold In at a5; have oc := oc_236_0; omega⟩, ⟨fun _ => (cut_c (fe_32 hI19x1 hF19x1 rfl rfl rfl (by rw [← (show z19x1a = s19x1.2.2.1 32 4 from e19x1), ← (show z19x1b = s19x1.2.2.1 32 0 from e19x1a)]; exact n19x1) q_1).2.2 ⟨by have a0 := i7x9; unfold In at a0; have a1 := ro_32_1; unfold In at a1; have a2 := i7x9a; unfold In at a2; have a3 := i1x5; unfold In at a3; have a4 := i19x1b; unfold In at a4; have a5 := i19x1a; unfold In at a5; have oc := oc_236_0; omega, by have a0 := i7x9; unfold In at a0; have a1 := ro_32_1; unfold In at a1; have a2 := i7x9a; unfold In at a2; have a3 := i1x5; unfold In at a3; have a4 := i19x1b; unfold In at a4; have a5 := i19x1a; unfold In at a5; have oc := oc_236_0; omega⟩ e19x9 e19x17 e19x18 e19x21 e19x23 p19x24a e19x33 e19x34).mp c19x35, fun _ => by decide⟩⟩) | (exact ⟨⟨by have a0 := i7x9; unfold In at a0; have a1 := ro_32_1; unfold In at a1; have a2 := i7x9a; unfold In at a2; have a3 := i1x5; unfold In at a3; have a4 := i19x1b; unfold In at a4; have a5 := i19x1a; unfold In at a5; have oc := oc_236_0; omega, by show x1.toInt < (s.2.2.1 32 1).toInt; rw [← e_32_1]; have a0 := i7x9; unfold In at a0; have a1 := ro_32_1; unfold In at a1; have a2 := i7x9a; unfold In at a2; have a3 := i1x5; unfold In at a3; have a4 := i19x1b; unfold In at a4; have a5 := i19x1a; unfold In at a5; have oc := oc_236_0; omega⟩, ⟨fun h => absurd rfl h, fun h => absurd c19x35 ((cut_c (fe_32 hI19x1 hF19x1 rfl rfl rfl (by rw [← (show z19x1a = s19x1.2.2.1 32 4 from e19x1), ← (show z19x1b = s19x1.2.2.1 32 0 from e19x1a)]; exact n19x1) q_1).2.2 ⟨by have a0 := i7x9; unfold In at a0; have a1 := ro_32_1; unfold In at a1; have a2 := i7x9a; unfold In at a2; have a3 := i1x5; unfold In at a3; have a4 := i19x1b; unfold In at a4; have a5 := i19x1a; unfold In at a5; have oc := oc_236_0; omega, by have a0 := i7x9; unfold In at a0; have a1 := ro_32_1; unfold In at a1; have a2 := i7x9a; unfold In at a2; have a3 := i1x5; unfold In at a3; have a4 := i19x1b; unfold In at a4; have a5 := i19x1a; unfold In at a5; have oc := oc_236_0; omega⟩ e19x9 e19x17 e19x18 e19x21 e19x23 p19x24a e19x33 e19x34).mpr h)⟩⟩))
            exact g_ireturn (gd rfl) rfl (nb01 (in_w 0 1 (in_c 1 rfl) rfl)) (hP _ _ ⟨s19x1, hI19x1, (fr_tr rfl fr_rf hF19x1), (Int32.ofInt 1), rfl, rfl, in_w 0 1 (in_c 1 rfl) rfl, n22⟩)
        · skip
          exact zn_eq c10 (in_c 1 rfl) rfl
