/-! FUNCTIONAL CONTRACTS, by fgen.py -/
theorem oc_142_56_2 : (Int32.ofInt (-1)).toInt = (-1) ∧ (Int32.ofInt 0).toInt = 0 ∧ (Int32.ofInt 1).toInt = 1 := ⟨rfl, rfl, rfl⟩
/-- GraphHouse$Parts.isBridge -/
theorem f_142_56_2 {Z : AmZ} {A : Nat → Nat} {s : GS} {ex : va_W} {d : Nat} {X : AmX} {x2 : Int32} (hd : 5 ≤ d) (hI : Inv s) (h2 : In x2 0 159) (q_0 : TQ s) : GC Z d 142 [.ref (A 56), .ref (A 2), .int x2] (WW Z A s ++ ex) 0 0 (fun v u => ∃ t : GS, Inv t ∧ Fr fm_142_56_2 s t ∧ ∃ z : Int32, v = some (.int z) ∧ u = WW Z A t ++ ex ∧ In z 0 1 ∧ (((z).toInt ≠ 0 ↔ BRG (gvC s) x2.toNatClampNeg))) X := by
  intro post xp hP hX
  obtain ⟨u_2_3, e_2_3⟩ : ∃ w, w = s.2.2.1 2 3 := ⟨_, rfl⟩
  have ro_2_3 := inv_F hI 0 160 rfl e_2_3
  have ct28 : ∀ (k28 : Nat) (sc28 : GS) (y28_3 : Int32) (y28_4 : Int32) (y28_5 : Int32), Inv sc28 → Fr fm_142_56_2 s sc28 → (In y28_3 0 31) → (In y28_4 0 31) → (In y28_5 0 160) → ((y28_3) = s.1 4 (x2).toNatClampNeg) → ((y28_4) = s.1 5 (x2).toNatClampNeg) → ((y28_3).toInt ≠ (y28_4).toInt) → (BRN (gvC s) (x2).toNatClampNeg (y28_3).toInt (y28_4).toInt (y28_5).toInt.toNat) → 160 - (y28_5).toInt < (k28 : Int) → GG Z (d - 1) 142 post (gx xp) (1 + k28 * 900) 28 (fun j => xlook j [(0, .ref (A 56)), (1, .ref (A 2)), (2, .int x2), (3, .int y28_3), (4, .int y28_4), (5, .int y28_5)]) [] (WW Z A sc28 ++ ex) 0 0 := by
    intro k28
    induction k28 with
    | zero => intro sc28 y28_3 y28_4 y28_5 hIc28 hFc28 j28_3 j28_4 j28_5 g28_0 g28_1 g28_2 g28_3 mm28; exact m_no mm28 j28_5 rfl
    | succ k28 ih28 =>
      intro sc28 y28_3 y28_4 y28_5 hIc28 hFc28 j28_3 j28_4 j28_5 g28_0 g28_1 g28_2 g28_3 mm28
      refine gg_w (M := 1 + k28 * 900 + 900) gws ?_
      refine g_iload 30 (gd rfl) rfl rfl ?_
      refine g_aload_n 31 (gd rfl) rfl rfl ?_
      refine g_getI 34 (gd rfl) rfl rfl rfl (fun z31 e31 => ?_)
      have q31 : u_2_3 = z31 := (fr_F e_2_3 hFc28 rfl).trans e31.symm
      subst q31
      refine g_cmp_ge 37 106 (gd rfl) rfl rfl (fun c34 => ?_) (fun c34 => ?_)
      · skip
        refine g_aload_n 107 (gd rfl) rfl rfl ?_
        refine g_callv (X := _) (As := []) (r := []) (b := A 2) (q := 2) 110 (gd rfl) rfl rfl rfl rfl rfl (ww_o rfl) (Nat.le_of_ble_eq_true rfl) (Nat.zero_le _) (Nat.zero_le _) (k_106_2 (by first | exact dq1 hd rfl | exact dq0 hd rfl | exact dq2 hd rfl | exact dq3 hd rfl | omega) hIc28 ) (fun e u h => h) (fun v u h => ?_)
        obtain ⟨s107, hI107, hF107, n107, rfl, rfl⟩ := h
        obtain ⟨z107a, e107⟩ : ∃ w, w = s107.2.2.1 2 4 := ⟨_, rfl⟩
        have i107a := inv_F hI107 (-1) 4000 rfl e107
        obtain ⟨z107b, e107a⟩ : ∃ w, w = s107.2.2.1 2 0 := ⟨_, rfl⟩
        have i107b := inv_F hI107 0 4000 rfl e107a
        rw [← (show z107a = s107.2.2.1 2 4 from e107)] at n107
        rw [← (show z107b = s107.2.2.1 2 0 from e107a)] at n107
        show GG _ _ _ _ _ _ _ _ [] _ _ _
        refine g_aload_n 111 (gd rfl) rfl rfl ?_
        refine g_getA (q2 := 9) 114 (gd rfl) rfl rfl rfl rfl ?_
        refine g_aload_n 115 (gd rfl) rfl rfl ?_
        refine g_getA (q2 := 9) 118 (gd rfl) rfl rfl rfl rfl ?_
        refine g_iload_n 119 (gd rfl) rfl rfl ?_
        refine g_iaload 120 (gd rfl) rfl (n := 32) rfl (in_ix j28_3 rfl) (fun z119 e119 => ?_)
        refine g_iconst 1 121 (gd rfl) rfl rfl ?_
        refine g_iload 123 (gd rfl) rfl rfl ?_
        refine g_ishl 124 (gd rfl) rfl (fun z123 e123 => ?_)
        refine g_iconst (-1) 125 (gd rfl) rfl rfl ?_
        refine g_ixor 126 (gd rfl) rfl (fun z125 e125 => ?_)
        refine g_iand 127 (gd rfl) rfl (fun z126 e126 => ?_)
        refine g_iconst 1 128 (gd rfl) rfl rfl ?_
        refine g_iload_n 129 (gd rfl) rfl rfl ?_
        refine g_ishl 130 (gd rfl) rfl (fun z129 e129 => ?_)
        refine g_iconst (-1) 131 (gd rfl) rfl rfl ?_
        refine g_ixor 132 (gd rfl) rfl (fun z131 e131 => ?_)
        refine g_calls (As := [.ref (A 9), .int z126, .int z131]) (r := []) 135 (gd rfl) rfl rfl rfl rfl rfl (Nat.le_of_ble_eq_true rfl) (Nat.zero_le _) (Nat.zero_le _) (f_266_9 (by first | exact dq1 hd rfl | exact dq0 hd rfl | exact dq2 hd rfl | exact dq3 hd rfl | omega) hI107 ) (fun v u h => ?_)
        obtain ⟨z132, rfl, rfl, i132, p132, p132a⟩ := h
        show GG _ _ _ _ _ _ _ _ [.int z132] _ _ _
        refine g_istore 137 (gd rfl) rfl (Nat.le_of_ble_eq_true rfl) ?_
        refine g_iload 139 (gd rfl) rfl rfl ?_
        refine g_iload 141 (gd rfl) rfl rfl ?_
        refine g_ishr 142 (gd rfl) rfl (fun z141 e141 => ?_)
        refine g_iconst 1 143 (gd rfl) rfl rfl ?_
        refine g_iand 144 (gd rfl) rfl (fun z143 e143 => ?_)
        have i143 := in_and2 e143 (in_c 1 rfl) rfl
        refine g_if_ne 147 151 (gd rfl) rfl rfl (fun c144 => ?_) (fun c144 => ?_)
        · skip
          have i144 := z_ne 1 1 c144 i143 rfl
          refine g_iconst 0 152 (gd rfl) rfl rfl ?_
          have n152 : (((Int32.ofInt 0)).toInt ≠ 0 ↔ BRG (gvC s) x2.toNatClampNeg) := by first | (exact ⟨fun _ => (brg_c (g := (gvC s)) (fe_2 hI107 (show Fr fm_142_56_2 s s107 from fr_tr rfl hFc28 hF107) rfl rfl rfl (by rw [← (show z107a = s107.2.2.1 2 4 from e107), ← (show z107b = s107.2.2.1 2 0 from e107a)]; exact n107) q_0).2.2 j28_3 j28_4 (ar01 (g := (gvC s)) (show (x2).toNatClampNeg < 160 from (by show (x2).toInt.toNat < 160; exact (have a0 := in_u h2; have a1 := in_u ro_2_3; have a2 := in_u j28_5; have a3 := in_u j28_4; have a4 := in_u j28_3; have a5 := in_u i107b; have a6 := in_u i107a; have oc := oc_142_56_2; by omega))) g28_0 g28_1 (by exact (have a0 := in_u h2; have a1 := in_u ro_2_3; have a2 := in_u j28_5; have a3 := in_u j28_4; have a4 := in_u j28_3; have a5 := in_u i107b; have a6 := in_u i107a; have oc := oc_142_56_2; by omega))).1 (ar01 (g := (gvC s)) (show (x2).toNatClampNeg < 160 from (by show (x2).toInt.toNat < 160; exact (have a0 := in_u h2; have a1 := in_u ro_2_3; have a2 := in_u j28_5; have a3 := in_u j28_4; have a4 := in_u j28_3; have a5 := in_u i107b; have a6 := in_u i107a; have oc := oc_142_56_2; by omega))) g28_0 g28_1 (by exact (have a0 := in_u h2; have a1 := in_u ro_2_3; have a2 := in_u j28_5; have a3 := in_u j28_4; have a4 := in_u j28_3; have a5 := in_u i107b; have a6 := in_u i107a; have oc := oc_142_56_2; by omega))).2 g28_2 (brn_e g28_3 j28_3 j28_4 (are_top (T := (s.2.2.1 2 3).toInt) (fun p hp hn => q_0 p hp hn) (by rw [← e_2_3]; exact (have a0 := in_u h2; have a1 := in_u ro_2_3; have a2 := in_u j28_5; have a3 := in_u j28_4; have a4 := in_u j28_3; have a5 := in_u i107b; have a6 := in_u i107a; have oc := oc_142_56_2; by omega)))) e119 e123 e125 e126 e129 e131 p132a).mp (bt_f0 (bt_ask e141 e143 j28_4) c144), fun _ => by decide⟩) | (exact ⟨fun h => absurd rfl h, fun h => by have k := (brg_c (g := (gvC s)) (fe_2 hI107 (show Fr fm_142_56_2 s s107 from fr_tr rfl hFc28 hF107) rfl rfl rfl (by rw [← (show z107a = s107.2.2.1 2 4 from e107), ← (show z107b = s107.2.2.1 2 0 from e107a)]; exact n107) q_0).2.2 j28_3 j28_4 (ar01 (g := (gvC s)) (show (x2).toNatClampNeg < 160 from (by show (x2).toInt.toNat < 160; exact (have a0 := in_u h2; have a1 := in_u ro_2_3; have a2 := in_u j28_5; have a3 := in_u j28_4; have a4 := in_u j28_3; have a5 := in_u i107b; have a6 := in_u i107a; have oc := oc_142_56_2; by omega))) g28_0 g28_1 (by exact (have a0 := in_u h2; have a1 := in_u ro_2_3; have a2 := in_u j28_5; have a3 := in_u j28_4; have a4 := in_u j28_3; have a5 := in_u i107b; have a6 := in_u i107a; have oc := oc_142_56_2; by omega))).1 (ar01 (g := (gvC s)) (show (x2).toNatClampNeg < 160 from (by show (x2).toInt.toNat < 160; exact (have a0 := in_u h2; have a1 := in_u ro_2_3; have a2 := in_u j28_5; have a3 := in_u j28_4; have a4 := in_u j28_3; have a5 := in_u i107b; have a6 := in_u i107a; have oc := oc_142_56_2; by omega))) g28_0 g28_1 (by exact (have a0 := in_u h2; have a1 := in_u ro_2_3; have a2 := in_u j28_5; have a3 := in_u j28_4; have a4 := in_u j28_3; have a5 := in_u i107b; have a6 := in_u i107a; have oc := oc_142_56_2; by omega))).2 g28_2 (brn_e g28_3 j28_3 j28_4 (are_top (T := (s.2.2.1 2 3).toInt) (fun p hp hn => q_0 p hp hn) (by rw [← e_2_3]; exact (have a0 := in_u h2; have a1 := in_u ro_2_3; have a2 := in_u j28_5; have a3 := in_u j28_4; have a4 := in_u j28_3; have a5 := in_u i107b; have a6 := in_u i107a; have oc := oc_142_56_2; by omega)))) e119 e123 e125 e126 e129 e131 p132a).mpr h; rw [bt_t1 (bt_ask e141 e143 j28_4) c144] at k; cases k⟩)
          exact g_ireturn (gd rfl) rfl (nb01 (in_w 0 1 (in_c 0 rfl) rfl)) (hP _ _ ⟨s107, hI107, (fr_tr rfl hFc28 hF107), (Int32.ofInt 0), rfl, rfl, in_w 0 1 (in_c 0 rfl) rfl, n152⟩)
        · skip
          have i144 := z_eq 0 0 c144 i143 rfl
          refine g_iconst 1 148 (gd rfl) rfl rfl ?_
          refine g_goto 152 (gd rfl) rfl ?_
          have n152 : (((Int32.ofInt 1)).toInt ≠ 0 ↔ BRG (gvC s) x2.toNatClampNeg) := by first | (exact ⟨fun _ => (brg_c (g := (gvC s)) (fe_2 hI107 (show Fr fm_142_56_2 s s107 from fr_tr rfl hFc28 hF107) rfl rfl rfl (by rw [← (show z107a = s107.2.2.1 2 4 from e107), ← (show z107b = s107.2.2.1 2 0 from e107a)]; exact n107) q_0).2.2 j28_3 j28_4 (ar01 (g := (gvC s)) (show (x2).toNatClampNeg < 160 from (by show (x2).toInt.toNat < 160; exact (have a0 := in_u h2; have a1 := in_u ro_2_3; have a2 := in_u j28_5; have a3 := in_u j28_4; have a4 := in_u j28_3; have a5 := in_u i107b; have a6 := in_u i107a; have oc := oc_142_56_2; by omega))) g28_0 g28_1 (by exact (have a0 := in_u h2; have a1 := in_u ro_2_3; have a2 := in_u j28_5; have a3 := in_u j28_4; have a4 := in_u j28_3; have a5 := in_u i107b; have a6 := in_u i107a; have oc := oc_142_56_2; by omega))).1 (ar01 (g := (gvC s)) (show (x2).toNatClampNeg < 160 from (by show (x2).toInt.toNat < 160; exact (have a0 := in_u h2; have a1 := in_u ro_2_3; have a2 := in_u j28_5; have a3 := in_u j28_4; have a4 := in_u j28_3; have a5 := in_u i107b; have a6 := in_u i107a; have oc := oc_142_56_2; by omega))) g28_0 g28_1 (by exact (have a0 := in_u h2; have a1 := in_u ro_2_3; have a2 := in_u j28_5; have a3 := in_u j28_4; have a4 := in_u j28_3; have a5 := in_u i107b; have a6 := in_u i107a; have oc := oc_142_56_2; by omega))).2 g28_2 (brn_e g28_3 j28_3 j28_4 (are_top (T := (s.2.2.1 2 3).toInt) (fun p hp hn => q_0 p hp hn) (by rw [← e_2_3]; exact (have a0 := in_u h2; have a1 := in_u ro_2_3; have a2 := in_u j28_5; have a3 := in_u j28_4; have a4 := in_u j28_3; have a5 := in_u i107b; have a6 := in_u i107a; have oc := oc_142_56_2; by omega)))) e119 e123 e125 e126 e129 e131 p132a).mp (bt_f0 (bt_ask e141 e143 j28_4) c144), fun _ => by decide⟩) | (exact ⟨fun h => absurd rfl h, fun h => by have k := (brg_c (g := (gvC s)) (fe_2 hI107 (show Fr fm_142_56_2 s s107 from fr_tr rfl hFc28 hF107) rfl rfl rfl (by rw [← (show z107a = s107.2.2.1 2 4 from e107), ← (show z107b = s107.2.2.1 2 0 from e107a)]; exact n107) q_0).2.2 j28_3 j28_4 (ar01 (g := (gvC s)) (show (x2).toNatClampNeg < 160 from (by show (x2).toInt.toNat < 160; exact (have a0 := in_u h2; have a1 := in_u ro_2_3; have a2 := in_u j28_5; have a3 := in_u j28_4; have a4 := in_u j28_3; have a5 := in_u i107b; have a6 := in_u i107a; have oc := oc_142_56_2; by omega))) g28_0 g28_1 (by exact (have a0 := in_u h2; have a1 := in_u ro_2_3; have a2 := in_u j28_5; have a3 := in_u j28_4; have a4 := in_u j28_3; have a5 := in_u i107b; have a6 := in_u i107a; have oc := oc_142_56_2; by omega))).1 (ar01 (g := (gvC s)) (show (x2).toNatClampNeg < 160 from (by show (x2).toInt.toNat < 160; exact (have a0 := in_u h2; have a1 := in_u ro_2_3; have a2 := in_u j28_5; have a3 := in_u j28_4; have a4 := in_u j28_3; have a5 := in_u i107b; have a6 := in_u i107a; have oc := oc_142_56_2; by omega))) g28_0 g28_1 (by exact (have a0 := in_u h2; have a1 := in_u ro_2_3; have a2 := in_u j28_5; have a3 := in_u j28_4; have a4 := in_u j28_3; have a5 := in_u i107b; have a6 := in_u i107a; have oc := oc_142_56_2; by omega))).2 g28_2 (brn_e g28_3 j28_3 j28_4 (are_top (T := (s.2.2.1 2 3).toInt) (fun p hp hn => q_0 p hp hn) (by rw [← e_2_3]; exact (have a0 := in_u h2; have a1 := in_u ro_2_3; have a2 := in_u j28_5; have a3 := in_u j28_4; have a4 := in_u j28_3; have a5 := in_u i107b; have a6 := in_u i107a; have oc := oc_142_56_2; by omega)))) e119 e123 e125 e126 e129 e131 p132a).mpr h; rw [bt_t1 (bt_ask e141 e143 j28_4) c144] at k; cases k⟩)
          exact g_ireturn (gd rfl) rfl (nb01 (in_w 0 1 (in_c 1 rfl) rfl)) (hP _ _ ⟨s107, hI107, (fr_tr rfl hFc28 hF107), (Int32.ofInt 1), rfl, rfl, in_w 0 1 (in_c 1 rfl) rfl, n152⟩)
      · skip
        have i34 := r_lt1 0 159 c34 j28_5 ro_2_3 rfl
        have i34a := r_lt2 1 160 c34 j28_5 ro_2_3 rfl
        refine g_iload 39 (gd rfl) rfl rfl ?_
        refine g_iload_n 40 (gd rfl) rfl rfl ?_
        refine g_cmp_eq 43 100 (gd rfl) rfl rfl (fun c40 => ?_) (fun c40 => ?_)
        · skip
          refine g_iinc 103 (gd rfl) rfl rfl (Nat.le_of_ble_eq_true rfl) (fun z100 e100 => ?_)
          have i100 := in_add 1 160 e100 i34 (in_c 1 rfl) rfl rfl
          refine g_goto 28 (gd rfl) rfl ?_
          have n28 : (y28_3) = s.1 4 (x2).toNatClampNeg := by exact g28_0
          have n28a : (y28_4) = s.1 5 (x2).toNatClampNeg := by exact g28_1
          have n28b : (y28_3).toInt ≠ (y28_4).toInt := by exact g28_2
          have n28c : BRN (gvC s) (x2).toNatClampNeg (y28_3).toInt (y28_4).toInt (z100).toInt.toNat := by rw [show (z100).toInt.toNat = (y28_5).toInt.toNat + 1 from (by exact (have a0 := in_u h2; have a1 := in_u i34a; have a2 := in_u i34; have a3 := in_u j28_4; have a4 := in_u j28_3; have a5 := in_u i100; have a6 := t_add e100 i34 (in_c 1 rfl) rfl; have a7 := in_u ((in_c 1 rfl)); have oc := oc_142_56_2; by omega))]; exact brn_p g28_3 (by show (y28_5).toInt.toNat = (x2).toInt.toNat; exact (have a0 := in_u h2; have a1 := in_u i34a; have a2 := in_u i34; have a3 := in_u j28_4; have a4 := in_u j28_3; have a5 := in_u i100; have a6 := t_add e100 i34 (in_c 1 rfl) rfl; have a7 := in_u ((in_c 1 rfl)); have oc := oc_142_56_2; by omega))
          exact gg_w (by first | exact Nat.le_add_right _ _ | exact gw2 | exact gw3 | exact gwe rfl | exact gwf rfl | exact gwg rfl | exact gwh rfl | omega) (gg_f (gf_cons rfl (gf_cons rfl (gf_cons rfl (gf_cons rfl (gf_cons rfl (gf_cons rfl gf_nil)))))) (ih28 sc28 y28_3 y28_4 z100 hIc28 hFc28 (in_w 0 31 j28_3 rfl) (in_w 0 31 j28_4 rfl) (in_w 0 160 i100 rfl) n28 n28a n28b n28c (m_up mm28 (t_add e100 i34 (in_c 1 rfl) rfl) (in_w 1 1 (in_c 1 rfl) rfl))))
        · skip
          refine g_aload_n 44 (gd rfl) rfl rfl ?_
          refine g_iload 46 (gd rfl) rfl rfl ?_
          refine g_callv (X := _) (As := [.int y28_5]) (r := []) (b := A 2) (q := 2) 49 (gd rfl) rfl rfl rfl rfl rfl (ww_o rfl) (Nat.le_of_ble_eq_true rfl) (mc := 0) (ms := 0) (Nat.zero_le _) (Nat.zero_le _) (P := fun v u => _) ?_ (fun e u h => h) (fun v u h => h)
          intro po46 xx46 hp46 hx46
          refine g_enter2 (k := 97) (N := 300) (by first | exact dq1 hd rfl | exact dq0 hd rfl | exact dq2 hd rfl | exact dq3 hd rfl | omega) rfl (Nat.le_of_ble_eq_true rfl) ?_
          refine g_aload_n 1 (gd rfl) rfl rfl ?_
          refine g_getA (q2 := 4) 4 (gd rfl) rfl rfl rfl rfl ?_
          refine g_iload_n 5 (gd rfl) rfl rfl ?_
          refine g_iaload 6 (gd rfl) rfl (n := 160) rfl (in_ix i34 rfl) (fun z46x5 e46x5 => ?_)
          have i46x5 := inv_I hIc28 (n := 160) (t := 0) (-1) 31 rfl (in_ix i34 rfl) rfl e46x5
          refine g_iconst (-1) 7 (gd rfl) rfl rfl ?_
          refine g_cmp_eq 10 29 (gd rfl) rfl rfl (fun c46x7 => ?_) (fun c46x7 => ?_)
          · skip
            have i46x7 := r_eq1 (-1) (-1) c46x7 i46x5 (in_c (-1) rfl) rfl
            refine g_iconst 0 30 (gd rfl) rfl rfl ?_
            refine g_ireturn (gd rfl) rfl (nb01 (in_w 0 1 (in_c 0 rfl) rfl)) (hp46 _ _ ?_)
            show GG _ _ _ _ _ _ _ _ [.int (Int32.ofInt 0)] _ _ _
            refine g_if_eq 52 100 (gd rfl) rfl rfl (fun c49 => ?_) (fun c49 => ?_)
            · skip
              refine g_iinc 103 (gd rfl) rfl rfl (Nat.le_of_ble_eq_true rfl) (fun z100 e100 => ?_)
              have i100 := in_add 1 160 e100 i34 (in_c 1 rfl) rfl rfl
              refine g_goto 28 (gd rfl) rfl ?_
              have n28 : (y28_3) = s.1 4 (x2).toNatClampNeg := by exact g28_0
              have n28a : (y28_4) = s.1 5 (x2).toNatClampNeg := by exact g28_1
              have n28b : (y28_3).toInt ≠ (y28_4).toInt := by exact g28_2
              have n28c : BRN (gvC s) (x2).toNatClampNeg (y28_3).toInt (y28_4).toInt (z100).toInt.toNat := by rw [show (z100).toInt.toNat = (y28_5).toInt.toNat + 1 from (by exact (have a0 := in_u h2; have a1 := in_u i34a; have a2 := in_u i34; have a3 := in_u j28_4; have a4 := in_u j28_3; have a5 := in_u i100; have a6 := t_add e100 i34 (in_c 1 rfl) rfl; have a7 := in_u ((in_c 1 rfl)); have oc := oc_142_56_2; by omega))]; exact brn_m g28_3 (e46x5.trans (congrFun (hFc28.1 4 rfl) _)) (by exact (have a0 := in_u h2; have a1 := in_u i34a; have a2 := in_u i34; have a3 := in_u j28_4; have a4 := in_u j28_3; have a5 := in_u i100; have a6 := t_add e100 i34 (in_c 1 rfl) rfl; have a7 := in_u ((in_c 1 rfl)); have oc := oc_142_56_2; by omega)) (by exact (have a0 := in_u h2; have a1 := in_u i34a; have a2 := in_u i34; have a3 := in_u j28_4; have a4 := in_u j28_3; have a5 := in_u i100; have a6 := t_add e100 i34 (in_c 1 rfl) rfl; have a7 := in_u ((in_c 1 rfl)); have oc := oc_142_56_2; by omega)) (by exact (have a0 := in_u h2; have a1 := in_u i34a; have a2 := in_u i34; have a3 := in_u j28_4; have a4 := in_u j28_3; have a5 := in_u i100; have a6 := t_add e100 i34 (in_c 1 rfl) rfl; have a7 := in_u ((in_c 1 rfl)); have oc := oc_142_56_2; by omega))
              exact gg_w (by first | exact Nat.le_add_right _ _ | exact gw2 | exact gw3 | exact gwe rfl | exact gwf rfl | exact gwg rfl | exact gwh rfl | omega) (gg_f (gf_cons rfl (gf_cons rfl (gf_cons rfl (gf_cons rfl (gf_cons rfl (gf_cons rfl gf_nil)))))) (ih28 sc28 y28_3 y28_4 z100 hIc28 hFc28 (in_w 0 31 j28_3 rfl) (in_w 0 31 j28_4 rfl) (in_w 0 160 i100 rfl) n28 n28a n28b n28c (m_up mm28 (t_add e100 i34 (in_c 1 rfl) rfl) (in_w 1 1 (in_c 1 rfl) rfl))))
            · skip
              exact zn_ne c49 (in_c 0 rfl) rfl
          · skip
            have i46x7 := r_ne1 0 31 c46x7 i46x5 (in_c (-1) rfl) rfl
            refine g_aload_n 11 (gd rfl) rfl rfl ?_
            refine g_getA (q2 := 4) 14 (gd rfl) rfl rfl rfl rfl ?_
            refine g_iload_n 15 (gd rfl) rfl rfl ?_
            refine g_iaload 16 (gd rfl) rfl (n := 160) rfl (in_ix i34 rfl) (fun z46x15 e46x15 => ?_)
            have q46x15 : z46x5 = z46x15 := (e46x5).trans e46x15.symm
            subst q46x15
            refine g_aload_n 17 (gd rfl) rfl rfl ?_
            refine g_getA (q2 := 5) 20 (gd rfl) rfl rfl rfl rfl ?_
            refine g_iload_n 21 (gd rfl) rfl rfl ?_
            refine g_iaload 22 (gd rfl) rfl (n := 160) rfl (in_ix i34 rfl) (fun z46x21 e46x21 => ?_)
            have i46x21 := inv_I hIc28 (n := 160) (t := 0) 0 31 rfl (in_ix i34 rfl) rfl e46x21
            refine g_cmp_eq 25 29 (gd rfl) rfl rfl (fun c46x22 => ?_) (fun c46x22 => ?_)
            · skip
              refine g_iconst 0 30 (gd rfl) rfl rfl ?_
              refine g_ireturn (gd rfl) rfl (nb01 (in_w 0 1 (in_c 0 rfl) rfl)) (hp46 _ _ ?_)
              show GG _ _ _ _ _ _ _ _ [.int (Int32.ofInt 0)] _ _ _
              refine g_if_eq 52 100 (gd rfl) rfl rfl (fun c49 => ?_) (fun c49 => ?_)
              · skip
                refine g_iinc 103 (gd rfl) rfl rfl (Nat.le_of_ble_eq_true rfl) (fun z100 e100 => ?_)
                have i100 := in_add 1 160 e100 i34 (in_c 1 rfl) rfl rfl
                refine g_goto 28 (gd rfl) rfl ?_
                have n28 : (y28_3) = s.1 4 (x2).toNatClampNeg := by exact g28_0
                have n28a : (y28_4) = s.1 5 (x2).toNatClampNeg := by exact g28_1
                have n28b : (y28_3).toInt ≠ (y28_4).toInt := by exact g28_2
                have n28c : BRN (gvC s) (x2).toNatClampNeg (y28_3).toInt (y28_4).toInt (z100).toInt.toNat := by rw [show (z100).toInt.toNat = (y28_5).toInt.toNat + 1 from (by exact (have a0 := in_u h2; have a1 := in_u i34a; have a2 := in_u i34; have a3 := in_u j28_4; have a4 := in_u j28_3; have a5 := in_u i100; have a6 := t_add e100 i34 (in_c 1 rfl) rfl; have a7 := in_u ((in_c 1 rfl)); have oc := oc_142_56_2; by omega))]; exact brn_s g28_3 (e46x5.trans (congrFun (hFc28.1 4 rfl) _)) (e46x21.trans (congrFun (hFc28.1 5 rfl) _)) i46x7.1 (by exact (have a0 := in_u h2; have a1 := in_u i34a; have a2 := in_u i34; have a3 := in_u j28_4; have a4 := in_u j28_3; have a5 := in_u i100; have a6 := t_add e100 i34 (in_c 1 rfl) rfl; have a7 := in_u ((in_c 1 rfl)); have oc := oc_142_56_2; by omega))
                exact gg_w (by first | exact Nat.le_add_right _ _ | exact gw2 | exact gw3 | exact gwe rfl | exact gwf rfl | exact gwg rfl | exact gwh rfl | omega) (gg_f (gf_cons rfl (gf_cons rfl (gf_cons rfl (gf_cons rfl (gf_cons rfl (gf_cons rfl gf_nil)))))) (ih28 sc28 y28_3 y28_4 z100 hIc28 hFc28 (in_w 0 31 j28_3 rfl) (in_w 0 31 j28_4 rfl) (in_w 0 160 i100 rfl) n28 n28a n28b n28c (m_up mm28 (t_add e100 i34 (in_c 1 rfl) rfl) (in_w 1 1 (in_c 1 rfl) rfl))))
              · skip
                exact zn_ne c49 (in_c 0 rfl) rfl
            · skip
              refine g_iconst 1 26 (gd rfl) rfl rfl ?_
              refine g_goto 30 (gd rfl) rfl ?_
              refine g_ireturn (gd rfl) rfl (nb01 (in_w 0 1 (in_c 1 rfl) rfl)) (hp46 _ _ ?_)
              show GG _ _ _ _ _ _ _ _ [.int (Int32.ofInt 1)] _ _ _
              refine g_if_eq 52 100 (gd rfl) rfl rfl (fun c49 => ?_) (fun c49 => ?_)
              · skip
                exact zn_eq c49 (in_c 1 rfl) rfl
              · skip
                refine g_aload_n 53 (gd rfl) rfl rfl ?_
                refine g_getA (q2 := 4) 56 (gd rfl) rfl rfl rfl rfl ?_
                refine g_iload 58 (gd rfl) rfl rfl ?_
                refine g_iaload 59 (gd rfl) rfl (n := 160) rfl (in_ix i34 rfl) (fun z58 e58 => ?_)
                have q58 : z46x5 = z58 := (e46x5).trans e58.symm
                subst q58
                refine g_iload_n 60 (gd rfl) rfl rfl ?_
                refine g_cmp_ne 63 75 (gd rfl) rfl rfl (fun c60 => ?_) (fun c60 => ?_)
                · skip
                  refine g_aload_n 76 (gd rfl) rfl rfl ?_
                  refine g_getA (q2 := 4) 79 (gd rfl) rfl rfl rfl rfl ?_
                  refine g_iload 81 (gd rfl) rfl rfl ?_
                  refine g_iaload 82 (gd rfl) rfl (n := 160) rfl (in_ix i34 rfl) (fun z81 e81 => ?_)
                  have q81 : z46x5 = z81 := (e46x5).trans e81.symm
                  subst q81
                  refine g_iload 84 (gd rfl) rfl rfl ?_
                  refine g_cmp_ne 87 100 (gd rfl) rfl rfl (fun c84 => ?_) (fun c84 => ?_)
                  · skip
                    refine g_iinc 103 (gd rfl) rfl rfl (Nat.le_of_ble_eq_true rfl) (fun z100 e100 => ?_)
                    have i100 := in_add 1 160 e100 i34 (in_c 1 rfl) rfl rfl
                    refine g_goto 28 (gd rfl) rfl ?_
                    have n28 : (y28_3) = s.1 4 (x2).toNatClampNeg := by exact g28_0
                    have n28a : (y28_4) = s.1 5 (x2).toNatClampNeg := by exact g28_1
                    have n28b : (y28_3).toInt ≠ (y28_4).toInt := by exact g28_2
                    have n28c : BRN (gvC s) (x2).toNatClampNeg (y28_3).toInt (y28_4).toInt (z100).toInt.toNat := by rw [show (z100).toInt.toNat = (y28_5).toInt.toNat + 1 from (by exact (have a0 := in_u h2; have a1 := in_u i34a; have a2 := in_u i34; have a3 := in_u j28_4; have a4 := in_u j28_3; have a5 := in_u i100; have a6 := t_add e100 i34 (in_c 1 rfl) rfl; have a7 := in_u ((in_c 1 rfl)); have oc := oc_142_56_2; by omega))]; exact brn_s g28_3 (e46x5.trans (congrFun (hFc28.1 4 rfl) _)) (e46x21.trans (congrFun (hFc28.1 5 rfl) _)) i46x7.1 (by exact (have a0 := in_u h2; have a1 := in_u i34a; have a2 := in_u i34; have a3 := in_u j28_4; have a4 := in_u j28_3; have a5 := in_u i100; have a6 := t_add e100 i34 (in_c 1 rfl) rfl; have a7 := in_u ((in_c 1 rfl)); have oc := oc_142_56_2; by omega))
                    exact gg_w (by first | exact Nat.le_add_right _ _ | exact gw2 | exact gw3 | exact gwe rfl | exact gwf rfl | exact gwg rfl | exact gwh rfl | omega) (gg_f (gf_cons rfl (gf_cons rfl (gf_cons rfl (gf_cons rfl (gf_cons rfl (gf_cons rfl gf_nil)))))) (ih28 sc28 y28_3 y28_4 z100 hIc28 hFc28 (in_w 0 31 j28_3 rfl) (in_w 0 31 j28_4 rfl) (in_w 0 160 i100 rfl) n28 n28a n28b n28c (m_up mm28 (t_add e100 i34 (in_c 1 rfl) rfl) (in_w 1 1 (in_c 1 rfl) rfl))))
                  · skip
                    refine g_aload_n 88 (gd rfl) rfl rfl ?_
                    refine g_getA (q2 := 5) 91 (gd rfl) rfl rfl rfl rfl ?_
                    refine g_iload 93 (gd rfl) rfl rfl ?_
                    refine g_iaload 94 (gd rfl) rfl (n := 160) rfl (in_ix i34 rfl) (fun z93 e93 => ?_)
                    have q93 : z46x21 = z93 := (e46x21).trans e93.symm
                    subst q93
                    refine g_iload_n 95 (gd rfl) rfl rfl ?_
                    refine g_cmp_ne 98 100 (gd rfl) rfl rfl (fun c95 => ?_) (fun c95 => ?_)
                    · skip
                      refine g_iinc 103 (gd rfl) rfl rfl (Nat.le_of_ble_eq_true rfl) (fun z100 e100 => ?_)
                      have i100 := in_add 1 160 e100 i34 (in_c 1 rfl) rfl rfl
                      refine g_goto 28 (gd rfl) rfl ?_
                      have n28 : (y28_3) = s.1 4 (x2).toNatClampNeg := by exact g28_0
                      have n28a : (y28_4) = s.1 5 (x2).toNatClampNeg := by exact g28_1
                      have n28b : (y28_3).toInt ≠ (y28_4).toInt := by exact g28_2
                      have n28c : BRN (gvC s) (x2).toNatClampNeg (y28_3).toInt (y28_4).toInt (z100).toInt.toNat := by rw [show (z100).toInt.toNat = (y28_5).toInt.toNat + 1 from (by exact (have a0 := in_u h2; have a1 := in_u i34a; have a2 := in_u i34; have a3 := in_u j28_4; have a4 := in_u j28_3; have a5 := in_u i100; have a6 := t_add e100 i34 (in_c 1 rfl) rfl; have a7 := in_u ((in_c 1 rfl)); have oc := oc_142_56_2; by omega))]; exact brn_s g28_3 (e46x5.trans (congrFun (hFc28.1 4 rfl) _)) (e46x21.trans (congrFun (hFc28.1 5 rfl) _)) i46x7.1 (by exact (have a0 := in_u h2; have a1 := in_u i34a; have a2 := in_u i34; have a3 := in_u j28_4; have a4 := in_u j28_3; have a5 := in_u i100; have a6 := t_add e100 i34 (in_c 1 rfl) rfl; have a7 := in_u ((in_c 1 rfl)); have oc := oc_142_56_2; by omega))
                      exact gg_w (by first | exact Nat.le_add_right _ _ | exact gw2 | exact gw3 | exact gwe rfl | exact gwf rfl | exact gwg rfl | exact gwh rfl | omega) (gg_f (gf_cons rfl (gf_cons rfl (gf_cons rfl (gf_cons rfl (gf_cons rfl (gf_cons rfl gf_nil)))))) (ih28 sc28 y28_3 y28_4 z100 hIc28 hFc28 (in_w 0 31 j28_3 rfl) (in_w 0 31 j28_4 rfl) (in_w 0 160 i100 rfl) n28 n28a n28b n28c (m_up mm28 (t_add e100 i34 (in_c 1 rfl) rfl) (in_w 1 1 (in_c 1 rfl) rfl))))
                    · skip
                      refine g_iconst 0 99 (gd rfl) rfl rfl ?_
                      have n99 : (((Int32.ofInt 0)).toInt ≠ 0 ↔ BRG (gvC s) x2.toNatClampNeg) := by exact ⟨fun h => absurd rfl h, fun h => absurd h (brg_par (show (x2).toNatClampNeg < 160 from (by show (x2).toInt.toNat < 160; exact (have a0 := in_u h2; have a1 := in_u i34a; have a2 := in_u i34; have a3 := in_u j28_4; have a4 := in_u j28_3; have oc := oc_142_56_2; by omega))) (show (y28_5).toInt.toNat < 160 from (by exact (have a0 := in_u h2; have a1 := in_u i34a; have a2 := in_u i34; have a3 := in_u j28_4; have a4 := in_u j28_3; have oc := oc_142_56_2; by omega))) (show (y28_5).toInt.toNat ≠ (x2).toNatClampNeg from (by show (y28_5).toInt.toNat ≠ (x2).toInt.toNat; exact (have a0 := in_u h2; have a1 := in_u i34a; have a2 := in_u i34; have a3 := in_u j28_4; have a4 := in_u j28_3; have oc := oc_142_56_2; by omega))) g28_0 g28_1 j28_3 j28_4 (e46x5.trans (congrFun (hFc28.1 4 rfl) _)) (e46x21.trans (congrFun (hFc28.1 5 rfl) _)) (by exact (have a0 := in_u h2; have a1 := in_u i34a; have a2 := in_u i34; have a3 := in_u j28_4; have a4 := in_u j28_3; have oc := oc_142_56_2; by omega)) (by exact (have a0 := in_u h2; have a1 := in_u i34a; have a2 := in_u i34; have a3 := in_u j28_4; have a4 := in_u j28_3; have oc := oc_142_56_2; by omega)))⟩
                      exact g_ireturn (gd rfl) rfl (nb01 (in_w 0 1 (in_c 0 rfl) rfl)) (hP _ _ ⟨sc28, hIc28, hFc28, (Int32.ofInt 0), rfl, rfl, in_w 0 1 (in_c 0 rfl) rfl, n99⟩)
                · skip
                  refine g_aload_n 64 (gd rfl) rfl rfl ?_
                  refine g_getA (q2 := 5) 67 (gd rfl) rfl rfl rfl rfl ?_
                  refine g_iload 69 (gd rfl) rfl rfl ?_
                  refine g_iaload 70 (gd rfl) rfl (n := 160) rfl (in_ix i34 rfl) (fun z69 e69 => ?_)
                  have q69 : z46x21 = z69 := (e46x21).trans e69.symm
                  subst q69
                  refine g_iload 72 (gd rfl) rfl rfl ?_
                  refine g_cmp_eq 75 98 (gd rfl) rfl rfl (fun c72 => ?_) (fun c72 => ?_)
                  · skip
                    refine g_iconst 0 99 (gd rfl) rfl rfl ?_
                    have n99 : (((Int32.ofInt 0)).toInt ≠ 0 ↔ BRG (gvC s) x2.toNatClampNeg) := by exact ⟨fun h => absurd rfl h, fun h => absurd h (brg_par (show (x2).toNatClampNeg < 160 from (by show (x2).toInt.toNat < 160; exact (have a0 := in_u h2; have a1 := in_u i34a; have a2 := in_u i34; have a3 := in_u j28_4; have a4 := in_u j28_3; have oc := oc_142_56_2; by omega))) (show (y28_5).toInt.toNat < 160 from (by exact (have a0 := in_u h2; have a1 := in_u i34a; have a2 := in_u i34; have a3 := in_u j28_4; have a4 := in_u j28_3; have oc := oc_142_56_2; by omega))) (show (y28_5).toInt.toNat ≠ (x2).toNatClampNeg from (by show (y28_5).toInt.toNat ≠ (x2).toInt.toNat; exact (have a0 := in_u h2; have a1 := in_u i34a; have a2 := in_u i34; have a3 := in_u j28_4; have a4 := in_u j28_3; have oc := oc_142_56_2; by omega))) g28_0 g28_1 j28_3 j28_4 (e46x5.trans (congrFun (hFc28.1 4 rfl) _)) (e46x21.trans (congrFun (hFc28.1 5 rfl) _)) (by exact (have a0 := in_u h2; have a1 := in_u i34a; have a2 := in_u i34; have a3 := in_u j28_4; have a4 := in_u j28_3; have oc := oc_142_56_2; by omega)) (by exact (have a0 := in_u h2; have a1 := in_u i34a; have a2 := in_u i34; have a3 := in_u j28_4; have a4 := in_u j28_3; have oc := oc_142_56_2; by omega)))⟩
                    exact g_ireturn (gd rfl) rfl (nb01 (in_w 0 1 (in_c 0 rfl) rfl)) (hP _ _ ⟨sc28, hIc28, hFc28, (Int32.ofInt 0), rfl, rfl, in_w 0 1 (in_c 0 rfl) rfl, n99⟩)
                  · skip
                    refine g_aload_n 76 (gd rfl) rfl rfl ?_
                    refine g_getA (q2 := 4) 79 (gd rfl) rfl rfl rfl rfl ?_
                    refine g_iload 81 (gd rfl) rfl rfl ?_
                    refine g_iaload 82 (gd rfl) rfl (n := 160) rfl (in_ix i34 rfl) (fun z81 e81 => ?_)
                    have q81 : z46x5 = z81 := (e46x5).trans e81.symm
                    subst q81
                    refine g_iload 84 (gd rfl) rfl rfl ?_
                    refine g_cmp_ne 87 100 (gd rfl) rfl rfl (fun c84 => ?_) (fun c84 => ?_)
                    · skip
                      refine g_iinc 103 (gd rfl) rfl rfl (Nat.le_of_ble_eq_true rfl) (fun z100 e100 => ?_)
                      have i100 := in_add 1 160 e100 i34 (in_c 1 rfl) rfl rfl
                      refine g_goto 28 (gd rfl) rfl ?_
                      have n28 : (y28_3) = s.1 4 (x2).toNatClampNeg := by exact g28_0
                      have n28a : (y28_4) = s.1 5 (x2).toNatClampNeg := by exact g28_1
                      have n28b : (y28_3).toInt ≠ (y28_4).toInt := by exact g28_2
                      have n28c : BRN (gvC s) (x2).toNatClampNeg (y28_3).toInt (y28_4).toInt (z100).toInt.toNat := by rw [show (z100).toInt.toNat = (y28_5).toInt.toNat + 1 from (by exact (have a0 := in_u h2; have a1 := in_u i34a; have a2 := in_u i34; have a3 := in_u j28_4; have a4 := in_u j28_3; have a5 := in_u i100; have a6 := t_add e100 i34 (in_c 1 rfl) rfl; have a7 := in_u ((in_c 1 rfl)); have oc := oc_142_56_2; by omega))]; exact brn_s g28_3 (e46x5.trans (congrFun (hFc28.1 4 rfl) _)) (e46x21.trans (congrFun (hFc28.1 5 rfl) _)) i46x7.1 (by exact (have a0 := in_u h2; have a1 := in_u i34a; have a2 := in_u i34; have a3 := in_u j28_4; have a4 := in_u j28_3; have a5 := in_u i100; have a6 := t_add e100 i34 (in_c 1 rfl) rfl; have a7 := in_u ((in_c 1 rfl)); have oc := oc_142_56_2; by omega))
                      exact gg_w (by first | exact Nat.le_add_right _ _ | exact gw2 | exact gw3 | exact gwe rfl | exact gwf rfl | exact gwg rfl | exact gwh rfl | omega) (gg_f (gf_cons rfl (gf_cons rfl (gf_cons rfl (gf_cons rfl (gf_cons rfl (gf_cons rfl gf_nil)))))) (ih28 sc28 y28_3 y28_4 z100 hIc28 hFc28 (in_w 0 31 j28_3 rfl) (in_w 0 31 j28_4 rfl) (in_w 0 160 i100 rfl) n28 n28a n28b n28c (m_up mm28 (t_add e100 i34 (in_c 1 rfl) rfl) (in_w 1 1 (in_c 1 rfl) rfl))))
                    · skip
                      refine g_aload_n 88 (gd rfl) rfl rfl ?_
                      refine g_getA (q2 := 5) 91 (gd rfl) rfl rfl rfl rfl ?_
                      refine g_iload 93 (gd rfl) rfl rfl ?_
                      refine g_iaload 94 (gd rfl) rfl (n := 160) rfl (in_ix i34 rfl) (fun z93 e93 => ?_)
                      have q93 : z46x21 = z93 := (e46x21).trans e93.symm
                      subst q93
                      refine g_iload_n 95 (gd rfl) rfl rfl ?_
                      refine g_cmp_ne 98 100 (gd rfl) rfl rfl (fun c95 => ?_) (fun c95 => ?_)
                      · skip
                        refine g_iinc 103 (gd rfl) rfl rfl (Nat.le_of_ble_eq_true rfl) (fun z100 e100 => ?_)
                        have i100 := in_add 1 160 e100 i34 (in_c 1 rfl) rfl rfl
                        refine g_goto 28 (gd rfl) rfl ?_
                        have n28 : (y28_3) = s.1 4 (x2).toNatClampNeg := by exact g28_0
                        have n28a : (y28_4) = s.1 5 (x2).toNatClampNeg := by exact g28_1
                        have n28b : (y28_3).toInt ≠ (y28_4).toInt := by exact g28_2
                        have n28c : BRN (gvC s) (x2).toNatClampNeg (y28_3).toInt (y28_4).toInt (z100).toInt.toNat := by rw [show (z100).toInt.toNat = (y28_5).toInt.toNat + 1 from (by exact (have a0 := in_u h2; have a1 := in_u i34a; have a2 := in_u i34; have a3 := in_u j28_4; have a4 := in_u j28_3; have a5 := in_u i100; have a6 := t_add e100 i34 (in_c 1 rfl) rfl; have a7 := in_u ((in_c 1 rfl)); have oc := oc_142_56_2; by omega))]; exact brn_s g28_3 (e46x5.trans (congrFun (hFc28.1 4 rfl) _)) (e46x21.trans (congrFun (hFc28.1 5 rfl) _)) i46x7.1 (by exact (have a0 := in_u h2; have a1 := in_u i34a; have a2 := in_u i34; have a3 := in_u j28_4; have a4 := in_u j28_3; have a5 := in_u i100; have a6 := t_add e100 i34 (in_c 1 rfl) rfl; have a7 := in_u ((in_c 1 rfl)); have oc := oc_142_56_2; by omega))
                        exact gg_w (by first | exact Nat.le_add_right _ _ | exact gw2 | exact gw3 | exact gwe rfl | exact gwf rfl | exact gwg rfl | exact gwh rfl | omega) (gg_f (gf_cons rfl (gf_cons rfl (gf_cons rfl (gf_cons rfl (gf_cons rfl (gf_cons rfl gf_nil)))))) (ih28 sc28 y28_3 y28_4 z100 hIc28 hFc28 (in_w 0 31 j28_3 rfl) (in_w 0 31 j28_4 rfl) (in_w 0 160 i100 rfl) n28 n28a n28b n28c (m_up mm28 (t_add e100 i34 (in_c 1 rfl) rfl) (in_w 1 1 (in_c 1 rfl) rfl))))
                      · skip
                        refine g_iconst 0 99 (gd rfl) rfl rfl ?_
                        have n99 : (((Int32.ofInt 0)).toInt ≠ 0 ↔ BRG (gvC s) x2.toNatClampNeg) := by exact ⟨fun h => absurd rfl h, fun h => absurd h (brg_par (show (x2).toNatClampNeg < 160 from (by show (x2).toInt.toNat < 160; exact (have a0 := in_u h2; have a1 := in_u i34a; have a2 := in_u i34; have a3 := in_u j28_4; have a4 := in_u j28_3; have oc := oc_142_56_2; by omega))) (show (y28_5).toInt.toNat < 160 from (by exact (have a0 := in_u h2; have a1 := in_u i34a; have a2 := in_u i34; have a3 := in_u j28_4; have a4 := in_u j28_3; have oc := oc_142_56_2; by omega))) (show (y28_5).toInt.toNat ≠ (x2).toNatClampNeg from (by show (y28_5).toInt.toNat ≠ (x2).toInt.toNat; exact (have a0 := in_u h2; have a1 := in_u i34a; have a2 := in_u i34; have a3 := in_u j28_4; have a4 := in_u j28_3; have oc := oc_142_56_2; by omega))) g28_0 g28_1 j28_3 j28_4 (e46x5.trans (congrFun (hFc28.1 4 rfl) _)) (e46x21.trans (congrFun (hFc28.1 5 rfl) _)) (by exact (have a0 := in_u h2; have a1 := in_u i34a; have a2 := in_u i34; have a3 := in_u j28_4; have a4 := in_u j28_3; have oc := oc_142_56_2; by omega)) (by exact (have a0 := in_u h2; have a1 := in_u i34a; have a2 := in_u i34; have a3 := in_u j28_4; have a4 := in_u j28_3; have oc := oc_142_56_2; by omega)))⟩
                        exact g_ireturn (gd rfl) rfl (nb01 (in_w 0 1 (in_c 0 rfl) rfl)) (hP _ _ ⟨sc28, hIc28, hFc28, (Int32.ofInt 0), rfl, rfl, in_w 0 1 (in_c 0 rfl) rfl, n99⟩)
  refine g_enter2 (k := 142) (N := 145801) (by first | exact dq1 hd rfl | exact dq0 hd rfl | exact dq2 hd rfl | exact dq3 hd rfl | omega) rfl (Nat.le_of_ble_eq_true rfl) ?_
  refine g_aload_n 1 (gd rfl) rfl rfl ?_
  refine g_iload_n 2 (gd rfl) rfl rfl ?_
  refine g_callv (X := _) (As := [.int x2]) (r := []) (b := A 2) (q := 2) 5 (gd rfl) rfl rfl rfl rfl rfl (ww_o rfl) (Nat.le_of_ble_eq_true rfl) (mc := 0) (ms := 0) (Nat.zero_le _) (Nat.zero_le _) (P := fun v u => _) ?_ (fun e u h => h) (fun v u h => h)
  intro po2 xx2 hp2 hx2
  refine g_enter2 (k := 97) (N := 300) (by first | exact dq1 hd rfl | exact dq0 hd rfl | exact dq2 hd rfl | exact dq3 hd rfl | omega) rfl (Nat.le_of_ble_eq_true rfl) ?_
  refine g_aload_n 1 (gd rfl) rfl rfl ?_
  refine g_getA (q2 := 4) 4 (gd rfl) rfl rfl rfl rfl ?_
  refine g_iload_n 5 (gd rfl) rfl rfl ?_
  refine g_iaload 6 (gd rfl) rfl (n := 160) rfl (in_ix h2 rfl) (fun z2x5 e2x5 => ?_)
  have i2x5 := inv_I hI (n := 160) (t := 0) (-1) 31 rfl (in_ix h2 rfl) rfl e2x5
  refine g_iconst (-1) 7 (gd rfl) rfl rfl ?_
  refine g_cmp_eq 10 29 (gd rfl) rfl rfl (fun c2x7 => ?_) (fun c2x7 => ?_)
  · skip
    have i2x7 := r_eq1 (-1) (-1) c2x7 i2x5 (in_c (-1) rfl) rfl
    refine g_iconst 0 30 (gd rfl) rfl rfl ?_
    refine g_ireturn (gd rfl) rfl (nb01 (in_w 0 1 (in_c 0 rfl) rfl)) (hp2 _ _ ?_)
    show GG _ _ _ _ _ _ _ _ [.int (Int32.ofInt 0)] _ _ _
    refine g_if_ne 8 10 (gd rfl) rfl rfl (fun c5 => ?_) (fun c5 => ?_)
    · skip
      exact zn_ne c5 (in_c 0 rfl) rfl
    · skip
      refine g_iconst 0 9 (gd rfl) rfl rfl ?_
      have n9 : (((Int32.ofInt 0)).toInt ≠ 0 ↔ BRG (gvC s) x2.toNatClampNeg) := by exact ⟨fun h => absurd rfl h, fun h => absurd h (brg_m1 (show (s.1 4 (x2).toNatClampNeg).toInt = -1 from (by rw [← e2x5]; exact (have a0 := in_u ro_2_3; have a1 := in_u h2; have oc := oc_142_56_2; by omega))))⟩
      exact g_ireturn (gd rfl) rfl (nb01 (in_w 0 1 (in_c 0 rfl) rfl)) (hP _ _ ⟨s, hI, fr_rf, (Int32.ofInt 0), rfl, rfl, in_w 0 1 (in_c 0 rfl) rfl, n9⟩)
  · skip
    have i2x7 := r_ne1 0 31 c2x7 i2x5 (in_c (-1) rfl) rfl
    refine g_aload_n 11 (gd rfl) rfl rfl ?_
    refine g_getA (q2 := 4) 14 (gd rfl) rfl rfl rfl rfl ?_
    refine g_iload_n 15 (gd rfl) rfl rfl ?_
    refine g_iaload 16 (gd rfl) rfl (n := 160) rfl (in_ix h2 rfl) (fun z2x15 e2x15 => ?_)
    have q2x15 : z2x5 = z2x15 := (e2x5).trans e2x15.symm
    subst q2x15
    refine g_aload_n 17 (gd rfl) rfl rfl ?_
    refine g_getA (q2 := 5) 20 (gd rfl) rfl rfl rfl rfl ?_
    refine g_iload_n 21 (gd rfl) rfl rfl ?_
    refine g_iaload 22 (gd rfl) rfl (n := 160) rfl (in_ix h2 rfl) (fun z2x21 e2x21 => ?_)
    have i2x21 := inv_I hI (n := 160) (t := 0) 0 31 rfl (in_ix h2 rfl) rfl e2x21
    refine g_cmp_eq 25 29 (gd rfl) rfl rfl (fun c2x22 => ?_) (fun c2x22 => ?_)
    · skip
      refine g_iconst 0 30 (gd rfl) rfl rfl ?_
      refine g_ireturn (gd rfl) rfl (nb01 (in_w 0 1 (in_c 0 rfl) rfl)) (hp2 _ _ ?_)
      show GG _ _ _ _ _ _ _ _ [.int (Int32.ofInt 0)] _ _ _
      refine g_if_ne 8 10 (gd rfl) rfl rfl (fun c5 => ?_) (fun c5 => ?_)
      · skip
        exact zn_ne c5 (in_c 0 rfl) rfl
      · skip
        refine g_iconst 0 9 (gd rfl) rfl rfl ?_
        have n9 : (((Int32.ofInt 0)).toInt ≠ 0 ↔ BRG (gvC s) x2.toNatClampNeg) := by exact ⟨fun h => absurd rfl h, fun h => absurd h (brg_lp (show (x2).toNatClampNeg < 160 from (by show (x2).toInt.toNat < 160; exact (have a0 := in_u ro_2_3; have a1 := in_u h2; have oc := oc_142_56_2; by omega))) e2x5 e2x21 i2x7.1 (by exact (have a0 := in_u ro_2_3; have a1 := in_u h2; have oc := oc_142_56_2; by omega)))⟩
        exact g_ireturn (gd rfl) rfl (nb01 (in_w 0 1 (in_c 0 rfl) rfl)) (hP _ _ ⟨s, hI, fr_rf, (Int32.ofInt 0), rfl, rfl, in_w 0 1 (in_c 0 rfl) rfl, n9⟩)
    · skip
      refine g_iconst 1 26 (gd rfl) rfl rfl ?_
      refine g_goto 30 (gd rfl) rfl ?_
      refine g_ireturn (gd rfl) rfl (nb01 (in_w 0 1 (in_c 1 rfl) rfl)) (hp2 _ _ ?_)
      show GG _ _ _ _ _ _ _ _ [.int (Int32.ofInt 1)] _ _ _
      refine g_if_ne 8 10 (gd rfl) rfl rfl (fun c5 => ?_) (fun c5 => ?_)
      · skip
        refine g_aload_n 11 (gd rfl) rfl rfl ?_
        refine g_getA (q2 := 4) 14 (gd rfl) rfl rfl rfl rfl ?_
        refine g_iload_n 15 (gd rfl) rfl rfl ?_
        refine g_iaload 16 (gd rfl) rfl (n := 160) rfl (in_ix h2 rfl) (fun z15 e15 => ?_)
        have q15 : z2x5 = z15 := (e2x5).trans e15.symm
        subst q15
        refine g_istore_n 17 (gd rfl) rfl (Nat.le_of_ble_eq_true rfl) ?_
        refine g_aload_n 18 (gd rfl) rfl rfl ?_
        refine g_getA (q2 := 5) 21 (gd rfl) rfl rfl rfl rfl ?_
        refine g_iload_n 22 (gd rfl) rfl rfl ?_
        refine g_iaload 23 (gd rfl) rfl (n := 160) rfl (in_ix h2 rfl) (fun z22 e22 => ?_)
        have q22 : z2x21 = z22 := (e2x21).trans e22.symm
        subst q22
        refine g_istore 25 (gd rfl) rfl (Nat.le_of_ble_eq_true rfl) ?_
        refine g_iconst 0 26 (gd rfl) rfl rfl ?_
        refine g_istore 28 (gd rfl) rfl (Nat.le_of_ble_eq_true rfl) ?_
        have n28 : (z2x5) = s.1 4 (x2).toNatClampNeg := by exact e15
        have n28a : (z2x21) = s.1 5 (x2).toNatClampNeg := by exact e22
        have n28b : (z2x5).toInt ≠ (z2x21).toInt := by exact c2x22
        have n28c : BRN (gvC s) (x2).toNatClampNeg (z2x5).toInt (z2x21).toInt ((Int32.ofInt 0)).toInt.toNat := by exact brn_0
        exact gg_w (by first | exact Nat.le_of_ble_eq_true rfl | omega) (gg_f (gf_cons rfl (gf_cons rfl (gf_cons rfl (gf_cons rfl (gf_cons rfl (gf_cons rfl gf_nil)))))) (ct28 161 s z2x5 z2x21 (Int32.ofInt 0) hI fr_rf (in_w 0 31 i2x7 rfl) (in_w 0 31 i2x21 rfl) (in_w 0 160 (in_c 0 rfl) rfl) n28 n28a n28b n28c (m_in 161 (in_w 0 160 (in_c 0 rfl) rfl) rfl)))
      · skip
        exact zn_eq c5 (in_c 1 rfl) rfl

theorem oc_142_56_32 : (Int32.ofInt (-1)).toInt = (-1) ∧ (Int32.ofInt 0).toInt = 0 ∧ (Int32.ofInt 1).toInt = 1 := ⟨rfl, rfl, rfl⟩
/-- GraphHouse$Parts.isBridge -/
theorem f_142_56_32 {Z : AmZ} {A : Nat → Nat} {s : GS} {ex : va_W} {d : Nat} {X : AmX} {x2 : Int32} (hd : 5 ≤ d) (hI : Inv s) (h2 : In x2 0 159) (q_0 : TQD s) : GC Z d 142 [.ref (A 56), .ref (A 32), .int x2] (WW Z A s ++ ex) 0 0 (fun v u => ∃ t : GS, Inv t ∧ Fr fm_142_56_32 s t ∧ ∃ z : Int32, v = some (.int z) ∧ u = WW Z A t ++ ex ∧ In z 0 1 ∧ (((z).toInt ≠ 0 ↔ BRG (gvD s) x2.toNatClampNeg))) X := by
  intro post xp hP hX
  obtain ⟨u_32_3, e_32_3⟩ : ∃ w, w = s.2.2.1 32 3 := ⟨_, rfl⟩
  have ro_32_3 := inv_F hI 0 160 rfl e_32_3
  have ct28 : ∀ (k28 : Nat) (sc28 : GS) (y28_3 : Int32) (y28_4 : Int32) (y28_5 : Int32), Inv sc28 → Fr fm_142_56_32 s sc28 → (In y28_3 0 31) → (In y28_4 0 31) → (In y28_5 0 160) → ((y28_3) = s.1 34 (x2).toNatClampNeg) → ((y28_4) = s.1 35 (x2).toNatClampNeg) → ((y28_3).toInt ≠ (y28_4).toInt) → (BRN (gvD s) (x2).toNatClampNeg (y28_3).toInt (y28_4).toInt (y28_5).toInt.toNat) → 160 - (y28_5).toInt < (k28 : Int) → GG Z (d - 1) 142 post (gx xp) (1 + k28 * 900) 28 (fun j => xlook j [(0, .ref (A 56)), (1, .ref (A 32)), (2, .int x2), (3, .int y28_3), (4, .int y28_4), (5, .int y28_5)]) [] (WW Z A sc28 ++ ex) 0 0 := by
    intro k28
    induction k28 with
    | zero => intro sc28 y28_3 y28_4 y28_5 hIc28 hFc28 j28_3 j28_4 j28_5 g28_0 g28_1 g28_2 g28_3 mm28; exact m_no mm28 j28_5 rfl
    | succ k28 ih28 =>
      intro sc28 y28_3 y28_4 y28_5 hIc28 hFc28 j28_3 j28_4 j28_5 g28_0 g28_1 g28_2 g28_3 mm28
      refine gg_w (M := 1 + k28 * 900 + 900) gws ?_
      refine g_iload 30 (gd rfl) rfl rfl ?_
      refine g_aload_n 31 (gd rfl) rfl rfl ?_
      refine g_getI 34 (gd rfl) rfl rfl rfl (fun z31 e31 => ?_)
      have q31 : u_32_3 = z31 := (fr_F e_32_3 hFc28 rfl).trans e31.symm
      subst q31
      refine g_cmp_ge 37 106 (gd rfl) rfl rfl (fun c34 => ?_) (fun c34 => ?_)
      · skip
        refine g_aload_n 107 (gd rfl) rfl rfl ?_
        refine g_callv (X := _) (As := []) (r := []) (b := A 32) (q := 32) 110 (gd rfl) rfl rfl rfl rfl rfl (ww_o rfl) (Nat.le_of_ble_eq_true rfl) (Nat.zero_le _) (Nat.zero_le _) (k_106_32 (by first | exact dq1 hd rfl | exact dq0 hd rfl | exact dq2 hd rfl | exact dq3 hd rfl | omega) hIc28 ) (fun e u h => h) (fun v u h => ?_)
        obtain ⟨s107, hI107, hF107, n107, rfl, rfl⟩ := h
        obtain ⟨z107a, e107⟩ : ∃ w, w = s107.2.2.1 32 4 := ⟨_, rfl⟩
        have i107a := inv_F hI107 (-1) 4000 rfl e107
        obtain ⟨z107b, e107a⟩ : ∃ w, w = s107.2.2.1 32 0 := ⟨_, rfl⟩
        have i107b := inv_F hI107 0 4000 rfl e107a
        rw [← (show z107a = s107.2.2.1 32 4 from e107)] at n107
        rw [← (show z107b = s107.2.2.1 32 0 from e107a)] at n107
        show GG _ _ _ _ _ _ _ _ [] _ _ _
        refine g_aload_n 111 (gd rfl) rfl rfl ?_
        refine g_getA (q2 := 39) 114 (gd rfl) rfl rfl rfl rfl ?_
        refine g_aload_n 115 (gd rfl) rfl rfl ?_
        refine g_getA (q2 := 39) 118 (gd rfl) rfl rfl rfl rfl ?_
        refine g_iload_n 119 (gd rfl) rfl rfl ?_
        refine g_iaload 120 (gd rfl) rfl (n := 32) rfl (in_ix j28_3 rfl) (fun z119 e119 => ?_)
        refine g_iconst 1 121 (gd rfl) rfl rfl ?_
        refine g_iload 123 (gd rfl) rfl rfl ?_
        refine g_ishl 124 (gd rfl) rfl (fun z123 e123 => ?_)
        refine g_iconst (-1) 125 (gd rfl) rfl rfl ?_
        refine g_ixor 126 (gd rfl) rfl (fun z125 e125 => ?_)
        refine g_iand 127 (gd rfl) rfl (fun z126 e126 => ?_)
        refine g_iconst 1 128 (gd rfl) rfl rfl ?_
        refine g_iload_n 129 (gd rfl) rfl rfl ?_
        refine g_ishl 130 (gd rfl) rfl (fun z129 e129 => ?_)
        refine g_iconst (-1) 131 (gd rfl) rfl rfl ?_
        refine g_ixor 132 (gd rfl) rfl (fun z131 e131 => ?_)
        refine g_calls (As := [.ref (A 39), .int z126, .int z131]) (r := []) 135 (gd rfl) rfl rfl rfl rfl rfl (Nat.le_of_ble_eq_true rfl) (Nat.zero_le _) (Nat.zero_le _) (f_266_39 (by first | exact dq1 hd rfl | exact dq0 hd rfl | exact dq2 hd rfl | exact dq3 hd rfl | omega) hI107 ) (fun v u h => ?_)
        obtain ⟨z132, rfl, rfl, i132, p132, p132a⟩ := h
        show GG _ _ _ _ _ _ _ _ [.int z132] _ _ _
        refine g_istore 137 (gd rfl) rfl (Nat.le_of_ble_eq_true rfl) ?_
        refine g_iload 139 (gd rfl) rfl rfl ?_
        refine g_iload 141 (gd rfl) rfl rfl ?_
        refine g_ishr 142 (gd rfl) rfl (fun z141 e141 => ?_)
        refine g_iconst 1 143 (gd rfl) rfl rfl ?_
        refine g_iand 144 (gd rfl) rfl (fun z143 e143 => ?_)
        have i143 := in_and2 e143 (in_c 1 rfl) rfl
        refine g_if_ne 147 151 (gd rfl) rfl rfl (fun c144 => ?_) (fun c144 => ?_)
        · skip
          have i144 := z_ne 1 1 c144 i143 rfl
          refine g_iconst 0 152 (gd rfl) rfl rfl ?_
          have n152 : (((Int32.ofInt 0)).toInt ≠ 0 ↔ BRG (gvD s) x2.toNatClampNeg) := by first | (exact ⟨fun _ => (brg_c (g := (gvD s)) (fe_32 hI107 (show Fr fm_142_56_32 s s107 from fr_tr rfl hFc28 hF107) rfl rfl rfl (by rw [← (show z107a = s107.2.2.1 32 4 from e107), ← (show z107b = s107.2.2.1 32 0 from e107a)]; exact n107) q_0).2.2 j28_3 j28_4 (ar01 (g := (gvD s)) (show (x2).toNatClampNeg < 160 from (by show (x2).toInt.toNat < 160; exact (have a0 := in_u h2; have a1 := in_u ro_32_3; have a2 := in_u j28_5; have a3 := in_u j28_4; have a4 := in_u j28_3; have a5 := in_u i107b; have a6 := in_u i107a; have oc := oc_142_56_32; by omega))) g28_0 g28_1 (by exact (have a0 := in_u h2; have a1 := in_u ro_32_3; have a2 := in_u j28_5; have a3 := in_u j28_4; have a4 := in_u j28_3; have a5 := in_u i107b; have a6 := in_u i107a; have oc := oc_142_56_32; by omega))).1 (ar01 (g := (gvD s)) (show (x2).toNatClampNeg < 160 from (by show (x2).toInt.toNat < 160; exact (have a0 := in_u h2; have a1 := in_u ro_32_3; have a2 := in_u j28_5; have a3 := in_u j28_4; have a4 := in_u j28_3; have a5 := in_u i107b; have a6 := in_u i107a; have oc := oc_142_56_32; by omega))) g28_0 g28_1 (by exact (have a0 := in_u h2; have a1 := in_u ro_32_3; have a2 := in_u j28_5; have a3 := in_u j28_4; have a4 := in_u j28_3; have a5 := in_u i107b; have a6 := in_u i107a; have oc := oc_142_56_32; by omega))).2 g28_2 (brn_e g28_3 j28_3 j28_4 (are_top (T := (s.2.2.1 32 3).toInt) (fun p hp hn => q_0 p hp hn) (by rw [← e_32_3]; exact (have a0 := in_u h2; have a1 := in_u ro_32_3; have a2 := in_u j28_5; have a3 := in_u j28_4; have a4 := in_u j28_3; have a5 := in_u i107b; have a6 := in_u i107a; have oc := oc_142_56_32; by omega)))) e119 e123 e125 e126 e129 e131 p132a).mp (bt_f0 (bt_ask e141 e143 j28_4) c144), fun _ => by decide⟩) | (exact ⟨fun h => absurd rfl h, fun h => by have k := (brg_c (g := (gvD s)) (fe_32 hI107 (show Fr fm_142_56_32 s s107 from fr_tr rfl hFc28 hF107) rfl rfl rfl (by rw [← (show z107a = s107.2.2.1 32 4 from e107), ← (show z107b = s107.2.2.1 32 0 from e107a)]; exact n107) q_0).2.2 j28_3 j28_4 (ar01 (g := (gvD s)) (show (x2).toNatClampNeg < 160 from (by show (x2).toInt.toNat < 160; exact (have a0 := in_u h2; have a1 := in_u ro_32_3; have a2 := in_u j28_5; have a3 := in_u j28_4; have a4 := in_u j28_3; have a5 := in_u i107b; have a6 := in_u i107a; have oc := oc_142_56_32; by omega))) g28_0 g28_1 (by exact (have a0 := in_u h2; have a1 := in_u ro_32_3; have a2 := in_u j28_5; have a3 := in_u j28_4; have a4 := in_u j28_3; have a5 := in_u i107b; have a6 := in_u i107a; have oc := oc_142_56_32; by omega))).1 (ar01 (g := (gvD s)) (show (x2).toNatClampNeg < 160 from (by show (x2).toInt.toNat < 160; exact (have a0 := in_u h2; have a1 := in_u ro_32_3; have a2 := in_u j28_5; have a3 := in_u j28_4; have a4 := in_u j28_3; have a5 := in_u i107b; have a6 := in_u i107a; have oc := oc_142_56_32; by omega))) g28_0 g28_1 (by exact (have a0 := in_u h2; have a1 := in_u ro_32_3; have a2 := in_u j28_5; have a3 := in_u j28_4; have a4 := in_u j28_3; have a5 := in_u i107b; have a6 := in_u i107a; have oc := oc_142_56_32; by omega))).2 g28_2 (brn_e g28_3 j28_3 j28_4 (are_top (T := (s.2.2.1 32 3).toInt) (fun p hp hn => q_0 p hp hn) (by rw [← e_32_3]; exact (have a0 := in_u h2; have a1 := in_u ro_32_3; have a2 := in_u j28_5; have a3 := in_u j28_4; have a4 := in_u j28_3; have a5 := in_u i107b; have a6 := in_u i107a; have oc := oc_142_56_32; by omega)))) e119 e123 e125 e126 e129 e131 p132a).mpr h; rw [bt_t1 (bt_ask e141 e143 j28_4) c144] at k; cases k⟩)
          exact g_ireturn (gd rfl) rfl (nb01 (in_w 0 1 (in_c 0 rfl) rfl)) (hP _ _ ⟨s107, hI107, (fr_tr rfl hFc28 hF107), (Int32.ofInt 0), rfl, rfl, in_w 0 1 (in_c 0 rfl) rfl, n152⟩)
        · skip
          have i144 := z_eq 0 0 c144 i143 rfl
          refine g_iconst 1 148 (gd rfl) rfl rfl ?_
          refine g_goto 152 (gd rfl) rfl ?_
          have n152 : (((Int32.ofInt 1)).toInt ≠ 0 ↔ BRG (gvD s) x2.toNatClampNeg) := by first | (exact ⟨fun _ => (brg_c (g := (gvD s)) (fe_32 hI107 (show Fr fm_142_56_32 s s107 from fr_tr rfl hFc28 hF107) rfl rfl rfl (by rw [← (show z107a = s107.2.2.1 32 4 from e107), ← (show z107b = s107.2.2.1 32 0 from e107a)]; exact n107) q_0).2.2 j28_3 j28_4 (ar01 (g := (gvD s)) (show (x2).toNatClampNeg < 160 from (by show (x2).toInt.toNat < 160; exact (have a0 := in_u h2; have a1 := in_u ro_32_3; have a2 := in_u j28_5; have a3 := in_u j28_4; have a4 := in_u j28_3; have a5 := in_u i107b; have a6 := in_u i107a; have oc := oc_142_56_32; by omega))) g28_0 g28_1 (by exact (have a0 := in_u h2; have a1 := in_u ro_32_3; have a2 := in_u j28_5; have a3 := in_u j28_4; have a4 := in_u j28_3; have a5 := in_u i107b; have a6 := in_u i107a; have oc := oc_142_56_32; by omega))).1 (ar01 (g := (gvD s)) (show (x2).toNatClampNeg < 160 from (by show (x2).toInt.toNat < 160; exact (have a0 := in_u h2; have a1 := in_u ro_32_3; have a2 := in_u j28_5; have a3 := in_u j28_4; have a4 := in_u j28_3; have a5 := in_u i107b; have a6 := in_u i107a; have oc := oc_142_56_32; by omega))) g28_0 g28_1 (by exact (have a0 := in_u h2; have a1 := in_u ro_32_3; have a2 := in_u j28_5; have a3 := in_u j28_4; have a4 := in_u j28_3; have a5 := in_u i107b; have a6 := in_u i107a; have oc := oc_142_56_32; by omega))).2 g28_2 (brn_e g28_3 j28_3 j28_4 (are_top (T := (s.2.2.1 32 3).toInt) (fun p hp hn => q_0 p hp hn) (by rw [← e_32_3]; exact (have a0 := in_u h2; have a1 := in_u ro_32_3; have a2 := in_u j28_5; have a3 := in_u j28_4; have a4 := in_u j28_3; have a5 := in_u i107b; have a6 := in_u i107a; have oc := oc_142_56_32; by omega)))) e119 e123 e125 e126 e129 e131 p132a).mp (bt_f0 (bt_ask e141 e143 j28_4) c144), fun _ => by decide⟩) | (exact ⟨fun h => absurd rfl h, fun h => by have k := (brg_c (g := (gvD s)) (fe_32 hI107 (show Fr fm_142_56_32 s s107 from fr_tr rfl hFc28 hF107) rfl rfl rfl (by rw [← (show z107a = s107.2.2.1 32 4 from e107), ← (show z107b = s107.2.2.1 32 0 from e107a)]; exact n107) q_0).2.2 j28_3 j28_4 (ar01 (g := (gvD s)) (show (x2).toNatClampNeg < 160 from (by show (x2).toInt.toNat < 160; exact (have a0 := in_u h2; have a1 := in_u ro_32_3; have a2 := in_u j28_5; have a3 := in_u j28_4; have a4 := in_u j28_3; have a5 := in_u i107b; have a6 := in_u i107a; have oc := oc_142_56_32; by omega))) g28_0 g28_1 (by exact (have a0 := in_u h2; have a1 := in_u ro_32_3; have a2 := in_u j28_5; have a3 := in_u j28_4; have a4 := in_u j28_3; have a5 := in_u i107b; have a6 := in_u i107a; have oc := oc_142_56_32; by omega))).1 (ar01 (g := (gvD s)) (show (x2).toNatClampNeg < 160 from (by show (x2).toInt.toNat < 160; exact (have a0 := in_u h2; have a1 := in_u ro_32_3; have a2 := in_u j28_5; have a3 := in_u j28_4; have a4 := in_u j28_3; have a5 := in_u i107b; have a6 := in_u i107a; have oc := oc_142_56_32; by omega))) g28_0 g28_1 (by exact (have a0 := in_u h2; have a1 := in_u ro_32_3; have a2 := in_u j28_5; have a3 := in_u j28_4; have a4 := in_u j28_3; have a5 := in_u i107b; have a6 := in_u i107a; have oc := oc_142_56_32; by omega))).2 g28_2 (brn_e g28_3 j28_3 j28_4 (are_top (T := (s.2.2.1 32 3).toInt) (fun p hp hn => q_0 p hp hn) (by rw [← e_32_3]; exact (have a0 := in_u h2; have a1 := in_u ro_32_3; have a2 := in_u j28_5; have a3 := in_u j28_4; have a4 := in_u j28_3; have a5 := in_u i107b; have a6 := in_u i107a; have oc := oc_142_56_32; by omega)))) e119 e123 e125 e126 e129 e131 p132a).mpr h; rw [bt_t1 (bt_ask e141 e143 j28_4) c144] at k; cases k⟩)
          exact g_ireturn (gd rfl) rfl (nb01 (in_w 0 1 (in_c 1 rfl) rfl)) (hP _ _ ⟨s107, hI107, (fr_tr rfl hFc28 hF107), (Int32.ofInt 1), rfl, rfl, in_w 0 1 (in_c 1 rfl) rfl, n152⟩)
      · skip
        have i34 := r_lt1 0 159 c34 j28_5 ro_32_3 rfl
        have i34a := r_lt2 1 160 c34 j28_5 ro_32_3 rfl
        refine g_iload 39 (gd rfl) rfl rfl ?_
        refine g_iload_n 40 (gd rfl) rfl rfl ?_
        refine g_cmp_eq 43 100 (gd rfl) rfl rfl (fun c40 => ?_) (fun c40 => ?_)
        · skip
          refine g_iinc 103 (gd rfl) rfl rfl (Nat.le_of_ble_eq_true rfl) (fun z100 e100 => ?_)
          have i100 := in_add 1 160 e100 i34 (in_c 1 rfl) rfl rfl
          refine g_goto 28 (gd rfl) rfl ?_
          have n28 : (y28_3) = s.1 34 (x2).toNatClampNeg := by exact g28_0
          have n28a : (y28_4) = s.1 35 (x2).toNatClampNeg := by exact g28_1
          have n28b : (y28_3).toInt ≠ (y28_4).toInt := by exact g28_2
          have n28c : BRN (gvD s) (x2).toNatClampNeg (y28_3).toInt (y28_4).toInt (z100).toInt.toNat := by rw [show (z100).toInt.toNat = (y28_5).toInt.toNat + 1 from (by exact (have a0 := in_u h2; have a1 := in_u i34a; have a2 := in_u i34; have a3 := in_u j28_4; have a4 := in_u j28_3; have a5 := in_u i100; have a6 := t_add e100 i34 (in_c 1 rfl) rfl; have a7 := in_u ((in_c 1 rfl)); have oc := oc_142_56_32; by omega))]; exact brn_p g28_3 (by show (y28_5).toInt.toNat = (x2).toInt.toNat; exact (have a0 := in_u h2; have a1 := in_u i34a; have a2 := in_u i34; have a3 := in_u j28_4; have a4 := in_u j28_3; have a5 := in_u i100; have a6 := t_add e100 i34 (in_c 1 rfl) rfl; have a7 := in_u ((in_c 1 rfl)); have oc := oc_142_56_32; by omega))
          exact gg_w (by first | exact Nat.le_add_right _ _ | exact gw2 | exact gw3 | exact gwe rfl | exact gwf rfl | exact gwg rfl | exact gwh rfl | omega) (gg_f (gf_cons rfl (gf_cons rfl (gf_cons rfl (gf_cons rfl (gf_cons rfl (gf_cons rfl gf_nil)))))) (ih28 sc28 y28_3 y28_4 z100 hIc28 hFc28 (in_w 0 31 j28_3 rfl) (in_w 0 31 j28_4 rfl) (in_w 0 160 i100 rfl) n28 n28a n28b n28c (m_up mm28 (t_add e100 i34 (in_c 1 rfl) rfl) (in_w 1 1 (in_c 1 rfl) rfl))))
        · skip
          refine g_aload_n 44 (gd rfl) rfl rfl ?_
          refine g_iload 46 (gd rfl) rfl rfl ?_
          refine g_callv (X := _) (As := [.int y28_5]) (r := []) (b := A 32) (q := 32) 49 (gd rfl) rfl rfl rfl rfl rfl (ww_o rfl) (Nat.le_of_ble_eq_true rfl) (mc := 0) (ms := 0) (Nat.zero_le _) (Nat.zero_le _) (P := fun v u => _) ?_ (fun e u h => h) (fun v u h => h)
          intro po46 xx46 hp46 hx46
          refine g_enter2 (k := 97) (N := 300) (by first | exact dq1 hd rfl | exact dq0 hd rfl | exact dq2 hd rfl | exact dq3 hd rfl | omega) rfl (Nat.le_of_ble_eq_true rfl) ?_
          refine g_aload_n 1 (gd rfl) rfl rfl ?_
          refine g_getA (q2 := 34) 4 (gd rfl) rfl rfl rfl rfl ?_
          refine g_iload_n 5 (gd rfl) rfl rfl ?_
          refine g_iaload 6 (gd rfl) rfl (n := 160) rfl (in_ix i34 rfl) (fun z46x5 e46x5 => ?_)
          have i46x5 := inv_I hIc28 (n := 160) (t := 0) (-1) 31 rfl (in_ix i34 rfl) rfl e46x5
          refine g_iconst (-1) 7 (gd rfl) rfl rfl ?_
          refine g_cmp_eq 10 29 (gd rfl) rfl rfl (fun c46x7 => ?_) (fun c46x7 => ?_)
          · skip
            have i46x7 := r_eq1 (-1) (-1) c46x7 i46x5 (in_c (-1) rfl) rfl
            refine g_iconst 0 30 (gd rfl) rfl rfl ?_
            refine g_ireturn (gd rfl) rfl (nb01 (in_w 0 1 (in_c 0 rfl) rfl)) (hp46 _ _ ?_)
            show GG _ _ _ _ _ _ _ _ [.int (Int32.ofInt 0)] _ _ _
            refine g_if_eq 52 100 (gd rfl) rfl rfl (fun c49 => ?_) (fun c49 => ?_)
            · skip
              refine g_iinc 103 (gd rfl) rfl rfl (Nat.le_of_ble_eq_true rfl) (fun z100 e100 => ?_)
              have i100 := in_add 1 160 e100 i34 (in_c 1 rfl) rfl rfl
              refine g_goto 28 (gd rfl) rfl ?_
              have n28 : (y28_3) = s.1 34 (x2).toNatClampNeg := by exact g28_0
              have n28a : (y28_4) = s.1 35 (x2).toNatClampNeg := by exact g28_1
              have n28b : (y28_3).toInt ≠ (y28_4).toInt := by exact g28_2
              have n28c : BRN (gvD s) (x2).toNatClampNeg (y28_3).toInt (y28_4).toInt (z100).toInt.toNat := by rw [show (z100).toInt.toNat = (y28_5).toInt.toNat + 1 from (by exact (have a0 := in_u h2; have a1 := in_u i34a; have a2 := in_u i34; have a3 := in_u j28_4; have a4 := in_u j28_3; have a5 := in_u i100; have a6 := t_add e100 i34 (in_c 1 rfl) rfl; have a7 := in_u ((in_c 1 rfl)); have oc := oc_142_56_32; by omega))]; exact brn_m g28_3 (e46x5.trans (congrFun (hFc28.1 34 rfl) _)) (by exact (have a0 := in_u h2; have a1 := in_u i34a; have a2 := in_u i34; have a3 := in_u j28_4; have a4 := in_u j28_3; have a5 := in_u i100; have a6 := t_add e100 i34 (in_c 1 rfl) rfl; have a7 := in_u ((in_c 1 rfl)); have oc := oc_142_56_32; by omega)) (by exact (have a0 := in_u h2; have a1 := in_u i34a; have a2 := in_u i34; have a3 := in_u j28_4; have a4 := in_u j28_3; have a5 := in_u i100; have a6 := t_add e100 i34 (in_c 1 rfl) rfl; have a7 := in_u ((in_c 1 rfl)); have oc := oc_142_56_32; by omega)) (by exact (have a0 := in_u h2; have a1 := in_u i34a; have a2 := in_u i34; have a3 := in_u j28_4; have a4 := in_u j28_3; have a5 := in_u i100; have a6 := t_add e100 i34 (in_c 1 rfl) rfl; have a7 := in_u ((in_c 1 rfl)); have oc := oc_142_56_32; by omega))
              exact gg_w (by first | exact Nat.le_add_right _ _ | exact gw2 | exact gw3 | exact gwe rfl | exact gwf rfl | exact gwg rfl | exact gwh rfl | omega) (gg_f (gf_cons rfl (gf_cons rfl (gf_cons rfl (gf_cons rfl (gf_cons rfl (gf_cons rfl gf_nil)))))) (ih28 sc28 y28_3 y28_4 z100 hIc28 hFc28 (in_w 0 31 j28_3 rfl) (in_w 0 31 j28_4 rfl) (in_w 0 160 i100 rfl) n28 n28a n28b n28c (m_up mm28 (t_add e100 i34 (in_c 1 rfl) rfl) (in_w 1 1 (in_c 1 rfl) rfl))))
            · skip
              exact zn_ne c49 (in_c 0 rfl) rfl
          · skip
            have i46x7 := r_ne1 0 31 c46x7 i46x5 (in_c (-1) rfl) rfl
            refine g_aload_n 11 (gd rfl) rfl rfl ?_
            refine g_getA (q2 := 34) 14 (gd rfl) rfl rfl rfl rfl ?_
            refine g_iload_n 15 (gd rfl) rfl rfl ?_
            refine g_iaload 16 (gd rfl) rfl (n := 160) rfl (in_ix i34 rfl) (fun z46x15 e46x15 => ?_)
            have q46x15 : z46x5 = z46x15 := (e46x5).trans e46x15.symm
            subst q46x15
            refine g_aload_n 17 (gd rfl) rfl rfl ?_
            refine g_getA (q2 := 35) 20 (gd rfl) rfl rfl rfl rfl ?_
            refine g_iload_n 21 (gd rfl) rfl rfl ?_
            refine g_iaload 22 (gd rfl) rfl (n := 160) rfl (in_ix i34 rfl) (fun z46x21 e46x21 => ?_)
            have i46x21 := inv_I hIc28 (n := 160) (t := 0) 0 31 rfl (in_ix i34 rfl) rfl e46x21
            refine g_cmp_eq 25 29 (gd rfl) rfl rfl (fun c46x22 => ?_) (fun c46x22 => ?_)
            · skip
              refine g_iconst 0 30 (gd rfl) rfl rfl ?_
              refine g_ireturn (gd rfl) rfl (nb01 (in_w 0 1 (in_c 0 rfl) rfl)) (hp46 _ _ ?_)
              show GG _ _ _ _ _ _ _ _ [.int (Int32.ofInt 0)] _ _ _
              refine g_if_eq 52 100 (gd rfl) rfl rfl (fun c49 => ?_) (fun c49 => ?_)
              · skip
                refine g_iinc 103 (gd rfl) rfl rfl (Nat.le_of_ble_eq_true rfl) (fun z100 e100 => ?_)
                have i100 := in_add 1 160 e100 i34 (in_c 1 rfl) rfl rfl
                refine g_goto 28 (gd rfl) rfl ?_
                have n28 : (y28_3) = s.1 34 (x2).toNatClampNeg := by exact g28_0
                have n28a : (y28_4) = s.1 35 (x2).toNatClampNeg := by exact g28_1
                have n28b : (y28_3).toInt ≠ (y28_4).toInt := by exact g28_2
                have n28c : BRN (gvD s) (x2).toNatClampNeg (y28_3).toInt (y28_4).toInt (z100).toInt.toNat := by rw [show (z100).toInt.toNat = (y28_5).toInt.toNat + 1 from (by exact (have a0 := in_u h2; have a1 := in_u i34a; have a2 := in_u i34; have a3 := in_u j28_4; have a4 := in_u j28_3; have a5 := in_u i100; have a6 := t_add e100 i34 (in_c 1 rfl) rfl; have a7 := in_u ((in_c 1 rfl)); have oc := oc_142_56_32; by omega))]; exact brn_s g28_3 (e46x5.trans (congrFun (hFc28.1 34 rfl) _)) (e46x21.trans (congrFun (hFc28.1 35 rfl) _)) i46x7.1 (by exact (have a0 := in_u h2; have a1 := in_u i34a; have a2 := in_u i34; have a3 := in_u j28_4; have a4 := in_u j28_3; have a5 := in_u i100; have a6 := t_add e100 i34 (in_c 1 rfl) rfl; have a7 := in_u ((in_c 1 rfl)); have oc := oc_142_56_32; by omega))
                exact gg_w (by first | exact Nat.le_add_right _ _ | exact gw2 | exact gw3 | exact gwe rfl | exact gwf rfl | exact gwg rfl | exact gwh rfl | omega) (gg_f (gf_cons rfl (gf_cons rfl (gf_cons rfl (gf_cons rfl (gf_cons rfl (gf_cons rfl gf_nil)))))) (ih28 sc28 y28_3 y28_4 z100 hIc28 hFc28 (in_w 0 31 j28_3 rfl) (in_w 0 31 j28_4 rfl) (in_w 0 160 i100 rfl) n28 n28a n28b n28c (m_up mm28 (t_add e100 i34 (in_c 1 rfl) rfl) (in_w 1 1 (in_c 1 rfl) rfl))))
              · skip
                exact zn_ne c49 (in_c 0 rfl) rfl
            · skip
              refine g_iconst 1 26 (gd rfl) rfl rfl ?_
              refine g_goto 30 (gd rfl) rfl ?_
              refine g_ireturn (gd rfl) rfl (nb01 (in_w 0 1 (in_c 1 rfl) rfl)) (hp46 _ _ ?_)
              show GG _ _ _ _ _ _ _ _ [.int (Int32.ofInt 1)] _ _ _
              refine g_if_eq 52 100 (gd rfl) rfl rfl (fun c49 => ?_) (fun c49 => ?_)
              · skip
                exact zn_eq c49 (in_c 1 rfl) rfl
              · skip
                refine g_aload_n 53 (gd rfl) rfl rfl ?_
                refine g_getA (q2 := 34) 56 (gd rfl) rfl rfl rfl rfl ?_
                refine g_iload 58 (gd rfl) rfl rfl ?_
                refine g_iaload 59 (gd rfl) rfl (n := 160) rfl (in_ix i34 rfl) (fun z58 e58 => ?_)
                have q58 : z46x5 = z58 := (e46x5).trans e58.symm
                subst q58
                refine g_iload_n 60 (gd rfl) rfl rfl ?_
                refine g_cmp_ne 63 75 (gd rfl) rfl rfl (fun c60 => ?_) (fun c60 => ?_)
                · skip
                  refine g_aload_n 76 (gd rfl) rfl rfl ?_
                  refine g_getA (q2 := 34) 79 (gd rfl) rfl rfl rfl rfl ?_
                  refine g_iload 81 (gd rfl) rfl rfl ?_
                  refine g_iaload 82 (gd rfl) rfl (n := 160) rfl (in_ix i34 rfl) (fun z81 e81 => ?_)
                  have q81 : z46x5 = z81 := (e46x5).trans e81.symm
                  subst q81
                  refine g_iload 84 (gd rfl) rfl rfl ?_
                  refine g_cmp_ne 87 100 (gd rfl) rfl rfl (fun c84 => ?_) (fun c84 => ?_)
                  · skip
                    refine g_iinc 103 (gd rfl) rfl rfl (Nat.le_of_ble_eq_true rfl) (fun z100 e100 => ?_)
                    have i100 := in_add 1 160 e100 i34 (in_c 1 rfl) rfl rfl
                    refine g_goto 28 (gd rfl) rfl ?_
                    have n28 : (y28_3) = s.1 34 (x2).toNatClampNeg := by exact g28_0
                    have n28a : (y28_4) = s.1 35 (x2).toNatClampNeg := by exact g28_1
                    have n28b : (y28_3).toInt ≠ (y28_4).toInt := by exact g28_2
                    have n28c : BRN (gvD s) (x2).toNatClampNeg (y28_3).toInt (y28_4).toInt (z100).toInt.toNat := by rw [show (z100).toInt.toNat = (y28_5).toInt.toNat + 1 from (by exact (have a0 := in_u h2; have a1 := in_u i34a; have a2 := in_u i34; have a3 := in_u j28_4; have a4 := in_u j28_3; have a5 := in_u i100; have a6 := t_add e100 i34 (in_c 1 rfl) rfl; have a7 := in_u ((in_c 1 rfl)); have oc := oc_142_56_32; by omega))]; exact brn_s g28_3 (e46x5.trans (congrFun (hFc28.1 34 rfl) _)) (e46x21.trans (congrFun (hFc28.1 35 rfl) _)) i46x7.1 (by exact (have a0 := in_u h2; have a1 := in_u i34a; have a2 := in_u i34; have a3 := in_u j28_4; have a4 := in_u j28_3; have a5 := in_u i100; have a6 := t_add e100 i34 (in_c 1 rfl) rfl; have a7 := in_u ((in_c 1 rfl)); have oc := oc_142_56_32; by omega))
                    exact gg_w (by first | exact Nat.le_add_right _ _ | exact gw2 | exact gw3 | exact gwe rfl | exact gwf rfl | exact gwg rfl | exact gwh rfl | omega) (gg_f (gf_cons rfl (gf_cons rfl (gf_cons rfl (gf_cons rfl (gf_cons rfl (gf_cons rfl gf_nil)))))) (ih28 sc28 y28_3 y28_4 z100 hIc28 hFc28 (in_w 0 31 j28_3 rfl) (in_w 0 31 j28_4 rfl) (in_w 0 160 i100 rfl) n28 n28a n28b n28c (m_up mm28 (t_add e100 i34 (in_c 1 rfl) rfl) (in_w 1 1 (in_c 1 rfl) rfl))))
                  · skip
                    refine g_aload_n 88 (gd rfl) rfl rfl ?_
                    refine g_getA (q2 := 35) 91 (gd rfl) rfl rfl rfl rfl ?_
                    refine g_iload 93 (gd rfl) rfl rfl ?_
                    refine g_iaload 94 (gd rfl) rfl (n := 160) rfl (in_ix i34 rfl) (fun z93 e93 => ?_)
                    have q93 : z46x21 = z93 := (e46x21).trans e93.symm
                    subst q93
                    refine g_iload_n 95 (gd rfl) rfl rfl ?_
                    refine g_cmp_ne 98 100 (gd rfl) rfl rfl (fun c95 => ?_) (fun c95 => ?_)
                    · skip
                      refine g_iinc 103 (gd rfl) rfl rfl (Nat.le_of_ble_eq_true rfl) (fun z100 e100 => ?_)
                      have i100 := in_add 1 160 e100 i34 (in_c 1 rfl) rfl rfl
                      refine g_goto 28 (gd rfl) rfl ?_
                      have n28 : (y28_3) = s.1 34 (x2).toNatClampNeg := by exact g28_0
                      have n28a : (y28_4) = s.1 35 (x2).toNatClampNeg := by exact g28_1
                      have n28b : (y28_3).toInt ≠ (y28_4).toInt := by exact g28_2
                      have n28c : BRN (gvD s) (x2).toNatClampNeg (y28_3).toInt (y28_4).toInt (z100).toInt.toNat := by rw [show (z100).toInt.toNat = (y28_5).toInt.toNat + 1 from (by exact (have a0 := in_u h2; have a1 := in_u i34a; have a2 := in_u i34; have a3 := in_u j28_4; have a4 := in_u j28_3; have a5 := in_u i100; have a6 := t_add e100 i34 (in_c 1 rfl) rfl; have a7 := in_u ((in_c 1 rfl)); have oc := oc_142_56_32; by omega))]; exact brn_s g28_3 (e46x5.trans (congrFun (hFc28.1 34 rfl) _)) (e46x21.trans (congrFun (hFc28.1 35 rfl) _)) i46x7.1 (by exact (have a0 := in_u h2; have a1 := in_u i34a; have a2 := in_u i34; have a3 := in_u j28_4; have a4 := in_u j28_3; have a5 := in_u i100; have a6 := t_add e100 i34 (in_c 1 rfl) rfl; have a7 := in_u ((in_c 1 rfl)); have oc := oc_142_56_32; by omega))
                      exact gg_w (by first | exact Nat.le_add_right _ _ | exact gw2 | exact gw3 | exact gwe rfl | exact gwf rfl | exact gwg rfl | exact gwh rfl | omega) (gg_f (gf_cons rfl (gf_cons rfl (gf_cons rfl (gf_cons rfl (gf_cons rfl (gf_cons rfl gf_nil)))))) (ih28 sc28 y28_3 y28_4 z100 hIc28 hFc28 (in_w 0 31 j28_3 rfl) (in_w 0 31 j28_4 rfl) (in_w 0 160 i100 rfl) n28 n28a n28b n28c (m_up mm28 (t_add e100 i34 (in_c 1 rfl) rfl) (in_w 1 1 (in_c 1 rfl) rfl))))
                    · skip
                      refine g_iconst 0 99 (gd rfl) rfl rfl ?_
                      have n99 : (((Int32.ofInt 0)).toInt ≠ 0 ↔ BRG (gvD s) x2.toNatClampNeg) := by exact ⟨fun h => absurd rfl h, fun h => absurd h (brg_par (show (x2).toNatClampNeg < 160 from (by show (x2).toInt.toNat < 160; exact (have a0 := in_u h2; have a1 := in_u i34a; have a2 := in_u i34; have a3 := in_u j28_4; have a4 := in_u j28_3; have oc := oc_142_56_32; by omega))) (show (y28_5).toInt.toNat < 160 from (by exact (have a0 := in_u h2; have a1 := in_u i34a; have a2 := in_u i34; have a3 := in_u j28_4; have a4 := in_u j28_3; have oc := oc_142_56_32; by omega))) (show (y28_5).toInt.toNat ≠ (x2).toNatClampNeg from (by show (y28_5).toInt.toNat ≠ (x2).toInt.toNat; exact (have a0 := in_u h2; have a1 := in_u i34a; have a2 := in_u i34; have a3 := in_u j28_4; have a4 := in_u j28_3; have oc := oc_142_56_32; by omega))) g28_0 g28_1 j28_3 j28_4 (e46x5.trans (congrFun (hFc28.1 34 rfl) _)) (e46x21.trans (congrFun (hFc28.1 35 rfl) _)) (by exact (have a0 := in_u h2; have a1 := in_u i34a; have a2 := in_u i34; have a3 := in_u j28_4; have a4 := in_u j28_3; have oc := oc_142_56_32; by omega)) (by exact (have a0 := in_u h2; have a1 := in_u i34a; have a2 := in_u i34; have a3 := in_u j28_4; have a4 := in_u j28_3; have oc := oc_142_56_32; by omega)))⟩
                      exact g_ireturn (gd rfl) rfl (nb01 (in_w 0 1 (in_c 0 rfl) rfl)) (hP _ _ ⟨sc28, hIc28, hFc28, (Int32.ofInt 0), rfl, rfl, in_w 0 1 (in_c 0 rfl) rfl, n99⟩)
                · skip
                  refine g_aload_n 64 (gd rfl) rfl rfl ?_
                  refine g_getA (q2 := 35) 67 (gd rfl) rfl rfl rfl rfl ?_
                  refine g_iload 69 (gd rfl) rfl rfl ?_
                  refine g_iaload 70 (gd rfl) rfl (n := 160) rfl (in_ix i34 rfl) (fun z69 e69 => ?_)
                  have q69 : z46x21 = z69 := (e46x21).trans e69.symm
                  subst q69
                  refine g_iload 72 (gd rfl) rfl rfl ?_
                  refine g_cmp_eq 75 98 (gd rfl) rfl rfl (fun c72 => ?_) (fun c72 => ?_)
                  · skip
                    refine g_iconst 0 99 (gd rfl) rfl rfl ?_
                    have n99 : (((Int32.ofInt 0)).toInt ≠ 0 ↔ BRG (gvD s) x2.toNatClampNeg) := by exact ⟨fun h => absurd rfl h, fun h => absurd h (brg_par (show (x2).toNatClampNeg < 160 from (by show (x2).toInt.toNat < 160; exact (have a0 := in_u h2; have a1 := in_u i34a; have a2 := in_u i34; have a3 := in_u j28_4; have a4 := in_u j28_3; have oc := oc_142_56_32; by omega))) (show (y28_5).toInt.toNat < 160 from (by exact (have a0 := in_u h2; have a1 := in_u i34a; have a2 := in_u i34; have a3 := in_u j28_4; have a4 := in_u j28_3; have oc := oc_142_56_32; by omega))) (show (y28_5).toInt.toNat ≠ (x2).toNatClampNeg from (by show (y28_5).toInt.toNat ≠ (x2).toInt.toNat; exact (have a0 := in_u h2; have a1 := in_u i34a; have a2 := in_u i34; have a3 := in_u j28_4; have a4 := in_u j28_3; have oc := oc_142_56_32; by omega))) g28_0 g28_1 j28_3 j28_4 (e46x5.trans (congrFun (hFc28.1 34 rfl) _)) (e46x21.trans (congrFun (hFc28.1 35 rfl) _)) (by exact (have a0 := in_u h2; have a1 := in_u i34a; have a2 := in_u i34; have a3 := in_u j28_4; have a4 := in_u j28_3; have oc := oc_142_56_32; by omega)) (by exact (have a0 := in_u h2; have a1 := in_u i34a; have a2 := in_u i34; have a3 := in_u j28_4; have a4 := in_u j28_3; have oc := oc_142_56_32; by omega)))⟩
                    exact g_ireturn (gd rfl) rfl (nb01 (in_w 0 1 (in_c 0 rfl) rfl)) (hP _ _ ⟨sc28, hIc28, hFc28, (Int32.ofInt 0), rfl, rfl, in_w 0 1 (in_c 0 rfl) rfl, n99⟩)
                  · skip
                    refine g_aload_n 76 (gd rfl) rfl rfl ?_
                    refine g_getA (q2 := 34) 79 (gd rfl) rfl rfl rfl rfl ?_
                    refine g_iload 81 (gd rfl) rfl rfl ?_
                    refine g_iaload 82 (gd rfl) rfl (n := 160) rfl (in_ix i34 rfl) (fun z81 e81 => ?_)
                    have q81 : z46x5 = z81 := (e46x5).trans e81.symm
                    subst q81
                    refine g_iload 84 (gd rfl) rfl rfl ?_
                    refine g_cmp_ne 87 100 (gd rfl) rfl rfl (fun c84 => ?_) (fun c84 => ?_)
                    · skip
                      refine g_iinc 103 (gd rfl) rfl rfl (Nat.le_of_ble_eq_true rfl) (fun z100 e100 => ?_)
                      have i100 := in_add 1 160 e100 i34 (in_c 1 rfl) rfl rfl
                      refine g_goto 28 (gd rfl) rfl ?_
                      have n28 : (y28_3) = s.1 34 (x2).toNatClampNeg := by exact g28_0
                      have n28a : (y28_4) = s.1 35 (x2).toNatClampNeg := by exact g28_1
                      have n28b : (y28_3).toInt ≠ (y28_4).toInt := by exact g28_2
                      have n28c : BRN (gvD s) (x2).toNatClampNeg (y28_3).toInt (y28_4).toInt (z100).toInt.toNat := by rw [show (z100).toInt.toNat = (y28_5).toInt.toNat + 1 from (by exact (have a0 := in_u h2; have a1 := in_u i34a; have a2 := in_u i34; have a3 := in_u j28_4; have a4 := in_u j28_3; have a5 := in_u i100; have a6 := t_add e100 i34 (in_c 1 rfl) rfl; have a7 := in_u ((in_c 1 rfl)); have oc := oc_142_56_32; by omega))]; exact brn_s g28_3 (e46x5.trans (congrFun (hFc28.1 34 rfl) _)) (e46x21.trans (congrFun (hFc28.1 35 rfl) _)) i46x7.1 (by exact (have a0 := in_u h2; have a1 := in_u i34a; have a2 := in_u i34; have a3 := in_u j28_4; have a4 := in_u j28_3; have a5 := in_u i100; have a6 := t_add e100 i34 (in_c 1 rfl) rfl; have a7 := in_u ((in_c 1 rfl)); have oc := oc_142_56_32; by omega))
                      exact gg_w (by first | exact Nat.le_add_right _ _ | exact gw2 | exact gw3 | exact gwe rfl | exact gwf rfl | exact gwg rfl | exact gwh rfl | omega) (gg_f (gf_cons rfl (gf_cons rfl (gf_cons rfl (gf_cons rfl (gf_cons rfl (gf_cons rfl gf_nil)))))) (ih28 sc28 y28_3 y28_4 z100 hIc28 hFc28 (in_w 0 31 j28_3 rfl) (in_w 0 31 j28_4 rfl) (in_w 0 160 i100 rfl) n28 n28a n28b n28c (m_up mm28 (t_add e100 i34 (in_c 1 rfl) rfl) (in_w 1 1 (in_c 1 rfl) rfl))))
                    · skip
                      refine g_aload_n 88 (gd rfl) rfl rfl ?_
                      refine g_getA (q2 := 35) 91 (gd rfl) rfl rfl rfl rfl ?_
                      refine g_iload 93 (gd rfl) rfl rfl ?_
                      refine g_iaload 94 (gd rfl) rfl (n := 160) rfl (in_ix i34 rfl) (fun z93 e93 => ?_)
                      have q93 : z46x21 = z93 := (e46x21).trans e93.symm
                      subst q93
                      refine g_iload_n 95 (gd rfl) rfl rfl ?_
                      refine g_cmp_ne 98 100 (gd rfl) rfl rfl (fun c95 => ?_) (fun c95 => ?_)
                      · skip
                        refine g_iinc 103 (gd rfl) rfl rfl (Nat.le_of_ble_eq_true rfl) (fun z100 e100 => ?_)
                        have i100 := in_add 1 160 e100 i34 (in_c 1 rfl) rfl rfl
                        refine g_goto 28 (gd rfl) rfl ?_
                        have n28 : (y28_3) = s.1 34 (x2).toNatClampNeg := by exact g28_0
                        have n28a : (y28_4) = s.1 35 (x2).toNatClampNeg := by exact g28_1
                        have n28b : (y28_3).toInt ≠ (y28_4).toInt := by exact g28_2
                        have n28c : BRN (gvD s) (x2).toNatClampNeg (y28_3).toInt (y28_4).toInt (z100).toInt.toNat := by rw [show (z100).toInt.toNat = (y28_5).toInt.toNat + 1 from (by exact (have a0 := in_u h2; have a1 := in_u i34a; have a2 := in_u i34; have a3 := in_u j28_4; have a4 := in_u j28_3; have a5 := in_u i100; have a6 := t_add e100 i34 (in_c 1 rfl) rfl; have a7 := in_u ((in_c 1 rfl)); have oc := oc_142_56_32; by omega))]; exact brn_s g28_3 (e46x5.trans (congrFun (hFc28.1 34 rfl) _)) (e46x21.trans (congrFun (hFc28.1 35 rfl) _)) i46x7.1 (by exact (have a0 := in_u h2; have a1 := in_u i34a; have a2 := in_u i34; have a3 := in_u j28_4; have a4 := in_u j28_3; have a5 := in_u i100; have a6 := t_add e100 i34 (in_c 1 rfl) rfl; have a7 := in_u ((in_c 1 rfl)); have oc := oc_142_56_32; by omega))
                        exact gg_w (by first | exact Nat.le_add_right _ _ | exact gw2 | exact gw3 | exact gwe rfl | exact gwf rfl | exact gwg rfl | exact gwh rfl | omega) (gg_f (gf_cons rfl (gf_cons rfl (gf_cons rfl (gf_cons rfl (gf_cons rfl (gf_cons rfl gf_nil)))))) (ih28 sc28 y28_3 y28_4 z100 hIc28 hFc28 (in_w 0 31 j28_3 rfl) (in_w 0 31 j28_4 rfl) (in_w 0 160 i100 rfl) n28 n28a n28b n28c (m_up mm28 (t_add e100 i34 (in_c 1 rfl) rfl) (in_w 1 1 (in_c 1 rfl) rfl))))
                      · skip
                        refine g_iconst 0 99 (gd rfl) rfl rfl ?_
                        have n99 : (((Int32.ofInt 0)).toInt ≠ 0 ↔ BRG (gvD s) x2.toNatClampNeg) := by exact ⟨fun h => absurd rfl h, fun h => absurd h (brg_par (show (x2).toNatClampNeg < 160 from (by show (x2).toInt.toNat < 160; exact (have a0 := in_u h2; have a1 := in_u i34a; have a2 := in_u i34; have a3 := in_u j28_4; have a4 := in_u j28_3; have oc := oc_142_56_32; by omega))) (show (y28_5).toInt.toNat < 160 from (by exact (have a0 := in_u h2; have a1 := in_u i34a; have a2 := in_u i34; have a3 := in_u j28_4; have a4 := in_u j28_3; have oc := oc_142_56_32; by omega))) (show (y28_5).toInt.toNat ≠ (x2).toNatClampNeg from (by show (y28_5).toInt.toNat ≠ (x2).toInt.toNat; exact (have a0 := in_u h2; have a1 := in_u i34a; have a2 := in_u i34; have a3 := in_u j28_4; have a4 := in_u j28_3; have oc := oc_142_56_32; by omega))) g28_0 g28_1 j28_3 j28_4 (e46x5.trans (congrFun (hFc28.1 34 rfl) _)) (e46x21.trans (congrFun (hFc28.1 35 rfl) _)) (by exact (have a0 := in_u h2; have a1 := in_u i34a; have a2 := in_u i34; have a3 := in_u j28_4; have a4 := in_u j28_3; have oc := oc_142_56_32; by omega)) (by exact (have a0 := in_u h2; have a1 := in_u i34a; have a2 := in_u i34; have a3 := in_u j28_4; have a4 := in_u j28_3; have oc := oc_142_56_32; by omega)))⟩
                        exact g_ireturn (gd rfl) rfl (nb01 (in_w 0 1 (in_c 0 rfl) rfl)) (hP _ _ ⟨sc28, hIc28, hFc28, (Int32.ofInt 0), rfl, rfl, in_w 0 1 (in_c 0 rfl) rfl, n99⟩)
  refine g_enter2 (k := 142) (N := 145801) (by first | exact dq1 hd rfl | exact dq0 hd rfl | exact dq2 hd rfl | exact dq3 hd rfl | omega) rfl (Nat.le_of_ble_eq_true rfl) ?_
  refine g_aload_n 1 (gd rfl) rfl rfl ?_
  refine g_iload_n 2 (gd rfl) rfl rfl ?_
  refine g_callv (X := _) (As := [.int x2]) (r := []) (b := A 32) (q := 32) 5 (gd rfl) rfl rfl rfl rfl rfl (ww_o rfl) (Nat.le_of_ble_eq_true rfl) (mc := 0) (ms := 0) (Nat.zero_le _) (Nat.zero_le _) (P := fun v u => _) ?_ (fun e u h => h) (fun v u h => h)
  intro po2 xx2 hp2 hx2
  refine g_enter2 (k := 97) (N := 300) (by first | exact dq1 hd rfl | exact dq0 hd rfl | exact dq2 hd rfl | exact dq3 hd rfl | omega) rfl (Nat.le_of_ble_eq_true rfl) ?_
  refine g_aload_n 1 (gd rfl) rfl rfl ?_
  refine g_getA (q2 := 34) 4 (gd rfl) rfl rfl rfl rfl ?_
  refine g_iload_n 5 (gd rfl) rfl rfl ?_
  refine g_iaload 6 (gd rfl) rfl (n := 160) rfl (in_ix h2 rfl) (fun z2x5 e2x5 => ?_)
  have i2x5 := inv_I hI (n := 160) (t := 0) (-1) 31 rfl (in_ix h2 rfl) rfl e2x5
  refine g_iconst (-1) 7 (gd rfl) rfl rfl ?_
  refine g_cmp_eq 10 29 (gd rfl) rfl rfl (fun c2x7 => ?_) (fun c2x7 => ?_)
  · skip
    have i2x7 := r_eq1 (-1) (-1) c2x7 i2x5 (in_c (-1) rfl) rfl
    refine g_iconst 0 30 (gd rfl) rfl rfl ?_
    refine g_ireturn (gd rfl) rfl (nb01 (in_w 0 1 (in_c 0 rfl) rfl)) (hp2 _ _ ?_)
    show GG _ _ _ _ _ _ _ _ [.int (Int32.ofInt 0)] _ _ _
    refine g_if_ne 8 10 (gd rfl) rfl rfl (fun c5 => ?_) (fun c5 => ?_)
    · skip
      exact zn_ne c5 (in_c 0 rfl) rfl
    · skip
      refine g_iconst 0 9 (gd rfl) rfl rfl ?_
      have n9 : (((Int32.ofInt 0)).toInt ≠ 0 ↔ BRG (gvD s) x2.toNatClampNeg) := by exact ⟨fun h => absurd rfl h, fun h => absurd h (brg_m1 (show (s.1 34 (x2).toNatClampNeg).toInt = -1 from (by rw [← e2x5]; exact (have a0 := in_u ro_32_3; have a1 := in_u h2; have oc := oc_142_56_32; by omega))))⟩
      exact g_ireturn (gd rfl) rfl (nb01 (in_w 0 1 (in_c 0 rfl) rfl)) (hP _ _ ⟨s, hI, fr_rf, (Int32.ofInt 0), rfl, rfl, in_w 0 1 (in_c 0 rfl) rfl, n9⟩)
  · skip
    have i2x7 := r_ne1 0 31 c2x7 i2x5 (in_c (-1) rfl) rfl
    refine g_aload_n 11 (gd rfl) rfl rfl ?_
    refine g_getA (q2 := 34) 14 (gd rfl) rfl rfl rfl rfl ?_
    refine g_iload_n 15 (gd rfl) rfl rfl ?_
    refine g_iaload 16 (gd rfl) rfl (n := 160) rfl (in_ix h2 rfl) (fun z2x15 e2x15 => ?_)
    have q2x15 : z2x5 = z2x15 := (e2x5).trans e2x15.symm
    subst q2x15
    refine g_aload_n 17 (gd rfl) rfl rfl ?_
    refine g_getA (q2 := 35) 20 (gd rfl) rfl rfl rfl rfl ?_
    refine g_iload_n 21 (gd rfl) rfl rfl ?_
    refine g_iaload 22 (gd rfl) rfl (n := 160) rfl (in_ix h2 rfl) (fun z2x21 e2x21 => ?_)
    have i2x21 := inv_I hI (n := 160) (t := 0) 0 31 rfl (in_ix h2 rfl) rfl e2x21
    refine g_cmp_eq 25 29 (gd rfl) rfl rfl (fun c2x22 => ?_) (fun c2x22 => ?_)
    · skip
      refine g_iconst 0 30 (gd rfl) rfl rfl ?_
      refine g_ireturn (gd rfl) rfl (nb01 (in_w 0 1 (in_c 0 rfl) rfl)) (hp2 _ _ ?_)
      show GG _ _ _ _ _ _ _ _ [.int (Int32.ofInt 0)] _ _ _
      refine g_if_ne 8 10 (gd rfl) rfl rfl (fun c5 => ?_) (fun c5 => ?_)
      · skip
        exact zn_ne c5 (in_c 0 rfl) rfl
      · skip
        refine g_iconst 0 9 (gd rfl) rfl rfl ?_
        have n9 : (((Int32.ofInt 0)).toInt ≠ 0 ↔ BRG (gvD s) x2.toNatClampNeg) := by exact ⟨fun h => absurd rfl h, fun h => absurd h (brg_lp (show (x2).toNatClampNeg < 160 from (by show (x2).toInt.toNat < 160; exact (have a0 := in_u ro_32_3; have a1 := in_u h2; have oc := oc_142_56_32; by omega))) e2x5 e2x21 i2x7.1 (by exact (have a0 := in_u ro_32_3; have a1 := in_u h2; have oc := oc_142_56_32; by omega)))⟩
        exact g_ireturn (gd rfl) rfl (nb01 (in_w 0 1 (in_c 0 rfl) rfl)) (hP _ _ ⟨s, hI, fr_rf, (Int32.ofInt 0), rfl, rfl, in_w 0 1 (in_c 0 rfl) rfl, n9⟩)
    · skip
      refine g_iconst 1 26 (gd rfl) rfl rfl ?_
      refine g_goto 30 (gd rfl) rfl ?_
      refine g_ireturn (gd rfl) rfl (nb01 (in_w 0 1 (in_c 1 rfl) rfl)) (hp2 _ _ ?_)
      show GG _ _ _ _ _ _ _ _ [.int (Int32.ofInt 1)] _ _ _
      refine g_if_ne 8 10 (gd rfl) rfl rfl (fun c5 => ?_) (fun c5 => ?_)
      · skip
        refine g_aload_n 11 (gd rfl) rfl rfl ?_
        refine g_getA (q2 := 34) 14 (gd rfl) rfl rfl rfl rfl ?_
        refine g_iload_n 15 (gd rfl) rfl rfl ?_
        refine g_iaload 16 (gd rfl) rfl (n := 160) rfl (in_ix h2 rfl) (fun z15 e15 => ?_)
        have q15 : z2x5 = z15 := (e2x5).trans e15.symm
        subst q15
        refine g_istore_n 17 (gd rfl) rfl (Nat.le_of_ble_eq_true rfl) ?_
        refine g_aload_n 18 (gd rfl) rfl rfl ?_
        refine g_getA (q2 := 35) 21 (gd rfl) rfl rfl rfl rfl ?_
        refine g_iload_n 22 (gd rfl) rfl rfl ?_
        refine g_iaload 23 (gd rfl) rfl (n := 160) rfl (in_ix h2 rfl) (fun z22 e22 => ?_)
        have q22 : z2x21 = z22 := (e2x21).trans e22.symm
        subst q22
        refine g_istore 25 (gd rfl) rfl (Nat.le_of_ble_eq_true rfl) ?_
        refine g_iconst 0 26 (gd rfl) rfl rfl ?_
        refine g_istore 28 (gd rfl) rfl (Nat.le_of_ble_eq_true rfl) ?_
        have n28 : (z2x5) = s.1 34 (x2).toNatClampNeg := by exact e15
        have n28a : (z2x21) = s.1 35 (x2).toNatClampNeg := by exact e22
        have n28b : (z2x5).toInt ≠ (z2x21).toInt := by exact c2x22
        have n28c : BRN (gvD s) (x2).toNatClampNeg (z2x5).toInt (z2x21).toInt ((Int32.ofInt 0)).toInt.toNat := by exact brn_0
        exact gg_w (by first | exact Nat.le_of_ble_eq_true rfl | omega) (gg_f (gf_cons rfl (gf_cons rfl (gf_cons rfl (gf_cons rfl (gf_cons rfl (gf_cons rfl gf_nil)))))) (ct28 161 s z2x5 z2x21 (Int32.ofInt 0) hI fr_rf (in_w 0 31 i2x7 rfl) (in_w 0 31 i2x21 rfl) (in_w 0 160 (in_c 0 rfl) rfl) n28 n28a n28b n28c (m_in 161 (in_w 0 160 (in_c 0 rfl) rfl) rfl)))
      · skip
        exact zn_eq c5 (in_c 1 rfl) rfl

theorem oc_235_0 : (Int32.ofInt (-1)).toInt = (-1) ∧ (Int32.ofInt 0).toInt = 0 ∧ (Int32.ofInt 1).toInt = 1 := ⟨rfl, rfl, rfl⟩
/-- GraphHouse.bridge -/
theorem f_235_0 {Z : AmZ} {A : Nat → Nat} {s : GS} {ex : va_W} {d : Nat} {x1 : Int32} (hd : 7 ≤ d) (hI : Inv s) (q_0 : TQ s) (q_1 : TQD s) : GC Z d 235 [.ref (A 0), .int x1] (WW Z A s ++ ex) 3 18 (fun v u => ∃ t : GS, Inv t ∧ Fr fm_235_0 s t ∧ ∃ z : Int32, v = some (.int z) ∧ u = WW Z A t ++ ex ∧ In z 0 1 ∧ (BHP (shC s) x1 ∧ ((z).toInt ≠ 0 ↔ BRG (shC s) x1.toNatClampNeg))) (gEx Z A ex fm_235_0 s (¬ BHP (shC s) x1) (False)) := by
  intro post xp hP hX
  obtain ⟨u_0_2, e_0_2⟩ : ∃ w, w = s.2.2.1 0 2 := ⟨_, rfl⟩
  have ro_0_2 := inv_F hI (-1) 4000 rfl e_0_2
  obtain ⟨u_2_3, e_2_3⟩ : ∃ w, w = s.2.2.1 2 3 := ⟨_, rfl⟩
  have ro_2_3 := inv_F hI 0 160 rfl e_2_3
  obtain ⟨u_32_3, e_32_3⟩ : ∃ w, w = s.2.2.1 32 3 := ⟨_, rfl⟩
  have ro_32_3 := inv_F hI 0 160 rfl e_32_3
  refine g_enter2 (k := 235) (N := 900) (by first | exact dq1 hd rfl | exact dq0 hd rfl | exact dq2 hd rfl | exact dq3 hd rfl | omega) rfl (Nat.le_of_ble_eq_true rfl) ?_
  refine g_aload_n 1 (gd rfl) rfl rfl ?_
  refine g_callv (X := _) (As := []) (r := []) (b := A 0) (q := 0) 4 (gd rfl) rfl rfl rfl rfl rfl (ww_o rfl) (Nat.le_of_ble_eq_true rfl) (mc := 0) (ms := 0) (Nat.zero_le _) (Nat.zero_le _) (P := fun v u => _) ?_ (fun e u h => h) (fun v u h => h)
  intro po1 xx1 hp1 hx1
  refine g_enter2 (k := 259) (N := 300) (by first | exact dq1 hd rfl | exact dq0 hd rfl | exact dq2 hd rfl | exact dq3 hd rfl | omega) rfl (Nat.le_of_ble_eq_true rfl) ?_
  refine g_aload_n 1 (gd rfl) rfl rfl ?_
  refine g_getI 4 (gd rfl) rfl rfl rfl (fun z1x1 e1x1 => ?_)
  have q1x1 : u_0_2 = z1x1 := (e_0_2).trans e1x1.symm
  subst q1x1
  refine g_iconst (-1) 5 (gd rfl) rfl rfl ?_
  refine g_cmp_ne 8 18 (gd rfl) rfl rfl (fun c1x5 => ?_) (fun c1x5 => ?_)
  · skip
    have i1x5 := r_ne1 0 4000 c1x5 ro_0_2 (in_c (-1) rfl) rfl
    refine g_aload_n 19 (gd rfl) rfl rfl ?_
    refine g_getA (q2 := 32) 22 (gd rfl) rfl rfl rfl rfl ?_
    refine g_areturn (gd rfl) rfl (hp1 _ _ ?_)
    show GG _ _ _ _ _ _ _ _ [.ref (A 32)] _ _ _
    refine g_astore_n 5 (gd rfl) rfl (Nat.le_of_ble_eq_true rfl) ?_
    refine g_aload_n 6 (gd rfl) rfl rfl ?_
    refine g_iload_n 7 (gd rfl) rfl rfl ?_
    refine g_callv (X := _) (As := [.int x1]) (r := []) (b := A 32) (q := 32) 10 (gd rfl) rfl rfl rfl rfl rfl (ww_o rfl) (Nat.le_of_ble_eq_true rfl) (mc := 0) (ms := 0) (Nat.zero_le _) (Nat.zero_le _) (P := fun v u => _) ?_ (fun e u h => h) (fun v u h => h)
    intro po7 xx7 hp7 hx7
    refine g_enter2 (k := 96) (N := 300) (by first | exact dq1 hd rfl | exact dq0 hd rfl | exact dq2 hd rfl | exact dq3 hd rfl | omega) rfl (Nat.le_of_ble_eq_true rfl) ?_
    refine g_iload_n 1 (gd rfl) rfl rfl ?_
    refine g_if_lt 4 26 (gd rfl) rfl rfl (fun c7x1 => ?_) (fun c7x1 => ?_)
    · skip
      have i7x1 := z_lt (-2147483648) (-1) c7x1 (i_rng x1) rfl
      refine g_iconst 0 27 (gd rfl) rfl rfl ?_
      refine g_ireturn (gd rfl) rfl (nb01 (in_w 0 1 (in_c 0 rfl) rfl)) (hp7 _ _ ?_)
      show GG _ _ _ _ _ _ _ _ [.int (Int32.ofInt 0)] _ _ _
      refine g_thr (E := am_IA) (y := yX11_allow) 13 (gd rfl) rfl rfl (Or.inl ⟨rfl, rfl, rfl⟩) (by first | exact dq1 hd rfl | exact dq0 hd rfl | exact dq2 hd rfl | exact dq3 hd rfl | omega) (Nat.le_of_ble_eq_true rfl) (Nat.le_of_ble_eq_true rfl) (Nat.le_of_ble_eq_true rfl) (fun c10 => ?_) (fun c10 => ?_)
      · skip
        exact zn_ne c10 (in_c 0 rfl) rfl
      · skip
        have n10 : ¬ BHP (shC s) x1 := by intro h; have a := h.1.1; exact (have a0 := in_u ro_32_3; have a1 := in_u ro_2_3; have a2 := in_u i1x5; have a3 := in_u i7x1; have oc := oc_235_0; by omega)
        exact (hX _ _ ⟨Or.inl ⟨rfl, n10⟩, s, hI, fr_rf, rfl⟩)
    · skip
      have i7x1 := z_ge 0 2147483647 c7x1 (i_rng x1) rfl
      refine g_iload_n 5 (gd rfl) rfl rfl ?_
      refine g_aload_n 6 (gd rfl) rfl rfl ?_
      refine g_getI 9 (gd rfl) rfl rfl rfl (fun z7x6 e7x6 => ?_)
      have q7x6 : u_32_3 = z7x6 := (e_32_3).trans e7x6.symm
      subst q7x6
      refine g_cmp_ge 12 26 (gd rfl) rfl rfl (fun c7x9 => ?_) (fun c7x9 => ?_)
      · skip
        refine g_iconst 0 27 (gd rfl) rfl rfl ?_
        refine g_ireturn (gd rfl) rfl (nb01 (in_w 0 1 (in_c 0 rfl) rfl)) (hp7 _ _ ?_)
        show GG _ _ _ _ _ _ _ _ [.int (Int32.ofInt 0)] _ _ _
        refine g_thr (E := am_IA) (y := yX11_allow) 13 (gd rfl) rfl rfl (Or.inl ⟨rfl, rfl, rfl⟩) (by first | exact dq1 hd rfl | exact dq0 hd rfl | exact dq2 hd rfl | exact dq3 hd rfl | omega) (Nat.le_of_ble_eq_true rfl) (Nat.le_of_ble_eq_true rfl) (Nat.le_of_ble_eq_true rfl) (fun c10 => ?_) (fun c10 => ?_)
        · skip
          exact zn_ne c10 (in_c 0 rfl) rfl
        · skip
          have n10 : ¬ BHP (shC s) x1 := by first | (rw [shC_n (by rw [← e1x1]; exact c1x5)]; exact bhp_t (T := (s.2.2.1 2 3).toInt) (fun p hp hn => q_0 p hp hn) (by rw [← e_2_3]; exact (have a0 := in_u ro_32_3; have a1 := in_u ro_2_3; have a2 := in_u i1x5; have a3 := in_u i7x1; have oc := oc_235_0; by omega)) (by exact (have a0 := in_u ro_32_3; have a1 := in_u ro_2_3; have a2 := in_u i1x5; have a3 := in_u i7x1; have oc := oc_235_0; by omega))) | (rw [shC_d (by rw [← e1x1]; exact c1x5)]; exact bhp_t (T := (s.2.2.1 32 3).toInt) (fun p hp hn => q_1 p hp hn) (by rw [← e_32_3]; exact (have a0 := in_u ro_32_3; have a1 := in_u ro_2_3; have a2 := in_u i1x5; have a3 := in_u i7x1; have oc := oc_235_0; by omega)) (by exact (have a0 := in_u ro_32_3; have a1 := in_u ro_2_3; have a2 := in_u i1x5; have a3 := in_u i7x1; have oc := oc_235_0; by omega)))
          exact (hX _ _ ⟨Or.inl ⟨rfl, n10⟩, s, hI, fr_rf, rfl⟩)
      · skip
        have i7x9 := r_lt1 0 159 c7x9 i7x1 ro_32_3 rfl
        have i7x9a := r_lt2 1 160 c7x9 i7x1 ro_32_3 rfl
        refine g_aload_n 13 (gd rfl) rfl rfl ?_
        refine g_getA (q2 := 34) 16 (gd rfl) rfl rfl rfl rfl ?_
        refine g_iload_n 17 (gd rfl) rfl rfl ?_
        refine g_iaload 18 (gd rfl) rfl (n := 160) rfl (in_ix i7x9 rfl) (fun z7x17 e7x17 => ?_)
        have i7x17 := inv_I hI (n := 160) (t := 0) (-1) 31 rfl (in_ix i7x9 rfl) rfl e7x17
        refine g_iconst (-1) 19 (gd rfl) rfl rfl ?_
        refine g_cmp_eq 22 26 (gd rfl) rfl rfl (fun c7x19 => ?_) (fun c7x19 => ?_)
        · skip
          have i7x19 := r_eq1 (-1) (-1) c7x19 i7x17 (in_c (-1) rfl) rfl
          refine g_iconst 0 27 (gd rfl) rfl rfl ?_
          refine g_ireturn (gd rfl) rfl (nb01 (in_w 0 1 (in_c 0 rfl) rfl)) (hp7 _ _ ?_)
          show GG _ _ _ _ _ _ _ _ [.int (Int32.ofInt 0)] _ _ _
          refine g_thr (E := am_IA) (y := yX11_allow) 13 (gd rfl) rfl rfl (Or.inl ⟨rfl, rfl, rfl⟩) (by first | exact dq1 hd rfl | exact dq0 hd rfl | exact dq2 hd rfl | exact dq3 hd rfl | omega) (Nat.le_of_ble_eq_true rfl) (Nat.le_of_ble_eq_true rfl) (Nat.le_of_ble_eq_true rfl) (fun c10 => ?_) (fun c10 => ?_)
          · skip
            exact zn_ne c10 (in_c 0 rfl) rfl
          · skip
            have n10 : ¬ BHP (shC s) x1 := by first | (rw [shC_n (by rw [← e1x1]; exact c1x5)]; exact bhp_n (show (s.1 4 (x1).toNatClampNeg).toInt = -1 from (by rw [← e7x17]; exact (have a0 := in_u i7x9; have a1 := in_u i7x9a; have a2 := in_u ro_2_3; have a3 := in_u i1x5; have oc := oc_235_0; by omega)))) | (rw [shC_d (by rw [← e1x1]; exact c1x5)]; exact bhp_n (show (s.1 34 (x1).toNatClampNeg).toInt = -1 from (by rw [← e7x17]; exact (have a0 := in_u i7x9; have a1 := in_u i7x9a; have a2 := in_u ro_2_3; have a3 := in_u i1x5; have oc := oc_235_0; by omega))))
            exact (hX _ _ ⟨Or.inl ⟨rfl, n10⟩, s, hI, fr_rf, rfl⟩)
        · skip
          have i7x19 := r_ne1 0 31 c7x19 i7x17 (in_c (-1) rfl) rfl
          refine g_iconst 1 23 (gd rfl) rfl rfl ?_
          refine g_goto 27 (gd rfl) rfl ?_
          refine g_ireturn (gd rfl) rfl (nb01 (in_w 0 1 (in_c 1 rfl) rfl)) (hp7 _ _ ?_)
          show GG _ _ _ _ _ _ _ _ [.int (Int32.ofInt 1)] _ _ _
          refine g_thr (E := am_IA) (y := yX11_allow) 13 (gd rfl) rfl rfl (Or.inl ⟨rfl, rfl, rfl⟩) (by first | exact dq1 hd rfl | exact dq0 hd rfl | exact dq2 hd rfl | exact dq3 hd rfl | omega) (Nat.le_of_ble_eq_true rfl) (Nat.le_of_ble_eq_true rfl) (Nat.le_of_ble_eq_true rfl) (fun c10 => ?_) (fun c10 => ?_)
          · skip
            refine g_aload_n 14 (gd rfl) rfl rfl ?_
            refine g_getA (q2 := 56) 17 (gd rfl) rfl rfl rfl rfl ?_
            refine g_aload_n 18 (gd rfl) rfl rfl ?_
            refine g_iload_n 19 (gd rfl) rfl rfl ?_
            have p19 : TQD s := by first | exact q_0 | exact q_1
            refine g_callv (X := _) (As := [.ref (A 32), .int x1]) (r := []) (b := A 56) (q := 56) 22 (gd rfl) rfl rfl rfl rfl rfl (ww_o rfl) (Nat.le_of_ble_eq_true rfl) (Nat.zero_le _) (Nat.zero_le _) (f_142_56_32 (by first | exact dq1 hd rfl | exact dq0 hd rfl | exact dq2 hd rfl | exact dq3 hd rfl | omega) hI (in_w 0 159 i7x9 rfl) p19) (fun e u h => h) (fun v u h => ?_)
            obtain ⟨s19, hI19, hF19, z19, rfl, rfl, i19, p19a⟩ := h
            show GG _ _ _ _ _ _ _ _ [.int z19] _ _ _
            have n22 : BHP (shC s) x1 ∧ ((z19).toInt ≠ 0 ↔ BRG (shC s) x1.toNatClampNeg) := by first | (rw [shC_n (by rw [← e1x1]; exact c1x5)]; exact ⟨(bhp_y (g := gvC s) (x := x1) (by exact (have a0 := in_u i7x9; have a1 := in_u i7x9a; have a2 := in_u ro_2_3; have a3 := in_u i1x5; have oc := oc_235_0; by omega)) (by exact (have a0 := in_u i7x9; have a1 := in_u i7x9a; have a2 := in_u ro_2_3; have a3 := in_u i1x5; have oc := oc_235_0; by omega)) e7x17 (by exact (have a0 := in_u i7x9; have a1 := in_u i7x9a; have a2 := in_u ro_2_3; have a3 := in_u i1x5; have oc := oc_235_0; by omega))), p19a⟩) | (rw [shC_d (by rw [← e1x1]; exact c1x5)]; exact ⟨(bhp_y (g := gvD s) (x := x1) (by exact (have a0 := in_u i7x9; have a1 := in_u i7x9a; have a2 := in_u ro_2_3; have a3 := in_u i1x5; have oc := oc_235_0; by omega)) (by exact (have a0 := in_u i7x9; have a1 := in_u i7x9a; have a2 := in_u ro_2_3; have a3 := in_u i1x5; have oc := oc_235_0; by omega)) e7x17 (by exact (have a0 := in_u i7x9; have a1 := in_u i7x9a; have a2 := in_u ro_2_3; have a3 := in_u i1x5; have oc := oc_235_0; by omega))), p19a⟩)
            exact g_ireturn (gd rfl) rfl (nb01 (in_w 0 1 i19 rfl)) (hP _ _ ⟨s19, hI19, (fr_tr rfl fr_rf hF19), z19, rfl, rfl, in_w 0 1 i19 rfl, n22⟩)
          · skip
            exact zn_eq c10 (in_c 1 rfl) rfl
  · skip
    have i1x5 := r_eq1 (-1) (-1) c1x5 ro_0_2 (in_c (-1) rfl) rfl
    refine g_aload_n 9 (gd rfl) rfl rfl ?_
    refine g_getA (q2 := 1) 12 (gd rfl) rfl rfl rfl rfl ?_
    refine g_getA (q2 := 2) 15 (gd rfl) rfl rfl rfl rfl ?_
    refine g_goto 22 (gd rfl) rfl ?_
    refine g_areturn (gd rfl) rfl (hp1 _ _ ?_)
    show GG _ _ _ _ _ _ _ _ [.ref (A 2)] _ _ _
    refine g_astore_n 5 (gd rfl) rfl (Nat.le_of_ble_eq_true rfl) ?_
    refine g_aload_n 6 (gd rfl) rfl rfl ?_
    refine g_iload_n 7 (gd rfl) rfl rfl ?_
    refine g_callv (X := _) (As := [.int x1]) (r := []) (b := A 2) (q := 2) 10 (gd rfl) rfl rfl rfl rfl rfl (ww_o rfl) (Nat.le_of_ble_eq_true rfl) (mc := 0) (ms := 0) (Nat.zero_le _) (Nat.zero_le _) (P := fun v u => _) ?_ (fun e u h => h) (fun v u h => h)
    intro po7 xx7 hp7 hx7
    refine g_enter2 (k := 96) (N := 300) (by first | exact dq1 hd rfl | exact dq0 hd rfl | exact dq2 hd rfl | exact dq3 hd rfl | omega) rfl (Nat.le_of_ble_eq_true rfl) ?_
    refine g_iload_n 1 (gd rfl) rfl rfl ?_
    refine g_if_lt 4 26 (gd rfl) rfl rfl (fun c7x1 => ?_) (fun c7x1 => ?_)
    · skip
      have i7x1 := z_lt (-2147483648) (-1) c7x1 (i_rng x1) rfl
      refine g_iconst 0 27 (gd rfl) rfl rfl ?_
      refine g_ireturn (gd rfl) rfl (nb01 (in_w 0 1 (in_c 0 rfl) rfl)) (hp7 _ _ ?_)
      show GG _ _ _ _ _ _ _ _ [.int (Int32.ofInt 0)] _ _ _
      refine g_thr (E := am_IA) (y := yX11_allow) 13 (gd rfl) rfl rfl (Or.inl ⟨rfl, rfl, rfl⟩) (by first | exact dq1 hd rfl | exact dq0 hd rfl | exact dq2 hd rfl | exact dq3 hd rfl | omega) (Nat.le_of_ble_eq_true rfl) (Nat.le_of_ble_eq_true rfl) (Nat.le_of_ble_eq_true rfl) (fun c10 => ?_) (fun c10 => ?_)
      · skip
        exact zn_ne c10 (in_c 0 rfl) rfl
      · skip
        have n10 : ¬ BHP (shC s) x1 := by intro h; have a := h.1.1; exact (have a0 := in_u ro_32_3; have a1 := in_u ro_2_3; have a2 := in_u i1x5; have a3 := in_u i7x1; have oc := oc_235_0; by omega)
        exact (hX _ _ ⟨Or.inl ⟨rfl, n10⟩, s, hI, fr_rf, rfl⟩)
    · skip
      have i7x1 := z_ge 0 2147483647 c7x1 (i_rng x1) rfl
      refine g_iload_n 5 (gd rfl) rfl rfl ?_
      refine g_aload_n 6 (gd rfl) rfl rfl ?_
      refine g_getI 9 (gd rfl) rfl rfl rfl (fun z7x6 e7x6 => ?_)
      have q7x6 : u_2_3 = z7x6 := (e_2_3).trans e7x6.symm
      subst q7x6
      refine g_cmp_ge 12 26 (gd rfl) rfl rfl (fun c7x9 => ?_) (fun c7x9 => ?_)
      · skip
        refine g_iconst 0 27 (gd rfl) rfl rfl ?_
        refine g_ireturn (gd rfl) rfl (nb01 (in_w 0 1 (in_c 0 rfl) rfl)) (hp7 _ _ ?_)
        show GG _ _ _ _ _ _ _ _ [.int (Int32.ofInt 0)] _ _ _
        refine g_thr (E := am_IA) (y := yX11_allow) 13 (gd rfl) rfl rfl (Or.inl ⟨rfl, rfl, rfl⟩) (by first | exact dq1 hd rfl | exact dq0 hd rfl | exact dq2 hd rfl | exact dq3 hd rfl | omega) (Nat.le_of_ble_eq_true rfl) (Nat.le_of_ble_eq_true rfl) (Nat.le_of_ble_eq_true rfl) (fun c10 => ?_) (fun c10 => ?_)
        · skip
          exact zn_ne c10 (in_c 0 rfl) rfl
        · skip
          have n10 : ¬ BHP (shC s) x1 := by first | (rw [shC_n (by rw [← e1x1]; exact c1x5)]; exact bhp_t (T := (s.2.2.1 2 3).toInt) (fun p hp hn => q_0 p hp hn) (by rw [← e_2_3]; exact (have a0 := in_u ro_32_3; have a1 := in_u ro_2_3; have a2 := in_u i1x5; have a3 := in_u i7x1; have oc := oc_235_0; by omega)) (by exact (have a0 := in_u ro_32_3; have a1 := in_u ro_2_3; have a2 := in_u i1x5; have a3 := in_u i7x1; have oc := oc_235_0; by omega))) | (rw [shC_d (by rw [← e1x1]; exact c1x5)]; exact bhp_t (T := (s.2.2.1 32 3).toInt) (fun p hp hn => q_1 p hp hn) (by rw [← e_32_3]; exact (have a0 := in_u ro_32_3; have a1 := in_u ro_2_3; have a2 := in_u i1x5; have a3 := in_u i7x1; have oc := oc_235_0; by omega)) (by exact (have a0 := in_u ro_32_3; have a1 := in_u ro_2_3; have a2 := in_u i1x5; have a3 := in_u i7x1; have oc := oc_235_0; by omega)))
          exact (hX _ _ ⟨Or.inl ⟨rfl, n10⟩, s, hI, fr_rf, rfl⟩)
      · skip
        have i7x9 := r_lt1 0 159 c7x9 i7x1 ro_2_3 rfl
        have i7x9a := r_lt2 1 160 c7x9 i7x1 ro_2_3 rfl
        refine g_aload_n 13 (gd rfl) rfl rfl ?_
        refine g_getA (q2 := 4) 16 (gd rfl) rfl rfl rfl rfl ?_
        refine g_iload_n 17 (gd rfl) rfl rfl ?_
        refine g_iaload 18 (gd rfl) rfl (n := 160) rfl (in_ix i7x9 rfl) (fun z7x17 e7x17 => ?_)
        have i7x17 := inv_I hI (n := 160) (t := 0) (-1) 31 rfl (in_ix i7x9 rfl) rfl e7x17
        refine g_iconst (-1) 19 (gd rfl) rfl rfl ?_
        refine g_cmp_eq 22 26 (gd rfl) rfl rfl (fun c7x19 => ?_) (fun c7x19 => ?_)
        · skip
          have i7x19 := r_eq1 (-1) (-1) c7x19 i7x17 (in_c (-1) rfl) rfl
          refine g_iconst 0 27 (gd rfl) rfl rfl ?_
          refine g_ireturn (gd rfl) rfl (nb01 (in_w 0 1 (in_c 0 rfl) rfl)) (hp7 _ _ ?_)
          show GG _ _ _ _ _ _ _ _ [.int (Int32.ofInt 0)] _ _ _
          refine g_thr (E := am_IA) (y := yX11_allow) 13 (gd rfl) rfl rfl (Or.inl ⟨rfl, rfl, rfl⟩) (by first | exact dq1 hd rfl | exact dq0 hd rfl | exact dq2 hd rfl | exact dq3 hd rfl | omega) (Nat.le_of_ble_eq_true rfl) (Nat.le_of_ble_eq_true rfl) (Nat.le_of_ble_eq_true rfl) (fun c10 => ?_) (fun c10 => ?_)
          · skip
            exact zn_ne c10 (in_c 0 rfl) rfl
          · skip
            have n10 : ¬ BHP (shC s) x1 := by first | (rw [shC_n (by rw [← e1x1]; exact c1x5)]; exact bhp_n (show (s.1 4 (x1).toNatClampNeg).toInt = -1 from (by rw [← e7x17]; exact (have a0 := in_u i7x9; have a1 := in_u ro_32_3; have a2 := in_u i7x9a; have a3 := in_u i1x5; have oc := oc_235_0; by omega)))) | (rw [shC_d (by rw [← e1x1]; exact c1x5)]; exact bhp_n (show (s.1 34 (x1).toNatClampNeg).toInt = -1 from (by rw [← e7x17]; exact (have a0 := in_u i7x9; have a1 := in_u ro_32_3; have a2 := in_u i7x9a; have a3 := in_u i1x5; have oc := oc_235_0; by omega))))
            exact (hX _ _ ⟨Or.inl ⟨rfl, n10⟩, s, hI, fr_rf, rfl⟩)
        · skip
          have i7x19 := r_ne1 0 31 c7x19 i7x17 (in_c (-1) rfl) rfl
          refine g_iconst 1 23 (gd rfl) rfl rfl ?_
          refine g_goto 27 (gd rfl) rfl ?_
          refine g_ireturn (gd rfl) rfl (nb01 (in_w 0 1 (in_c 1 rfl) rfl)) (hp7 _ _ ?_)
          show GG _ _ _ _ _ _ _ _ [.int (Int32.ofInt 1)] _ _ _
          refine g_thr (E := am_IA) (y := yX11_allow) 13 (gd rfl) rfl rfl (Or.inl ⟨rfl, rfl, rfl⟩) (by first | exact dq1 hd rfl | exact dq0 hd rfl | exact dq2 hd rfl | exact dq3 hd rfl | omega) (Nat.le_of_ble_eq_true rfl) (Nat.le_of_ble_eq_true rfl) (Nat.le_of_ble_eq_true rfl) (fun c10 => ?_) (fun c10 => ?_)
          · skip
            refine g_aload_n 14 (gd rfl) rfl rfl ?_
            refine g_getA (q2 := 56) 17 (gd rfl) rfl rfl rfl rfl ?_
            refine g_aload_n 18 (gd rfl) rfl rfl ?_
            refine g_iload_n 19 (gd rfl) rfl rfl ?_
            have p19 : TQ s := by first | exact q_0 | exact q_1
            refine g_callv (X := _) (As := [.ref (A 2), .int x1]) (r := []) (b := A 56) (q := 56) 22 (gd rfl) rfl rfl rfl rfl rfl (ww_o rfl) (Nat.le_of_ble_eq_true rfl) (Nat.zero_le _) (Nat.zero_le _) (f_142_56_2 (by first | exact dq1 hd rfl | exact dq0 hd rfl | exact dq2 hd rfl | exact dq3 hd rfl | omega) hI (in_w 0 159 i7x9 rfl) p19) (fun e u h => h) (fun v u h => ?_)
            obtain ⟨s19, hI19, hF19, z19, rfl, rfl, i19, p19a⟩ := h
            show GG _ _ _ _ _ _ _ _ [.int z19] _ _ _
            have n22 : BHP (shC s) x1 ∧ ((z19).toInt ≠ 0 ↔ BRG (shC s) x1.toNatClampNeg) := by first | (rw [shC_n (by rw [← e1x1]; exact c1x5)]; exact ⟨(bhp_y (g := gvC s) (x := x1) (by exact (have a0 := in_u i7x9; have a1 := in_u ro_32_3; have a2 := in_u i7x9a; have a3 := in_u i1x5; have oc := oc_235_0; by omega)) (by exact (have a0 := in_u i7x9; have a1 := in_u ro_32_3; have a2 := in_u i7x9a; have a3 := in_u i1x5; have oc := oc_235_0; by omega)) e7x17 (by exact (have a0 := in_u i7x9; have a1 := in_u ro_32_3; have a2 := in_u i7x9a; have a3 := in_u i1x5; have oc := oc_235_0; by omega))), p19a⟩) | (rw [shC_d (by rw [← e1x1]; exact c1x5)]; exact ⟨(bhp_y (g := gvD s) (x := x1) (by exact (have a0 := in_u i7x9; have a1 := in_u ro_32_3; have a2 := in_u i7x9a; have a3 := in_u i1x5; have oc := oc_235_0; by omega)) (by exact (have a0 := in_u i7x9; have a1 := in_u ro_32_3; have a2 := in_u i7x9a; have a3 := in_u i1x5; have oc := oc_235_0; by omega)) e7x17 (by exact (have a0 := in_u i7x9; have a1 := in_u ro_32_3; have a2 := in_u i7x9a; have a3 := in_u i1x5; have oc := oc_235_0; by omega))), p19a⟩)
            exact g_ireturn (gd rfl) rfl (nb01 (in_w 0 1 i19 rfl)) (hP _ _ ⟨s19, hI19, (fr_tr rfl fr_rf hF19), z19, rfl, rfl, in_w 0 1 i19 rfl, n22⟩)
          · skip
            exact zn_eq c10 (in_c 1 rfl) rfl

theorem oc_330_109 : (Int32.ofInt (-1)).toInt = (-1) ∧ (Int32.ofInt 0).toInt = 0 ∧ (Int32.ofInt 1).toInt = 1 ∧ (Int32.ofInt 160).toInt = 160 := ⟨rfl, rfl, rfl, rfl⟩
/-- GraphHouseModel.bridge -/
theorem f_330 {Z : AmZ} {A : Nat → Nat} {s : GS} {ex : va_W} {d : Nat} {X : AmX} {x1 : Int32} (hd : 5 ≤ d) (hI : Inv s)  : GC Z d 330 [.ref (A 109), .int x1] (WW Z A s ++ ex) 0 0 (fun v u => ∃ t : GS, Inv t ∧ Fr fm_330 s t ∧ ∃ z : Int32, v = some (.int z) ∧ u = WW Z A t ++ ex ∧ In z 0 1 ∧ (BRR s t x1 z)) X := by
  intro post xp hP hX
  obtain ⟨u_109_19, e_109_19⟩ : ∃ w, w = s.2.2.1 109 19 := ⟨_, rfl⟩
  have ro_109_19 := inv_F hI 0 160 rfl e_109_19
  refine g_enter2 (k := 330) (N := 900) (by first | exact dq1 hd rfl | exact dq0 hd rfl | exact dq2 hd rfl | exact dq3 hd rfl | omega) rfl (Nat.le_of_ble_eq_true rfl) ?_
  refine g_aload_n 1 (gd rfl) rfl rfl ?_
  refine g_aload_n 2 (gd rfl) rfl rfl ?_
  refine g_iload_n 3 (gd rfl) rfl rfl ?_
  refine g_callv (X := _) (As := [.int x1]) (r := [.ref (A 109)]) (b := A 109) (q := 109) 6 (gd rfl) rfl rfl rfl rfl rfl (ww_o rfl) (Nat.le_of_ble_eq_true rfl) (mc := 0) (ms := 0) (Nat.zero_le _) (Nat.zero_le _) (P := fun v u => _) ?_ (fun e u h => h) (fun v u h => h)
  intro po3 xx3 hp3 hx3
  refine g_enter2 (k := 273) (N := 300) (by first | exact dq1 hd rfl | exact dq0 hd rfl | exact dq2 hd rfl | exact dq3 hd rfl | omega) rfl (Nat.le_of_ble_eq_true rfl) ?_
  refine g_iload_n 1 (gd rfl) rfl rfl ?_
  refine g_if_lt 4 29 (gd rfl) rfl rfl (fun c3x1 => ?_) (fun c3x1 => ?_)
  · skip
    have i3x1 := z_lt (-2147483648) (-1) c3x1 (i_rng x1) rfl
    refine g_iconst 0 30 (gd rfl) rfl rfl ?_
    refine g_ireturn (gd rfl) rfl (nb01 (in_w 0 1 (in_c 0 rfl) rfl)) (hp3 _ _ ?_)
    show GG _ _ _ _ _ _ _ _ [.int (Int32.ofInt 0), .ref (A 109)] _ _ _
    refine g_callv (X := _) (As := [.int (Int32.ofInt 0)]) (r := []) (b := A 109) (q := 109) 9 (gd rfl) rfl rfl rfl rfl rfl (ww_o rfl) (Nat.le_of_ble_eq_true rfl) (mc := 0) (ms := 0) (Nat.zero_le _) (Nat.zero_le _) (P := fun v u => _) ?_ (fun e u h => h) (fun v u h => h)
    intro po6 xx6 hp6 hx6
    refine g_enter2 (k := 271) (N := 300) (by first | exact dq1 hd rfl | exact dq0 hd rfl | exact dq2 hd rfl | exact dq3 hd rfl | omega) rfl (Nat.le_of_ble_eq_true rfl) ?_
    refine g_aload_n 1 (gd rfl) rfl rfl ?_
    refine g_iload_n 2 (gd rfl) rfl rfl ?_
    refine g_iconst 1 3 (gd rfl) rfl rfl ?_
    refine g_callv (X := _) (As := [.int (Int32.ofInt 0), .int (Int32.ofInt 1)]) (r := []) (b := A 109) (q := 109) 6 (gd rfl) rfl rfl rfl rfl rfl (ww_o rfl) (Nat.le_of_ble_eq_true rfl) (mc := 0) (ms := 0) (Nat.zero_le _) (Nat.zero_le _) (P := fun v u => _) ?_ (fun e u h => h) (fun v u h => h)
    intro po6x3 xx6x3 hp6x3 hx6x3
    refine g_enter2 (k := 270) (N := 300) (by first | exact dq1 hd rfl | exact dq0 hd rfl | exact dq2 hd rfl | exact dq3 hd rfl | omega) rfl (Nat.le_of_ble_eq_true rfl) ?_
    refine g_aload_n 1 (gd rfl) rfl rfl ?_
    refine g_iload_n 2 (gd rfl) rfl rfl ?_
    refine g_if_ne 5 9 (gd rfl) rfl rfl (fun c6x3x2 => ?_) (fun c6x3x2 => ?_)
    · skip
      exact zn_ne c6x3x2 (in_c 0 rfl) rfl
    · skip
      refine g_iconst 1 6 (gd rfl) rfl rfl ?_
      refine g_goto 18 (gd rfl) rfl ?_
      refine g_putI 21 (gd rfl) rfl rfl rfl rfl ?_
      have hI6x3x18 := inv_sF (q := 109) (j := 0) hI rfl (in_w 0 2 (in_c 1 rfl) rfl)
      refine g_aload_n 22 (gd rfl) rfl rfl ?_
      refine g_getI 25 (gd rfl) rfl rfl rfl (fun z6x3x22 e6x3x22 => ?_)
      have q6x3x22 : (Int32.ofInt 1) = z6x3x22 := (sF_get).trans e6x3x22.symm
      subst q6x3x22
      refine g_if_le 28 32 (gd rfl) rfl rfl (fun c6x3x25 => ?_) (fun c6x3x25 => ?_)
      · skip
        exact zn_le c6x3x25 (in_c 1 rfl) rfl
      · skip
        refine g_iconst 1 29 (gd rfl) rfl rfl ?_
        refine g_goto 33 (gd rfl) rfl ?_
        refine g_ireturn (gd rfl) rfl (nb01 (in_w 0 1 (in_c 1 rfl) rfl)) (hp6x3 _ _ ?_)
        show GG _ _ _ _ _ _ _ _ [.int (Int32.ofInt 1)] _ _ _
        refine g_ireturn (gd rfl) rfl (nb01 (in_w 0 1 (in_c 1 rfl) rfl)) (hp6 _ _ ?_)
        show GG _ _ _ _ _ _ _ _ [.int (Int32.ofInt 1)] _ _ _
        refine g_if_eq 12 14 (gd rfl) rfl rfl (fun c9 => ?_) (fun c9 => ?_)
        · skip
          exact zn_eq c9 (in_c 1 rfl) rfl
        · skip
          refine g_iconst 0 13 (gd rfl) rfl rfl ?_
          have n13 : BRR s (sF s 109 0 (Int32.ofInt 1)) x1 (Int32.ofInt 0) := by exact Or.inl ⟨rfl, fun h => (by have a := h.1.1; have b := h.1.2; exact (have a0 := in_u ro_109_19; have a1 := in_u i3x1; have a2 := in_u ((in_c 1 rfl)); have oc := oc_330_109; by omega))⟩
          exact g_ireturn (gd rfl) rfl (nb01 (in_w 0 1 (in_c 0 rfl) rfl)) (hP _ _ ⟨(sF s 109 0 (Int32.ofInt 1)), hI6x3x18, (fr_sF rfl fr_rf), (Int32.ofInt 0), rfl, rfl, in_w 0 1 (in_c 0 rfl) rfl, n13⟩)
  · skip
    have i3x1 := z_ge 0 2147483647 c3x1 (i_rng x1) rfl
    refine g_iload_n 5 (gd rfl) rfl rfl ?_
    refine g_sipush 160 8 (gd rfl) rfl rfl ?_
    refine g_cmp_ge 11 29 (gd rfl) rfl rfl (fun c3x8 => ?_) (fun c3x8 => ?_)
    · skip
      have i3x8 := r_le2 160 2147483647 c3x8 (in_c 160 rfl) i3x1 rfl
      refine g_iconst 0 30 (gd rfl) rfl rfl ?_
      refine g_ireturn (gd rfl) rfl (nb01 (in_w 0 1 (in_c 0 rfl) rfl)) (hp3 _ _ ?_)
      show GG _ _ _ _ _ _ _ _ [.int (Int32.ofInt 0), .ref (A 109)] _ _ _
      refine g_callv (X := _) (As := [.int (Int32.ofInt 0)]) (r := []) (b := A 109) (q := 109) 9 (gd rfl) rfl rfl rfl rfl rfl (ww_o rfl) (Nat.le_of_ble_eq_true rfl) (mc := 0) (ms := 0) (Nat.zero_le _) (Nat.zero_le _) (P := fun v u => _) ?_ (fun e u h => h) (fun v u h => h)
      intro po6 xx6 hp6 hx6
      refine g_enter2 (k := 271) (N := 300) (by first | exact dq1 hd rfl | exact dq0 hd rfl | exact dq2 hd rfl | exact dq3 hd rfl | omega) rfl (Nat.le_of_ble_eq_true rfl) ?_
      refine g_aload_n 1 (gd rfl) rfl rfl ?_
      refine g_iload_n 2 (gd rfl) rfl rfl ?_
      refine g_iconst 1 3 (gd rfl) rfl rfl ?_
      refine g_callv (X := _) (As := [.int (Int32.ofInt 0), .int (Int32.ofInt 1)]) (r := []) (b := A 109) (q := 109) 6 (gd rfl) rfl rfl rfl rfl rfl (ww_o rfl) (Nat.le_of_ble_eq_true rfl) (mc := 0) (ms := 0) (Nat.zero_le _) (Nat.zero_le _) (P := fun v u => _) ?_ (fun e u h => h) (fun v u h => h)
      intro po6x3 xx6x3 hp6x3 hx6x3
      refine g_enter2 (k := 270) (N := 300) (by first | exact dq1 hd rfl | exact dq0 hd rfl | exact dq2 hd rfl | exact dq3 hd rfl | omega) rfl (Nat.le_of_ble_eq_true rfl) ?_
      refine g_aload_n 1 (gd rfl) rfl rfl ?_
      refine g_iload_n 2 (gd rfl) rfl rfl ?_
      refine g_if_ne 5 9 (gd rfl) rfl rfl (fun c6x3x2 => ?_) (fun c6x3x2 => ?_)
      · skip
        exact zn_ne c6x3x2 (in_c 0 rfl) rfl
      · skip
        refine g_iconst 1 6 (gd rfl) rfl rfl ?_
        refine g_goto 18 (gd rfl) rfl ?_
        refine g_putI 21 (gd rfl) rfl rfl rfl rfl ?_
        have hI6x3x18 := inv_sF (q := 109) (j := 0) hI rfl (in_w 0 2 (in_c 1 rfl) rfl)
        refine g_aload_n 22 (gd rfl) rfl rfl ?_
        refine g_getI 25 (gd rfl) rfl rfl rfl (fun z6x3x22 e6x3x22 => ?_)
        have q6x3x22 : (Int32.ofInt 1) = z6x3x22 := (sF_get).trans e6x3x22.symm
        subst q6x3x22
        refine g_if_le 28 32 (gd rfl) rfl rfl (fun c6x3x25 => ?_) (fun c6x3x25 => ?_)
        · skip
          exact zn_le c6x3x25 (in_c 1 rfl) rfl
        · skip
          refine g_iconst 1 29 (gd rfl) rfl rfl ?_
          refine g_goto 33 (gd rfl) rfl ?_
          refine g_ireturn (gd rfl) rfl (nb01 (in_w 0 1 (in_c 1 rfl) rfl)) (hp6x3 _ _ ?_)
          show GG _ _ _ _ _ _ _ _ [.int (Int32.ofInt 1)] _ _ _
          refine g_ireturn (gd rfl) rfl (nb01 (in_w 0 1 (in_c 1 rfl) rfl)) (hp6 _ _ ?_)
          show GG _ _ _ _ _ _ _ _ [.int (Int32.ofInt 1)] _ _ _
          refine g_if_eq 12 14 (gd rfl) rfl rfl (fun c9 => ?_) (fun c9 => ?_)
          · skip
            exact zn_eq c9 (in_c 1 rfl) rfl
          · skip
            refine g_iconst 0 13 (gd rfl) rfl rfl ?_
            have n13 : BRR s (sF s 109 0 (Int32.ofInt 1)) x1 (Int32.ofInt 0) := by exact Or.inl ⟨rfl, fun h => (by have a := h.1.1; have b := h.1.2; exact (have a0 := in_u ro_109_19; have a1 := in_u i3x8; have a2 := in_u ((in_c 1 rfl)); have oc := oc_330_109; by omega))⟩
            exact g_ireturn (gd rfl) rfl (nb01 (in_w 0 1 (in_c 0 rfl) rfl)) (hP _ _ ⟨(sF s 109 0 (Int32.ofInt 1)), hI6x3x18, (fr_sF rfl fr_rf), (Int32.ofInt 0), rfl, rfl, in_w 0 1 (in_c 0 rfl) rfl, n13⟩)
    · skip
      have i3x8 := r_lt1 0 159 c3x8 i3x1 (in_c 160 rfl) rfl
      refine g_aload_n 12 (gd rfl) rfl rfl ?_
      refine g_getA (q2 := 112) 15 (gd rfl) rfl rfl rfl rfl ?_
      refine g_aload_n 16 (gd rfl) rfl rfl ?_
      refine g_getI 19 (gd rfl) rfl rfl rfl (fun z3x16 e3x16 => ?_)
      have q3x16 : u_109_19 = z3x16 := (e_109_19).trans e3x16.symm
      subst q3x16
      refine g_iload_n 20 (gd rfl) rfl rfl ?_
      refine g_iadd 21 (gd rfl) rfl (fun z3x20 e3x20 => ?_)
      have i3x20 := in_add 0 319 e3x20 ro_109_19 i3x8 rfl rfl
      refine g_baload 22 (gd rfl) rfl (n := 480) rfl (in_ix i3x20 rfl) (fun z3x21 e3x21 => ?_)
      have i3x21 := inv_I hI (n := 480) (t := 3) 0 1 rfl (in_ix i3x20 rfl) rfl e3x21
      refine g_if_eq 25 29 (gd rfl) rfl rfl (fun c3x22 => ?_) (fun c3x22 => ?_)
      · skip
        have i3x22 := z_eq 0 0 c3x22 i3x21 rfl
        refine g_iconst 0 30 (gd rfl) rfl rfl ?_
        refine g_ireturn (gd rfl) rfl (nb01 (in_w 0 1 (in_c 0 rfl) rfl)) (hp3 _ _ ?_)
        show GG _ _ _ _ _ _ _ _ [.int (Int32.ofInt 0), .ref (A 109)] _ _ _
        refine g_callv (X := _) (As := [.int (Int32.ofInt 0)]) (r := []) (b := A 109) (q := 109) 9 (gd rfl) rfl rfl rfl rfl rfl (ww_o rfl) (Nat.le_of_ble_eq_true rfl) (mc := 0) (ms := 0) (Nat.zero_le _) (Nat.zero_le _) (P := fun v u => _) ?_ (fun e u h => h) (fun v u h => h)
        intro po6 xx6 hp6 hx6
        refine g_enter2 (k := 271) (N := 300) (by first | exact dq1 hd rfl | exact dq0 hd rfl | exact dq2 hd rfl | exact dq3 hd rfl | omega) rfl (Nat.le_of_ble_eq_true rfl) ?_
        refine g_aload_n 1 (gd rfl) rfl rfl ?_
        refine g_iload_n 2 (gd rfl) rfl rfl ?_
        refine g_iconst 1 3 (gd rfl) rfl rfl ?_
        refine g_callv (X := _) (As := [.int (Int32.ofInt 0), .int (Int32.ofInt 1)]) (r := []) (b := A 109) (q := 109) 6 (gd rfl) rfl rfl rfl rfl rfl (ww_o rfl) (Nat.le_of_ble_eq_true rfl) (mc := 0) (ms := 0) (Nat.zero_le _) (Nat.zero_le _) (P := fun v u => _) ?_ (fun e u h => h) (fun v u h => h)
        intro po6x3 xx6x3 hp6x3 hx6x3
        refine g_enter2 (k := 270) (N := 300) (by first | exact dq1 hd rfl | exact dq0 hd rfl | exact dq2 hd rfl | exact dq3 hd rfl | omega) rfl (Nat.le_of_ble_eq_true rfl) ?_
        refine g_aload_n 1 (gd rfl) rfl rfl ?_
        refine g_iload_n 2 (gd rfl) rfl rfl ?_
        refine g_if_ne 5 9 (gd rfl) rfl rfl (fun c6x3x2 => ?_) (fun c6x3x2 => ?_)
        · skip
          exact zn_ne c6x3x2 (in_c 0 rfl) rfl
        · skip
          refine g_iconst 1 6 (gd rfl) rfl rfl ?_
          refine g_goto 18 (gd rfl) rfl ?_
          refine g_putI 21 (gd rfl) rfl rfl rfl rfl ?_
          have hI6x3x18 := inv_sF (q := 109) (j := 0) hI rfl (in_w 0 2 (in_c 1 rfl) rfl)
          refine g_aload_n 22 (gd rfl) rfl rfl ?_
          refine g_getI 25 (gd rfl) rfl rfl rfl (fun z6x3x22 e6x3x22 => ?_)
          have q6x3x22 : (Int32.ofInt 1) = z6x3x22 := (sF_get).trans e6x3x22.symm
          subst q6x3x22
          refine g_if_le 28 32 (gd rfl) rfl rfl (fun c6x3x25 => ?_) (fun c6x3x25 => ?_)
          · skip
            exact zn_le c6x3x25 (in_c 1 rfl) rfl
          · skip
            refine g_iconst 1 29 (gd rfl) rfl rfl ?_
            refine g_goto 33 (gd rfl) rfl ?_
            refine g_ireturn (gd rfl) rfl (nb01 (in_w 0 1 (in_c 1 rfl) rfl)) (hp6x3 _ _ ?_)
            show GG _ _ _ _ _ _ _ _ [.int (Int32.ofInt 1)] _ _ _
            refine g_ireturn (gd rfl) rfl (nb01 (in_w 0 1 (in_c 1 rfl) rfl)) (hp6 _ _ ?_)
            show GG _ _ _ _ _ _ _ _ [.int (Int32.ofInt 1)] _ _ _
            refine g_if_eq 12 14 (gd rfl) rfl rfl (fun c9 => ?_) (fun c9 => ?_)
            · skip
              exact zn_eq c9 (in_c 1 rfl) rfl
            · skip
              refine g_iconst 0 13 (gd rfl) rfl rfl ?_
              have n13 : BRR s (sF s 109 0 (Int32.ofInt 1)) x1 (Int32.ofInt 0) := by exact Or.inl ⟨rfl, fun h => h.2 (arz_n hI (e3x21.trans (congrArg (s.1 112) (show z3x20.toNatClampNeg = bs s + (x1).toNatClampNeg from (by show z3x20.toInt.toNat = (s.2.2.1 109 19).toInt.toNat + (x1).toInt.toNat; rw [← e_109_19]; exact (have a0 := in_u i3x8; have a1 := in_u ro_109_19; have a2 := in_u ((in_c 1 rfl)); have a3 := in_u i3x20; have a4 := t_add e3x20 ro_109_19 i3x8 rfl; have oc := oc_330_109; by omega))))) (by exact (have a0 := in_u i3x8; have a1 := in_u ro_109_19; have a2 := in_u ((in_c 1 rfl)); have a3 := in_u i3x20; have a4 := t_add e3x20 ro_109_19 i3x8 rfl; have oc := oc_330_109; by omega)))⟩
              exact g_ireturn (gd rfl) rfl (nb01 (in_w 0 1 (in_c 0 rfl) rfl)) (hP _ _ ⟨(sF s 109 0 (Int32.ofInt 1)), hI6x3x18, (fr_sF rfl fr_rf), (Int32.ofInt 0), rfl, rfl, in_w 0 1 (in_c 0 rfl) rfl, n13⟩)
      · skip
        have i3x22 := z_ne 1 1 c3x22 i3x21 rfl
        refine g_iconst 1 26 (gd rfl) rfl rfl ?_
        refine g_goto 30 (gd rfl) rfl ?_
        refine g_ireturn (gd rfl) rfl (nb01 (in_w 0 1 (in_c 1 rfl) rfl)) (hp3 _ _ ?_)
        show GG _ _ _ _ _ _ _ _ [.int (Int32.ofInt 1), .ref (A 109)] _ _ _
        refine g_callv (X := _) (As := [.int (Int32.ofInt 1)]) (r := []) (b := A 109) (q := 109) 9 (gd rfl) rfl rfl rfl rfl rfl (ww_o rfl) (Nat.le_of_ble_eq_true rfl) (mc := 0) (ms := 0) (Nat.zero_le _) (Nat.zero_le _) (P := fun v u => _) ?_ (fun e u h => h) (fun v u h => h)
        intro po6 xx6 hp6 hx6
        refine g_enter2 (k := 271) (N := 300) (by first | exact dq1 hd rfl | exact dq0 hd rfl | exact dq2 hd rfl | exact dq3 hd rfl | omega) rfl (Nat.le_of_ble_eq_true rfl) ?_
        refine g_aload_n 1 (gd rfl) rfl rfl ?_
        refine g_iload_n 2 (gd rfl) rfl rfl ?_
        refine g_iconst 1 3 (gd rfl) rfl rfl ?_
        refine g_callv (X := _) (As := [.int (Int32.ofInt 1), .int (Int32.ofInt 1)]) (r := []) (b := A 109) (q := 109) 6 (gd rfl) rfl rfl rfl rfl rfl (ww_o rfl) (Nat.le_of_ble_eq_true rfl) (mc := 0) (ms := 0) (Nat.zero_le _) (Nat.zero_le _) (P := fun v u => _) ?_ (fun e u h => h) (fun v u h => h)
        intro po6x3 xx6x3 hp6x3 hx6x3
        refine g_enter2 (k := 270) (N := 300) (by first | exact dq1 hd rfl | exact dq0 hd rfl | exact dq2 hd rfl | exact dq3 hd rfl | omega) rfl (Nat.le_of_ble_eq_true rfl) ?_
        refine g_aload_n 1 (gd rfl) rfl rfl ?_
        refine g_iload_n 2 (gd rfl) rfl rfl ?_
        refine g_if_ne 5 9 (gd rfl) rfl rfl (fun c6x3x2 => ?_) (fun c6x3x2 => ?_)
        · skip
          refine g_iload_n 10 (gd rfl) rfl rfl ?_
          refine g_if_ne 13 17 (gd rfl) rfl rfl (fun c6x3x10 => ?_) (fun c6x3x10 => ?_)
          · skip
            refine g_iconst 0 18 (gd rfl) rfl rfl ?_
            refine g_putI 21 (gd rfl) rfl rfl rfl rfl ?_
            have hI6x3x18 := inv_sF (q := 109) (j := 0) hI rfl (in_w 0 2 (in_c 0 rfl) rfl)
            refine g_aload_n 22 (gd rfl) rfl rfl ?_
            refine g_getI 25 (gd rfl) rfl rfl rfl (fun z6x3x22 e6x3x22 => ?_)
            have q6x3x22 : (Int32.ofInt 0) = z6x3x22 := (sF_get).trans e6x3x22.symm
            subst q6x3x22
            refine g_if_le 28 32 (gd rfl) rfl rfl (fun c6x3x25 => ?_) (fun c6x3x25 => ?_)
            · skip
              refine g_iconst 0 33 (gd rfl) rfl rfl ?_
              refine g_ireturn (gd rfl) rfl (nb01 (in_w 0 1 (in_c 0 rfl) rfl)) (hp6x3 _ _ ?_)
              show GG _ _ _ _ _ _ _ _ [.int (Int32.ofInt 0)] _ _ _
              refine g_ireturn (gd rfl) rfl (nb01 (in_w 0 1 (in_c 0 rfl) rfl)) (hp6 _ _ ?_)
              show GG _ _ _ _ _ _ _ _ [.int (Int32.ofInt 0)] _ _ _
              refine g_if_eq 12 14 (gd rfl) rfl rfl (fun c9 => ?_) (fun c9 => ?_)
              · skip
                refine g_aload_n 15 (gd rfl) rfl rfl ?_
                refine g_iload_n 16 (gd rfl) rfl rfl ?_
                refine g_iconst (-1) 17 (gd rfl) rfl rfl ?_
                refine g_callv (X := _) (As := [.int x1, .int (Int32.ofInt (-1))]) (r := []) (b := A 109) (q := 109) 20 (gd rfl) rfl rfl rfl rfl rfl (ww_o rfl) (Nat.le_of_ble_eq_true rfl) (Nat.zero_le _) (Nat.zero_le _) (f_329 (by first | exact dq1 hd rfl | exact dq0 hd rfl | exact dq2 hd rfl | exact dq3 hd rfl | omega) hI6x3x18 (in_w (-1) 159 i3x8 rfl) (in_w (-1) 31 (in_c (-1) rfl) rfl)) (fun e u h => h) (fun v u h => ?_)
                obtain ⟨s17, hI17, hF17, z17, rfl, rfl, i17, p17⟩ := h
                show GG _ _ _ _ _ _ _ _ [.int z17] _ _ _
                refine g_aload_n 21 (gd rfl) rfl rfl ?_
                refine g_iconst (-1) 22 (gd rfl) rfl rfl ?_
                refine g_iconst (-1) 23 (gd rfl) rfl rfl ?_
                refine g_callv (X := _) (As := [.int (Int32.ofInt (-1)), .int (Int32.ofInt (-1))]) (r := [.int z17]) (b := A 109) (q := 109) 26 (gd rfl) rfl rfl rfl rfl rfl (ww_o rfl) (Nat.le_of_ble_eq_true rfl) (Nat.zero_le _) (Nat.zero_le _) (f_329 (by first | exact dq1 hd rfl | exact dq0 hd rfl | exact dq2 hd rfl | exact dq3 hd rfl | omega) hI17 (in_w (-1) 159 (in_c (-1) rfl) rfl) (in_w (-1) 31 (in_c (-1) rfl) rfl)) (fun e u h => h) (fun v u h => ?_)
                obtain ⟨s23, hI23, hF23, z23, rfl, rfl, i23, p23⟩ := h
                show GG _ _ _ _ _ _ _ _ [.int z23, .int z17] _ _ _
                refine g_cmp_le 29 33 (gd rfl) rfl rfl (fun c26 => ?_) (fun c26 => ?_)
                · skip
                  refine g_iconst 0 34 (gd rfl) rfl rfl ?_
                  have n34 : BRR s s23 x1 (Int32.ofInt 0) := by first | (have h20 := inv_F hI (z := s.2.2.1 109 20) 0 32 rfl rfl; unfold In at h20; have a1 : (z17).toInt = (cnP (WPP s (((x1).toNatClampNeg : Nat) : Int) (-1)) (s.2.2.1 109 20).toInt.toNat : Int) := (by rw [(show (((x1).toNatClampNeg : Nat) : Int) = (x1).toInt from (by show (((x1).toInt.toNat : Nat) : Int) = _; exact (have a0 := in_u i3x8; have a1 := in_u ro_109_19; have a2 := in_u ((in_c 0 rfl)); have a3 := in_u i3x20; have a4 := t_add e3x20 ro_109_19 i3x8 rfl; have oc := oc_330_109; by omega)))]; exact wpn_cg p17 (show Fr ([], [], [(109, 0)], []) s (sF s 109 0 (Int32.ofInt 0)) from fr_sF rfl fr_rf) rfl); have a2 : (z23).toInt = (cnP (WPP s (-1) (-1)) (s.2.2.1 109 20).toInt.toNat : Int) := (wpn_cg p23 (show Fr fm_330 s s17 from fr_tr rfl (fr_sF rfl fr_rf) hF17) rfl); exact Or.inr ⟨(by rw [hF23.2.2.1 109 0 rfl, hF17.2.2.1 109 0 rfl]; rfl), ⟨⟨by exact (have a0 := in_u i3x8; have a1 := in_u ro_109_19; have a2 := in_u ((in_c 0 rfl)); have a3 := in_u i3x20; have a4 := t_add e3x20 ro_109_19 i3x8 rfl; have oc := oc_330_109; by omega), by exact (have a0 := in_u i3x8; have a1 := in_u ro_109_19; have a2 := in_u ((in_c 0 rfl)); have a3 := in_u i3x20; have a4 := t_add e3x20 ro_109_19 i3x8 rfl; have oc := oc_330_109; by omega)⟩, (by rw [(arz_y hI (show (x1).toNatClampNeg < 160 from (by show (x1).toInt.toNat < 160; exact (have a0 := in_u i3x8; have a1 := in_u ro_109_19; have a2 := in_u ((in_c 0 rfl)); have a3 := in_u i3x20; have a4 := t_add e3x20 ro_109_19 i3x8 rfl; have oc := oc_330_109; by omega))) (e3x21.trans (congrArg (s.1 112) (show z3x20.toNatClampNeg = bs s + (x1).toNatClampNeg from (by show z3x20.toInt.toNat = (s.2.2.1 109 19).toInt.toNat + (x1).toInt.toNat; rw [← e_109_19]; exact (have a0 := in_u i3x8; have a1 := in_u ro_109_19; have a2 := in_u ((in_c 0 rfl)); have a3 := in_u i3x20; have a4 := t_add e3x20 ro_109_19 i3x8 rfl; have oc := oc_330_109; by omega))))) (by exact (have a0 := in_u i3x8; have a1 := in_u ro_109_19; have a2 := in_u ((in_c 0 rfl)); have a3 := in_u i3x20; have a4 := t_add e3x20 ro_109_19 i3x8 rfl; have oc := oc_330_109; by omega))).1]; omega)⟩, ⟨fun _ => (brg_r hI (p := (x1).toNatClampNeg) (n := (s.2.2.1 109 20).toInt.toNat) (by unfold nmx; omega) (show (x1).toNatClampNeg < 160 from (by show (x1).toInt.toNat < 160; exact (have a0 := in_u i3x8; have a1 := in_u ro_109_19; have a2 := in_u ((in_c 0 rfl)); have a3 := in_u i3x20; have a4 := t_add e3x20 ro_109_19 i3x8 rfl; have oc := oc_330_109; by omega))) (e3x21.trans (congrArg (s.1 112) (show z3x20.toNatClampNeg = bs s + (x1).toNatClampNeg from (by show z3x20.toInt.toNat = (s.2.2.1 109 19).toInt.toNat + (x1).toInt.toNat; rw [← e_109_19]; exact (have a0 := in_u i3x8; have a1 := in_u ro_109_19; have a2 := in_u ((in_c 0 rfl)); have a3 := in_u i3x20; have a4 := t_add e3x20 ro_109_19 i3x8 rfl; have oc := oc_330_109; by omega))))) (by exact (have a0 := in_u i3x8; have a1 := in_u ro_109_19; have a2 := in_u ((in_c 0 rfl)); have a3 := in_u i3x20; have a4 := t_add e3x20 ro_109_19 i3x8 rfl; have oc := oc_330_109; by omega))).mp (by exact (have a0 := in_u i3x8; have a1 := in_u ro_109_19; have a2 := in_u ((in_c 0 rfl)); have a3 := in_u i3x20; have a4 := t_add e3x20 ro_109_19 i3x8 rfl; have oc := oc_330_109; by omega)), fun _ => by decide⟩⟩) | (have h20 := inv_F hI (z := s.2.2.1 109 20) 0 32 rfl rfl; unfold In at h20; have a1 : (z17).toInt = (cnP (WPP s (((x1).toNatClampNeg : Nat) : Int) (-1)) (s.2.2.1 109 20).toInt.toNat : Int) := (by rw [(show (((x1).toNatClampNeg : Nat) : Int) = (x1).toInt from (by show (((x1).toInt.toNat : Nat) : Int) = _; exact (have a0 := in_u i3x8; have a1 := in_u ro_109_19; have a2 := in_u ((in_c 0 rfl)); have a3 := in_u i3x20; have a4 := t_add e3x20 ro_109_19 i3x8 rfl; have oc := oc_330_109; by omega)))]; exact wpn_cg p17 (show Fr ([], [], [(109, 0)], []) s (sF s 109 0 (Int32.ofInt 0)) from fr_sF rfl fr_rf) rfl); have a2 : (z23).toInt = (cnP (WPP s (-1) (-1)) (s.2.2.1 109 20).toInt.toNat : Int) := (wpn_cg p23 (show Fr fm_330 s s17 from fr_tr rfl (fr_sF rfl fr_rf) hF17) rfl); exact Or.inr ⟨(by rw [hF23.2.2.1 109 0 rfl, hF17.2.2.1 109 0 rfl]; rfl), ⟨⟨by exact (have a0 := in_u i3x8; have a1 := in_u ro_109_19; have a2 := in_u ((in_c 0 rfl)); have a3 := in_u i3x20; have a4 := t_add e3x20 ro_109_19 i3x8 rfl; have oc := oc_330_109; by omega), by exact (have a0 := in_u i3x8; have a1 := in_u ro_109_19; have a2 := in_u ((in_c 0 rfl)); have a3 := in_u i3x20; have a4 := t_add e3x20 ro_109_19 i3x8 rfl; have oc := oc_330_109; by omega)⟩, (by rw [(arz_y hI (show (x1).toNatClampNeg < 160 from (by show (x1).toInt.toNat < 160; exact (have a0 := in_u i3x8; have a1 := in_u ro_109_19; have a2 := in_u ((in_c 0 rfl)); have a3 := in_u i3x20; have a4 := t_add e3x20 ro_109_19 i3x8 rfl; have oc := oc_330_109; by omega))) (e3x21.trans (congrArg (s.1 112) (show z3x20.toNatClampNeg = bs s + (x1).toNatClampNeg from (by show z3x20.toInt.toNat = (s.2.2.1 109 19).toInt.toNat + (x1).toInt.toNat; rw [← e_109_19]; exact (have a0 := in_u i3x8; have a1 := in_u ro_109_19; have a2 := in_u ((in_c 0 rfl)); have a3 := in_u i3x20; have a4 := t_add e3x20 ro_109_19 i3x8 rfl; have oc := oc_330_109; by omega))))) (by exact (have a0 := in_u i3x8; have a1 := in_u ro_109_19; have a2 := in_u ((in_c 0 rfl)); have a3 := in_u i3x20; have a4 := t_add e3x20 ro_109_19 i3x8 rfl; have oc := oc_330_109; by omega))).1]; omega)⟩, ⟨fun h => absurd rfl h, fun h => absurd ((brg_r hI (p := (x1).toNatClampNeg) (n := (s.2.2.1 109 20).toInt.toNat) (by unfold nmx; omega) (show (x1).toNatClampNeg < 160 from (by show (x1).toInt.toNat < 160; exact (have a0 := in_u i3x8; have a1 := in_u ro_109_19; have a2 := in_u ((in_c 0 rfl)); have a3 := in_u i3x20; have a4 := t_add e3x20 ro_109_19 i3x8 rfl; have oc := oc_330_109; by omega))) (e3x21.trans (congrArg (s.1 112) (show z3x20.toNatClampNeg = bs s + (x1).toNatClampNeg from (by show z3x20.toInt.toNat = (s.2.2.1 109 19).toInt.toNat + (x1).toInt.toNat; rw [← e_109_19]; exact (have a0 := in_u i3x8; have a1 := in_u ro_109_19; have a2 := in_u ((in_c 0 rfl)); have a3 := in_u i3x20; have a4 := t_add e3x20 ro_109_19 i3x8 rfl; have oc := oc_330_109; by omega))))) (by exact (have a0 := in_u i3x8; have a1 := in_u ro_109_19; have a2 := in_u ((in_c 0 rfl)); have a3 := in_u i3x20; have a4 := t_add e3x20 ro_109_19 i3x8 rfl; have oc := oc_330_109; by omega))).mpr h) (by exact (have a0 := in_u i3x8; have a1 := in_u ro_109_19; have a2 := in_u ((in_c 0 rfl)); have a3 := in_u i3x20; have a4 := t_add e3x20 ro_109_19 i3x8 rfl; have oc := oc_330_109; by omega))⟩⟩)
                  exact g_ireturn (gd rfl) rfl (nb01 (in_w 0 1 (in_c 0 rfl) rfl)) (hP _ _ ⟨s23, hI23, (fr_tr rfl (fr_tr rfl (fr_sF rfl fr_rf) hF17) hF23), (Int32.ofInt 0), rfl, rfl, in_w 0 1 (in_c 0 rfl) rfl, n34⟩)
                · skip
                  have i26 := r_lt1 0 31 c26 i23 i17 rfl
                  have i26a := r_lt2 1 32 c26 i23 i17 rfl
                  refine g_iconst 1 30 (gd rfl) rfl rfl ?_
                  refine g_goto 34 (gd rfl) rfl ?_
                  have n34 : BRR s s23 x1 (Int32.ofInt 1) := by first | (have h20 := inv_F hI (z := s.2.2.1 109 20) 0 32 rfl rfl; unfold In at h20; have a1 : (z17).toInt = (cnP (WPP s (((x1).toNatClampNeg : Nat) : Int) (-1)) (s.2.2.1 109 20).toInt.toNat : Int) := (by rw [(show (((x1).toNatClampNeg : Nat) : Int) = (x1).toInt from (by show (((x1).toInt.toNat : Nat) : Int) = _; exact (have a0 := in_u i3x8; have a1 := in_u ro_109_19; have a2 := in_u ((in_c 0 rfl)); have a3 := in_u i3x20; have a4 := t_add e3x20 ro_109_19 i3x8 rfl; have oc := oc_330_109; by omega)))]; exact wpn_cg p17 (show Fr ([], [], [(109, 0)], []) s (sF s 109 0 (Int32.ofInt 0)) from fr_sF rfl fr_rf) rfl); have a2 : (z23).toInt = (cnP (WPP s (-1) (-1)) (s.2.2.1 109 20).toInt.toNat : Int) := (wpn_cg p23 (show Fr fm_330 s s17 from fr_tr rfl (fr_sF rfl fr_rf) hF17) rfl); exact Or.inr ⟨(by rw [hF23.2.2.1 109 0 rfl, hF17.2.2.1 109 0 rfl]; rfl), ⟨⟨by exact (have a0 := in_u i3x8; have a1 := in_u ro_109_19; have a2 := in_u ((in_c 0 rfl)); have a3 := in_u i3x20; have a4 := t_add e3x20 ro_109_19 i3x8 rfl; have oc := oc_330_109; by omega), by exact (have a0 := in_u i3x8; have a1 := in_u ro_109_19; have a2 := in_u ((in_c 0 rfl)); have a3 := in_u i3x20; have a4 := t_add e3x20 ro_109_19 i3x8 rfl; have oc := oc_330_109; by omega)⟩, (by rw [(arz_y hI (show (x1).toNatClampNeg < 160 from (by show (x1).toInt.toNat < 160; exact (have a0 := in_u i3x8; have a1 := in_u ro_109_19; have a2 := in_u ((in_c 0 rfl)); have a3 := in_u i3x20; have a4 := t_add e3x20 ro_109_19 i3x8 rfl; have oc := oc_330_109; by omega))) (e3x21.trans (congrArg (s.1 112) (show z3x20.toNatClampNeg = bs s + (x1).toNatClampNeg from (by show z3x20.toInt.toNat = (s.2.2.1 109 19).toInt.toNat + (x1).toInt.toNat; rw [← e_109_19]; exact (have a0 := in_u i3x8; have a1 := in_u ro_109_19; have a2 := in_u ((in_c 0 rfl)); have a3 := in_u i3x20; have a4 := t_add e3x20 ro_109_19 i3x8 rfl; have oc := oc_330_109; by omega))))) (by exact (have a0 := in_u i3x8; have a1 := in_u ro_109_19; have a2 := in_u ((in_c 0 rfl)); have a3 := in_u i3x20; have a4 := t_add e3x20 ro_109_19 i3x8 rfl; have oc := oc_330_109; by omega))).1]; omega)⟩, ⟨fun _ => (brg_r hI (p := (x1).toNatClampNeg) (n := (s.2.2.1 109 20).toInt.toNat) (by unfold nmx; omega) (show (x1).toNatClampNeg < 160 from (by show (x1).toInt.toNat < 160; exact (have a0 := in_u i3x8; have a1 := in_u ro_109_19; have a2 := in_u ((in_c 0 rfl)); have a3 := in_u i3x20; have a4 := t_add e3x20 ro_109_19 i3x8 rfl; have oc := oc_330_109; by omega))) (e3x21.trans (congrArg (s.1 112) (show z3x20.toNatClampNeg = bs s + (x1).toNatClampNeg from (by show z3x20.toInt.toNat = (s.2.2.1 109 19).toInt.toNat + (x1).toInt.toNat; rw [← e_109_19]; exact (have a0 := in_u i3x8; have a1 := in_u ro_109_19; have a2 := in_u ((in_c 0 rfl)); have a3 := in_u i3x20; have a4 := t_add e3x20 ro_109_19 i3x8 rfl; have oc := oc_330_109; by omega))))) (by exact (have a0 := in_u i3x8; have a1 := in_u ro_109_19; have a2 := in_u ((in_c 0 rfl)); have a3 := in_u i3x20; have a4 := t_add e3x20 ro_109_19 i3x8 rfl; have oc := oc_330_109; by omega))).mp (by exact (have a0 := in_u i3x8; have a1 := in_u ro_109_19; have a2 := in_u ((in_c 0 rfl)); have a3 := in_u i3x20; have a4 := t_add e3x20 ro_109_19 i3x8 rfl; have oc := oc_330_109; by omega)), fun _ => by decide⟩⟩) | (have h20 := inv_F hI (z := s.2.2.1 109 20) 0 32 rfl rfl; unfold In at h20; have a1 : (z17).toInt = (cnP (WPP s (((x1).toNatClampNeg : Nat) : Int) (-1)) (s.2.2.1 109 20).toInt.toNat : Int) := (by rw [(show (((x1).toNatClampNeg : Nat) : Int) = (x1).toInt from (by show (((x1).toInt.toNat : Nat) : Int) = _; exact (have a0 := in_u i3x8; have a1 := in_u ro_109_19; have a2 := in_u ((in_c 0 rfl)); have a3 := in_u i3x20; have a4 := t_add e3x20 ro_109_19 i3x8 rfl; have oc := oc_330_109; by omega)))]; exact wpn_cg p17 (show Fr ([], [], [(109, 0)], []) s (sF s 109 0 (Int32.ofInt 0)) from fr_sF rfl fr_rf) rfl); have a2 : (z23).toInt = (cnP (WPP s (-1) (-1)) (s.2.2.1 109 20).toInt.toNat : Int) := (wpn_cg p23 (show Fr fm_330 s s17 from fr_tr rfl (fr_sF rfl fr_rf) hF17) rfl); exact Or.inr ⟨(by rw [hF23.2.2.1 109 0 rfl, hF17.2.2.1 109 0 rfl]; rfl), ⟨⟨by exact (have a0 := in_u i3x8; have a1 := in_u ro_109_19; have a2 := in_u ((in_c 0 rfl)); have a3 := in_u i3x20; have a4 := t_add e3x20 ro_109_19 i3x8 rfl; have oc := oc_330_109; by omega), by exact (have a0 := in_u i3x8; have a1 := in_u ro_109_19; have a2 := in_u ((in_c 0 rfl)); have a3 := in_u i3x20; have a4 := t_add e3x20 ro_109_19 i3x8 rfl; have oc := oc_330_109; by omega)⟩, (by rw [(arz_y hI (show (x1).toNatClampNeg < 160 from (by show (x1).toInt.toNat < 160; exact (have a0 := in_u i3x8; have a1 := in_u ro_109_19; have a2 := in_u ((in_c 0 rfl)); have a3 := in_u i3x20; have a4 := t_add e3x20 ro_109_19 i3x8 rfl; have oc := oc_330_109; by omega))) (e3x21.trans (congrArg (s.1 112) (show z3x20.toNatClampNeg = bs s + (x1).toNatClampNeg from (by show z3x20.toInt.toNat = (s.2.2.1 109 19).toInt.toNat + (x1).toInt.toNat; rw [← e_109_19]; exact (have a0 := in_u i3x8; have a1 := in_u ro_109_19; have a2 := in_u ((in_c 0 rfl)); have a3 := in_u i3x20; have a4 := t_add e3x20 ro_109_19 i3x8 rfl; have oc := oc_330_109; by omega))))) (by exact (have a0 := in_u i3x8; have a1 := in_u ro_109_19; have a2 := in_u ((in_c 0 rfl)); have a3 := in_u i3x20; have a4 := t_add e3x20 ro_109_19 i3x8 rfl; have oc := oc_330_109; by omega))).1]; omega)⟩, ⟨fun h => absurd rfl h, fun h => absurd ((brg_r hI (p := (x1).toNatClampNeg) (n := (s.2.2.1 109 20).toInt.toNat) (by unfold nmx; omega) (show (x1).toNatClampNeg < 160 from (by show (x1).toInt.toNat < 160; exact (have a0 := in_u i3x8; have a1 := in_u ro_109_19; have a2 := in_u ((in_c 0 rfl)); have a3 := in_u i3x20; have a4 := t_add e3x20 ro_109_19 i3x8 rfl; have oc := oc_330_109; by omega))) (e3x21.trans (congrArg (s.1 112) (show z3x20.toNatClampNeg = bs s + (x1).toNatClampNeg from (by show z3x20.toInt.toNat = (s.2.2.1 109 19).toInt.toNat + (x1).toInt.toNat; rw [← e_109_19]; exact (have a0 := in_u i3x8; have a1 := in_u ro_109_19; have a2 := in_u ((in_c 0 rfl)); have a3 := in_u i3x20; have a4 := t_add e3x20 ro_109_19 i3x8 rfl; have oc := oc_330_109; by omega))))) (by exact (have a0 := in_u i3x8; have a1 := in_u ro_109_19; have a2 := in_u ((in_c 0 rfl)); have a3 := in_u i3x20; have a4 := t_add e3x20 ro_109_19 i3x8 rfl; have oc := oc_330_109; by omega))).mpr h) (by exact (have a0 := in_u i3x8; have a1 := in_u ro_109_19; have a2 := in_u ((in_c 0 rfl)); have a3 := in_u i3x20; have a4 := t_add e3x20 ro_109_19 i3x8 rfl; have oc := oc_330_109; by omega))⟩⟩)
                  exact g_ireturn (gd rfl) rfl (nb01 (in_w 0 1 (in_c 1 rfl) rfl)) (hP _ _ ⟨s23, hI23, (fr_tr rfl (fr_tr rfl (fr_sF rfl fr_rf) hF17) hF23), (Int32.ofInt 1), rfl, rfl, in_w 0 1 (in_c 1 rfl) rfl, n34⟩)
              · skip
                exact zn_ne c9 (in_c 0 rfl) rfl
            · skip
              exact zn_gt c6x3x25 (in_c 0 rfl) rfl
          · skip
            exact zn_eq c6x3x10 (in_c 1 rfl) rfl
        · skip
          exact zn_eq c6x3x2 (in_c 1 rfl) rfl
