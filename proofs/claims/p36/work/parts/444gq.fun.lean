/-! FUNCTIONAL CONTRACTS, by fgen.py -/
theorem oc_186_76_32 : (Int32.ofInt (-1)).toInt = (-1) ∧ (Int32.ofInt 0).toInt = 0 ∧ (Int32.ofInt 1).toInt = 1 := ⟨rfl, rfl, rfl⟩
/-- GraphHouse$Trees.isSpanning -/
theorem f_186_76_32 {Z : AmZ} {A : Nat → Nat} {s : GS} {ex : va_W} {d : Nat} {X : AmX} {x2 : Int32} (hd : 5 ≤ d) (hI : Inv s) (h2 : In x2 0 159) (q_0 : TQD s) : GC Z d 186 [.ref (A 76), .ref (A 32), .int x2] (WW Z A s ++ ex) 0 0 (fun v u => ∃ t : GS, Inv t ∧ Fr fm_186_76_32 s t ∧ ∃ z : Int32, v = some (.int z) ∧ u = WW Z A t ++ ex ∧ In z 0 1 ∧ (((z).toInt ≠ 0 ↔ SPN (gvD s) x2.toNatClampNeg))) X := by
  intro post xp hP hX
  obtain ⟨u_32_3, e_32_3⟩ : ∃ w, w = s.2.2.1 32 3 := ⟨_, rfl⟩
  have ro_32_3 := inv_F hI 0 160 rfl e_32_3
  have ct20 : ∀ (k20 : Nat) (sc20 : GS) (y20_3 : Int32), Inv sc20 → Fr fm_186_76_32 s sc20 → (In y20_3 0 160) → (((s.1 34 (x2).toNatClampNeg).toInt ≠ -1 ∧ (s.1 34 (x2).toNatClampNeg).toInt ≠ (s.1 35 (x2).toNatClampNeg).toInt)) → (SPH (gvD s) (x2).toNatClampNeg (y20_3).toNatClampNeg ((sc20).1 84)) → 160 - (y20_3).toInt < (k20 : Int) → GG Z (d - 1) 186 post (gx xp) (1 + k20 * 900) 20 (fun j => xlook j [(0, .ref (A 76)), (1, .ref (A 32)), (2, .int x2), (3, .int y20_3)]) [] (WW Z A sc20 ++ ex) 0 0 := by
    intro k20
    induction k20 with
    | zero => intro sc20 y20_3 hIc20 hFc20 j20_3 g20_0 g20_1 mm20; exact m_no mm20 j20_3 rfl
    | succ k20 ih20 =>
      intro sc20 y20_3 hIc20 hFc20 j20_3 g20_0 g20_1 mm20
      refine gg_w (M := 1 + k20 * 900 + 900) gws ?_
      refine g_iload_n 21 (gd rfl) rfl rfl ?_
      refine g_aload_n 22 (gd rfl) rfl rfl ?_
      refine g_getI 25 (gd rfl) rfl rfl rfl (fun z22 e22 => ?_)
      have q22 : u_32_3 = z22 := (fr_F e_32_3 hFc20 rfl).trans e22.symm
      subst q22
      refine g_cmp_ge 28 95 (gd rfl) rfl rfl (fun c25 => ?_) (fun c25 => ?_)
      · skip
        refine g_aload_n 96 (gd rfl) rfl rfl ?_
        refine g_getA (q2 := 84) 99 (gd rfl) rfl rfl rfl rfl ?_
        refine g_iconst 1 100 (gd rfl) rfl rfl ?_
        refine g_aload_n 101 (gd rfl) rfl rfl ?_
        refine g_getA (q2 := 34) 104 (gd rfl) rfl rfl rfl rfl ?_
        refine g_iload_n 105 (gd rfl) rfl rfl ?_
        refine g_iaload 106 (gd rfl) rfl (n := 160) rfl (in_ix h2 rfl) (fun z105 e105 => ?_)
        have i105 := inv_I hIc20 (n := 160) (t := 0) (-1) 31 rfl (in_ix h2 rfl) rfl e105
        refine g_ishl 107 (gd rfl) rfl (fun z106 e106 => ?_)
        refine g_iconst (-1) 108 (gd rfl) rfl rfl ?_
        refine g_calls (As := [.ref (A 84), .int z106, .int (Int32.ofInt (-1))]) (r := []) 111 (gd rfl) rfl rfl rfl rfl rfl (Nat.le_of_ble_eq_true rfl) (Nat.zero_le _) (Nat.zero_le _) (f_266_84 (by first | exact dq1 hd rfl | exact dq0 hd rfl | exact dq2 hd rfl | exact dq3 hd rfl | omega) hIc20 (in_w (-1) (-1) (in_c (-1) rfl) rfl)) (fun v u h => ?_)
        obtain ⟨z108, rfl, rfl, i108, p108, p108a⟩ := h
        show GG _ _ _ _ _ _ _ _ [.int z108] _ _ _
        refine g_aload_n 112 (gd rfl) rfl rfl ?_
        refine g_getA (q2 := 35) 115 (gd rfl) rfl rfl rfl rfl ?_
        refine g_iload_n 116 (gd rfl) rfl rfl ?_
        refine g_iaload 117 (gd rfl) rfl (n := 160) rfl (in_ix h2 rfl) (fun z116 e116 => ?_)
        have i116 := inv_I hIc20 (n := 160) (t := 0) 0 31 rfl (in_ix h2 rfl) rfl e116
        refine g_ishr 118 (gd rfl) rfl (fun z117 e117 => ?_)
        refine g_iconst 1 119 (gd rfl) rfl rfl ?_
        refine g_iand 120 (gd rfl) rfl (fun z119 e119 => ?_)
        have i119 := in_and2 e119 (in_c 1 rfl) rfl
        refine g_if_ne 123 127 (gd rfl) rfl rfl (fun c120 => ?_) (fun c120 => ?_)
        · skip
          have i120 := z_ne 1 1 c120 i119 rfl
          refine g_iconst 0 128 (gd rfl) rfl rfl ?_
          have n128 : (((Int32.ofInt 0)).toInt ≠ 0 ↔ SPN (gvD s) x2.toNatClampNeg) := by first | (exact ⟨fun _ => (spn_c (g := (gvD s)) g20_1 (are_top (T := (s.2.2.1 32 3).toInt) (fun p hp hn => q_0 p hp hn) (by rw [← e_32_3]; show _ ≤ (((y20_3).toInt.toNat : Nat) : Int); exact (have a0 := in_u h2; have a1 := in_u ro_32_3; have a2 := in_u j20_3; have oc := oc_186_76_32; by omega))) (rg_32 hI) (show In z105 0 31 from (by have h9 := g20_0.1; rw [← (show z105 = s.1 34 (x2).toNatClampNeg from (e105.trans (congrFun (hFc20.1 34 rfl) _)))] at h9; have h8 := i105; unfold In at h8 ⊢; omega)) i116 (ar01 (g := (gvD s)) (show (x2).toNatClampNeg < 160 from (by show (x2).toInt.toNat < 160; exact (have a0 := in_u h2; have a1 := in_u ro_32_3; have a2 := in_u j20_3; have oc := oc_186_76_32; by omega))) (show z105 = s.1 34 (x2).toNatClampNeg from (e105.trans (congrFun (hFc20.1 34 rfl) _))) (show z116 = s.1 35 (x2).toNatClampNeg from (e116.trans (congrFun (hFc20.1 35 rfl) _))) (show In z105 0 31 from (by have h9 := g20_0.1; rw [← (show z105 = s.1 34 (x2).toNatClampNeg from (e105.trans (congrFun (hFc20.1 34 rfl) _)))] at h9; have h8 := i105; unfold In at h8 ⊢; omega)).1).1 (ar01 (g := (gvD s)) (show (x2).toNatClampNeg < 160 from (by show (x2).toInt.toNat < 160; exact (have a0 := in_u h2; have a1 := in_u ro_32_3; have a2 := in_u j20_3; have oc := oc_186_76_32; by omega))) (show z105 = s.1 34 (x2).toNatClampNeg from (e105.trans (congrFun (hFc20.1 34 rfl) _))) (show z116 = s.1 35 (x2).toNatClampNeg from (e116.trans (congrFun (hFc20.1 35 rfl) _))) (show In z105 0 31 from (by have h9 := g20_0.1; rw [← (show z105 = s.1 34 (x2).toNatClampNeg from (e105.trans (congrFun (hFc20.1 34 rfl) _)))] at h9; have h8 := i105; unfold In at h8 ⊢; omega)).1).2 e106 p108a).mp (bt_f0 (bt_ask e117 e119 i116) c120), fun _ => by decide⟩) | (exact ⟨fun h => absurd rfl h, fun h => by have k := (spn_c (g := (gvD s)) g20_1 (are_top (T := (s.2.2.1 32 3).toInt) (fun p hp hn => q_0 p hp hn) (by rw [← e_32_3]; show _ ≤ (((y20_3).toInt.toNat : Nat) : Int); exact (have a0 := in_u h2; have a1 := in_u ro_32_3; have a2 := in_u j20_3; have oc := oc_186_76_32; by omega))) (rg_32 hI) (show In z105 0 31 from (by have h9 := g20_0.1; rw [← (show z105 = s.1 34 (x2).toNatClampNeg from (e105.trans (congrFun (hFc20.1 34 rfl) _)))] at h9; have h8 := i105; unfold In at h8 ⊢; omega)) i116 (ar01 (g := (gvD s)) (show (x2).toNatClampNeg < 160 from (by show (x2).toInt.toNat < 160; exact (have a0 := in_u h2; have a1 := in_u ro_32_3; have a2 := in_u j20_3; have oc := oc_186_76_32; by omega))) (show z105 = s.1 34 (x2).toNatClampNeg from (e105.trans (congrFun (hFc20.1 34 rfl) _))) (show z116 = s.1 35 (x2).toNatClampNeg from (e116.trans (congrFun (hFc20.1 35 rfl) _))) (show In z105 0 31 from (by have h9 := g20_0.1; rw [← (show z105 = s.1 34 (x2).toNatClampNeg from (e105.trans (congrFun (hFc20.1 34 rfl) _)))] at h9; have h8 := i105; unfold In at h8 ⊢; omega)).1).1 (ar01 (g := (gvD s)) (show (x2).toNatClampNeg < 160 from (by show (x2).toInt.toNat < 160; exact (have a0 := in_u h2; have a1 := in_u ro_32_3; have a2 := in_u j20_3; have oc := oc_186_76_32; by omega))) (show z105 = s.1 34 (x2).toNatClampNeg from (e105.trans (congrFun (hFc20.1 34 rfl) _))) (show z116 = s.1 35 (x2).toNatClampNeg from (e116.trans (congrFun (hFc20.1 35 rfl) _))) (show In z105 0 31 from (by have h9 := g20_0.1; rw [← (show z105 = s.1 34 (x2).toNatClampNeg from (e105.trans (congrFun (hFc20.1 34 rfl) _)))] at h9; have h8 := i105; unfold In at h8 ⊢; omega)).1).2 e106 p108a).mpr h; rw [bt_t1 (bt_ask e117 e119 i116) c120] at k; cases k⟩)
          exact g_ireturn (gd rfl) rfl (nb01 (in_w 0 1 (in_c 0 rfl) rfl)) (hP _ _ ⟨sc20, hIc20, hFc20, (Int32.ofInt 0), rfl, rfl, in_w 0 1 (in_c 0 rfl) rfl, n128⟩)
        · skip
          have i120 := z_eq 0 0 c120 i119 rfl
          refine g_iconst 1 124 (gd rfl) rfl rfl ?_
          refine g_goto 128 (gd rfl) rfl ?_
          have n128 : (((Int32.ofInt 1)).toInt ≠ 0 ↔ SPN (gvD s) x2.toNatClampNeg) := by first | (exact ⟨fun _ => (spn_c (g := (gvD s)) g20_1 (are_top (T := (s.2.2.1 32 3).toInt) (fun p hp hn => q_0 p hp hn) (by rw [← e_32_3]; show _ ≤ (((y20_3).toInt.toNat : Nat) : Int); exact (have a0 := in_u h2; have a1 := in_u ro_32_3; have a2 := in_u j20_3; have oc := oc_186_76_32; by omega))) (rg_32 hI) (show In z105 0 31 from (by have h9 := g20_0.1; rw [← (show z105 = s.1 34 (x2).toNatClampNeg from (e105.trans (congrFun (hFc20.1 34 rfl) _)))] at h9; have h8 := i105; unfold In at h8 ⊢; omega)) i116 (ar01 (g := (gvD s)) (show (x2).toNatClampNeg < 160 from (by show (x2).toInt.toNat < 160; exact (have a0 := in_u h2; have a1 := in_u ro_32_3; have a2 := in_u j20_3; have oc := oc_186_76_32; by omega))) (show z105 = s.1 34 (x2).toNatClampNeg from (e105.trans (congrFun (hFc20.1 34 rfl) _))) (show z116 = s.1 35 (x2).toNatClampNeg from (e116.trans (congrFun (hFc20.1 35 rfl) _))) (show In z105 0 31 from (by have h9 := g20_0.1; rw [← (show z105 = s.1 34 (x2).toNatClampNeg from (e105.trans (congrFun (hFc20.1 34 rfl) _)))] at h9; have h8 := i105; unfold In at h8 ⊢; omega)).1).1 (ar01 (g := (gvD s)) (show (x2).toNatClampNeg < 160 from (by show (x2).toInt.toNat < 160; exact (have a0 := in_u h2; have a1 := in_u ro_32_3; have a2 := in_u j20_3; have oc := oc_186_76_32; by omega))) (show z105 = s.1 34 (x2).toNatClampNeg from (e105.trans (congrFun (hFc20.1 34 rfl) _))) (show z116 = s.1 35 (x2).toNatClampNeg from (e116.trans (congrFun (hFc20.1 35 rfl) _))) (show In z105 0 31 from (by have h9 := g20_0.1; rw [← (show z105 = s.1 34 (x2).toNatClampNeg from (e105.trans (congrFun (hFc20.1 34 rfl) _)))] at h9; have h8 := i105; unfold In at h8 ⊢; omega)).1).2 e106 p108a).mp (bt_f0 (bt_ask e117 e119 i116) c120), fun _ => by decide⟩) | (exact ⟨fun h => absurd rfl h, fun h => by have k := (spn_c (g := (gvD s)) g20_1 (are_top (T := (s.2.2.1 32 3).toInt) (fun p hp hn => q_0 p hp hn) (by rw [← e_32_3]; show _ ≤ (((y20_3).toInt.toNat : Nat) : Int); exact (have a0 := in_u h2; have a1 := in_u ro_32_3; have a2 := in_u j20_3; have oc := oc_186_76_32; by omega))) (rg_32 hI) (show In z105 0 31 from (by have h9 := g20_0.1; rw [← (show z105 = s.1 34 (x2).toNatClampNeg from (e105.trans (congrFun (hFc20.1 34 rfl) _)))] at h9; have h8 := i105; unfold In at h8 ⊢; omega)) i116 (ar01 (g := (gvD s)) (show (x2).toNatClampNeg < 160 from (by show (x2).toInt.toNat < 160; exact (have a0 := in_u h2; have a1 := in_u ro_32_3; have a2 := in_u j20_3; have oc := oc_186_76_32; by omega))) (show z105 = s.1 34 (x2).toNatClampNeg from (e105.trans (congrFun (hFc20.1 34 rfl) _))) (show z116 = s.1 35 (x2).toNatClampNeg from (e116.trans (congrFun (hFc20.1 35 rfl) _))) (show In z105 0 31 from (by have h9 := g20_0.1; rw [← (show z105 = s.1 34 (x2).toNatClampNeg from (e105.trans (congrFun (hFc20.1 34 rfl) _)))] at h9; have h8 := i105; unfold In at h8 ⊢; omega)).1).1 (ar01 (g := (gvD s)) (show (x2).toNatClampNeg < 160 from (by show (x2).toInt.toNat < 160; exact (have a0 := in_u h2; have a1 := in_u ro_32_3; have a2 := in_u j20_3; have oc := oc_186_76_32; by omega))) (show z105 = s.1 34 (x2).toNatClampNeg from (e105.trans (congrFun (hFc20.1 34 rfl) _))) (show z116 = s.1 35 (x2).toNatClampNeg from (e116.trans (congrFun (hFc20.1 35 rfl) _))) (show In z105 0 31 from (by have h9 := g20_0.1; rw [← (show z105 = s.1 34 (x2).toNatClampNeg from (e105.trans (congrFun (hFc20.1 34 rfl) _)))] at h9; have h8 := i105; unfold In at h8 ⊢; omega)).1).2 e106 p108a).mpr h; rw [bt_t1 (bt_ask e117 e119 i116) c120] at k; cases k⟩)
          exact g_ireturn (gd rfl) rfl (nb01 (in_w 0 1 (in_c 1 rfl) rfl)) (hP _ _ ⟨sc20, hIc20, hFc20, (Int32.ofInt 1), rfl, rfl, in_w 0 1 (in_c 1 rfl) rfl, n128⟩)
      · skip
        have i25 := r_lt1 0 159 c25 j20_3 ro_32_3 rfl
        have i25a := r_lt2 1 160 c25 j20_3 ro_32_3 rfl
        refine g_aload_n 29 (gd rfl) rfl rfl ?_
        refine g_iload_n 30 (gd rfl) rfl rfl ?_
        refine g_callv (X := _) (As := [.int y20_3]) (r := []) (b := A 32) (q := 32) 33 (gd rfl) rfl rfl rfl rfl rfl (ww_o rfl) (Nat.le_of_ble_eq_true rfl) (mc := 0) (ms := 0) (Nat.zero_le _) (Nat.zero_le _) (P := fun v u => _) ?_ (fun e u h => h) (fun v u h => h)
        intro po30 xx30 hp30 hx30
        refine g_enter2 (k := 97) (N := 300) (by first | exact dq1 hd rfl | exact dq0 hd rfl | exact dq2 hd rfl | exact dq3 hd rfl | omega) rfl (Nat.le_of_ble_eq_true rfl) ?_
        refine g_aload_n 1 (gd rfl) rfl rfl ?_
        refine g_getA (q2 := 34) 4 (gd rfl) rfl rfl rfl rfl ?_
        refine g_iload_n 5 (gd rfl) rfl rfl ?_
        refine g_iaload 6 (gd rfl) rfl (n := 160) rfl (in_ix i25 rfl) (fun z30x5 e30x5 => ?_)
        have i30x5 := inv_I hIc20 (n := 160) (t := 0) (-1) 31 rfl (in_ix i25 rfl) rfl e30x5
        refine g_iconst (-1) 7 (gd rfl) rfl rfl ?_
        refine g_cmp_eq 10 29 (gd rfl) rfl rfl (fun c30x7 => ?_) (fun c30x7 => ?_)
        · skip
          have i30x7 := r_eq1 (-1) (-1) c30x7 i30x5 (in_c (-1) rfl) rfl
          refine g_iconst 0 30 (gd rfl) rfl rfl ?_
          refine g_ireturn (gd rfl) rfl (nb01 (in_w 0 1 (in_c 0 rfl) rfl)) (hp30 _ _ ?_)
          show GG _ _ _ _ _ _ _ _ [.int (Int32.ofInt 0)] _ _ _
          refine g_if_eq 36 89 (gd rfl) rfl rfl (fun c33 => ?_) (fun c33 => ?_)
          · skip
            refine g_iinc 92 (gd rfl) rfl rfl (Nat.le_of_ble_eq_true rfl) (fun z89 e89 => ?_)
            have i89 := in_add 1 160 e89 i25 (in_c 1 rfl) rfl rfl
            refine g_goto 20 (gd rfl) rfl ?_
            have n20 : ((s.1 34 (x2).toNatClampNeg).toInt ≠ -1 ∧ (s.1 34 (x2).toNatClampNeg).toInt ≠ (s.1 35 (x2).toNatClampNeg).toInt) := by exact g20_0
            have n20a : SPH (gvD s) (x2).toNatClampNeg (z89).toNatClampNeg ((sc20).1 84) := by rw [show (z89).toNatClampNeg = (y20_3).toNatClampNeg + 1 from (by show (z89).toInt.toNat = (y20_3).toInt.toNat + 1; exact (have a0 := in_u h2; have a1 := in_u i25a; have a2 := in_u i25; have a3 := in_u i89; have a4 := t_add e89 i25 (in_c 1 rfl) rfl; have a5 := in_u ((in_c 1 rfl)); have oc := oc_186_76_32; by omega))]; exact sph_n g20_1 (spa_m (e30x5.trans (congrFun (hFc20.1 34 rfl) _)) (by exact (have a0 := in_u h2; have a1 := in_u i25a; have a2 := in_u i25; have a3 := in_u i89; have a4 := t_add e89 i25 (in_c 1 rfl) rfl; have a5 := in_u ((in_c 1 rfl)); have oc := oc_186_76_32; by omega)))
            exact gg_w (by first | exact Nat.le_add_right _ _ | exact gw2 | exact gw3 | exact gwe rfl | exact gwf rfl | exact gwg rfl | exact gwh rfl | omega) (gg_f (gf_cons rfl (gf_cons rfl (gf_cons rfl (gf_cons rfl gf_nil)))) (ih20 sc20 z89 hIc20 hFc20 (in_w 0 160 i89 rfl) n20 n20a (m_up mm20 (t_add e89 i25 (in_c 1 rfl) rfl) (in_w 1 1 (in_c 1 rfl) rfl))))
          · skip
            exact zn_ne c33 (in_c 0 rfl) rfl
        · skip
          have i30x7 := r_ne1 0 31 c30x7 i30x5 (in_c (-1) rfl) rfl
          refine g_aload_n 11 (gd rfl) rfl rfl ?_
          refine g_getA (q2 := 34) 14 (gd rfl) rfl rfl rfl rfl ?_
          refine g_iload_n 15 (gd rfl) rfl rfl ?_
          refine g_iaload 16 (gd rfl) rfl (n := 160) rfl (in_ix i25 rfl) (fun z30x15 e30x15 => ?_)
          have q30x15 : z30x5 = z30x15 := (e30x5).trans e30x15.symm
          subst q30x15
          refine g_aload_n 17 (gd rfl) rfl rfl ?_
          refine g_getA (q2 := 35) 20 (gd rfl) rfl rfl rfl rfl ?_
          refine g_iload_n 21 (gd rfl) rfl rfl ?_
          refine g_iaload 22 (gd rfl) rfl (n := 160) rfl (in_ix i25 rfl) (fun z30x21 e30x21 => ?_)
          have i30x21 := inv_I hIc20 (n := 160) (t := 0) 0 31 rfl (in_ix i25 rfl) rfl e30x21
          refine g_cmp_eq 25 29 (gd rfl) rfl rfl (fun c30x22 => ?_) (fun c30x22 => ?_)
          · skip
            refine g_iconst 0 30 (gd rfl) rfl rfl ?_
            refine g_ireturn (gd rfl) rfl (nb01 (in_w 0 1 (in_c 0 rfl) rfl)) (hp30 _ _ ?_)
            show GG _ _ _ _ _ _ _ _ [.int (Int32.ofInt 0)] _ _ _
            refine g_if_eq 36 89 (gd rfl) rfl rfl (fun c33 => ?_) (fun c33 => ?_)
            · skip
              refine g_iinc 92 (gd rfl) rfl rfl (Nat.le_of_ble_eq_true rfl) (fun z89 e89 => ?_)
              have i89 := in_add 1 160 e89 i25 (in_c 1 rfl) rfl rfl
              refine g_goto 20 (gd rfl) rfl ?_
              have n20 : ((s.1 34 (x2).toNatClampNeg).toInt ≠ -1 ∧ (s.1 34 (x2).toNatClampNeg).toInt ≠ (s.1 35 (x2).toNatClampNeg).toInt) := by exact g20_0
              have n20a : SPH (gvD s) (x2).toNatClampNeg (z89).toNatClampNeg ((sc20).1 84) := by rw [show (z89).toNatClampNeg = (y20_3).toNatClampNeg + 1 from (by show (z89).toInt.toNat = (y20_3).toInt.toNat + 1; exact (have a0 := in_u h2; have a1 := in_u i25a; have a2 := in_u i25; have a3 := in_u i89; have a4 := t_add e89 i25 (in_c 1 rfl) rfl; have a5 := in_u ((in_c 1 rfl)); have oc := oc_186_76_32; by omega))]; exact sph_n g20_1 (spa_l (e30x5.trans (congrFun (hFc20.1 34 rfl) _)) (e30x21.trans (congrFun (hFc20.1 35 rfl) _)) i30x7.1 (by exact (have a0 := in_u h2; have a1 := in_u i25a; have a2 := in_u i25; have a3 := in_u i89; have a4 := t_add e89 i25 (in_c 1 rfl) rfl; have a5 := in_u ((in_c 1 rfl)); have oc := oc_186_76_32; by omega)))
              exact gg_w (by first | exact Nat.le_add_right _ _ | exact gw2 | exact gw3 | exact gwe rfl | exact gwf rfl | exact gwg rfl | exact gwh rfl | omega) (gg_f (gf_cons rfl (gf_cons rfl (gf_cons rfl (gf_cons rfl gf_nil)))) (ih20 sc20 z89 hIc20 hFc20 (in_w 0 160 i89 rfl) n20 n20a (m_up mm20 (t_add e89 i25 (in_c 1 rfl) rfl) (in_w 1 1 (in_c 1 rfl) rfl))))
            · skip
              exact zn_ne c33 (in_c 0 rfl) rfl
          · skip
            refine g_iconst 1 26 (gd rfl) rfl rfl ?_
            refine g_goto 30 (gd rfl) rfl ?_
            refine g_ireturn (gd rfl) rfl (nb01 (in_w 0 1 (in_c 1 rfl) rfl)) (hp30 _ _ ?_)
            show GG _ _ _ _ _ _ _ _ [.int (Int32.ofInt 1)] _ _ _
            refine g_if_eq 36 89 (gd rfl) rfl rfl (fun c33 => ?_) (fun c33 => ?_)
            · skip
              exact zn_eq c33 (in_c 1 rfl) rfl
            · skip
              refine g_aload_n 37 (gd rfl) rfl rfl ?_
              refine g_iload_n 38 (gd rfl) rfl rfl ?_
              refine g_iload_n 39 (gd rfl) rfl rfl ?_
              refine g_calls (As := [.ref (A 32), .int y20_3, .int x2]) (r := []) 42 (gd rfl) rfl rfl rfl rfl rfl (Nat.le_of_ble_eq_true rfl) (mc := 0) (ms := 0) (Nat.zero_le _) (Nat.zero_le _) (P := fun v u => _) ?_ (fun v u h => h)
              intro po39 xx39 hp39 hx39
              refine g_enter2 (k := 187) (N := 300) (by first | exact dq1 hd rfl | exact dq0 hd rfl | exact dq2 hd rfl | exact dq3 hd rfl | omega) rfl (Nat.le_of_ble_eq_true rfl) ?_
              refine g_aload_n 1 (gd rfl) rfl rfl ?_
              refine g_getA (q2 := 36) 4 (gd rfl) rfl rfl rfl rfl ?_
              refine g_iload_n 5 (gd rfl) rfl rfl ?_
              refine g_iaload 6 (gd rfl) rfl (n := 160) rfl (in_ix i25 rfl) (fun z39x5 e39x5 => ?_)
              have i39x5 := inv_I hIc20 (n := 160) (t := 0) (-1000000) 1000000 rfl (in_ix i25 rfl) rfl e39x5
              refine g_aload_n 7 (gd rfl) rfl rfl ?_
              refine g_getA (q2 := 36) 10 (gd rfl) rfl rfl rfl rfl ?_
              refine g_iload_n 11 (gd rfl) rfl rfl ?_
              refine g_iaload 12 (gd rfl) rfl (n := 160) rfl (in_ix h2 rfl) (fun z39x11 e39x11 => ?_)
              have i39x11 := inv_I hIc20 (n := 160) (t := 0) (-1000000) 1000000 rfl (in_ix h2 rfl) rfl e39x11
              refine g_cmp_lt 15 35 (gd rfl) rfl rfl (fun c39x12 => ?_) (fun c39x12 => ?_)
              · skip
                have i39x12 := r_lt1 (-1000000) 999999 c39x12 i39x5 i39x11 rfl
                have i39x12a := r_lt2 (-999999) 1000000 c39x12 i39x5 i39x11 rfl
                refine g_iconst 1 36 (gd rfl) rfl rfl ?_
                refine g_goto 40 (gd rfl) rfl ?_
                refine g_ireturn (gd rfl) rfl (nb01 (in_w 0 1 (in_c 1 rfl) rfl)) (hp39 _ _ ?_)
                show GG _ _ _ _ _ _ _ _ [.int (Int32.ofInt 1)] _ _ _
                refine g_if_eq 45 89 (gd rfl) rfl rfl (fun c42 => ?_) (fun c42 => ?_)
                · skip
                  exact zn_eq c42 (in_c 1 rfl) rfl
                · skip
                  refine g_aload_n 46 (gd rfl) rfl rfl ?_
                  refine g_getA (q2 := 84) 49 (gd rfl) rfl rfl rfl rfl ?_
                  refine g_aload_n 50 (gd rfl) rfl rfl ?_
                  refine g_getA (q2 := 34) 53 (gd rfl) rfl rfl rfl rfl ?_
                  refine g_iload_n 54 (gd rfl) rfl rfl ?_
                  refine g_iaload 55 (gd rfl) rfl (n := 160) rfl (in_ix i25 rfl) (fun z54 e54 => ?_)
                  have q54 : z30x5 = z54 := (e30x5).trans e54.symm
                  subst q54
                  refine g_dup2 56 (gd rfl) rfl rfl rfl ?_
                  refine g_iaload 57 (gd rfl) rfl (n := 32) rfl (in_ix i30x7 rfl) (fun z56 e56 => ?_)
                  refine g_iconst 1 58 (gd rfl) rfl rfl ?_
                  refine g_aload_n 59 (gd rfl) rfl rfl ?_
                  refine g_getA (q2 := 35) 62 (gd rfl) rfl rfl rfl rfl ?_
                  refine g_iload_n 63 (gd rfl) rfl rfl ?_
                  refine g_iaload 64 (gd rfl) rfl (n := 160) rfl (in_ix i25 rfl) (fun z63 e63 => ?_)
                  have q63 : z30x21 = z63 := (e30x21).trans e63.symm
                  subst q63
                  refine g_ishl 65 (gd rfl) rfl (fun z64 e64 => ?_)
                  refine g_ior 66 (gd rfl) rfl (fun z65 e65 => ?_)
                  refine g_iastore 67 (gd rfl) rfl (n := 32) rfl (in_ix i30x7 rfl) ?_
                  have hI66 := inv_sI (q := 84) (j := z30x5.toNatClampNeg) hIc20 rfl (in_w (-2147483648) 2147483647 (i_rng z65) rfl)
                  refine g_aload_n 68 (gd rfl) rfl rfl ?_
                  refine g_getA (q2 := 84) 71 (gd rfl) rfl rfl rfl rfl ?_
                  refine g_aload_n 72 (gd rfl) rfl rfl ?_
                  refine g_getA (q2 := 35) 75 (gd rfl) rfl rfl rfl rfl ?_
                  refine g_iload_n 76 (gd rfl) rfl rfl ?_
                  refine g_iaload 77 (gd rfl) rfl (n := 160) rfl (in_ix i25 rfl) (fun z76 e76 => ?_)
                  have q76 : z30x21 = z76 := (sI_ne rfl (e30x21)).trans e76.symm
                  subst q76
                  refine g_dup2 78 (gd rfl) rfl rfl rfl ?_
                  refine g_iaload 79 (gd rfl) rfl (n := 32) rfl (in_ix i30x21 rfl) (fun z78 e78 => ?_)
                  refine g_iconst 1 80 (gd rfl) rfl rfl ?_
                  refine g_aload_n 81 (gd rfl) rfl rfl ?_
                  refine g_getA (q2 := 34) 84 (gd rfl) rfl rfl rfl rfl ?_
                  refine g_iload_n 85 (gd rfl) rfl rfl ?_
                  refine g_iaload 86 (gd rfl) rfl (n := 160) rfl (in_ix i25 rfl) (fun z85 e85 => ?_)
                  have q85 : z30x5 = z85 := (sI_ne rfl (e30x5)).trans e85.symm
                  subst q85
                  refine g_ishl 87 (gd rfl) rfl (fun z86 e86 => ?_)
                  refine g_ior 88 (gd rfl) rfl (fun z87 e87 => ?_)
                  refine g_iastore 89 (gd rfl) rfl (n := 32) rfl (in_ix i30x21 rfl) ?_
                  have hI88 := inv_sI (q := 84) (j := z30x21.toNatClampNeg) hI66 rfl (in_w (-2147483648) 2147483647 (i_rng z87) rfl)
                  refine g_iinc 92 (gd rfl) rfl rfl (Nat.le_of_ble_eq_true rfl) (fun z89 e89 => ?_)
                  have i89 := in_add 1 160 e89 i25 (in_c 1 rfl) rfl rfl
                  refine g_goto 20 (gd rfl) rfl ?_
                  have n20 : ((s.1 34 (x2).toNatClampNeg).toInt ≠ -1 ∧ (s.1 34 (x2).toNatClampNeg).toInt ≠ (s.1 35 (x2).toNatClampNeg).toInt) := by exact g20_0
                  have n20a : SPH (gvD s) (x2).toNatClampNeg (z89).toNatClampNeg (((sI (sI sc20 84 z30x5.toNatClampNeg z65) 84 z30x21.toNatClampNeg z87)).1 84) := by rw [show (z89).toNatClampNeg = (y20_3).toNatClampNeg + 1 from (by show (z89).toInt.toNat = (y20_3).toInt.toNat + 1; exact (have a0 := in_u h2; have a1 := in_u i25a; have a2 := in_u i25; have a3 := in_u i89; have a4 := t_add e89 i25 (in_c 1 rfl) rfl; have a5 := in_u ((in_c 1 rfl)); have oc := oc_186_76_32; by omega))]; rw [sI_q, sI_q]; exact sph_s g20_1 (show (y20_3).toNatClampNeg < 160 from (by show (y20_3).toInt.toNat < 160; exact (have a0 := in_u h2; have a1 := in_u i25a; have a2 := in_u i25; have a3 := in_u i89; have a4 := t_add e89 i25 (in_c 1 rfl) rfl; have a5 := in_u ((in_c 1 rfl)); have oc := oc_186_76_32; by omega))) (e30x5.trans (congrFun (hFc20.1 34 rfl) _)) (e30x21.trans (congrFun (hFc20.1 35 rfl) _)) i30x7 i30x21 c30x22 ((spb_i (g := (gvD s)) (k := y20_3) (p := x2) (e39x5.trans (congrFun (hFc20.1 36 rfl) _)) (e39x11.trans (congrFun (hFc20.1 36 rfl) _)) (by exact (have a0 := in_u h2; have a1 := in_u i25a; have a2 := in_u i25; have a3 := in_u i89; have a4 := t_add e89 i25 (in_c 1 rfl) rfl; have a5 := in_u ((in_c 1 rfl)); have oc := oc_186_76_32; by omega)) (by exact (have a0 := in_u h2; have a1 := in_u i25a; have a2 := in_u i25; have a3 := in_u i89; have a4 := t_add e89 i25 (in_c 1 rfl) rfl; have a5 := in_u ((in_c 1 rfl)); have oc := oc_186_76_32; by omega))).mpr (by exact (have a0 := in_u h2; have a1 := in_u i25a; have a2 := in_u i25; have a3 := in_u i89; have a4 := t_add e89 i25 (in_c 1 rfl) rfl; have a5 := in_u ((in_c 1 rfl)); have oc := oc_186_76_32; by omega))) e56 e64 e65 (by rw [e78, sI_q]) e86 e87
                  exact gg_w (by first | exact Nat.le_add_right _ _ | exact gw2 | exact gw3 | exact gwe rfl | exact gwf rfl | exact gwg rfl | exact gwh rfl | omega) (gg_f (gf_cons rfl (gf_cons rfl (gf_cons rfl (gf_cons rfl gf_nil)))) (ih20 (sI (sI sc20 84 z30x5.toNatClampNeg z65) 84 z30x21.toNatClampNeg z87) z89 hI88 (fr_sI rfl (fr_sI rfl hFc20)) (in_w 0 160 i89 rfl) n20 n20a (m_up mm20 (t_add e89 i25 (in_c 1 rfl) rfl) (in_w 1 1 (in_c 1 rfl) rfl))))
              · skip
                refine g_aload_n 16 (gd rfl) rfl rfl ?_
                refine g_getA (q2 := 36) 19 (gd rfl) rfl rfl rfl rfl ?_
                refine g_iload_n 20 (gd rfl) rfl rfl ?_
                refine g_iaload 21 (gd rfl) rfl (n := 160) rfl (in_ix i25 rfl) (fun z39x20 e39x20 => ?_)
                have q39x20 : z39x5 = z39x20 := (e39x5).trans e39x20.symm
                subst q39x20
                refine g_aload_n 22 (gd rfl) rfl rfl ?_
                refine g_getA (q2 := 36) 25 (gd rfl) rfl rfl rfl rfl ?_
                refine g_iload_n 26 (gd rfl) rfl rfl ?_
                refine g_iaload 27 (gd rfl) rfl (n := 160) rfl (in_ix h2 rfl) (fun z39x26 e39x26 => ?_)
                have q39x26 : z39x11 = z39x26 := (e39x11).trans e39x26.symm
                subst q39x26
                refine g_cmp_ne 30 39 (gd rfl) rfl rfl (fun c39x27 => ?_) (fun c39x27 => ?_)
                · skip
                  refine g_iconst 0 40 (gd rfl) rfl rfl ?_
                  refine g_ireturn (gd rfl) rfl (nb01 (in_w 0 1 (in_c 0 rfl) rfl)) (hp39 _ _ ?_)
                  show GG _ _ _ _ _ _ _ _ [.int (Int32.ofInt 0)] _ _ _
                  refine g_if_eq 45 89 (gd rfl) rfl rfl (fun c42 => ?_) (fun c42 => ?_)
                  · skip
                    refine g_iinc 92 (gd rfl) rfl rfl (Nat.le_of_ble_eq_true rfl) (fun z89 e89 => ?_)
                    have i89 := in_add 1 160 e89 i25 (in_c 1 rfl) rfl rfl
                    refine g_goto 20 (gd rfl) rfl ?_
                    have n20 : ((s.1 34 (x2).toNatClampNeg).toInt ≠ -1 ∧ (s.1 34 (x2).toNatClampNeg).toInt ≠ (s.1 35 (x2).toNatClampNeg).toInt) := by exact g20_0
                    have n20a : SPH (gvD s) (x2).toNatClampNeg (z89).toNatClampNeg ((sc20).1 84) := by rw [show (z89).toNatClampNeg = (y20_3).toNatClampNeg + 1 from (by show (z89).toInt.toNat = (y20_3).toInt.toNat + 1; exact (have a0 := in_u h2; have a1 := in_u i25a; have a2 := in_u i25; have a3 := in_u i89; have a4 := t_add e89 i25 (in_c 1 rfl) rfl; have a5 := in_u ((in_c 1 rfl)); have oc := oc_186_76_32; by omega))]; exact sph_n g20_1 (spa_b (fun h => absurd ((spb_i (g := (gvD s)) (k := y20_3) (p := x2) (e39x5.trans (congrFun (hFc20.1 36 rfl) _)) (e39x11.trans (congrFun (hFc20.1 36 rfl) _)) (by exact (have a0 := in_u h2; have a1 := in_u i25a; have a2 := in_u i25; have a3 := in_u i89; have a4 := t_add e89 i25 (in_c 1 rfl) rfl; have a5 := in_u ((in_c 1 rfl)); have oc := oc_186_76_32; by omega)) (by exact (have a0 := in_u h2; have a1 := in_u i25a; have a2 := in_u i25; have a3 := in_u i89; have a4 := t_add e89 i25 (in_c 1 rfl) rfl; have a5 := in_u ((in_c 1 rfl)); have oc := oc_186_76_32; by omega))).mp h) (by exact (have a0 := in_u h2; have a1 := in_u i25a; have a2 := in_u i25; have a3 := in_u i89; have a4 := t_add e89 i25 (in_c 1 rfl) rfl; have a5 := in_u ((in_c 1 rfl)); have oc := oc_186_76_32; by omega))))
                    exact gg_w (by first | exact Nat.le_add_right _ _ | exact gw2 | exact gw3 | exact gwe rfl | exact gwf rfl | exact gwg rfl | exact gwh rfl | omega) (gg_f (gf_cons rfl (gf_cons rfl (gf_cons rfl (gf_cons rfl gf_nil)))) (ih20 sc20 z89 hIc20 hFc20 (in_w 0 160 i89 rfl) n20 n20a (m_up mm20 (t_add e89 i25 (in_c 1 rfl) rfl) (in_w 1 1 (in_c 1 rfl) rfl))))
                  · skip
                    exact zn_ne c42 (in_c 0 rfl) rfl
                · skip
                  refine g_iload_n 31 (gd rfl) rfl rfl ?_
                  refine g_iload_n 32 (gd rfl) rfl rfl ?_
                  refine g_cmp_ge 35 39 (gd rfl) rfl rfl (fun c39x32 => ?_) (fun c39x32 => ?_)
                  · skip
                    refine g_iconst 0 40 (gd rfl) rfl rfl ?_
                    refine g_ireturn (gd rfl) rfl (nb01 (in_w 0 1 (in_c 0 rfl) rfl)) (hp39 _ _ ?_)
                    show GG _ _ _ _ _ _ _ _ [.int (Int32.ofInt 0)] _ _ _
                    refine g_if_eq 45 89 (gd rfl) rfl rfl (fun c42 => ?_) (fun c42 => ?_)
                    · skip
                      refine g_iinc 92 (gd rfl) rfl rfl (Nat.le_of_ble_eq_true rfl) (fun z89 e89 => ?_)
                      have i89 := in_add 1 160 e89 i25 (in_c 1 rfl) rfl rfl
                      refine g_goto 20 (gd rfl) rfl ?_
                      have n20 : ((s.1 34 (x2).toNatClampNeg).toInt ≠ -1 ∧ (s.1 34 (x2).toNatClampNeg).toInt ≠ (s.1 35 (x2).toNatClampNeg).toInt) := by exact g20_0
                      have n20a : SPH (gvD s) (x2).toNatClampNeg (z89).toNatClampNeg ((sc20).1 84) := by rw [show (z89).toNatClampNeg = (y20_3).toNatClampNeg + 1 from (by show (z89).toInt.toNat = (y20_3).toInt.toNat + 1; exact (have a0 := in_u h2; have a1 := in_u i25a; have a2 := in_u i25; have a3 := in_u i89; have a4 := t_add e89 i25 (in_c 1 rfl) rfl; have a5 := in_u ((in_c 1 rfl)); have oc := oc_186_76_32; by omega))]; exact sph_n g20_1 (spa_b (fun h => absurd ((spb_i (g := (gvD s)) (k := y20_3) (p := x2) (e39x5.trans (congrFun (hFc20.1 36 rfl) _)) (e39x11.trans (congrFun (hFc20.1 36 rfl) _)) (by exact (have a0 := in_u h2; have a1 := in_u i25a; have a2 := in_u i25; have a3 := in_u i89; have a4 := t_add e89 i25 (in_c 1 rfl) rfl; have a5 := in_u ((in_c 1 rfl)); have oc := oc_186_76_32; by omega)) (by exact (have a0 := in_u h2; have a1 := in_u i25a; have a2 := in_u i25; have a3 := in_u i89; have a4 := t_add e89 i25 (in_c 1 rfl) rfl; have a5 := in_u ((in_c 1 rfl)); have oc := oc_186_76_32; by omega))).mp h) (by exact (have a0 := in_u h2; have a1 := in_u i25a; have a2 := in_u i25; have a3 := in_u i89; have a4 := t_add e89 i25 (in_c 1 rfl) rfl; have a5 := in_u ((in_c 1 rfl)); have oc := oc_186_76_32; by omega))))
                      exact gg_w (by first | exact Nat.le_add_right _ _ | exact gw2 | exact gw3 | exact gwe rfl | exact gwf rfl | exact gwg rfl | exact gwh rfl | omega) (gg_f (gf_cons rfl (gf_cons rfl (gf_cons rfl (gf_cons rfl gf_nil)))) (ih20 sc20 z89 hIc20 hFc20 (in_w 0 160 i89 rfl) n20 n20a (m_up mm20 (t_add e89 i25 (in_c 1 rfl) rfl) (in_w 1 1 (in_c 1 rfl) rfl))))
                    · skip
                      exact zn_ne c42 (in_c 0 rfl) rfl
                  · skip
                    have i39x32 := r_lt1 0 158 c39x32 i25 h2 rfl
                    have i39x32a := r_lt2 1 159 c39x32 i25 h2 rfl
                    refine g_iconst 1 36 (gd rfl) rfl rfl ?_
                    refine g_goto 40 (gd rfl) rfl ?_
                    refine g_ireturn (gd rfl) rfl (nb01 (in_w 0 1 (in_c 1 rfl) rfl)) (hp39 _ _ ?_)
                    show GG _ _ _ _ _ _ _ _ [.int (Int32.ofInt 1)] _ _ _
                    refine g_if_eq 45 89 (gd rfl) rfl rfl (fun c42 => ?_) (fun c42 => ?_)
                    · skip
                      exact zn_eq c42 (in_c 1 rfl) rfl
                    · skip
                      refine g_aload_n 46 (gd rfl) rfl rfl ?_
                      refine g_getA (q2 := 84) 49 (gd rfl) rfl rfl rfl rfl ?_
                      refine g_aload_n 50 (gd rfl) rfl rfl ?_
                      refine g_getA (q2 := 34) 53 (gd rfl) rfl rfl rfl rfl ?_
                      refine g_iload_n 54 (gd rfl) rfl rfl ?_
                      refine g_iaload 55 (gd rfl) rfl (n := 160) rfl (in_ix i39x32 rfl) (fun z54 e54 => ?_)
                      have q54 : z30x5 = z54 := (e30x5).trans e54.symm
                      subst q54
                      refine g_dup2 56 (gd rfl) rfl rfl rfl ?_
                      refine g_iaload 57 (gd rfl) rfl (n := 32) rfl (in_ix i30x7 rfl) (fun z56 e56 => ?_)
                      refine g_iconst 1 58 (gd rfl) rfl rfl ?_
                      refine g_aload_n 59 (gd rfl) rfl rfl ?_
                      refine g_getA (q2 := 35) 62 (gd rfl) rfl rfl rfl rfl ?_
                      refine g_iload_n 63 (gd rfl) rfl rfl ?_
                      refine g_iaload 64 (gd rfl) rfl (n := 160) rfl (in_ix i39x32 rfl) (fun z63 e63 => ?_)
                      have q63 : z30x21 = z63 := (e30x21).trans e63.symm
                      subst q63
                      refine g_ishl 65 (gd rfl) rfl (fun z64 e64 => ?_)
                      refine g_ior 66 (gd rfl) rfl (fun z65 e65 => ?_)
                      refine g_iastore 67 (gd rfl) rfl (n := 32) rfl (in_ix i30x7 rfl) ?_
                      have hI66 := inv_sI (q := 84) (j := z30x5.toNatClampNeg) hIc20 rfl (in_w (-2147483648) 2147483647 (i_rng z65) rfl)
                      refine g_aload_n 68 (gd rfl) rfl rfl ?_
                      refine g_getA (q2 := 84) 71 (gd rfl) rfl rfl rfl rfl ?_
                      refine g_aload_n 72 (gd rfl) rfl rfl ?_
                      refine g_getA (q2 := 35) 75 (gd rfl) rfl rfl rfl rfl ?_
                      refine g_iload_n 76 (gd rfl) rfl rfl ?_
                      refine g_iaload 77 (gd rfl) rfl (n := 160) rfl (in_ix i39x32 rfl) (fun z76 e76 => ?_)
                      have q76 : z30x21 = z76 := (sI_ne rfl (e30x21)).trans e76.symm
                      subst q76
                      refine g_dup2 78 (gd rfl) rfl rfl rfl ?_
                      refine g_iaload 79 (gd rfl) rfl (n := 32) rfl (in_ix i30x21 rfl) (fun z78 e78 => ?_)
                      refine g_iconst 1 80 (gd rfl) rfl rfl ?_
                      refine g_aload_n 81 (gd rfl) rfl rfl ?_
                      refine g_getA (q2 := 34) 84 (gd rfl) rfl rfl rfl rfl ?_
                      refine g_iload_n 85 (gd rfl) rfl rfl ?_
                      refine g_iaload 86 (gd rfl) rfl (n := 160) rfl (in_ix i39x32 rfl) (fun z85 e85 => ?_)
                      have q85 : z30x5 = z85 := (sI_ne rfl (e30x5)).trans e85.symm
                      subst q85
                      refine g_ishl 87 (gd rfl) rfl (fun z86 e86 => ?_)
                      refine g_ior 88 (gd rfl) rfl (fun z87 e87 => ?_)
                      refine g_iastore 89 (gd rfl) rfl (n := 32) rfl (in_ix i30x21 rfl) ?_
                      have hI88 := inv_sI (q := 84) (j := z30x21.toNatClampNeg) hI66 rfl (in_w (-2147483648) 2147483647 (i_rng z87) rfl)
                      refine g_iinc 92 (gd rfl) rfl rfl (Nat.le_of_ble_eq_true rfl) (fun z89 e89 => ?_)
                      have i89 := in_add 1 159 e89 i39x32 (in_c 1 rfl) rfl rfl
                      refine g_goto 20 (gd rfl) rfl ?_
                      have n20 : ((s.1 34 (x2).toNatClampNeg).toInt ≠ -1 ∧ (s.1 34 (x2).toNatClampNeg).toInt ≠ (s.1 35 (x2).toNatClampNeg).toInt) := by exact g20_0
                      have n20a : SPH (gvD s) (x2).toNatClampNeg (z89).toNatClampNeg (((sI (sI sc20 84 z30x5.toNatClampNeg z65) 84 z30x21.toNatClampNeg z87)).1 84) := by rw [show (z89).toNatClampNeg = (y20_3).toNatClampNeg + 1 from (by show (z89).toInt.toNat = (y20_3).toInt.toNat + 1; exact (have a0 := in_u i39x32a; have a1 := in_u i25a; have a2 := in_u i39x32; have a3 := in_u i89; have a4 := t_add e89 i39x32 (in_c 1 rfl) rfl; have a5 := in_u ((in_c 1 rfl)); have oc := oc_186_76_32; by omega))]; rw [sI_q, sI_q]; exact sph_s g20_1 (show (y20_3).toNatClampNeg < 160 from (by show (y20_3).toInt.toNat < 160; exact (have a0 := in_u i39x32a; have a1 := in_u i25a; have a2 := in_u i39x32; have a3 := in_u i89; have a4 := t_add e89 i39x32 (in_c 1 rfl) rfl; have a5 := in_u ((in_c 1 rfl)); have oc := oc_186_76_32; by omega))) (e30x5.trans (congrFun (hFc20.1 34 rfl) _)) (e30x21.trans (congrFun (hFc20.1 35 rfl) _)) i30x7 i30x21 c30x22 ((spb_i (g := (gvD s)) (k := y20_3) (p := x2) (e39x5.trans (congrFun (hFc20.1 36 rfl) _)) (e39x11.trans (congrFun (hFc20.1 36 rfl) _)) (by exact (have a0 := in_u i39x32a; have a1 := in_u i25a; have a2 := in_u i39x32; have a3 := in_u i89; have a4 := t_add e89 i39x32 (in_c 1 rfl) rfl; have a5 := in_u ((in_c 1 rfl)); have oc := oc_186_76_32; by omega)) (by exact (have a0 := in_u i39x32a; have a1 := in_u i25a; have a2 := in_u i39x32; have a3 := in_u i89; have a4 := t_add e89 i39x32 (in_c 1 rfl) rfl; have a5 := in_u ((in_c 1 rfl)); have oc := oc_186_76_32; by omega))).mpr (by exact (have a0 := in_u i39x32a; have a1 := in_u i25a; have a2 := in_u i39x32; have a3 := in_u i89; have a4 := t_add e89 i39x32 (in_c 1 rfl) rfl; have a5 := in_u ((in_c 1 rfl)); have oc := oc_186_76_32; by omega))) e56 e64 e65 (by rw [e78, sI_q]) e86 e87
                      exact gg_w (by first | exact Nat.le_add_right _ _ | exact gw2 | exact gw3 | exact gwe rfl | exact gwf rfl | exact gwg rfl | exact gwh rfl | omega) (gg_f (gf_cons rfl (gf_cons rfl (gf_cons rfl (gf_cons rfl gf_nil)))) (ih20 (sI (sI sc20 84 z30x5.toNatClampNeg z65) 84 z30x21.toNatClampNeg z87) z89 hI88 (fr_sI rfl (fr_sI rfl hFc20)) (in_w 0 160 i89 rfl) n20 n20a (m_up mm20 (t_add e89 i39x32 (in_c 1 rfl) rfl) (in_w 1 1 (in_c 1 rfl) rfl))))
  refine g_enter2 (k := 186) (N := 145801) (by first | exact dq1 hd rfl | exact dq0 hd rfl | exact dq2 hd rfl | exact dq3 hd rfl | omega) rfl (Nat.le_of_ble_eq_true rfl) ?_
  refine g_aload_n 1 (gd rfl) rfl rfl ?_
  refine g_iload_n 2 (gd rfl) rfl rfl ?_
  refine g_callv (X := _) (As := [.int x2]) (r := []) (b := A 32) (q := 32) 5 (gd rfl) rfl rfl rfl rfl rfl (ww_o rfl) (Nat.le_of_ble_eq_true rfl) (mc := 0) (ms := 0) (Nat.zero_le _) (Nat.zero_le _) (P := fun v u => _) ?_ (fun e u h => h) (fun v u h => h)
  intro po2 xx2 hp2 hx2
  refine g_enter2 (k := 97) (N := 300) (by first | exact dq1 hd rfl | exact dq0 hd rfl | exact dq2 hd rfl | exact dq3 hd rfl | omega) rfl (Nat.le_of_ble_eq_true rfl) ?_
  refine g_aload_n 1 (gd rfl) rfl rfl ?_
  refine g_getA (q2 := 34) 4 (gd rfl) rfl rfl rfl rfl ?_
  refine g_iload_n 5 (gd rfl) rfl rfl ?_
  refine g_iaload 6 (gd rfl) rfl (n := 160) rfl (in_ix h2 rfl) (fun z2x5 e2x5 => ?_)
  have i2x5 := inv_I hI (n := 160) (t := 0) (-1) 31 rfl (in_ix h2 rfl) rfl e2x5
  refine g_iconst (-1) 7 (gd rfl) rfl rfl ?_
  refine g_cmp_eq 10 29 (gd rfl) rfl rfl (fun c2x7 => ?_) (fun c2x7 => ?_)
  · skip
    have i2x7 := r_eq1 (-1) (-1) c2x7 i2x5 (in_c (-1) rfl) rfl
    refine g_iconst 0 30 (gd rfl) rfl rfl ?_
    refine g_ireturn (gd rfl) rfl (nb01 (in_w 0 1 (in_c 0 rfl) rfl)) (hp2 _ _ ?_)
    show GG _ _ _ _ _ _ _ _ [.int (Int32.ofInt 0)] _ _ _
    refine g_if_ne 8 10 (gd rfl) rfl rfl (fun c5 => ?_) (fun c5 => ?_)
    · skip
      exact zn_ne c5 (in_c 0 rfl) rfl
    · skip
      refine g_iconst 0 9 (gd rfl) rfl rfl ?_
      have n9 : (((Int32.ofInt 0)).toInt ≠ 0 ↔ SPN (gvD s) x2.toNatClampNeg) := by exact ⟨fun h => absurd rfl h, fun h => absurd h (spn_m1 (show (s.1 34 (x2).toNatClampNeg).toInt = -1 from (by rw [← e2x5]; exact (have a0 := in_u ro_32_3; have a1 := in_u h2; have oc := oc_186_76_32; by omega))))⟩
      exact g_ireturn (gd rfl) rfl (nb01 (in_w 0 1 (in_c 0 rfl) rfl)) (hP _ _ ⟨s, hI, fr_rf, (Int32.ofInt 0), rfl, rfl, in_w 0 1 (in_c 0 rfl) rfl, n9⟩)
  · skip
    have i2x7 := r_ne1 0 31 c2x7 i2x5 (in_c (-1) rfl) rfl
    refine g_aload_n 11 (gd rfl) rfl rfl ?_
    refine g_getA (q2 := 34) 14 (gd rfl) rfl rfl rfl rfl ?_
    refine g_iload_n 15 (gd rfl) rfl rfl ?_
    refine g_iaload 16 (gd rfl) rfl (n := 160) rfl (in_ix h2 rfl) (fun z2x15 e2x15 => ?_)
    have q2x15 : z2x5 = z2x15 := (e2x5).trans e2x15.symm
    subst q2x15
    refine g_aload_n 17 (gd rfl) rfl rfl ?_
    refine g_getA (q2 := 35) 20 (gd rfl) rfl rfl rfl rfl ?_
    refine g_iload_n 21 (gd rfl) rfl rfl ?_
    refine g_iaload 22 (gd rfl) rfl (n := 160) rfl (in_ix h2 rfl) (fun z2x21 e2x21 => ?_)
    have i2x21 := inv_I hI (n := 160) (t := 0) 0 31 rfl (in_ix h2 rfl) rfl e2x21
    refine g_cmp_eq 25 29 (gd rfl) rfl rfl (fun c2x22 => ?_) (fun c2x22 => ?_)
    · skip
      refine g_iconst 0 30 (gd rfl) rfl rfl ?_
      refine g_ireturn (gd rfl) rfl (nb01 (in_w 0 1 (in_c 0 rfl) rfl)) (hp2 _ _ ?_)
      show GG _ _ _ _ _ _ _ _ [.int (Int32.ofInt 0)] _ _ _
      refine g_if_ne 8 10 (gd rfl) rfl rfl (fun c5 => ?_) (fun c5 => ?_)
      · skip
        exact zn_ne c5 (in_c 0 rfl) rfl
      · skip
        refine g_iconst 0 9 (gd rfl) rfl rfl ?_
        have n9 : (((Int32.ofInt 0)).toInt ≠ 0 ↔ SPN (gvD s) x2.toNatClampNeg) := by exact ⟨fun h => absurd rfl h, fun h => absurd h (spn_lp (show (x2).toNatClampNeg < 160 from (by show (x2).toInt.toNat < 160; exact (have a0 := in_u ro_32_3; have a1 := in_u h2; have oc := oc_186_76_32; by omega))) e2x5 e2x21 i2x7.1 (by exact (have a0 := in_u ro_32_3; have a1 := in_u h2; have oc := oc_186_76_32; by omega)))⟩
        exact g_ireturn (gd rfl) rfl (nb01 (in_w 0 1 (in_c 0 rfl) rfl)) (hP _ _ ⟨s, hI, fr_rf, (Int32.ofInt 0), rfl, rfl, in_w 0 1 (in_c 0 rfl) rfl, n9⟩)
    · skip
      refine g_iconst 1 26 (gd rfl) rfl rfl ?_
      refine g_goto 30 (gd rfl) rfl ?_
      refine g_ireturn (gd rfl) rfl (nb01 (in_w 0 1 (in_c 1 rfl) rfl)) (hp2 _ _ ?_)
      show GG _ _ _ _ _ _ _ _ [.int (Int32.ofInt 1)] _ _ _
      refine g_if_ne 8 10 (gd rfl) rfl rfl (fun c5 => ?_) (fun c5 => ?_)
      · skip
        refine g_aload_n 11 (gd rfl) rfl rfl ?_
        refine g_getA (q2 := 84) 14 (gd rfl) rfl rfl rfl rfl ?_
        refine g_iconst 0 15 (gd rfl) rfl rfl ?_
        refine g_calls (As := [.ref (A 84), .int (Int32.ofInt 0)]) (r := []) 18 (gd rfl) rfl rfl rfl rfl rfl (Nat.le_of_ble_eq_true rfl) (Nat.zero_le _) (Nat.zero_le _) (k_fillI 84 (by first | exact dq1 hd rfl | exact dq0 hd rfl | exact dq2 hd rfl | exact dq3 hd rfl | omega) hI (in_c 0 rfl) (n := 32) rfl rfl rfl rfl) (fun v u h => ?_)
        obtain ⟨s15, hI15, hF15, rfl, rfl, fl15⟩ := h
        show GG _ _ _ _ _ _ _ _ [] _ _ _
        refine g_iconst 0 19 (gd rfl) rfl rfl ?_
        refine g_istore_n 20 (gd rfl) rfl (Nat.le_of_ble_eq_true rfl) ?_
        have n20 : ((s.1 34 (x2).toNatClampNeg).toInt ≠ -1 ∧ (s.1 34 (x2).toNatClampNeg).toInt ≠ (s.1 35 (x2).toNatClampNeg).toInt) := by exact ⟨by rw [← e2x5]; exact (have a0 := in_u ro_32_3; have a1 := in_u h2; have a2 := in_u ((in_c 0 rfl)); have oc := oc_186_76_32; by omega), by rw [← e2x5, ← e2x21]; exact c2x22⟩
        have n20a : SPH (gvD s) (x2).toNatClampNeg ((Int32.ofInt 0)).toNatClampNeg ((s15).1 84) := by exact sph_0 (fun u hu => fl15 u hu)
        exact gg_w (by first | exact Nat.le_of_ble_eq_true rfl | omega) (gg_f (gf_cons rfl (gf_cons rfl (gf_cons rfl (gf_cons rfl gf_nil)))) (ct20 161 s15 (Int32.ofInt 0) hI15 (fr_tr rfl fr_rf hF15) (in_w 0 160 (in_c 0 rfl) rfl) n20 n20a (m_in 161 (in_w 0 160 (in_c 0 rfl) rfl) rfl)))
      · skip
        exact zn_eq c5 (in_c 1 rfl) rfl

theorem oc_246_0 : (Int32.ofInt (-1)).toInt = (-1) ∧ (Int32.ofInt 0).toInt = 0 ∧ (Int32.ofInt 1).toInt = 1 := ⟨rfl, rfl, rfl⟩
/-- GraphHouse.span -/
theorem f_246_0 {Z : AmZ} {A : Nat → Nat} {s : GS} {ex : va_W} {d : Nat} {x1 : Int32} (hd : 7 ≤ d) (hI : Inv s) (q_0 : TQ s) (q_1 : TQD s) : GC Z d 246 [.ref (A 0), .int x1] (WW Z A s ++ ex) 3 18 (fun v u => ∃ t : GS, Inv t ∧ Fr fm_246_0 s t ∧ ∃ z : Int32, v = some (.int z) ∧ u = WW Z A t ++ ex ∧ In z 0 1 ∧ (BHP (shC s) x1 ∧ ((z).toInt ≠ 0 ↔ SPN (shC s) x1.toNatClampNeg))) (gEx Z A ex fm_246_0 s (¬ BHP (shC s) x1) (False)) := by
  intro post xp hP hX
  obtain ⟨u_0_2, e_0_2⟩ : ∃ w, w = s.2.2.1 0 2 := ⟨_, rfl⟩
  have ro_0_2 := inv_F hI (-1) 4000 rfl e_0_2
  obtain ⟨u_2_3, e_2_3⟩ : ∃ w, w = s.2.2.1 2 3 := ⟨_, rfl⟩
  have ro_2_3 := inv_F hI 0 160 rfl e_2_3
  obtain ⟨u_32_3, e_32_3⟩ : ∃ w, w = s.2.2.1 32 3 := ⟨_, rfl⟩
  have ro_32_3 := inv_F hI 0 160 rfl e_32_3
  refine g_enter2 (k := 246) (N := 900) (by first | exact dq1 hd rfl | exact dq0 hd rfl | exact dq2 hd rfl | exact dq3 hd rfl | omega) rfl (Nat.le_of_ble_eq_true rfl) ?_
  refine g_aload_n 1 (gd rfl) rfl rfl ?_
  refine g_callv (X := _) (As := []) (r := []) (b := A 0) (q := 0) 4 (gd rfl) rfl rfl rfl rfl rfl (ww_o rfl) (Nat.le_of_ble_eq_true rfl) (mc := 0) (ms := 0) (Nat.zero_le _) (Nat.zero_le _) (P := fun v u => _) ?_ (fun e u h => h) (fun v u h => h)
  intro po1 xx1 hp1 hx1
  refine g_enter2 (k := 259) (N := 300) (by first | exact dq1 hd rfl | exact dq0 hd rfl | exact dq2 hd rfl | exact dq3 hd rfl | omega) rfl (Nat.le_of_ble_eq_true rfl) ?_
  refine g_aload_n 1 (gd rfl) rfl rfl ?_
  refine g_getI 4 (gd rfl) rfl rfl rfl (fun z1x1 e1x1 => ?_)
  have q1x1 : u_0_2 = z1x1 := (e_0_2).trans e1x1.symm
  subst q1x1
  refine g_iconst (-1) 5 (gd rfl) rfl rfl ?_
  refine g_cmp_ne 8 18 (gd rfl) rfl rfl (fun c1x5 => ?_) (fun c1x5 => ?_)
  · skip
    have i1x5 := r_ne1 0 4000 c1x5 ro_0_2 (in_c (-1) rfl) rfl
    refine g_aload_n 19 (gd rfl) rfl rfl ?_
    refine g_getA (q2 := 32) 22 (gd rfl) rfl rfl rfl rfl ?_
    refine g_areturn (gd rfl) rfl (hp1 _ _ ?_)
    show GG _ _ _ _ _ _ _ _ [.ref (A 32)] _ _ _
    refine g_astore_n 5 (gd rfl) rfl (Nat.le_of_ble_eq_true rfl) ?_
    refine g_aload_n 6 (gd rfl) rfl rfl ?_
    refine g_iload_n 7 (gd rfl) rfl rfl ?_
    refine g_callv (X := _) (As := [.int x1]) (r := []) (b := A 32) (q := 32) 10 (gd rfl) rfl rfl rfl rfl rfl (ww_o rfl) (Nat.le_of_ble_eq_true rfl) (mc := 0) (ms := 0) (Nat.zero_le _) (Nat.zero_le _) (P := fun v u => _) ?_ (fun e u h => h) (fun v u h => h)
    intro po7 xx7 hp7 hx7
    refine g_enter2 (k := 96) (N := 300) (by first | exact dq1 hd rfl | exact dq0 hd rfl | exact dq2 hd rfl | exact dq3 hd rfl | omega) rfl (Nat.le_of_ble_eq_true rfl) ?_
    refine g_iload_n 1 (gd rfl) rfl rfl ?_
    refine g_if_lt 4 26 (gd rfl) rfl rfl (fun c7x1 => ?_) (fun c7x1 => ?_)
    · skip
      have i7x1 := z_lt (-2147483648) (-1) c7x1 (i_rng x1) rfl
      refine g_iconst 0 27 (gd rfl) rfl rfl ?_
      refine g_ireturn (gd rfl) rfl (nb01 (in_w 0 1 (in_c 0 rfl) rfl)) (hp7 _ _ ?_)
      show GG _ _ _ _ _ _ _ _ [.int (Int32.ofInt 0)] _ _ _
      refine g_thr (E := am_IA) (y := yX11_allow) 13 (gd rfl) rfl rfl (Or.inl ⟨rfl, rfl, rfl⟩) (by first | exact dq1 hd rfl | exact dq0 hd rfl | exact dq2 hd rfl | exact dq3 hd rfl | omega) (Nat.le_of_ble_eq_true rfl) (Nat.le_of_ble_eq_true rfl) (Nat.le_of_ble_eq_true rfl) (fun c10 => ?_) (fun c10 => ?_)
      · skip
        exact zn_ne c10 (in_c 0 rfl) rfl
      · skip
        have n10 : ¬ BHP (shC s) x1 := by intro h; have a := h.1.1; exact (have a0 := in_u ro_32_3; have a1 := in_u ro_2_3; have a2 := in_u i1x5; have a3 := in_u i7x1; have oc := oc_246_0; by omega)
        exact (hX _ _ ⟨Or.inl ⟨rfl, n10⟩, s, hI, fr_rf, rfl⟩)
    · skip
      have i7x1 := z_ge 0 2147483647 c7x1 (i_rng x1) rfl
      refine g_iload_n 5 (gd rfl) rfl rfl ?_
      refine g_aload_n 6 (gd rfl) rfl rfl ?_
      refine g_getI 9 (gd rfl) rfl rfl rfl (fun z7x6 e7x6 => ?_)
      have q7x6 : u_32_3 = z7x6 := (e_32_3).trans e7x6.symm
      subst q7x6
      refine g_cmp_ge 12 26 (gd rfl) rfl rfl (fun c7x9 => ?_) (fun c7x9 => ?_)
      · skip
        refine g_iconst 0 27 (gd rfl) rfl rfl ?_
        refine g_ireturn (gd rfl) rfl (nb01 (in_w 0 1 (in_c 0 rfl) rfl)) (hp7 _ _ ?_)
        show GG _ _ _ _ _ _ _ _ [.int (Int32.ofInt 0)] _ _ _
        refine g_thr (E := am_IA) (y := yX11_allow) 13 (gd rfl) rfl rfl (Or.inl ⟨rfl, rfl, rfl⟩) (by first | exact dq1 hd rfl | exact dq0 hd rfl | exact dq2 hd rfl | exact dq3 hd rfl | omega) (Nat.le_of_ble_eq_true rfl) (Nat.le_of_ble_eq_true rfl) (Nat.le_of_ble_eq_true rfl) (fun c10 => ?_) (fun c10 => ?_)
        · skip
          exact zn_ne c10 (in_c 0 rfl) rfl
        · skip
          have n10 : ¬ BHP (shC s) x1 := by first | (rw [shC_n (by rw [← e1x1]; exact c1x5)]; exact bhp_t (T := (s.2.2.1 2 3).toInt) (fun p hp hn => q_0 p hp hn) (by rw [← e_2_3]; exact (have a0 := in_u ro_32_3; have a1 := in_u ro_2_3; have a2 := in_u i1x5; have a3 := in_u i7x1; have oc := oc_246_0; by omega)) (by exact (have a0 := in_u ro_32_3; have a1 := in_u ro_2_3; have a2 := in_u i1x5; have a3 := in_u i7x1; have oc := oc_246_0; by omega))) | (rw [shC_d (by rw [← e1x1]; exact c1x5)]; exact bhp_t (T := (s.2.2.1 32 3).toInt) (fun p hp hn => q_1 p hp hn) (by rw [← e_32_3]; exact (have a0 := in_u ro_32_3; have a1 := in_u ro_2_3; have a2 := in_u i1x5; have a3 := in_u i7x1; have oc := oc_246_0; by omega)) (by exact (have a0 := in_u ro_32_3; have a1 := in_u ro_2_3; have a2 := in_u i1x5; have a3 := in_u i7x1; have oc := oc_246_0; by omega)))
          exact (hX _ _ ⟨Or.inl ⟨rfl, n10⟩, s, hI, fr_rf, rfl⟩)
      · skip
        have i7x9 := r_lt1 0 159 c7x9 i7x1 ro_32_3 rfl
        have i7x9a := r_lt2 1 160 c7x9 i7x1 ro_32_3 rfl
        refine g_aload_n 13 (gd rfl) rfl rfl ?_
        refine g_getA (q2 := 34) 16 (gd rfl) rfl rfl rfl rfl ?_
        refine g_iload_n 17 (gd rfl) rfl rfl ?_
        refine g_iaload 18 (gd rfl) rfl (n := 160) rfl (in_ix i7x9 rfl) (fun z7x17 e7x17 => ?_)
        have i7x17 := inv_I hI (n := 160) (t := 0) (-1) 31 rfl (in_ix i7x9 rfl) rfl e7x17
        refine g_iconst (-1) 19 (gd rfl) rfl rfl ?_
        refine g_cmp_eq 22 26 (gd rfl) rfl rfl (fun c7x19 => ?_) (fun c7x19 => ?_)
        · skip
          have i7x19 := r_eq1 (-1) (-1) c7x19 i7x17 (in_c (-1) rfl) rfl
          refine g_iconst 0 27 (gd rfl) rfl rfl ?_
          refine g_ireturn (gd rfl) rfl (nb01 (in_w 0 1 (in_c 0 rfl) rfl)) (hp7 _ _ ?_)
          show GG _ _ _ _ _ _ _ _ [.int (Int32.ofInt 0)] _ _ _
          refine g_thr (E := am_IA) (y := yX11_allow) 13 (gd rfl) rfl rfl (Or.inl ⟨rfl, rfl, rfl⟩) (by first | exact dq1 hd rfl | exact dq0 hd rfl | exact dq2 hd rfl | exact dq3 hd rfl | omega) (Nat.le_of_ble_eq_true rfl) (Nat.le_of_ble_eq_true rfl) (Nat.le_of_ble_eq_true rfl) (fun c10 => ?_) (fun c10 => ?_)
          · skip
            exact zn_ne c10 (in_c 0 rfl) rfl
          · skip
            have n10 : ¬ BHP (shC s) x1 := by first | (rw [shC_n (by rw [← e1x1]; exact c1x5)]; exact bhp_n (show (s.1 4 (x1).toNatClampNeg).toInt = -1 from (by rw [← e7x17]; exact (have a0 := in_u i7x9; have a1 := in_u i7x9a; have a2 := in_u ro_2_3; have a3 := in_u i1x5; have oc := oc_246_0; by omega)))) | (rw [shC_d (by rw [← e1x1]; exact c1x5)]; exact bhp_n (show (s.1 34 (x1).toNatClampNeg).toInt = -1 from (by rw [← e7x17]; exact (have a0 := in_u i7x9; have a1 := in_u i7x9a; have a2 := in_u ro_2_3; have a3 := in_u i1x5; have oc := oc_246_0; by omega))))
            exact (hX _ _ ⟨Or.inl ⟨rfl, n10⟩, s, hI, fr_rf, rfl⟩)
        · skip
          have i7x19 := r_ne1 0 31 c7x19 i7x17 (in_c (-1) rfl) rfl
          refine g_iconst 1 23 (gd rfl) rfl rfl ?_
          refine g_goto 27 (gd rfl) rfl ?_
          refine g_ireturn (gd rfl) rfl (nb01 (in_w 0 1 (in_c 1 rfl) rfl)) (hp7 _ _ ?_)
          show GG _ _ _ _ _ _ _ _ [.int (Int32.ofInt 1)] _ _ _
          refine g_thr (E := am_IA) (y := yX11_allow) 13 (gd rfl) rfl rfl (Or.inl ⟨rfl, rfl, rfl⟩) (by first | exact dq1 hd rfl | exact dq0 hd rfl | exact dq2 hd rfl | exact dq3 hd rfl | omega) (Nat.le_of_ble_eq_true rfl) (Nat.le_of_ble_eq_true rfl) (Nat.le_of_ble_eq_true rfl) (fun c10 => ?_) (fun c10 => ?_)
          · skip
            refine g_aload_n 14 (gd rfl) rfl rfl ?_
            refine g_getA (q2 := 76) 17 (gd rfl) rfl rfl rfl rfl ?_
            refine g_aload_n 18 (gd rfl) rfl rfl ?_
            refine g_iload_n 19 (gd rfl) rfl rfl ?_
            have p19 : TQD s := by first | exact q_0 | exact q_1
            refine g_callv (X := _) (As := [.ref (A 32), .int x1]) (r := []) (b := A 76) (q := 76) 22 (gd rfl) rfl rfl rfl rfl rfl (ww_o rfl) (Nat.le_of_ble_eq_true rfl) (Nat.zero_le _) (Nat.zero_le _) (f_186_76_32 (by first | exact dq1 hd rfl | exact dq0 hd rfl | exact dq2 hd rfl | exact dq3 hd rfl | omega) hI (in_w 0 159 i7x9 rfl) p19) (fun e u h => h) (fun v u h => ?_)
            obtain ⟨s19, hI19, hF19, z19, rfl, rfl, i19, p19a⟩ := h
            show GG _ _ _ _ _ _ _ _ [.int z19] _ _ _
            have n22 : BHP (shC s) x1 ∧ ((z19).toInt ≠ 0 ↔ SPN (shC s) x1.toNatClampNeg) := by first | (rw [shC_n (by rw [← e1x1]; exact c1x5)]; exact ⟨(bhp_y (g := gvC s) (x := x1) (by exact (have a0 := in_u i7x9; have a1 := in_u i7x9a; have a2 := in_u ro_2_3; have a3 := in_u i1x5; have oc := oc_246_0; by omega)) (by exact (have a0 := in_u i7x9; have a1 := in_u i7x9a; have a2 := in_u ro_2_3; have a3 := in_u i1x5; have oc := oc_246_0; by omega)) e7x17 (by exact (have a0 := in_u i7x9; have a1 := in_u i7x9a; have a2 := in_u ro_2_3; have a3 := in_u i1x5; have oc := oc_246_0; by omega))), p19a⟩) | (rw [shC_d (by rw [← e1x1]; exact c1x5)]; exact ⟨(bhp_y (g := gvD s) (x := x1) (by exact (have a0 := in_u i7x9; have a1 := in_u i7x9a; have a2 := in_u ro_2_3; have a3 := in_u i1x5; have oc := oc_246_0; by omega)) (by exact (have a0 := in_u i7x9; have a1 := in_u i7x9a; have a2 := in_u ro_2_3; have a3 := in_u i1x5; have oc := oc_246_0; by omega)) e7x17 (by exact (have a0 := in_u i7x9; have a1 := in_u i7x9a; have a2 := in_u ro_2_3; have a3 := in_u i1x5; have oc := oc_246_0; by omega))), p19a⟩)
            exact g_ireturn (gd rfl) rfl (nb01 (in_w 0 1 i19 rfl)) (hP _ _ ⟨s19, hI19, (fr_tr rfl fr_rf hF19), z19, rfl, rfl, in_w 0 1 i19 rfl, n22⟩)
          · skip
            exact zn_eq c10 (in_c 1 rfl) rfl
  · skip
    have i1x5 := r_eq1 (-1) (-1) c1x5 ro_0_2 (in_c (-1) rfl) rfl
    refine g_aload_n 9 (gd rfl) rfl rfl ?_
    refine g_getA (q2 := 1) 12 (gd rfl) rfl rfl rfl rfl ?_
    refine g_getA (q2 := 2) 15 (gd rfl) rfl rfl rfl rfl ?_
    refine g_goto 22 (gd rfl) rfl ?_
    refine g_areturn (gd rfl) rfl (hp1 _ _ ?_)
    show GG _ _ _ _ _ _ _ _ [.ref (A 2)] _ _ _
    refine g_astore_n 5 (gd rfl) rfl (Nat.le_of_ble_eq_true rfl) ?_
    refine g_aload_n 6 (gd rfl) rfl rfl ?_
    refine g_iload_n 7 (gd rfl) rfl rfl ?_
    refine g_callv (X := _) (As := [.int x1]) (r := []) (b := A 2) (q := 2) 10 (gd rfl) rfl rfl rfl rfl rfl (ww_o rfl) (Nat.le_of_ble_eq_true rfl) (mc := 0) (ms := 0) (Nat.zero_le _) (Nat.zero_le _) (P := fun v u => _) ?_ (fun e u h => h) (fun v u h => h)
    intro po7 xx7 hp7 hx7
    refine g_enter2 (k := 96) (N := 300) (by first | exact dq1 hd rfl | exact dq0 hd rfl | exact dq2 hd rfl | exact dq3 hd rfl | omega) rfl (Nat.le_of_ble_eq_true rfl) ?_
    refine g_iload_n 1 (gd rfl) rfl rfl ?_
    refine g_if_lt 4 26 (gd rfl) rfl rfl (fun c7x1 => ?_) (fun c7x1 => ?_)
    · skip
      have i7x1 := z_lt (-2147483648) (-1) c7x1 (i_rng x1) rfl
      refine g_iconst 0 27 (gd rfl) rfl rfl ?_
      refine g_ireturn (gd rfl) rfl (nb01 (in_w 0 1 (in_c 0 rfl) rfl)) (hp7 _ _ ?_)
      show GG _ _ _ _ _ _ _ _ [.int (Int32.ofInt 0)] _ _ _
      refine g_thr (E := am_IA) (y := yX11_allow) 13 (gd rfl) rfl rfl (Or.inl ⟨rfl, rfl, rfl⟩) (by first | exact dq1 hd rfl | exact dq0 hd rfl | exact dq2 hd rfl | exact dq3 hd rfl | omega) (Nat.le_of_ble_eq_true rfl) (Nat.le_of_ble_eq_true rfl) (Nat.le_of_ble_eq_true rfl) (fun c10 => ?_) (fun c10 => ?_)
      · skip
        exact zn_ne c10 (in_c 0 rfl) rfl
      · skip
        have n10 : ¬ BHP (shC s) x1 := by intro h; have a := h.1.1; exact (have a0 := in_u ro_32_3; have a1 := in_u ro_2_3; have a2 := in_u i1x5; have a3 := in_u i7x1; have oc := oc_246_0; by omega)
        exact (hX _ _ ⟨Or.inl ⟨rfl, n10⟩, s, hI, fr_rf, rfl⟩)
    · skip
      have i7x1 := z_ge 0 2147483647 c7x1 (i_rng x1) rfl
      refine g_iload_n 5 (gd rfl) rfl rfl ?_
      refine g_aload_n 6 (gd rfl) rfl rfl ?_
      refine g_getI 9 (gd rfl) rfl rfl rfl (fun z7x6 e7x6 => ?_)
      have q7x6 : u_2_3 = z7x6 := (e_2_3).trans e7x6.symm
      subst q7x6
      refine g_cmp_ge 12 26 (gd rfl) rfl rfl (fun c7x9 => ?_) (fun c7x9 => ?_)
      · skip
        refine g_iconst 0 27 (gd rfl) rfl rfl ?_
        refine g_ireturn (gd rfl) rfl (nb01 (in_w 0 1 (in_c 0 rfl) rfl)) (hp7 _ _ ?_)
        show GG _ _ _ _ _ _ _ _ [.int (Int32.ofInt 0)] _ _ _
        refine g_thr (E := am_IA) (y := yX11_allow) 13 (gd rfl) rfl rfl (Or.inl ⟨rfl, rfl, rfl⟩) (by first | exact dq1 hd rfl | exact dq0 hd rfl | exact dq2 hd rfl | exact dq3 hd rfl | omega) (Nat.le_of_ble_eq_true rfl) (Nat.le_of_ble_eq_true rfl) (Nat.le_of_ble_eq_true rfl) (fun c10 => ?_) (fun c10 => ?_)
        · skip
          exact zn_ne c10 (in_c 0 rfl) rfl
        · skip
          have n10 : ¬ BHP (shC s) x1 := by first | (rw [shC_n (by rw [← e1x1]; exact c1x5)]; exact bhp_t (T := (s.2.2.1 2 3).toInt) (fun p hp hn => q_0 p hp hn) (by rw [← e_2_3]; exact (have a0 := in_u ro_32_3; have a1 := in_u ro_2_3; have a2 := in_u i1x5; have a3 := in_u i7x1; have oc := oc_246_0; by omega)) (by exact (have a0 := in_u ro_32_3; have a1 := in_u ro_2_3; have a2 := in_u i1x5; have a3 := in_u i7x1; have oc := oc_246_0; by omega))) | (rw [shC_d (by rw [← e1x1]; exact c1x5)]; exact bhp_t (T := (s.2.2.1 32 3).toInt) (fun p hp hn => q_1 p hp hn) (by rw [← e_32_3]; exact (have a0 := in_u ro_32_3; have a1 := in_u ro_2_3; have a2 := in_u i1x5; have a3 := in_u i7x1; have oc := oc_246_0; by omega)) (by exact (have a0 := in_u ro_32_3; have a1 := in_u ro_2_3; have a2 := in_u i1x5; have a3 := in_u i7x1; have oc := oc_246_0; by omega)))
          exact (hX _ _ ⟨Or.inl ⟨rfl, n10⟩, s, hI, fr_rf, rfl⟩)
      · skip
        have i7x9 := r_lt1 0 159 c7x9 i7x1 ro_2_3 rfl
        have i7x9a := r_lt2 1 160 c7x9 i7x1 ro_2_3 rfl
        refine g_aload_n 13 (gd rfl) rfl rfl ?_
        refine g_getA (q2 := 4) 16 (gd rfl) rfl rfl rfl rfl ?_
        refine g_iload_n 17 (gd rfl) rfl rfl ?_
        refine g_iaload 18 (gd rfl) rfl (n := 160) rfl (in_ix i7x9 rfl) (fun z7x17 e7x17 => ?_)
        have i7x17 := inv_I hI (n := 160) (t := 0) (-1) 31 rfl (in_ix i7x9 rfl) rfl e7x17
        refine g_iconst (-1) 19 (gd rfl) rfl rfl ?_
        refine g_cmp_eq 22 26 (gd rfl) rfl rfl (fun c7x19 => ?_) (fun c7x19 => ?_)
        · skip
          have i7x19 := r_eq1 (-1) (-1) c7x19 i7x17 (in_c (-1) rfl) rfl
          refine g_iconst 0 27 (gd rfl) rfl rfl ?_
          refine g_ireturn (gd rfl) rfl (nb01 (in_w 0 1 (in_c 0 rfl) rfl)) (hp7 _ _ ?_)
          show GG _ _ _ _ _ _ _ _ [.int (Int32.ofInt 0)] _ _ _
          refine g_thr (E := am_IA) (y := yX11_allow) 13 (gd rfl) rfl rfl (Or.inl ⟨rfl, rfl, rfl⟩) (by first | exact dq1 hd rfl | exact dq0 hd rfl | exact dq2 hd rfl | exact dq3 hd rfl | omega) (Nat.le_of_ble_eq_true rfl) (Nat.le_of_ble_eq_true rfl) (Nat.le_of_ble_eq_true rfl) (fun c10 => ?_) (fun c10 => ?_)
          · skip
            exact zn_ne c10 (in_c 0 rfl) rfl
          · skip
            have n10 : ¬ BHP (shC s) x1 := by first | (rw [shC_n (by rw [← e1x1]; exact c1x5)]; exact bhp_n (show (s.1 4 (x1).toNatClampNeg).toInt = -1 from (by rw [← e7x17]; exact (have a0 := in_u i7x9; have a1 := in_u ro_32_3; have a2 := in_u i7x9a; have a3 := in_u i1x5; have oc := oc_246_0; by omega)))) | (rw [shC_d (by rw [← e1x1]; exact c1x5)]; exact bhp_n (show (s.1 34 (x1).toNatClampNeg).toInt = -1 from (by rw [← e7x17]; exact (have a0 := in_u i7x9; have a1 := in_u ro_32_3; have a2 := in_u i7x9a; have a3 := in_u i1x5; have oc := oc_246_0; by omega))))
            exact (hX _ _ ⟨Or.inl ⟨rfl, n10⟩, s, hI, fr_rf, rfl⟩)
        · skip
          have i7x19 := r_ne1 0 31 c7x19 i7x17 (in_c (-1) rfl) rfl
          refine g_iconst 1 23 (gd rfl) rfl rfl ?_
          refine g_goto 27 (gd rfl) rfl ?_
          refine g_ireturn (gd rfl) rfl (nb01 (in_w 0 1 (in_c 1 rfl) rfl)) (hp7 _ _ ?_)
          show GG _ _ _ _ _ _ _ _ [.int (Int32.ofInt 1)] _ _ _
          refine g_thr (E := am_IA) (y := yX11_allow) 13 (gd rfl) rfl rfl (Or.inl ⟨rfl, rfl, rfl⟩) (by first | exact dq1 hd rfl | exact dq0 hd rfl | exact dq2 hd rfl | exact dq3 hd rfl | omega) (Nat.le_of_ble_eq_true rfl) (Nat.le_of_ble_eq_true rfl) (Nat.le_of_ble_eq_true rfl) (fun c10 => ?_) (fun c10 => ?_)
          · skip
            refine g_aload_n 14 (gd rfl) rfl rfl ?_
            refine g_getA (q2 := 76) 17 (gd rfl) rfl rfl rfl rfl ?_
            refine g_aload_n 18 (gd rfl) rfl rfl ?_
            refine g_iload_n 19 (gd rfl) rfl rfl ?_
            have p19 : TQ s := by first | exact q_0 | exact q_1
            refine g_callv (X := _) (As := [.ref (A 2), .int x1]) (r := []) (b := A 76) (q := 76) 22 (gd rfl) rfl rfl rfl rfl rfl (ww_o rfl) (Nat.le_of_ble_eq_true rfl) (Nat.zero_le _) (Nat.zero_le _) (f_186_76_2 (by first | exact dq1 hd rfl | exact dq0 hd rfl | exact dq2 hd rfl | exact dq3 hd rfl | omega) hI (in_w 0 159 i7x9 rfl) p19) (fun e u h => h) (fun v u h => ?_)
            obtain ⟨s19, hI19, hF19, z19, rfl, rfl, i19, p19a⟩ := h
            show GG _ _ _ _ _ _ _ _ [.int z19] _ _ _
            have n22 : BHP (shC s) x1 ∧ ((z19).toInt ≠ 0 ↔ SPN (shC s) x1.toNatClampNeg) := by first | (rw [shC_n (by rw [← e1x1]; exact c1x5)]; exact ⟨(bhp_y (g := gvC s) (x := x1) (by exact (have a0 := in_u i7x9; have a1 := in_u ro_32_3; have a2 := in_u i7x9a; have a3 := in_u i1x5; have oc := oc_246_0; by omega)) (by exact (have a0 := in_u i7x9; have a1 := in_u ro_32_3; have a2 := in_u i7x9a; have a3 := in_u i1x5; have oc := oc_246_0; by omega)) e7x17 (by exact (have a0 := in_u i7x9; have a1 := in_u ro_32_3; have a2 := in_u i7x9a; have a3 := in_u i1x5; have oc := oc_246_0; by omega))), p19a⟩) | (rw [shC_d (by rw [← e1x1]; exact c1x5)]; exact ⟨(bhp_y (g := gvD s) (x := x1) (by exact (have a0 := in_u i7x9; have a1 := in_u ro_32_3; have a2 := in_u i7x9a; have a3 := in_u i1x5; have oc := oc_246_0; by omega)) (by exact (have a0 := in_u i7x9; have a1 := in_u ro_32_3; have a2 := in_u i7x9a; have a3 := in_u i1x5; have oc := oc_246_0; by omega)) e7x17 (by exact (have a0 := in_u i7x9; have a1 := in_u ro_32_3; have a2 := in_u i7x9a; have a3 := in_u i1x5; have oc := oc_246_0; by omega))), p19a⟩)
            exact g_ireturn (gd rfl) rfl (nb01 (in_w 0 1 i19 rfl)) (hP _ _ ⟨s19, hI19, (fr_tr rfl fr_rf hF19), z19, rfl, rfl, in_w 0 1 i19 rfl, n22⟩)
          · skip
            exact zn_eq c10 (in_c 1 rfl) rfl

theorem oc_365_109 : (Int32.ofInt (-1)).toInt = (-1) ∧ (Int32.ofInt 0).toInt = 0 ∧ (Int32.ofInt 1).toInt = 1 ∧ (Int32.ofInt 160).toInt = 160 ∧ (Int64.ofInt 1000).toInt = 1000 ∧ (Int64.ofInt 1000000).toInt = 1000000 := ⟨rfl, rfl, rfl, rfl, rfl, rfl⟩
set_option maxHeartbeats 4000000 in
/-- GraphHouseModel.span -/
theorem f_365 {Z : AmZ} {A : Nat → Nat} {s : GS} {ex : va_W} {d : Nat} {X : AmX} {x1 : Int32} (hd : 4 ≤ d) (hI : Inv s)  : GC Z d 365 [.ref (A 109), .int x1] (WW Z A s ++ ex) 0 0 (fun v u => ∃ t : GS, Inv t ∧ Fr fm_365 s t ∧ ∃ z : Int32, v = some (.int z) ∧ u = WW Z A t ++ ex ∧ In z 0 1 ∧ (SPR s t x1 z)) X := by
  intro post xp hP hX
  obtain ⟨u_109_19, e_109_19⟩ : ∃ w, w = s.2.2.1 109 19 := ⟨_, rfl⟩
  have ro_109_19 := inv_F hI 0 160 rfl e_109_19
  obtain ⟨u_109_20, e_109_20⟩ : ∃ w, w = s.2.2.1 109 20 := ⟨_, rfl⟩
  have ro_109_20 := inv_F hI 0 32 rfl e_109_20
  have ct62 : ∀ (k62 : Nat) (sc62 : GS) (y62_2 : Int64) (y62_4 : Int32), Inv sc62 → Fr fm_365 s sc62 → (In x1 0 159) → (In y62_4 0 32) → ((y62_4).toInt ≤ (u_109_20).toInt) → (JZ s (x1).toNatClampNeg) → ((y62_2).toInt = 1000 * ((s.1 115 (bs s + (x1).toNatClampNeg)).toInt + 1000000) + (x1).toInt) → (WKI (gvZ s) (x1).toNatClampNeg (s.2.2.1 109 20).toInt.toNat (y62_4).toNatClampNeg ((sc62).1 160)) → (((sc62).2.2.1 109 0).toInt = 0) → 32 - (y62_4).toInt < (k62 : Int) → GG Z (d - 1) 365 post (gx xp) (1 + k62 * 147601) 62 (fun j => xlook j [(0, .ref (A 109)), (1, .int x1), (2, .long y62_2), (4, .int y62_4)]) [] (WW Z A sc62 ++ ex) 0 0 := by
    intro k62
    induction k62 with
    | zero => intro sc62 y62_2 y62_4 hIc62 hFc62 j62_1 j62_4 n62_0 g62_0 g62_1 g62_2 g62_3 mm62; exact m_no mm62 j62_4 rfl
    | succ k62 ih62 =>
      intro sc62 y62_2 y62_4 hIc62 hFc62 j62_1 j62_4 n62_0 g62_0 g62_1 g62_2 g62_3 mm62
      refine gg_w (M := 1 + k62 * 147601 + 147601) gws ?_
      have ct74 : ∀ (k74 : Nat) (sc74 : GS) (y74_5 : Int32), Inv sc74 → Fr fm_365 s sc74 → (In y62_4 0 31) → (In y74_5 0 160) → ((y62_4).toInt < (u_109_20).toInt) → (WKJ (gvZ s) (x1).toNatClampNeg (s.2.2.1 109 20).toInt.toNat (y62_4).toNatClampNeg (y74_5).toNatClampNeg ((sc74).1 160)) → (((sc74).2.2.1 109 0).toInt = 0) → 160 - (y74_5).toInt < (k74 : Int) → GG Z (d - 1) 365 post (gx xp) (1 + k62 * 147601 + 1 + k74 * 900) 74 (fun j => xlook j [(0, .ref (A 109)), (1, .int x1), (2, .long y62_2), (4, .int y62_4), (5, .int y74_5)]) [] (WW Z A sc74 ++ ex) 0 0 := by
        intro k74
        induction k74 with
        | zero => intro sc74 y74_5 hIc74 hFc74 j74_4 j74_5 n74_0 g74_0 g74_1 mm74; exact m_no mm74 j74_5 rfl
        | succ k74 ih74 =>
          intro sc74 y74_5 hIc74 hFc74 j74_4 j74_5 n74_0 g74_0 g74_1 mm74
          refine gg_w (M := 1 + k62 * 147601 + 1 + k74 * 900 + 900) gws ?_
          refine g_iload 76 (gd rfl) rfl rfl ?_
          refine g_sipush 160 79 (gd rfl) rfl rfl ?_
          refine g_cmp_ge 82 207 (gd rfl) rfl rfl (fun c79 => ?_) (fun c79 => ?_)
          · skip
            have i79 := r_le2 160 160 c79 (in_c 160 rfl) j74_5 rfl
            refine g_iinc 210 (gd rfl) rfl rfl (Nat.le_of_ble_eq_true rfl) (fun z207 e207 => ?_)
            have i207 := in_add 1 32 e207 j74_4 (in_c 1 rfl) rfl rfl
            refine g_goto 62 (gd rfl) rfl ?_
            have n62 : (z207).toInt ≤ (u_109_20).toInt := by exact (have a0 := in_u j74_4; have a1 := in_u j62_1; have a2 := in_u ro_109_20; have a3 := in_u ro_109_19; have a4 := in_u i79; have a5 := in_u i207; have a6 := t_add e207 j74_4 (in_c 1 rfl) rfl; have a7 := in_u ((in_c 1 rfl)); have oc := oc_365_109; by omega)
            have n62a : JZ s (x1).toNatClampNeg := by exact g62_0
            have n62b : (y62_2).toInt = 1000 * ((s.1 115 (bs s + (x1).toNatClampNeg)).toInt + 1000000) + (x1).toInt := by exact g62_1
            have n62c : WKI (gvZ s) (x1).toNatClampNeg (s.2.2.1 109 20).toInt.toNat (z207).toNatClampNeg ((sc74).1 160) := by have h9 := g74_0; rw [show (y74_5).toNatClampNeg = 160 from (by show (y74_5).toInt.toNat = 160; exact (have a0 := in_u j74_4; have a1 := in_u j62_1; have a2 := in_u ro_109_20; have a3 := in_u ro_109_19; have a4 := in_u i79; have a5 := in_u i207; have a6 := t_add e207 j74_4 (in_c 1 rfl) rfl; have a7 := in_u ((in_c 1 rfl)); have oc := oc_365_109; by omega))] at h9; rw [show (z207).toNatClampNeg = (y62_4).toNatClampNeg + 1 from (by show (z207).toInt.toNat = (y62_4).toInt.toNat + 1; exact (have a0 := in_u j74_4; have a1 := in_u j62_1; have a2 := in_u ro_109_20; have a3 := in_u ro_109_19; have a4 := in_u i79; have a5 := in_u i207; have a6 := t_add e207 j74_4 (in_c 1 rfl) rfl; have a7 := in_u ((in_c 1 rfl)); have oc := oc_365_109; by omega))]; exact wkj_e h9 (spk_n hI (n20 hI))
            have n62d : ((sc74).2.2.1 109 0).toInt = 0 := by exact g74_1
            exact gg_w (by first | exact Nat.le_add_right _ _ | exact gw2 | exact gw3 | exact gwe rfl | exact gwf rfl | exact gwg rfl | exact gwh rfl | omega) (gg_f (gf_cons rfl (gf_cons rfl (gf_cons rfl (gf_cons rfl gf_nil)))) (ih62 sc74 y62_2 z207 hIc74 hFc74 (in_w 0 159 j62_1 rfl) (in_w 0 32 i207 rfl) n62 n62a n62b n62c n62d (m_up mm62 (t_add e207 j74_4 (in_c 1 rfl) rfl) (in_w 1 1 (in_c 1 rfl) rfl))))
          · skip
            have i79 := r_lt1 0 159 c79 j74_5 (in_c 160 rfl) rfl
            refine g_aload_n 83 (gd rfl) rfl rfl ?_
            refine g_iload 85 (gd rfl) rfl rfl ?_
            refine g_callv (X := _) (As := [.int y74_5]) (r := []) (b := A 109) (q := 109) 88 (gd rfl) rfl rfl rfl rfl rfl (ww_o rfl) (Nat.le_of_ble_eq_true rfl) (mc := 0) (ms := 0) (Nat.zero_le _) (Nat.zero_le _) (P := fun v u => _) ?_ (fun e u h => h) (fun v u h => h)
            intro po85 xx85 hp85 hx85
            refine g_enter2 (k := 288) (N := 300) (by first | exact dq1 hd rfl | exact dq0 hd rfl | exact dq2 hd rfl | exact dq3 hd rfl | omega) rfl (Nat.le_of_ble_eq_true rfl) ?_
            refine g_aload_n 1 (gd rfl) rfl rfl ?_
            refine g_getA (q2 := 112) 4 (gd rfl) rfl rfl rfl rfl ?_
            refine g_aload_n 5 (gd rfl) rfl rfl ?_
            refine g_getI 8 (gd rfl) rfl rfl rfl (fun z85x5 e85x5 => ?_)
            have q85x5 : u_109_19 = z85x5 := (fr_F e_109_19 hFc74 rfl).trans e85x5.symm
            subst q85x5
            refine g_iload_n 9 (gd rfl) rfl rfl ?_
            refine g_iadd 10 (gd rfl) rfl (fun z85x9 e85x9 => ?_)
            have i85x9 := in_add 0 319 e85x9 ro_109_19 i79 rfl rfl
            refine g_baload 11 (gd rfl) rfl (n := 480) rfl (in_ix i85x9 rfl) (fun z85x10 e85x10 => ?_)
            have i85x10 := inv_I hIc74 (n := 480) (t := 3) 0 1 rfl (in_ix i85x9 rfl) rfl e85x10
            refine g_if_eq 14 43 (gd rfl) rfl rfl (fun c85x11 => ?_) (fun c85x11 => ?_)
            · skip
              have i85x11 := z_eq 0 0 c85x11 i85x10 rfl
              refine g_iconst 0 44 (gd rfl) rfl rfl ?_
              refine g_ireturn (gd rfl) rfl (nb01 (in_w 0 1 (in_c 0 rfl) rfl)) (hp85 _ _ ?_)
              show GG _ _ _ _ _ _ _ _ [.int (Int32.ofInt 0)] _ _ _
              refine g_if_eq 91 201 (gd rfl) rfl rfl (fun c88 => ?_) (fun c88 => ?_)
              · skip
                refine g_iinc 204 (gd rfl) rfl rfl (Nat.le_of_ble_eq_true rfl) (fun z201 e201 => ?_)
                have i201 := in_add 1 160 e201 i79 (in_c 1 rfl) rfl rfl
                refine g_goto 74 (gd rfl) rfl ?_
                have n74 : (y62_4).toInt < (u_109_20).toInt := by first | exact n74_0 | (exact (have a0 := in_u j74_4; have a1 := in_u j62_1; have a2 := in_u ro_109_20; have a3 := in_u ro_109_19; have a4 := in_u i79; have a5 := in_u i201; have a6 := t_add e201 i79 (in_c 1 rfl) rfl; have a7 := in_u ((in_c 1 rfl)); have a8 := in_u i85x9; have a9 := t_add e85x9 ro_109_19 i79 rfl; have oc := oc_365_109; by omega))
                have n74a : WKJ (gvZ s) (x1).toNatClampNeg (s.2.2.1 109 20).toInt.toNat (y62_4).toNatClampNeg (z201).toNatClampNeg ((sc74).1 160) := by rw [show (z201).toNatClampNeg = (y74_5).toNatClampNeg + 1 from (by show (z201).toInt.toNat = (y74_5).toInt.toNat + 1; exact (have a0 := in_u j74_4; have a1 := in_u j62_1; have a2 := in_u ro_109_20; have a3 := in_u ro_109_19; have a4 := in_u i79; have a5 := in_u i201; have a6 := t_add e201 i79 (in_c 1 rfl) rfl; have a7 := in_u ((in_c 1 rfl)); have a8 := in_u i85x9; have a9 := t_add e85x9 ro_109_19 i79 rfl; have oc := oc_365_109; by omega))]; have ix := (show z85x9.toNatClampNeg = bs s + (y74_5).toNatClampNeg from (by show z85x9.toInt.toNat = (s.2.2.1 109 19).toInt.toNat + (y74_5).toInt.toNat; rw [← e_109_19]; exact (have a0 := in_u j74_4; have a1 := in_u j62_1; have a2 := in_u ro_109_20; have a3 := in_u ro_109_19; have a4 := in_u i79; have a5 := in_u i201; have a6 := t_add e201 i79 (in_c 1 rfl) rfl; have a7 := in_u ((in_c 1 rfl)); have a8 := in_u i85x9; have a9 := t_add e85x9 ro_109_19 i79 rfl; have oc := oc_365_109; by omega))); exact wkj_n g74_0 (spa_n0 hI (show z85x10 = s.1 112 (bs s + (y74_5).toNatClampNeg) from e85x10.trans ((congrFun (hFc74.1 112 rfl) _).trans (congrArg (s.1 112) ix))) (by exact (have a0 := in_u j74_4; have a1 := in_u j62_1; have a2 := in_u ro_109_20; have a3 := in_u ro_109_19; have a4 := in_u i79; have a5 := in_u i201; have a6 := t_add e201 i79 (in_c 1 rfl) rfl; have a7 := in_u ((in_c 1 rfl)); have a8 := in_u i85x9; have a9 := t_add e85x9 ro_109_19 i79 rfl; have oc := oc_365_109; by omega)))
                have n74b : ((sc74).2.2.1 109 0).toInt = 0 := by exact g74_1
                exact gg_w (by first | exact Nat.le_add_right _ _ | exact gw2 | exact gw3 | exact gwe rfl | exact gwf rfl | exact gwg rfl | exact gwh rfl | omega) (gg_f (gf_cons rfl (gf_cons rfl (gf_cons rfl (gf_cons rfl (gf_cons rfl gf_nil))))) (ih74 sc74 z201 hIc74 hFc74 (in_w 0 31 j74_4 rfl) (in_w 0 160 i201 rfl) n74 n74a n74b (m_up mm74 (t_add e201 i79 (in_c 1 rfl) rfl) (in_w 1 1 (in_c 1 rfl) rfl))))
              · skip
                exact zn_ne c88 (in_c 0 rfl) rfl
            · skip
              have i85x11 := z_ne 1 1 c85x11 i85x10 rfl
              refine g_aload_n 15 (gd rfl) rfl rfl ?_
              refine g_getA (q2 := 113) 18 (gd rfl) rfl rfl rfl rfl ?_
              refine g_aload_n 19 (gd rfl) rfl rfl ?_
              refine g_getI 22 (gd rfl) rfl rfl rfl (fun z85x19 e85x19 => ?_)
              have q85x19 : u_109_19 = z85x19 := (fr_F e_109_19 hFc74 rfl).trans e85x19.symm
              subst q85x19
              refine g_iload_n 23 (gd rfl) rfl rfl ?_
              refine g_iadd 24 (gd rfl) rfl (fun z85x23 e85x23 => ?_)
              have i85x23 := in_add 0 319 e85x23 ro_109_19 i79 rfl rfl
              refine g_iaload 25 (gd rfl) rfl (n := 480) rfl (in_ix i85x23 rfl) (fun z85x24 e85x24 => ?_)
              have i85x24 := inv_I hIc74 (n := 480) (t := 0) 0 31 rfl (in_ix i85x23 rfl) rfl e85x24
              refine g_aload_n 26 (gd rfl) rfl rfl ?_
              refine g_getA (q2 := 114) 29 (gd rfl) rfl rfl rfl rfl ?_
              refine g_aload_n 30 (gd rfl) rfl rfl ?_
              refine g_getI 33 (gd rfl) rfl rfl rfl (fun z85x30 e85x30 => ?_)
              have q85x30 : u_109_19 = z85x30 := (fr_F e_109_19 hFc74 rfl).trans e85x30.symm
              subst q85x30
              refine g_iload_n 34 (gd rfl) rfl rfl ?_
              refine g_iadd 35 (gd rfl) rfl (fun z85x34 e85x34 => ?_)
              have i85x34 := in_add 0 319 e85x34 ro_109_19 i79 rfl rfl
              refine g_iaload 36 (gd rfl) rfl (n := 480) rfl (in_ix i85x34 rfl) (fun z85x35 e85x35 => ?_)
              have i85x35 := inv_I hIc74 (n := 480) (t := 0) 0 31 rfl (in_ix i85x34 rfl) rfl e85x35
              refine g_cmp_eq 39 43 (gd rfl) rfl rfl (fun c85x36 => ?_) (fun c85x36 => ?_)
              · skip
                refine g_iconst 0 44 (gd rfl) rfl rfl ?_
                refine g_ireturn (gd rfl) rfl (nb01 (in_w 0 1 (in_c 0 rfl) rfl)) (hp85 _ _ ?_)
                show GG _ _ _ _ _ _ _ _ [.int (Int32.ofInt 0)] _ _ _
                refine g_if_eq 91 201 (gd rfl) rfl rfl (fun c88 => ?_) (fun c88 => ?_)
                · skip
                  refine g_iinc 204 (gd rfl) rfl rfl (Nat.le_of_ble_eq_true rfl) (fun z201 e201 => ?_)
                  have i201 := in_add 1 160 e201 i79 (in_c 1 rfl) rfl rfl
                  refine g_goto 74 (gd rfl) rfl ?_
                  have n74 : (y62_4).toInt < (u_109_20).toInt := by first | exact n74_0 | (exact (have a0 := in_u j74_4; have a1 := in_u j62_1; have a2 := in_u ro_109_20; have a3 := in_u ro_109_19; have a4 := in_u i79; have a5 := in_u i201; have a6 := t_add e201 i79 (in_c 1 rfl) rfl; have a7 := in_u ((in_c 1 rfl)); have a8 := in_u i85x34; have a9 := t_add e85x34 ro_109_19 i79 rfl; have a10 := in_u i85x23; have a11 := t_add e85x23 ro_109_19 i79 rfl; have a12 := in_u i85x9; have a13 := t_add e85x9 ro_109_19 i79 rfl; have oc := oc_365_109; by omega))
                  have n74a : WKJ (gvZ s) (x1).toNatClampNeg (s.2.2.1 109 20).toInt.toNat (y62_4).toNatClampNeg (z201).toNatClampNeg ((sc74).1 160) := by rw [show (z201).toNatClampNeg = (y74_5).toNatClampNeg + 1 from (by show (z201).toInt.toNat = (y74_5).toInt.toNat + 1; exact (have a0 := in_u j74_4; have a1 := in_u j62_1; have a2 := in_u ro_109_20; have a3 := in_u ro_109_19; have a4 := in_u i79; have a5 := in_u i201; have a6 := t_add e201 i79 (in_c 1 rfl) rfl; have a7 := in_u ((in_c 1 rfl)); have a8 := in_u i85x34; have a9 := t_add e85x34 ro_109_19 i79 rfl; have a10 := in_u i85x23; have a11 := t_add e85x23 ro_109_19 i79 rfl; have a12 := in_u i85x9; have a13 := t_add e85x9 ro_109_19 i79 rfl; have oc := oc_365_109; by omega))]; have ix := (show z85x9.toNatClampNeg = bs s + (y74_5).toNatClampNeg from (by show z85x9.toInt.toNat = (s.2.2.1 109 19).toInt.toNat + (y74_5).toInt.toNat; rw [← e_109_19]; exact (have a0 := in_u j74_4; have a1 := in_u j62_1; have a2 := in_u ro_109_20; have a3 := in_u ro_109_19; have a4 := in_u i79; have a5 := in_u i201; have a6 := t_add e201 i79 (in_c 1 rfl) rfl; have a7 := in_u ((in_c 1 rfl)); have a8 := in_u i85x34; have a9 := t_add e85x34 ro_109_19 i79 rfl; have a10 := in_u i85x23; have a11 := t_add e85x23 ro_109_19 i79 rfl; have a12 := in_u i85x9; have a13 := t_add e85x9 ro_109_19 i79 rfl; have oc := oc_365_109; by omega))); have a9 := (show (y74_5).toNatClampNeg < 160 from (by show (y74_5).toInt.toNat < 160; exact (have a0 := in_u j74_4; have a1 := in_u j62_1; have a2 := in_u ro_109_20; have a3 := in_u ro_109_19; have a4 := in_u i79; have a5 := in_u i201; have a6 := t_add e201 i79 (in_c 1 rfl) rfl; have a7 := in_u ((in_c 1 rfl)); have a8 := in_u i85x34; have a9 := t_add e85x34 ro_109_19 i79 rfl; have a10 := in_u i85x23; have a11 := t_add e85x23 ro_109_19 i79 rfl; have a12 := in_u i85x9; have a13 := t_add e85x9 ro_109_19 i79 rfl; have oc := oc_365_109; by omega))); have r10 := (show z85x10 = s.1 112 (bs s + (y74_5).toNatClampNeg) from e85x10.trans ((congrFun (hFc74.1 112 rfl) _).trans (congrArg (s.1 112) ix))); have r24 := (show z85x24 = s.1 113 (bs s + (y74_5).toNatClampNeg) from e85x24.trans ((congrFun (hFc74.1 113 rfl) _).trans (congrArg (s.1 113) ((congrArg Int32.toNatClampNeg (e85x23.trans e85x9.symm)).trans ix)))); have r35 := (show z85x35 = s.1 114 (bs s + (y74_5).toNatClampNeg) from e85x35.trans ((congrFun (hFc74.1 114 rfl) _).trans (congrArg (s.1 114) ((congrArg Int32.toNatClampNeg (e85x34.trans e85x9.symm)).trans ix)))); exact wkj_n g74_0 (spa_n1 hI r10 (by exact (have a0 := in_u j74_4; have a1 := in_u j62_1; have a2 := in_u ro_109_20; have a3 := in_u ro_109_19; have a4 := in_u i79; have a5 := in_u i201; have a6 := t_add e201 i79 (in_c 1 rfl) rfl; have a7 := in_u ((in_c 1 rfl)); have a8 := in_u i85x34; have a9 := t_add e85x34 ro_109_19 i79 rfl; have a10 := in_u i85x23; have a11 := t_add e85x23 ro_109_19 i79 rfl; have a12 := in_u i85x9; have a13 := t_add e85x9 ro_109_19 i79 rfl; have oc := oc_365_109; by omega)) r24 r35 c85x36)
                  have n74b : ((sc74).2.2.1 109 0).toInt = 0 := by exact g74_1
                  exact gg_w (by first | exact Nat.le_add_right _ _ | exact gw2 | exact gw3 | exact gwe rfl | exact gwf rfl | exact gwg rfl | exact gwh rfl | omega) (gg_f (gf_cons rfl (gf_cons rfl (gf_cons rfl (gf_cons rfl (gf_cons rfl gf_nil))))) (ih74 sc74 z201 hIc74 hFc74 (in_w 0 31 j74_4 rfl) (in_w 0 160 i201 rfl) n74 n74a n74b (m_up mm74 (t_add e201 i79 (in_c 1 rfl) rfl) (in_w 1 1 (in_c 1 rfl) rfl))))
                · skip
                  exact zn_ne c88 (in_c 0 rfl) rfl
              · skip
                refine g_iconst 1 40 (gd rfl) rfl rfl ?_
                refine g_goto 44 (gd rfl) rfl ?_
                refine g_ireturn (gd rfl) rfl (nb01 (in_w 0 1 (in_c 1 rfl) rfl)) (hp85 _ _ ?_)
                show GG _ _ _ _ _ _ _ _ [.int (Int32.ofInt 1)] _ _ _
                refine g_if_eq 91 201 (gd rfl) rfl rfl (fun c88 => ?_) (fun c88 => ?_)
                · skip
                  exact zn_eq c88 (in_c 1 rfl) rfl
                · skip
                  refine g_aload_n 92 (gd rfl) rfl rfl ?_
                  refine g_aload_n 93 (gd rfl) rfl rfl ?_
                  refine g_getI 96 (gd rfl) rfl rfl rfl (fun z93 e93 => ?_)
                  have q93 : u_109_19 = z93 := (fr_F e_109_19 hFc74 rfl).trans e93.symm
                  subst q93
                  refine g_iload 98 (gd rfl) rfl rfl ?_
                  refine g_iadd 99 (gd rfl) rfl (fun z98 e98 => ?_)
                  have i98 := in_add 0 319 e98 ro_109_19 i79 rfl rfl
                  refine g_iload 101 (gd rfl) rfl rfl ?_
                  refine g_callv (X := _) (As := [.int z98, .int y74_5]) (r := []) (b := A 109) (q := 109) 104 (gd rfl) rfl rfl rfl rfl rfl (ww_o rfl) (Nat.le_of_ble_eq_true rfl) (mc := 0) (ms := 0) (Nat.zero_le _) (Nat.zero_le _) (P := fun v u => _) ?_ (fun e u h => h) (fun v u h => h)
                  intro po101 xx101 hp101 hx101
                  refine g_enter2 (k := 366) (N := 300) (by first | exact dq1 hd rfl | exact dq0 hd rfl | exact dq2 hd rfl | exact dq3 hd rfl | omega) rfl (Nat.le_of_ble_eq_true rfl) ?_
                  refine g_ldc2_w 1000 3 (gd rfl) rfl rfl ?_
                  refine g_aload_n 4 (gd rfl) rfl rfl ?_
                  refine g_getA (q2 := 115) 7 (gd rfl) rfl rfl rfl rfl ?_
                  refine g_iload_n 8 (gd rfl) rfl rfl ?_
                  refine g_iaload 9 (gd rfl) rfl (n := 480) rfl (in_ix i98 rfl) (fun z101x8 e101x8 => ?_)
                  have i101x8 := inv_I hIc74 (n := 480) (t := 0) (-1000000) 1000000 rfl (in_ix i98 rfl) rfl e101x8
                  refine g_i2l 10 (gd rfl) rfl (fun z101x9 e101x9 => ?_)
                  have i101x9 := l_i e101x9 i101x8
                  refine g_ldc2_w 1000000 13 (gd rfl) rfl rfl ?_
                  refine g_ladd 14 (gd rfl) rfl (fun z101x13 e101x13 => ?_)
                  have i101x13 := l_add 0 2000000 e101x13 i101x9 (l_c 1000000 rfl) rfl
                  refine g_lmul 15 (gd rfl) rfl (fun z101x14 e101x14 => ?_)
                  have i101x14 := l_mulc 1000 0 2000000000 (Or.inl e101x14) i101x13 rfl
                  refine g_iload_n 16 (gd rfl) rfl rfl ?_
                  refine g_i2l 17 (gd rfl) rfl (fun z101x16 e101x16 => ?_)
                  have i101x16 := l_i e101x16 i79
                  refine g_ladd 18 (gd rfl) rfl (fun z101x17 e101x17 => ?_)
                  have i101x17 := l_add 0 2000000159 e101x17 i101x14 i101x16 rfl
                  refine g_lreturn (gd rfl) rfl (hp101 _ _ ?_)
                  show GG _ _ _ _ _ _ _ _ [.long z101x17] _ _ _
                  refine g_lload_n 105 (gd rfl) rfl rfl ?_
                  refine g_lcmp 106 (gd rfl) rfl (fun z105 e105 => ?_)
                  have i105 := lc_in e105
                  refine g_if_ge 109 201 (gd rfl) rfl rfl (fun c106 => ?_) (fun c106 => ?_)
                  · skip
                    have i106 := z_ge 0 1 c106 i105 rfl
                    have c106a := lc_ge e105 c106
                    have i106a := lr_le1 (-9223372036854775808) 2000000159 c106a (l_rng y62_2) i101x17 rfl
                    refine g_iinc 204 (gd rfl) rfl rfl (Nat.le_of_ble_eq_true rfl) (fun z201 e201 => ?_)
                    have i201 := in_add 1 160 e201 i79 (in_c 1 rfl) rfl rfl
                    refine g_goto 74 (gd rfl) rfl ?_
                    have n74 : (y62_4).toInt < (u_109_20).toInt := by first | exact n74_0 | (exact (have a0 := in_u j74_4; have a1 := in_u j62_1; have a2 := in_u ro_109_20; have a3 := in_u ro_109_19; have a4 := in_u i79; have a5 := in_u i201; have a6 := t_add e201 i79 (in_c 1 rfl) rfl; have a7 := in_u ((in_c 1 rfl)); have a8 := tx_i2l e101x16; have a9 := tx_i2l e101x9; have a10 := in_u i101x8; have a11 := in_u i98; have a12 := t_add e98 ro_109_19 i79 rfl; have a13 := in_u i85x34; have a14 := t_add e85x34 ro_109_19 i79 rfl; have a15 := in_u i85x23; have a16 := t_add e85x23 ro_109_19 i79 rfl; have a17 := in_u i85x9; have a18 := t_add e85x9 ro_109_19 i79 rfl; have oc := oc_365_109; by omega))
                    have n74a : WKJ (gvZ s) (x1).toNatClampNeg (s.2.2.1 109 20).toInt.toNat (y62_4).toNatClampNeg (z201).toNatClampNeg ((sc74).1 160) := by rw [show (z201).toNatClampNeg = (y74_5).toNatClampNeg + 1 from (by show (z201).toInt.toNat = (y74_5).toInt.toNat + 1; exact (have a0 := in_u j74_4; have a1 := in_u j62_1; have a2 := in_u ro_109_20; have a3 := in_u ro_109_19; have a4 := in_u i79; have a5 := in_u i201; have a6 := t_add e201 i79 (in_c 1 rfl) rfl; have a7 := in_u ((in_c 1 rfl)); have a8 := tx_i2l e101x16; have a9 := tx_i2l e101x9; have a10 := in_u i101x8; have a11 := in_u i98; have a12 := t_add e98 ro_109_19 i79 rfl; have a13 := in_u i85x34; have a14 := t_add e85x34 ro_109_19 i79 rfl; have a15 := in_u i85x23; have a16 := t_add e85x23 ro_109_19 i79 rfl; have a17 := in_u i85x9; have a18 := t_add e85x9 ro_109_19 i79 rfl; have oc := oc_365_109; by omega))]; have ix := (show z85x9.toNatClampNeg = bs s + (y74_5).toNatClampNeg from (by show z85x9.toInt.toNat = (s.2.2.1 109 19).toInt.toNat + (y74_5).toInt.toNat; rw [← e_109_19]; exact (have a0 := in_u j74_4; have a1 := in_u j62_1; have a2 := in_u ro_109_20; have a3 := in_u ro_109_19; have a4 := in_u i79; have a5 := in_u i201; have a6 := t_add e201 i79 (in_c 1 rfl) rfl; have a7 := in_u ((in_c 1 rfl)); have a8 := tx_i2l e101x16; have a9 := tx_i2l e101x9; have a10 := in_u i101x8; have a11 := in_u i98; have a12 := t_add e98 ro_109_19 i79 rfl; have a13 := in_u i85x34; have a14 := t_add e85x34 ro_109_19 i79 rfl; have a15 := in_u i85x23; have a16 := t_add e85x23 ro_109_19 i79 rfl; have a17 := in_u i85x9; have a18 := t_add e85x9 ro_109_19 i79 rfl; have oc := oc_365_109; by omega))); have sb := (spb_r hI (k := y74_5) (p := x1) ⟨by exact (have a0 := in_u j74_4; have a1 := in_u j62_1; have a2 := in_u ro_109_20; have a3 := in_u ro_109_19; have a4 := in_u i79; have a5 := in_u i201; have a6 := t_add e201 i79 (in_c 1 rfl) rfl; have a7 := in_u ((in_c 1 rfl)); have a8 := tx_i2l e101x16; have a9 := tx_i2l e101x9; have a10 := in_u i101x8; have a11 := in_u i98; have a12 := t_add e98 ro_109_19 i79 rfl; have a13 := in_u i85x34; have a14 := t_add e85x34 ro_109_19 i79 rfl; have a15 := in_u i85x23; have a16 := t_add e85x23 ro_109_19 i79 rfl; have a17 := in_u i85x9; have a18 := t_add e85x9 ro_109_19 i79 rfl; have oc := oc_365_109; by omega), by exact (have a0 := in_u j74_4; have a1 := in_u j62_1; have a2 := in_u ro_109_20; have a3 := in_u ro_109_19; have a4 := in_u i79; have a5 := in_u i201; have a6 := t_add e201 i79 (in_c 1 rfl) rfl; have a7 := in_u ((in_c 1 rfl)); have a8 := tx_i2l e101x16; have a9 := tx_i2l e101x9; have a10 := in_u i101x8; have a11 := in_u i98; have a12 := t_add e98 ro_109_19 i79 rfl; have a13 := in_u i85x34; have a14 := t_add e85x34 ro_109_19 i79 rfl; have a15 := in_u i85x23; have a16 := t_add e85x23 ro_109_19 i79 rfl; have a17 := in_u i85x9; have a18 := t_add e85x9 ro_109_19 i79 rfl; have oc := oc_365_109; by omega)⟩ ⟨by exact (have a0 := in_u j74_4; have a1 := in_u j62_1; have a2 := in_u ro_109_20; have a3 := in_u ro_109_19; have a4 := in_u i79; have a5 := in_u i201; have a6 := t_add e201 i79 (in_c 1 rfl) rfl; have a7 := in_u ((in_c 1 rfl)); have a8 := tx_i2l e101x16; have a9 := tx_i2l e101x9; have a10 := in_u i101x8; have a11 := in_u i98; have a12 := t_add e98 ro_109_19 i79 rfl; have a13 := in_u i85x34; have a14 := t_add e85x34 ro_109_19 i79 rfl; have a15 := in_u i85x23; have a16 := t_add e85x23 ro_109_19 i79 rfl; have a17 := in_u i85x9; have a18 := t_add e85x9 ro_109_19 i79 rfl; have oc := oc_365_109; by omega), by exact (have a0 := in_u j74_4; have a1 := in_u j62_1; have a2 := in_u ro_109_20; have a3 := in_u ro_109_19; have a4 := in_u i79; have a5 := in_u i201; have a6 := t_add e201 i79 (in_c 1 rfl) rfl; have a7 := in_u ((in_c 1 rfl)); have a8 := tx_i2l e101x16; have a9 := tx_i2l e101x9; have a10 := in_u i101x8; have a11 := in_u i98; have a12 := t_add e98 ro_109_19 i79 rfl; have a13 := in_u i85x34; have a14 := t_add e85x34 ro_109_19 i79 rfl; have a15 := in_u i85x23; have a16 := t_add e85x23 ro_109_19 i79 rfl; have a17 := in_u i85x9; have a18 := t_add e85x9 ro_109_19 i79 rfl; have oc := oc_365_109; by omega)⟩ (show z101x8 = s.1 115 (bs s + (y74_5).toNatClampNeg) from e101x8.trans ((congrFun (hFc74.1 115 rfl) _).trans (congrArg (s.1 115) ((congrArg Int32.toNatClampNeg (e98.trans e85x9.symm)).trans ix)))) rfl (orv e101x9 e101x13 e101x14 e101x16 e101x17 i101x8 ⟨by exact (have a0 := in_u j74_4; have a1 := in_u j62_1; have a2 := in_u ro_109_20; have a3 := in_u ro_109_19; have a4 := in_u i79; have a5 := in_u i201; have a6 := t_add e201 i79 (in_c 1 rfl) rfl; have a7 := in_u ((in_c 1 rfl)); have a8 := tx_i2l e101x16; have a9 := tx_i2l e101x9; have a10 := in_u i101x8; have a11 := in_u i98; have a12 := t_add e98 ro_109_19 i79 rfl; have a13 := in_u i85x34; have a14 := t_add e85x34 ro_109_19 i79 rfl; have a15 := in_u i85x23; have a16 := t_add e85x23 ro_109_19 i79 rfl; have a17 := in_u i85x9; have a18 := t_add e85x9 ro_109_19 i79 rfl; have oc := oc_365_109; by omega), by exact (have a0 := in_u j74_4; have a1 := in_u j62_1; have a2 := in_u ro_109_20; have a3 := in_u ro_109_19; have a4 := in_u i79; have a5 := in_u i201; have a6 := t_add e201 i79 (in_c 1 rfl) rfl; have a7 := in_u ((in_c 1 rfl)); have a8 := tx_i2l e101x16; have a9 := tx_i2l e101x9; have a10 := in_u i101x8; have a11 := in_u i98; have a12 := t_add e98 ro_109_19 i79 rfl; have a13 := in_u i85x34; have a14 := t_add e85x34 ro_109_19 i79 rfl; have a15 := in_u i85x23; have a16 := t_add e85x23 ro_109_19 i79 rfl; have a17 := in_u i85x9; have a18 := t_add e85x9 ro_109_19 i79 rfl; have oc := oc_365_109; by omega)⟩) g62_1); exact wkj_n g74_0 (spa_b (fun h => absurd (sb.mp h) (by have h9 := c106a; omega)))
                    have n74b : ((sc74).2.2.1 109 0).toInt = 0 := by exact g74_1
                    exact gg_w (by first | exact Nat.le_add_right _ _ | exact gw2 | exact gw3 | exact gwe rfl | exact gwf rfl | exact gwg rfl | exact gwh rfl | omega) (gg_f (gf_cons rfl (gf_cons rfl (gf_cons rfl (gf_cons rfl (gf_cons rfl gf_nil))))) (ih74 sc74 z201 hIc74 hFc74 (in_w 0 31 j74_4 rfl) (in_w 0 160 i201 rfl) n74 n74a n74b (m_up mm74 (t_add e201 i79 (in_c 1 rfl) rfl) (in_w 1 1 (in_c 1 rfl) rfl))))
                  · skip
                    have i106 := z_lt (-1) (-1) c106 i105 rfl
                    have c106a := lc_lt e105 c106
                    have i106a := lr_lt2 1 9223372036854775807 c106a i101x17 (l_rng y62_2) rfl
                    refine g_aload_n 110 (gd rfl) rfl rfl ?_
                    refine g_getA (q2 := 160) 113 (gd rfl) rfl rfl rfl rfl ?_
                    refine g_aload_n 114 (gd rfl) rfl rfl ?_
                    refine g_getA (q2 := 113) 117 (gd rfl) rfl rfl rfl rfl ?_
                    refine g_aload_n 118 (gd rfl) rfl rfl ?_
                    refine g_getI 121 (gd rfl) rfl rfl rfl (fun z118 e118 => ?_)
                    have q118 : u_109_19 = z118 := (fr_F e_109_19 hFc74 rfl).trans e118.symm
                    subst q118
                    refine g_iload 123 (gd rfl) rfl rfl ?_
                    refine g_iadd 124 (gd rfl) rfl (fun z123 e123 => ?_)
                    have i123 := in_add 0 319 e123 ro_109_19 i79 rfl rfl
                    refine g_iaload 125 (gd rfl) rfl (n := 480) rfl (in_ix i123 rfl) (fun z124 e124 => ?_)
                    have i124 := inv_I hIc74 (n := 480) (t := 0) 0 31 rfl (in_ix i123 rfl) rfl e124
                    refine g_iaload 126 (gd rfl) rfl (n := 32) rfl (in_ix i124 rfl) (fun z125 e125 => ?_)
                    have i125 := inv_I hIc74 (n := 32) (t := 0) 0 31 rfl (in_ix i124 rfl) rfl e125
                    refine g_istore 128 (gd rfl) rfl (Nat.le_of_ble_eq_true rfl) ?_
                    refine g_aload_n 129 (gd rfl) rfl rfl ?_
                    refine g_getA (q2 := 160) 132 (gd rfl) rfl rfl rfl rfl ?_
                    refine g_aload_n 133 (gd rfl) rfl rfl ?_
                    refine g_getA (q2 := 114) 136 (gd rfl) rfl rfl rfl rfl ?_
                    refine g_aload_n 137 (gd rfl) rfl rfl ?_
                    refine g_getI 140 (gd rfl) rfl rfl rfl (fun z137 e137 => ?_)
                    have q137 : u_109_19 = z137 := (fr_F e_109_19 hFc74 rfl).trans e137.symm
                    subst q137
                    refine g_iload 142 (gd rfl) rfl rfl ?_
                    refine g_iadd 143 (gd rfl) rfl (fun z142 e142 => ?_)
                    have i142 := in_add 0 319 e142 ro_109_19 i79 rfl rfl
                    refine g_iaload 144 (gd rfl) rfl (n := 480) rfl (in_ix i142 rfl) (fun z143 e143 => ?_)
                    have i143 := inv_I hIc74 (n := 480) (t := 0) 0 31 rfl (in_ix i142 rfl) rfl e143
                    refine g_iaload 145 (gd rfl) rfl (n := 32) rfl (in_ix i143 rfl) (fun z144 e144 => ?_)
                    have i144 := inv_I hIc74 (n := 32) (t := 0) 0 31 rfl (in_ix i143 rfl) rfl e144
                    refine g_istore 147 (gd rfl) rfl (Nat.le_of_ble_eq_true rfl) ?_
                    refine g_iload 149 (gd rfl) rfl rfl ?_
                    refine g_iload 151 (gd rfl) rfl rfl ?_
                    refine g_cmp_ge 154 159 (gd rfl) rfl rfl (fun c151 => ?_) (fun c151 => ?_)
                    · skip
                      refine g_iload 161 (gd rfl) rfl rfl ?_
                      refine g_istore 163 (gd rfl) rfl (Nat.le_of_ble_eq_true rfl) ?_
                      refine g_aload_n 164 (gd rfl) rfl rfl ?_
                      refine g_getA (q2 := 160) 167 (gd rfl) rfl rfl rfl rfl ?_
                      refine g_aload_n 168 (gd rfl) rfl rfl ?_
                      refine g_getA (q2 := 113) 171 (gd rfl) rfl rfl rfl rfl ?_
                      refine g_aload_n 172 (gd rfl) rfl rfl ?_
                      refine g_getI 175 (gd rfl) rfl rfl rfl (fun z172 e172 => ?_)
                      have q172 : u_109_19 = z172 := (fr_F e_109_19 hFc74 rfl).trans e172.symm
                      subst q172
                      refine g_iload 177 (gd rfl) rfl rfl ?_
                      refine g_iadd 178 (gd rfl) rfl (fun z177 e177 => ?_)
                      have i177 := in_add 0 319 e177 ro_109_19 i79 rfl rfl
                      refine g_iaload 179 (gd rfl) rfl (n := 480) rfl (in_ix i177 rfl) (fun z178 e178 => ?_)
                      have i178 := inv_I hIc74 (n := 480) (t := 0) 0 31 rfl (in_ix i177 rfl) rfl e178
                      refine g_iload 181 (gd rfl) rfl rfl ?_
                      refine g_iastore 182 (gd rfl) rfl (n := 32) rfl (in_ix i178 rfl) ?_
                      have hI181 := inv_sI (q := 160) (j := z178.toNatClampNeg) hIc74 rfl (in_w 0 31 i144 rfl)
                      refine g_aload_n 183 (gd rfl) rfl rfl ?_
                      refine g_getA (q2 := 160) 186 (gd rfl) rfl rfl rfl rfl ?_
                      refine g_aload_n 187 (gd rfl) rfl rfl ?_
                      refine g_getA (q2 := 114) 190 (gd rfl) rfl rfl rfl rfl ?_
                      refine g_aload_n 191 (gd rfl) rfl rfl ?_
                      refine g_getI 194 (gd rfl) rfl rfl rfl (fun z191 e191 => ?_)
                      have q191 : u_109_19 = z191 := (sI_F (fr_F e_109_19 hFc74 rfl)).trans e191.symm
                      subst q191
                      refine g_iload 196 (gd rfl) rfl rfl ?_
                      refine g_iadd 197 (gd rfl) rfl (fun z196 e196 => ?_)
                      have i196 := in_add 0 319 e196 ro_109_19 i79 rfl rfl
                      refine g_iaload 198 (gd rfl) rfl (n := 480) rfl (in_ix i196 rfl) (fun z197 e197 => ?_)
                      have i197 := inv_I hI181 (n := 480) (t := 0) 0 31 rfl (in_ix i196 rfl) rfl e197
                      refine g_iload 200 (gd rfl) rfl rfl ?_
                      refine g_iastore 201 (gd rfl) rfl (n := 32) rfl (in_ix i197 rfl) ?_
                      have hI200 := inv_sI (q := 160) (j := z197.toNatClampNeg) hI181 rfl (in_w 0 31 i144 rfl)
                      refine g_iinc 204 (gd rfl) rfl rfl (Nat.le_of_ble_eq_true rfl) (fun z201 e201 => ?_)
                      have i201 := in_add 1 160 e201 i79 (in_c 1 rfl) rfl rfl
                      refine g_goto 74 (gd rfl) rfl ?_
                      have n74 : (y62_4).toInt < (u_109_20).toInt := by first | exact n74_0 | (exact (have a0 := in_u j74_4; have a1 := in_u j62_1; have a2 := in_u ro_109_20; have a3 := in_u ro_109_19; have a4 := in_u i79; have a5 := in_u i144; have a6 := in_u i125; have a7 := in_u i201; have a8 := t_add e201 i79 (in_c 1 rfl) rfl; have a9 := in_u ((in_c 1 rfl)); have a10 := in_u i196; have a11 := t_add e196 ro_109_19 i79 rfl; have a12 := in_u i177; have a13 := t_add e177 ro_109_19 i79 rfl; have a14 := in_u i142; have a15 := t_add e142 ro_109_19 i79 rfl; have a16 := in_u i123; have a17 := t_add e123 ro_109_19 i79 rfl; have a18 := tx_i2l e101x16; have a19 := tx_i2l e101x9; have a20 := in_u i101x8; have a21 := in_u i98; have a22 := t_add e98 ro_109_19 i79 rfl; have a23 := in_u i85x34; have a24 := t_add e85x34 ro_109_19 i79 rfl; have a25 := in_u i85x23; have a26 := t_add e85x23 ro_109_19 i79 rfl; have a27 := in_u i85x9; have a28 := t_add e85x9 ro_109_19 i79 rfl; have oc := oc_365_109; by omega))
                      have n74a : WKJ (gvZ s) (x1).toNatClampNeg (s.2.2.1 109 20).toInt.toNat (y62_4).toNatClampNeg (z201).toNatClampNeg (((sI (sI sc74 160 z178.toNatClampNeg z144) 160 z197.toNatClampNeg z144)).1 160) := by rw [show (z201).toNatClampNeg = (y74_5).toNatClampNeg + 1 from (by show (z201).toInt.toNat = (y74_5).toInt.toNat + 1; exact (have a0 := in_u j74_4; have a1 := in_u j62_1; have a2 := in_u ro_109_20; have a3 := in_u ro_109_19; have a4 := in_u i79; have a5 := in_u i144; have a6 := in_u i125; have a7 := in_u i201; have a8 := t_add e201 i79 (in_c 1 rfl) rfl; have a9 := in_u ((in_c 1 rfl)); have a10 := in_u i196; have a11 := t_add e196 ro_109_19 i79 rfl; have a12 := in_u i177; have a13 := t_add e177 ro_109_19 i79 rfl; have a14 := in_u i142; have a15 := t_add e142 ro_109_19 i79 rfl; have a16 := in_u i123; have a17 := t_add e123 ro_109_19 i79 rfl; have a18 := tx_i2l e101x16; have a19 := tx_i2l e101x9; have a20 := in_u i101x8; have a21 := in_u i98; have a22 := t_add e98 ro_109_19 i79 rfl; have a23 := in_u i85x34; have a24 := t_add e85x34 ro_109_19 i79 rfl; have a25 := in_u i85x23; have a26 := t_add e85x23 ro_109_19 i79 rfl; have a27 := in_u i85x9; have a28 := t_add e85x9 ro_109_19 i79 rfl; have oc := oc_365_109; by omega))]; have ix := (show z85x9.toNatClampNeg = bs s + (y74_5).toNatClampNeg from (by show z85x9.toInt.toNat = (s.2.2.1 109 19).toInt.toNat + (y74_5).toInt.toNat; rw [← e_109_19]; exact (have a0 := in_u j74_4; have a1 := in_u j62_1; have a2 := in_u ro_109_20; have a3 := in_u ro_109_19; have a4 := in_u i79; have a5 := in_u i144; have a6 := in_u i125; have a7 := in_u i201; have a8 := t_add e201 i79 (in_c 1 rfl) rfl; have a9 := in_u ((in_c 1 rfl)); have a10 := in_u i196; have a11 := t_add e196 ro_109_19 i79 rfl; have a12 := in_u i177; have a13 := t_add e177 ro_109_19 i79 rfl; have a14 := in_u i142; have a15 := t_add e142 ro_109_19 i79 rfl; have a16 := in_u i123; have a17 := t_add e123 ro_109_19 i79 rfl; have a18 := tx_i2l e101x16; have a19 := tx_i2l e101x9; have a20 := in_u i101x8; have a21 := in_u i98; have a22 := t_add e98 ro_109_19 i79 rfl; have a23 := in_u i85x34; have a24 := t_add e85x34 ro_109_19 i79 rfl; have a25 := in_u i85x23; have a26 := t_add e85x23 ro_109_19 i79 rfl; have a27 := in_u i85x9; have a28 := t_add e85x9 ro_109_19 i79 rfl; have oc := oc_365_109; by omega))); have a9 := (show (y74_5).toNatClampNeg < 160 from (by show (y74_5).toInt.toNat < 160; exact (have a0 := in_u j74_4; have a1 := in_u j62_1; have a2 := in_u ro_109_20; have a3 := in_u ro_109_19; have a4 := in_u i79; have a5 := in_u i144; have a6 := in_u i125; have a7 := in_u i201; have a8 := t_add e201 i79 (in_c 1 rfl) rfl; have a9 := in_u ((in_c 1 rfl)); have a10 := in_u i196; have a11 := t_add e196 ro_109_19 i79 rfl; have a12 := in_u i177; have a13 := t_add e177 ro_109_19 i79 rfl; have a14 := in_u i142; have a15 := t_add e142 ro_109_19 i79 rfl; have a16 := in_u i123; have a17 := t_add e123 ro_109_19 i79 rfl; have a18 := tx_i2l e101x16; have a19 := tx_i2l e101x9; have a20 := in_u i101x8; have a21 := in_u i98; have a22 := t_add e98 ro_109_19 i79 rfl; have a23 := in_u i85x34; have a24 := t_add e85x34 ro_109_19 i79 rfl; have a25 := in_u i85x23; have a26 := t_add e85x23 ro_109_19 i79 rfl; have a27 := in_u i85x9; have a28 := t_add e85x9 ro_109_19 i79 rfl; have oc := oc_365_109; by omega))); have r10 := (show z85x10 = s.1 112 (bs s + (y74_5).toNatClampNeg) from e85x10.trans ((congrFun (hFc74.1 112 rfl) _).trans (congrArg (s.1 112) ix))); have r24 := (show z85x24 = s.1 113 (bs s + (y74_5).toNatClampNeg) from e85x24.trans ((congrFun (hFc74.1 113 rfl) _).trans (congrArg (s.1 113) ((congrArg Int32.toNatClampNeg (e85x23.trans e85x9.symm)).trans ix)))); have r35 := (show z85x35 = s.1 114 (bs s + (y74_5).toNatClampNeg) from e85x35.trans ((congrFun (hFc74.1 114 rfl) _).trans (congrArg (s.1 114) ((congrArg Int32.toNatClampNeg (e85x34.trans e85x9.symm)).trans ix)))); have sb := (spb_r hI (k := y74_5) (p := x1) ⟨by exact (have a0 := in_u j74_4; have a1 := in_u j62_1; have a2 := in_u ro_109_20; have a3 := in_u ro_109_19; have a4 := in_u i79; have a5 := in_u i144; have a6 := in_u i125; have a7 := in_u i201; have a8 := t_add e201 i79 (in_c 1 rfl) rfl; have a9 := in_u ((in_c 1 rfl)); have a10 := in_u i196; have a11 := t_add e196 ro_109_19 i79 rfl; have a12 := in_u i177; have a13 := t_add e177 ro_109_19 i79 rfl; have a14 := in_u i142; have a15 := t_add e142 ro_109_19 i79 rfl; have a16 := in_u i123; have a17 := t_add e123 ro_109_19 i79 rfl; have a18 := tx_i2l e101x16; have a19 := tx_i2l e101x9; have a20 := in_u i101x8; have a21 := in_u i98; have a22 := t_add e98 ro_109_19 i79 rfl; have a23 := in_u i85x34; have a24 := t_add e85x34 ro_109_19 i79 rfl; have a25 := in_u i85x23; have a26 := t_add e85x23 ro_109_19 i79 rfl; have a27 := in_u i85x9; have a28 := t_add e85x9 ro_109_19 i79 rfl; have oc := oc_365_109; by omega), by exact (have a0 := in_u j74_4; have a1 := in_u j62_1; have a2 := in_u ro_109_20; have a3 := in_u ro_109_19; have a4 := in_u i79; have a5 := in_u i144; have a6 := in_u i125; have a7 := in_u i201; have a8 := t_add e201 i79 (in_c 1 rfl) rfl; have a9 := in_u ((in_c 1 rfl)); have a10 := in_u i196; have a11 := t_add e196 ro_109_19 i79 rfl; have a12 := in_u i177; have a13 := t_add e177 ro_109_19 i79 rfl; have a14 := in_u i142; have a15 := t_add e142 ro_109_19 i79 rfl; have a16 := in_u i123; have a17 := t_add e123 ro_109_19 i79 rfl; have a18 := tx_i2l e101x16; have a19 := tx_i2l e101x9; have a20 := in_u i101x8; have a21 := in_u i98; have a22 := t_add e98 ro_109_19 i79 rfl; have a23 := in_u i85x34; have a24 := t_add e85x34 ro_109_19 i79 rfl; have a25 := in_u i85x23; have a26 := t_add e85x23 ro_109_19 i79 rfl; have a27 := in_u i85x9; have a28 := t_add e85x9 ro_109_19 i79 rfl; have oc := oc_365_109; by omega)⟩ ⟨by exact (have a0 := in_u j74_4; have a1 := in_u j62_1; have a2 := in_u ro_109_20; have a3 := in_u ro_109_19; have a4 := in_u i79; have a5 := in_u i144; have a6 := in_u i125; have a7 := in_u i201; have a8 := t_add e201 i79 (in_c 1 rfl) rfl; have a9 := in_u ((in_c 1 rfl)); have a10 := in_u i196; have a11 := t_add e196 ro_109_19 i79 rfl; have a12 := in_u i177; have a13 := t_add e177 ro_109_19 i79 rfl; have a14 := in_u i142; have a15 := t_add e142 ro_109_19 i79 rfl; have a16 := in_u i123; have a17 := t_add e123 ro_109_19 i79 rfl; have a18 := tx_i2l e101x16; have a19 := tx_i2l e101x9; have a20 := in_u i101x8; have a21 := in_u i98; have a22 := t_add e98 ro_109_19 i79 rfl; have a23 := in_u i85x34; have a24 := t_add e85x34 ro_109_19 i79 rfl; have a25 := in_u i85x23; have a26 := t_add e85x23 ro_109_19 i79 rfl; have a27 := in_u i85x9; have a28 := t_add e85x9 ro_109_19 i79 rfl; have oc := oc_365_109; by omega), by exact (have a0 := in_u j74_4; have a1 := in_u j62_1; have a2 := in_u ro_109_20; have a3 := in_u ro_109_19; have a4 := in_u i79; have a5 := in_u i144; have a6 := in_u i125; have a7 := in_u i201; have a8 := t_add e201 i79 (in_c 1 rfl) rfl; have a9 := in_u ((in_c 1 rfl)); have a10 := in_u i196; have a11 := t_add e196 ro_109_19 i79 rfl; have a12 := in_u i177; have a13 := t_add e177 ro_109_19 i79 rfl; have a14 := in_u i142; have a15 := t_add e142 ro_109_19 i79 rfl; have a16 := in_u i123; have a17 := t_add e123 ro_109_19 i79 rfl; have a18 := tx_i2l e101x16; have a19 := tx_i2l e101x9; have a20 := in_u i101x8; have a21 := in_u i98; have a22 := t_add e98 ro_109_19 i79 rfl; have a23 := in_u i85x34; have a24 := t_add e85x34 ro_109_19 i79 rfl; have a25 := in_u i85x23; have a26 := t_add e85x23 ro_109_19 i79 rfl; have a27 := in_u i85x9; have a28 := t_add e85x9 ro_109_19 i79 rfl; have oc := oc_365_109; by omega)⟩ (show z101x8 = s.1 115 (bs s + (y74_5).toNatClampNeg) from e101x8.trans ((congrFun (hFc74.1 115 rfl) _).trans (congrArg (s.1 115) ((congrArg Int32.toNatClampNeg (e98.trans e85x9.symm)).trans ix)))) rfl (orv e101x9 e101x13 e101x14 e101x16 e101x17 i101x8 ⟨by exact (have a0 := in_u j74_4; have a1 := in_u j62_1; have a2 := in_u ro_109_20; have a3 := in_u ro_109_19; have a4 := in_u i79; have a5 := in_u i144; have a6 := in_u i125; have a7 := in_u i201; have a8 := t_add e201 i79 (in_c 1 rfl) rfl; have a9 := in_u ((in_c 1 rfl)); have a10 := in_u i196; have a11 := t_add e196 ro_109_19 i79 rfl; have a12 := in_u i177; have a13 := t_add e177 ro_109_19 i79 rfl; have a14 := in_u i142; have a15 := t_add e142 ro_109_19 i79 rfl; have a16 := in_u i123; have a17 := t_add e123 ro_109_19 i79 rfl; have a18 := tx_i2l e101x16; have a19 := tx_i2l e101x9; have a20 := in_u i101x8; have a21 := in_u i98; have a22 := t_add e98 ro_109_19 i79 rfl; have a23 := in_u i85x34; have a24 := t_add e85x34 ro_109_19 i79 rfl; have a25 := in_u i85x23; have a26 := t_add e85x23 ro_109_19 i79 rfl; have a27 := in_u i85x9; have a28 := t_add e85x9 ro_109_19 i79 rfl; have oc := oc_365_109; by omega), by exact (have a0 := in_u j74_4; have a1 := in_u j62_1; have a2 := in_u ro_109_20; have a3 := in_u ro_109_19; have a4 := in_u i79; have a5 := in_u i144; have a6 := in_u i125; have a7 := in_u i201; have a8 := t_add e201 i79 (in_c 1 rfl) rfl; have a9 := in_u ((in_c 1 rfl)); have a10 := in_u i196; have a11 := t_add e196 ro_109_19 i79 rfl; have a12 := in_u i177; have a13 := t_add e177 ro_109_19 i79 rfl; have a14 := in_u i142; have a15 := t_add e142 ro_109_19 i79 rfl; have a16 := in_u i123; have a17 := t_add e123 ro_109_19 i79 rfl; have a18 := tx_i2l e101x16; have a19 := tx_i2l e101x9; have a20 := in_u i101x8; have a21 := in_u i98; have a22 := t_add e98 ro_109_19 i79 rfl; have a23 := in_u i85x34; have a24 := t_add e85x34 ro_109_19 i79 rfl; have a25 := in_u i85x23; have a26 := t_add e85x23 ro_109_19 i79 rfl; have a27 := in_u i85x9; have a28 := t_add e85x9 ro_109_19 i79 rfl; have oc := oc_365_109; by omega)⟩) g62_1); have r124 := (show z124 = s.1 113 (bs s + (y74_5).toNatClampNeg) from e124.trans ((congrFun (hFc74.1 113 rfl) _).trans (congrArg (s.1 113) ((congrArg Int32.toNatClampNeg (e123.trans e85x9.symm)).trans ix)))); have r143 := (show z143 = s.1 114 (bs s + (y74_5).toNatClampNeg) from e143.trans ((congrFun (hFc74.1 114 rfl) _).trans (congrArg (s.1 114) ((congrArg Int32.toNatClampNeg (e142.trans e85x9.symm)).trans ix)))); have r178 := (show z178 = s.1 113 (bs s + (y74_5).toNatClampNeg) from e178.trans ((congrFun (hFc74.1 113 rfl) _).trans (congrArg (s.1 113) ((congrArg Int32.toNatClampNeg (e177.trans e85x9.symm)).trans ix)))); have r197 := (show z197 = s.1 114 (bs s + (y74_5).toNatClampNeg) from e197.trans ((congrFun (show (sI sc74 160 _ _).1 114 = sc74.1 114 from sI_p rfl) _).trans ((congrFun (hFc74.1 114 rfl) _).trans (congrArg (s.1 114) ((congrArg Int32.toNatClampNeg (e196.trans e85x9.symm)).trans ix))))); have th : (s.1 112 (bs s + (y74_5).toNatClampNeg)).toInt ≠ 0 := (by rw [← r10]; exact (have a0 := in_u j74_4; have a1 := in_u j62_1; have a2 := in_u ro_109_20; have a3 := in_u ro_109_19; have a4 := in_u i79; have a5 := in_u i144; have a6 := in_u i125; have a7 := in_u i201; have a8 := t_add e201 i79 (in_c 1 rfl) rfl; have a9 := in_u ((in_c 1 rfl)); have a10 := in_u i196; have a11 := t_add e196 ro_109_19 i79 rfl; have a12 := in_u i177; have a13 := t_add e177 ro_109_19 i79 rfl; have a14 := in_u i142; have a15 := t_add e142 ro_109_19 i79 rfl; have a16 := in_u i123; have a17 := t_add e123 ro_109_19 i79 rfl; have a18 := tx_i2l e101x16; have a19 := tx_i2l e101x9; have a20 := in_u i101x8; have a21 := in_u i98; have a22 := t_add e98 ro_109_19 i79 rfl; have a23 := in_u i85x34; have a24 := t_add e85x34 ro_109_19 i79 rfl; have a25 := in_u i85x23; have a26 := t_add e85x23 ro_109_19 i79 rfl; have a27 := in_u i85x9; have a28 := t_add e85x9 ro_109_19 i79 rfl; have oc := oc_365_109; by omega)); have e24 := r24.trans r178.symm; have e35 := r35.trans r197.symm; have eu : z125 = sc74.1 160 z178.toNatClampNeg := (by rw [← (r124.trans r178.symm)]; exact e125); have ev : z144 = sc74.1 160 z197.toNatClampNeg := (by rw [← (r143.trans r197.symm)]; exact e144); have sa := spa_r hI a9 th r178 r197 (by rw [← e24, ← e35]; exact c85x36) (sb.mpr c106a); rw [sI_q, sI_q]; first | exact wkj_v g74_0 sa (arn1 hI a9 th r178) (arn2 hI a9 th r197) eu ev (Or.inr rfl) (by exact (have a0 := in_u j74_4; have a1 := in_u j62_1; have a2 := in_u ro_109_20; have a3 := in_u ro_109_19; have a4 := in_u i79; have a5 := in_u i144; have a6 := in_u i125; have a7 := in_u i201; have a8 := t_add e201 i79 (in_c 1 rfl) rfl; have a9 := in_u ((in_c 1 rfl)); have a10 := in_u i196; have a11 := t_add e196 ro_109_19 i79 rfl; have a12 := in_u i177; have a13 := t_add e177 ro_109_19 i79 rfl; have a14 := in_u i142; have a15 := t_add e142 ro_109_19 i79 rfl; have a16 := in_u i123; have a17 := t_add e123 ro_109_19 i79 rfl; have a18 := tx_i2l e101x16; have a19 := tx_i2l e101x9; have a20 := in_u i101x8; have a21 := in_u i98; have a22 := t_add e98 ro_109_19 i79 rfl; have a23 := in_u i85x34; have a24 := t_add e85x34 ro_109_19 i79 rfl; have a25 := in_u i85x23; have a26 := t_add e85x23 ro_109_19 i79 rfl; have a27 := in_u i85x9; have a28 := t_add e85x9 ro_109_19 i79 rfl; have oc := oc_365_109; by omega)) (Int.le_refl _) | exact wkj_v g74_0 sa (arn1 hI a9 th r178) (arn2 hI a9 th r197) eu ev (Or.inl rfl) (Int.le_refl _) (by exact (have a0 := in_u j74_4; have a1 := in_u j62_1; have a2 := in_u ro_109_20; have a3 := in_u ro_109_19; have a4 := in_u i79; have a5 := in_u i144; have a6 := in_u i125; have a7 := in_u i201; have a8 := t_add e201 i79 (in_c 1 rfl) rfl; have a9 := in_u ((in_c 1 rfl)); have a10 := in_u i196; have a11 := t_add e196 ro_109_19 i79 rfl; have a12 := in_u i177; have a13 := t_add e177 ro_109_19 i79 rfl; have a14 := in_u i142; have a15 := t_add e142 ro_109_19 i79 rfl; have a16 := in_u i123; have a17 := t_add e123 ro_109_19 i79 rfl; have a18 := tx_i2l e101x16; have a19 := tx_i2l e101x9; have a20 := in_u i101x8; have a21 := in_u i98; have a22 := t_add e98 ro_109_19 i79 rfl; have a23 := in_u i85x34; have a24 := t_add e85x34 ro_109_19 i79 rfl; have a25 := in_u i85x23; have a26 := t_add e85x23 ro_109_19 i79 rfl; have a27 := in_u i85x9; have a28 := t_add e85x9 ro_109_19 i79 rfl; have oc := oc_365_109; by omega))
                      have n74b : (((sI (sI sc74 160 z178.toNatClampNeg z144) 160 z197.toNatClampNeg z144)).2.2.1 109 0).toInt = 0 := by exact g74_1
                      exact gg_w (by first | exact Nat.le_add_right _ _ | exact gw2 | exact gw3 | exact gwe rfl | exact gwf rfl | exact gwg rfl | exact gwh rfl | omega) (gg_f (gf_cons rfl (gf_cons rfl (gf_cons rfl (gf_cons rfl (gf_cons rfl gf_nil))))) (ih74 (sI (sI sc74 160 z178.toNatClampNeg z144) 160 z197.toNatClampNeg z144) z201 hI200 (fr_sI rfl (fr_sI rfl hFc74)) (in_w 0 31 j74_4 rfl) (in_w 0 160 i201 rfl) n74 n74a n74b (m_up mm74 (t_add e201 i79 (in_c 1 rfl) rfl) (in_w 1 1 (in_c 1 rfl) rfl))))
                    · skip
                      have i151 := r_lt1 0 30 c151 i125 i144 rfl
                      have i151a := r_lt2 1 31 c151 i125 i144 rfl
                      refine g_iload 156 (gd rfl) rfl rfl ?_
                      refine g_goto 161 (gd rfl) rfl ?_
                      refine g_istore 163 (gd rfl) rfl (Nat.le_of_ble_eq_true rfl) ?_
                      refine g_aload_n 164 (gd rfl) rfl rfl ?_
                      refine g_getA (q2 := 160) 167 (gd rfl) rfl rfl rfl rfl ?_
                      refine g_aload_n 168 (gd rfl) rfl rfl ?_
                      refine g_getA (q2 := 113) 171 (gd rfl) rfl rfl rfl rfl ?_
                      refine g_aload_n 172 (gd rfl) rfl rfl ?_
                      refine g_getI 175 (gd rfl) rfl rfl rfl (fun z172 e172 => ?_)
                      have q172 : u_109_19 = z172 := (fr_F e_109_19 hFc74 rfl).trans e172.symm
                      subst q172
                      refine g_iload 177 (gd rfl) rfl rfl ?_
                      refine g_iadd 178 (gd rfl) rfl (fun z177 e177 => ?_)
                      have i177 := in_add 0 319 e177 ro_109_19 i79 rfl rfl
                      refine g_iaload 179 (gd rfl) rfl (n := 480) rfl (in_ix i177 rfl) (fun z178 e178 => ?_)
                      have i178 := inv_I hIc74 (n := 480) (t := 0) 0 31 rfl (in_ix i177 rfl) rfl e178
                      refine g_iload 181 (gd rfl) rfl rfl ?_
                      refine g_iastore 182 (gd rfl) rfl (n := 32) rfl (in_ix i178 rfl) ?_
                      have hI181 := inv_sI (q := 160) (j := z178.toNatClampNeg) hIc74 rfl (in_w 0 31 i151 rfl)
                      refine g_aload_n 183 (gd rfl) rfl rfl ?_
                      refine g_getA (q2 := 160) 186 (gd rfl) rfl rfl rfl rfl ?_
                      refine g_aload_n 187 (gd rfl) rfl rfl ?_
                      refine g_getA (q2 := 114) 190 (gd rfl) rfl rfl rfl rfl ?_
                      refine g_aload_n 191 (gd rfl) rfl rfl ?_
                      refine g_getI 194 (gd rfl) rfl rfl rfl (fun z191 e191 => ?_)
                      have q191 : u_109_19 = z191 := (sI_F (fr_F e_109_19 hFc74 rfl)).trans e191.symm
                      subst q191
                      refine g_iload 196 (gd rfl) rfl rfl ?_
                      refine g_iadd 197 (gd rfl) rfl (fun z196 e196 => ?_)
                      have i196 := in_add 0 319 e196 ro_109_19 i79 rfl rfl
                      refine g_iaload 198 (gd rfl) rfl (n := 480) rfl (in_ix i196 rfl) (fun z197 e197 => ?_)
                      have i197 := inv_I hI181 (n := 480) (t := 0) 0 31 rfl (in_ix i196 rfl) rfl e197
                      refine g_iload 200 (gd rfl) rfl rfl ?_
                      refine g_iastore 201 (gd rfl) rfl (n := 32) rfl (in_ix i197 rfl) ?_
                      have hI200 := inv_sI (q := 160) (j := z197.toNatClampNeg) hI181 rfl (in_w 0 31 i151 rfl)
                      refine g_iinc 204 (gd rfl) rfl rfl (Nat.le_of_ble_eq_true rfl) (fun z201 e201 => ?_)
                      have i201 := in_add 1 160 e201 i79 (in_c 1 rfl) rfl rfl
                      refine g_goto 74 (gd rfl) rfl ?_
                      have n74 : (y62_4).toInt < (u_109_20).toInt := by first | exact n74_0 | (exact (have a0 := in_u j74_4; have a1 := in_u j62_1; have a2 := in_u ro_109_20; have a3 := in_u ro_109_19; have a4 := in_u i79; have a5 := in_u i151; have a6 := in_u i151a; have a7 := in_u i201; have a8 := t_add e201 i79 (in_c 1 rfl) rfl; have a9 := in_u ((in_c 1 rfl)); have a10 := in_u i196; have a11 := t_add e196 ro_109_19 i79 rfl; have a12 := in_u i177; have a13 := t_add e177 ro_109_19 i79 rfl; have a14 := in_u i142; have a15 := t_add e142 ro_109_19 i79 rfl; have a16 := in_u i123; have a17 := t_add e123 ro_109_19 i79 rfl; have a18 := tx_i2l e101x16; have a19 := tx_i2l e101x9; have a20 := in_u i101x8; have a21 := in_u i98; have a22 := t_add e98 ro_109_19 i79 rfl; have a23 := in_u i85x34; have a24 := t_add e85x34 ro_109_19 i79 rfl; have a25 := in_u i85x23; have a26 := t_add e85x23 ro_109_19 i79 rfl; have a27 := in_u i85x9; have a28 := t_add e85x9 ro_109_19 i79 rfl; have oc := oc_365_109; by omega))
                      have n74a : WKJ (gvZ s) (x1).toNatClampNeg (s.2.2.1 109 20).toInt.toNat (y62_4).toNatClampNeg (z201).toNatClampNeg (((sI (sI sc74 160 z178.toNatClampNeg z125) 160 z197.toNatClampNeg z125)).1 160) := by rw [show (z201).toNatClampNeg = (y74_5).toNatClampNeg + 1 from (by show (z201).toInt.toNat = (y74_5).toInt.toNat + 1; exact (have a0 := in_u j74_4; have a1 := in_u j62_1; have a2 := in_u ro_109_20; have a3 := in_u ro_109_19; have a4 := in_u i79; have a5 := in_u i151; have a6 := in_u i151a; have a7 := in_u i201; have a8 := t_add e201 i79 (in_c 1 rfl) rfl; have a9 := in_u ((in_c 1 rfl)); have a10 := in_u i196; have a11 := t_add e196 ro_109_19 i79 rfl; have a12 := in_u i177; have a13 := t_add e177 ro_109_19 i79 rfl; have a14 := in_u i142; have a15 := t_add e142 ro_109_19 i79 rfl; have a16 := in_u i123; have a17 := t_add e123 ro_109_19 i79 rfl; have a18 := tx_i2l e101x16; have a19 := tx_i2l e101x9; have a20 := in_u i101x8; have a21 := in_u i98; have a22 := t_add e98 ro_109_19 i79 rfl; have a23 := in_u i85x34; have a24 := t_add e85x34 ro_109_19 i79 rfl; have a25 := in_u i85x23; have a26 := t_add e85x23 ro_109_19 i79 rfl; have a27 := in_u i85x9; have a28 := t_add e85x9 ro_109_19 i79 rfl; have oc := oc_365_109; by omega))]; have ix := (show z85x9.toNatClampNeg = bs s + (y74_5).toNatClampNeg from (by show z85x9.toInt.toNat = (s.2.2.1 109 19).toInt.toNat + (y74_5).toInt.toNat; rw [← e_109_19]; exact (have a0 := in_u j74_4; have a1 := in_u j62_1; have a2 := in_u ro_109_20; have a3 := in_u ro_109_19; have a4 := in_u i79; have a5 := in_u i151; have a6 := in_u i151a; have a7 := in_u i201; have a8 := t_add e201 i79 (in_c 1 rfl) rfl; have a9 := in_u ((in_c 1 rfl)); have a10 := in_u i196; have a11 := t_add e196 ro_109_19 i79 rfl; have a12 := in_u i177; have a13 := t_add e177 ro_109_19 i79 rfl; have a14 := in_u i142; have a15 := t_add e142 ro_109_19 i79 rfl; have a16 := in_u i123; have a17 := t_add e123 ro_109_19 i79 rfl; have a18 := tx_i2l e101x16; have a19 := tx_i2l e101x9; have a20 := in_u i101x8; have a21 := in_u i98; have a22 := t_add e98 ro_109_19 i79 rfl; have a23 := in_u i85x34; have a24 := t_add e85x34 ro_109_19 i79 rfl; have a25 := in_u i85x23; have a26 := t_add e85x23 ro_109_19 i79 rfl; have a27 := in_u i85x9; have a28 := t_add e85x9 ro_109_19 i79 rfl; have oc := oc_365_109; by omega))); have a9 := (show (y74_5).toNatClampNeg < 160 from (by show (y74_5).toInt.toNat < 160; exact (have a0 := in_u j74_4; have a1 := in_u j62_1; have a2 := in_u ro_109_20; have a3 := in_u ro_109_19; have a4 := in_u i79; have a5 := in_u i151; have a6 := in_u i151a; have a7 := in_u i201; have a8 := t_add e201 i79 (in_c 1 rfl) rfl; have a9 := in_u ((in_c 1 rfl)); have a10 := in_u i196; have a11 := t_add e196 ro_109_19 i79 rfl; have a12 := in_u i177; have a13 := t_add e177 ro_109_19 i79 rfl; have a14 := in_u i142; have a15 := t_add e142 ro_109_19 i79 rfl; have a16 := in_u i123; have a17 := t_add e123 ro_109_19 i79 rfl; have a18 := tx_i2l e101x16; have a19 := tx_i2l e101x9; have a20 := in_u i101x8; have a21 := in_u i98; have a22 := t_add e98 ro_109_19 i79 rfl; have a23 := in_u i85x34; have a24 := t_add e85x34 ro_109_19 i79 rfl; have a25 := in_u i85x23; have a26 := t_add e85x23 ro_109_19 i79 rfl; have a27 := in_u i85x9; have a28 := t_add e85x9 ro_109_19 i79 rfl; have oc := oc_365_109; by omega))); have r10 := (show z85x10 = s.1 112 (bs s + (y74_5).toNatClampNeg) from e85x10.trans ((congrFun (hFc74.1 112 rfl) _).trans (congrArg (s.1 112) ix))); have r24 := (show z85x24 = s.1 113 (bs s + (y74_5).toNatClampNeg) from e85x24.trans ((congrFun (hFc74.1 113 rfl) _).trans (congrArg (s.1 113) ((congrArg Int32.toNatClampNeg (e85x23.trans e85x9.symm)).trans ix)))); have r35 := (show z85x35 = s.1 114 (bs s + (y74_5).toNatClampNeg) from e85x35.trans ((congrFun (hFc74.1 114 rfl) _).trans (congrArg (s.1 114) ((congrArg Int32.toNatClampNeg (e85x34.trans e85x9.symm)).trans ix)))); have sb := (spb_r hI (k := y74_5) (p := x1) ⟨by exact (have a0 := in_u j74_4; have a1 := in_u j62_1; have a2 := in_u ro_109_20; have a3 := in_u ro_109_19; have a4 := in_u i79; have a5 := in_u i151; have a6 := in_u i151a; have a7 := in_u i201; have a8 := t_add e201 i79 (in_c 1 rfl) rfl; have a9 := in_u ((in_c 1 rfl)); have a10 := in_u i196; have a11 := t_add e196 ro_109_19 i79 rfl; have a12 := in_u i177; have a13 := t_add e177 ro_109_19 i79 rfl; have a14 := in_u i142; have a15 := t_add e142 ro_109_19 i79 rfl; have a16 := in_u i123; have a17 := t_add e123 ro_109_19 i79 rfl; have a18 := tx_i2l e101x16; have a19 := tx_i2l e101x9; have a20 := in_u i101x8; have a21 := in_u i98; have a22 := t_add e98 ro_109_19 i79 rfl; have a23 := in_u i85x34; have a24 := t_add e85x34 ro_109_19 i79 rfl; have a25 := in_u i85x23; have a26 := t_add e85x23 ro_109_19 i79 rfl; have a27 := in_u i85x9; have a28 := t_add e85x9 ro_109_19 i79 rfl; have oc := oc_365_109; by omega), by exact (have a0 := in_u j74_4; have a1 := in_u j62_1; have a2 := in_u ro_109_20; have a3 := in_u ro_109_19; have a4 := in_u i79; have a5 := in_u i151; have a6 := in_u i151a; have a7 := in_u i201; have a8 := t_add e201 i79 (in_c 1 rfl) rfl; have a9 := in_u ((in_c 1 rfl)); have a10 := in_u i196; have a11 := t_add e196 ro_109_19 i79 rfl; have a12 := in_u i177; have a13 := t_add e177 ro_109_19 i79 rfl; have a14 := in_u i142; have a15 := t_add e142 ro_109_19 i79 rfl; have a16 := in_u i123; have a17 := t_add e123 ro_109_19 i79 rfl; have a18 := tx_i2l e101x16; have a19 := tx_i2l e101x9; have a20 := in_u i101x8; have a21 := in_u i98; have a22 := t_add e98 ro_109_19 i79 rfl; have a23 := in_u i85x34; have a24 := t_add e85x34 ro_109_19 i79 rfl; have a25 := in_u i85x23; have a26 := t_add e85x23 ro_109_19 i79 rfl; have a27 := in_u i85x9; have a28 := t_add e85x9 ro_109_19 i79 rfl; have oc := oc_365_109; by omega)⟩ ⟨by exact (have a0 := in_u j74_4; have a1 := in_u j62_1; have a2 := in_u ro_109_20; have a3 := in_u ro_109_19; have a4 := in_u i79; have a5 := in_u i151; have a6 := in_u i151a; have a7 := in_u i201; have a8 := t_add e201 i79 (in_c 1 rfl) rfl; have a9 := in_u ((in_c 1 rfl)); have a10 := in_u i196; have a11 := t_add e196 ro_109_19 i79 rfl; have a12 := in_u i177; have a13 := t_add e177 ro_109_19 i79 rfl; have a14 := in_u i142; have a15 := t_add e142 ro_109_19 i79 rfl; have a16 := in_u i123; have a17 := t_add e123 ro_109_19 i79 rfl; have a18 := tx_i2l e101x16; have a19 := tx_i2l e101x9; have a20 := in_u i101x8; have a21 := in_u i98; have a22 := t_add e98 ro_109_19 i79 rfl; have a23 := in_u i85x34; have a24 := t_add e85x34 ro_109_19 i79 rfl; have a25 := in_u i85x23; have a26 := t_add e85x23 ro_109_19 i79 rfl; have a27 := in_u i85x9; have a28 := t_add e85x9 ro_109_19 i79 rfl; have oc := oc_365_109; by omega), by exact (have a0 := in_u j74_4; have a1 := in_u j62_1; have a2 := in_u ro_109_20; have a3 := in_u ro_109_19; have a4 := in_u i79; have a5 := in_u i151; have a6 := in_u i151a; have a7 := in_u i201; have a8 := t_add e201 i79 (in_c 1 rfl) rfl; have a9 := in_u ((in_c 1 rfl)); have a10 := in_u i196; have a11 := t_add e196 ro_109_19 i79 rfl; have a12 := in_u i177; have a13 := t_add e177 ro_109_19 i79 rfl; have a14 := in_u i142; have a15 := t_add e142 ro_109_19 i79 rfl; have a16 := in_u i123; have a17 := t_add e123 ro_109_19 i79 rfl; have a18 := tx_i2l e101x16; have a19 := tx_i2l e101x9; have a20 := in_u i101x8; have a21 := in_u i98; have a22 := t_add e98 ro_109_19 i79 rfl; have a23 := in_u i85x34; have a24 := t_add e85x34 ro_109_19 i79 rfl; have a25 := in_u i85x23; have a26 := t_add e85x23 ro_109_19 i79 rfl; have a27 := in_u i85x9; have a28 := t_add e85x9 ro_109_19 i79 rfl; have oc := oc_365_109; by omega)⟩ (show z101x8 = s.1 115 (bs s + (y74_5).toNatClampNeg) from e101x8.trans ((congrFun (hFc74.1 115 rfl) _).trans (congrArg (s.1 115) ((congrArg Int32.toNatClampNeg (e98.trans e85x9.symm)).trans ix)))) rfl (orv e101x9 e101x13 e101x14 e101x16 e101x17 i101x8 ⟨by exact (have a0 := in_u j74_4; have a1 := in_u j62_1; have a2 := in_u ro_109_20; have a3 := in_u ro_109_19; have a4 := in_u i79; have a5 := in_u i151; have a6 := in_u i151a; have a7 := in_u i201; have a8 := t_add e201 i79 (in_c 1 rfl) rfl; have a9 := in_u ((in_c 1 rfl)); have a10 := in_u i196; have a11 := t_add e196 ro_109_19 i79 rfl; have a12 := in_u i177; have a13 := t_add e177 ro_109_19 i79 rfl; have a14 := in_u i142; have a15 := t_add e142 ro_109_19 i79 rfl; have a16 := in_u i123; have a17 := t_add e123 ro_109_19 i79 rfl; have a18 := tx_i2l e101x16; have a19 := tx_i2l e101x9; have a20 := in_u i101x8; have a21 := in_u i98; have a22 := t_add e98 ro_109_19 i79 rfl; have a23 := in_u i85x34; have a24 := t_add e85x34 ro_109_19 i79 rfl; have a25 := in_u i85x23; have a26 := t_add e85x23 ro_109_19 i79 rfl; have a27 := in_u i85x9; have a28 := t_add e85x9 ro_109_19 i79 rfl; have oc := oc_365_109; by omega), by exact (have a0 := in_u j74_4; have a1 := in_u j62_1; have a2 := in_u ro_109_20; have a3 := in_u ro_109_19; have a4 := in_u i79; have a5 := in_u i151; have a6 := in_u i151a; have a7 := in_u i201; have a8 := t_add e201 i79 (in_c 1 rfl) rfl; have a9 := in_u ((in_c 1 rfl)); have a10 := in_u i196; have a11 := t_add e196 ro_109_19 i79 rfl; have a12 := in_u i177; have a13 := t_add e177 ro_109_19 i79 rfl; have a14 := in_u i142; have a15 := t_add e142 ro_109_19 i79 rfl; have a16 := in_u i123; have a17 := t_add e123 ro_109_19 i79 rfl; have a18 := tx_i2l e101x16; have a19 := tx_i2l e101x9; have a20 := in_u i101x8; have a21 := in_u i98; have a22 := t_add e98 ro_109_19 i79 rfl; have a23 := in_u i85x34; have a24 := t_add e85x34 ro_109_19 i79 rfl; have a25 := in_u i85x23; have a26 := t_add e85x23 ro_109_19 i79 rfl; have a27 := in_u i85x9; have a28 := t_add e85x9 ro_109_19 i79 rfl; have oc := oc_365_109; by omega)⟩) g62_1); have r124 := (show z124 = s.1 113 (bs s + (y74_5).toNatClampNeg) from e124.trans ((congrFun (hFc74.1 113 rfl) _).trans (congrArg (s.1 113) ((congrArg Int32.toNatClampNeg (e123.trans e85x9.symm)).trans ix)))); have r143 := (show z143 = s.1 114 (bs s + (y74_5).toNatClampNeg) from e143.trans ((congrFun (hFc74.1 114 rfl) _).trans (congrArg (s.1 114) ((congrArg Int32.toNatClampNeg (e142.trans e85x9.symm)).trans ix)))); have r178 := (show z178 = s.1 113 (bs s + (y74_5).toNatClampNeg) from e178.trans ((congrFun (hFc74.1 113 rfl) _).trans (congrArg (s.1 113) ((congrArg Int32.toNatClampNeg (e177.trans e85x9.symm)).trans ix)))); have r197 := (show z197 = s.1 114 (bs s + (y74_5).toNatClampNeg) from e197.trans ((congrFun (show (sI sc74 160 _ _).1 114 = sc74.1 114 from sI_p rfl) _).trans ((congrFun (hFc74.1 114 rfl) _).trans (congrArg (s.1 114) ((congrArg Int32.toNatClampNeg (e196.trans e85x9.symm)).trans ix))))); have th : (s.1 112 (bs s + (y74_5).toNatClampNeg)).toInt ≠ 0 := (by rw [← r10]; exact (have a0 := in_u j74_4; have a1 := in_u j62_1; have a2 := in_u ro_109_20; have a3 := in_u ro_109_19; have a4 := in_u i79; have a5 := in_u i151; have a6 := in_u i151a; have a7 := in_u i201; have a8 := t_add e201 i79 (in_c 1 rfl) rfl; have a9 := in_u ((in_c 1 rfl)); have a10 := in_u i196; have a11 := t_add e196 ro_109_19 i79 rfl; have a12 := in_u i177; have a13 := t_add e177 ro_109_19 i79 rfl; have a14 := in_u i142; have a15 := t_add e142 ro_109_19 i79 rfl; have a16 := in_u i123; have a17 := t_add e123 ro_109_19 i79 rfl; have a18 := tx_i2l e101x16; have a19 := tx_i2l e101x9; have a20 := in_u i101x8; have a21 := in_u i98; have a22 := t_add e98 ro_109_19 i79 rfl; have a23 := in_u i85x34; have a24 := t_add e85x34 ro_109_19 i79 rfl; have a25 := in_u i85x23; have a26 := t_add e85x23 ro_109_19 i79 rfl; have a27 := in_u i85x9; have a28 := t_add e85x9 ro_109_19 i79 rfl; have oc := oc_365_109; by omega)); have e24 := r24.trans r178.symm; have e35 := r35.trans r197.symm; have eu : z125 = sc74.1 160 z178.toNatClampNeg := (by rw [← (r124.trans r178.symm)]; exact e125); have ev : z144 = sc74.1 160 z197.toNatClampNeg := (by rw [← (r143.trans r197.symm)]; exact e144); have sa := spa_r hI a9 th r178 r197 (by rw [← e24, ← e35]; exact c85x36) (sb.mpr c106a); rw [sI_q, sI_q]; first | exact wkj_v g74_0 sa (arn1 hI a9 th r178) (arn2 hI a9 th r197) eu ev (Or.inr rfl) (by exact (have a0 := in_u j74_4; have a1 := in_u j62_1; have a2 := in_u ro_109_20; have a3 := in_u ro_109_19; have a4 := in_u i79; have a5 := in_u i151; have a6 := in_u i151a; have a7 := in_u i201; have a8 := t_add e201 i79 (in_c 1 rfl) rfl; have a9 := in_u ((in_c 1 rfl)); have a10 := in_u i196; have a11 := t_add e196 ro_109_19 i79 rfl; have a12 := in_u i177; have a13 := t_add e177 ro_109_19 i79 rfl; have a14 := in_u i142; have a15 := t_add e142 ro_109_19 i79 rfl; have a16 := in_u i123; have a17 := t_add e123 ro_109_19 i79 rfl; have a18 := tx_i2l e101x16; have a19 := tx_i2l e101x9; have a20 := in_u i101x8; have a21 := in_u i98; have a22 := t_add e98 ro_109_19 i79 rfl; have a23 := in_u i85x34; have a24 := t_add e85x34 ro_109_19 i79 rfl; have a25 := in_u i85x23; have a26 := t_add e85x23 ro_109_19 i79 rfl; have a27 := in_u i85x9; have a28 := t_add e85x9 ro_109_19 i79 rfl; have oc := oc_365_109; by omega)) (Int.le_refl _) | exact wkj_v g74_0 sa (arn1 hI a9 th r178) (arn2 hI a9 th r197) eu ev (Or.inl rfl) (Int.le_refl _) (by exact (have a0 := in_u j74_4; have a1 := in_u j62_1; have a2 := in_u ro_109_20; have a3 := in_u ro_109_19; have a4 := in_u i79; have a5 := in_u i151; have a6 := in_u i151a; have a7 := in_u i201; have a8 := t_add e201 i79 (in_c 1 rfl) rfl; have a9 := in_u ((in_c 1 rfl)); have a10 := in_u i196; have a11 := t_add e196 ro_109_19 i79 rfl; have a12 := in_u i177; have a13 := t_add e177 ro_109_19 i79 rfl; have a14 := in_u i142; have a15 := t_add e142 ro_109_19 i79 rfl; have a16 := in_u i123; have a17 := t_add e123 ro_109_19 i79 rfl; have a18 := tx_i2l e101x16; have a19 := tx_i2l e101x9; have a20 := in_u i101x8; have a21 := in_u i98; have a22 := t_add e98 ro_109_19 i79 rfl; have a23 := in_u i85x34; have a24 := t_add e85x34 ro_109_19 i79 rfl; have a25 := in_u i85x23; have a26 := t_add e85x23 ro_109_19 i79 rfl; have a27 := in_u i85x9; have a28 := t_add e85x9 ro_109_19 i79 rfl; have oc := oc_365_109; by omega))
                      have n74b : (((sI (sI sc74 160 z178.toNatClampNeg z125) 160 z197.toNatClampNeg z125)).2.2.1 109 0).toInt = 0 := by exact g74_1
                      exact gg_w (by first | exact Nat.le_add_right _ _ | exact gw2 | exact gw3 | exact gwe rfl | exact gwf rfl | exact gwg rfl | exact gwh rfl | omega) (gg_f (gf_cons rfl (gf_cons rfl (gf_cons rfl (gf_cons rfl (gf_cons rfl gf_nil))))) (ih74 (sI (sI sc74 160 z178.toNatClampNeg z125) 160 z197.toNatClampNeg z125) z201 hI200 (fr_sI rfl (fr_sI rfl hFc74)) (in_w 0 31 j74_4 rfl) (in_w 0 160 i201 rfl) n74 n74a n74b (m_up mm74 (t_add e201 i79 (in_c 1 rfl) rfl) (in_w 1 1 (in_c 1 rfl) rfl))))
      refine g_iload 64 (gd rfl) rfl rfl ?_
      refine g_aload_n 65 (gd rfl) rfl rfl ?_
      refine g_getI 68 (gd rfl) rfl rfl rfl (fun z65 e65 => ?_)
      have q65 : u_109_20 = z65 := (fr_F e_109_20 hFc62 rfl).trans e65.symm
      subst q65
      refine g_cmp_ge 71 213 (gd rfl) rfl rfl (fun c68 => ?_) (fun c68 => ?_)
      · skip
        refine g_aload_n 214 (gd rfl) rfl rfl ?_
        refine g_getA (q2 := 160) 217 (gd rfl) rfl rfl rfl rfl ?_
        refine g_aload_n 218 (gd rfl) rfl rfl ?_
        refine g_getA (q2 := 113) 221 (gd rfl) rfl rfl rfl rfl ?_
        refine g_aload_n 222 (gd rfl) rfl rfl ?_
        refine g_getI 225 (gd rfl) rfl rfl rfl (fun z222 e222 => ?_)
        have q222 : u_109_19 = z222 := (fr_F e_109_19 hFc62 rfl).trans e222.symm
        subst q222
        refine g_iload_n 226 (gd rfl) rfl rfl ?_
        refine g_iadd 227 (gd rfl) rfl (fun z226 e226 => ?_)
        have i226 := in_add 0 319 e226 ro_109_19 j62_1 rfl rfl
        refine g_iaload 228 (gd rfl) rfl (n := 480) rfl (in_ix i226 rfl) (fun z227 e227 => ?_)
        have i227 := inv_I hIc62 (n := 480) (t := 0) 0 31 rfl (in_ix i226 rfl) rfl e227
        refine g_iaload 229 (gd rfl) rfl (n := 32) rfl (in_ix i227 rfl) (fun z228 e228 => ?_)
        have i228 := inv_I hIc62 (n := 32) (t := 0) 0 31 rfl (in_ix i227 rfl) rfl e228
        refine g_aload_n 230 (gd rfl) rfl rfl ?_
        refine g_getA (q2 := 160) 233 (gd rfl) rfl rfl rfl rfl ?_
        refine g_aload_n 234 (gd rfl) rfl rfl ?_
        refine g_getA (q2 := 114) 237 (gd rfl) rfl rfl rfl rfl ?_
        refine g_aload_n 238 (gd rfl) rfl rfl ?_
        refine g_getI 241 (gd rfl) rfl rfl rfl (fun z238 e238 => ?_)
        have q238 : u_109_19 = z238 := (fr_F e_109_19 hFc62 rfl).trans e238.symm
        subst q238
        refine g_iload_n 242 (gd rfl) rfl rfl ?_
        refine g_iadd 243 (gd rfl) rfl (fun z242 e242 => ?_)
        have i242 := in_add 0 319 e242 ro_109_19 j62_1 rfl rfl
        refine g_iaload 244 (gd rfl) rfl (n := 480) rfl (in_ix i242 rfl) (fun z243 e243 => ?_)
        have i243 := inv_I hIc62 (n := 480) (t := 0) 0 31 rfl (in_ix i242 rfl) rfl e243
        refine g_iaload 245 (gd rfl) rfl (n := 32) rfl (in_ix i243 rfl) (fun z244 e244 => ?_)
        have i244 := inv_I hIc62 (n := 32) (t := 0) 0 31 rfl (in_ix i243 rfl) rfl e244
        refine g_cmp_eq 248 252 (gd rfl) rfl rfl (fun c245 => ?_) (fun c245 => ?_)
        · skip
          refine g_iconst 0 253 (gd rfl) rfl rfl ?_
          have n253 : SPR s sc62 x1 (Int32.ofInt 0) := by have h9 := g62_2; rw [show (y62_4).toNatClampNeg = (s.2.2.1 109 20).toInt.toNat from (by show (y62_4).toInt.toNat = _; rw [← e_109_20]; exact (have a0 := in_u j62_1; have a1 := in_u ro_109_20; have a2 := in_u ro_109_19; have a3 := in_u j62_4; have a4 := in_u i242; have a5 := t_add e242 ro_109_19 j62_1 rfl; have a6 := in_u i226; have a7 := t_add e226 ro_109_19 j62_1 rfl; have oc := oc_365_109; by omega))] at h9; have p9 := (show (x1).toNatClampNeg < 160 from (by show (x1).toInt.toNat < 160; exact (have a0 := in_u j62_1; have a1 := in_u ro_109_20; have a2 := in_u ro_109_19; have a3 := in_u j62_4; have a4 := in_u i242; have a5 := t_add e242 ro_109_19 j62_1 rfl; have a6 := in_u i226; have a7 := t_add e226 ro_109_19 j62_1 rfl; have oc := oc_365_109; by omega))); have az := arz_y hI p9 rfl g62_0.1; have r227 := (show z227 = s.1 113 (bs s + (x1).toNatClampNeg) from e227.trans ((congrFun (hFc62.1 113 rfl) _).trans (congrArg (s.1 113) (show z226.toNatClampNeg = bs s + (x1).toNatClampNeg from (by show z226.toInt.toNat = (s.2.2.1 109 19).toInt.toNat + (x1).toInt.toNat; rw [← e_109_19]; exact (have a0 := in_u j62_1; have a1 := in_u ro_109_20; have a2 := in_u ro_109_19; have a3 := in_u j62_4; have a4 := in_u i242; have a5 := t_add e242 ro_109_19 j62_1 rfl; have a6 := in_u i226; have a7 := t_add e226 ro_109_19 j62_1 rfl; have oc := oc_365_109; by omega)))))); have r243 := (show z243 = s.1 114 (bs s + (x1).toNatClampNeg) from e243.trans ((congrFun (hFc62.1 114 rfl) _).trans (congrArg (s.1 114) (show z242.toNatClampNeg = bs s + (x1).toNatClampNeg from (by show z242.toInt.toNat = (s.2.2.1 109 19).toInt.toNat + (x1).toInt.toNat; rw [← e_109_19]; exact (have a0 := in_u j62_1; have a1 := in_u ro_109_20; have a2 := in_u ro_109_19; have a3 := in_u j62_4; have a4 := in_u i242; have a5 := t_add e242 ro_109_19 j62_1 rfl; have a6 := in_u i226; have a7 := t_add e226 ro_109_19 j62_1 rfl; have oc := oc_365_109; by omega)))))); have bh : BHP (gvZ s) x1 := ⟨⟨by exact (have a0 := in_u j62_1; have a1 := in_u ro_109_20; have a2 := in_u ro_109_19; have a3 := in_u j62_4; have a4 := in_u i242; have a5 := t_add e242 ro_109_19 j62_1 rfl; have a6 := in_u i226; have a7 := t_add e226 ro_109_19 j62_1 rfl; have oc := oc_365_109; by omega), by exact (have a0 := in_u j62_1; have a1 := in_u ro_109_20; have a2 := in_u ro_109_19; have a3 := in_u j62_4; have a4 := in_u i242; have a5 := t_add e242 ro_109_19 j62_1 rfl; have a6 := in_u i226; have a7 := t_add e226 ro_109_19 j62_1 rfl; have oc := oc_365_109; by omega)⟩, (by rw [az.1]; omega)⟩; have wm := wki_m (x := z227) (y := z243) h9 (spk_n hI (n20 hI)) (arn1 hI p9 g62_0.1 r227) (arn2 hI p9 g62_0.1 r243) (by rw [r227]; exact az.1) (by rw [r243]; exact az.2) e228 e244 (by have h8 := i228; unfold In at h8; omega) (by have h8 := i244; unfold In at h8; omega); first | exact Or.inr ⟨g62_3, bh, ⟨fun _ => wm.mp c245, fun _ => by decide⟩⟩ | exact Or.inr ⟨g62_3, bh, ⟨fun h => absurd rfl h, fun h => absurd c245 (wm.mpr h)⟩⟩
          exact g_ireturn (gd rfl) rfl (nb01 (in_w 0 1 (in_c 0 rfl) rfl)) (hP _ _ ⟨sc62, hIc62, hFc62, (Int32.ofInt 0), rfl, rfl, in_w 0 1 (in_c 0 rfl) rfl, n253⟩)
        · skip
          refine g_iconst 1 249 (gd rfl) rfl rfl ?_
          refine g_goto 253 (gd rfl) rfl ?_
          have n253 : SPR s sc62 x1 (Int32.ofInt 1) := by have h9 := g62_2; rw [show (y62_4).toNatClampNeg = (s.2.2.1 109 20).toInt.toNat from (by show (y62_4).toInt.toNat = _; rw [← e_109_20]; exact (have a0 := in_u j62_1; have a1 := in_u ro_109_20; have a2 := in_u ro_109_19; have a3 := in_u j62_4; have a4 := in_u i242; have a5 := t_add e242 ro_109_19 j62_1 rfl; have a6 := in_u i226; have a7 := t_add e226 ro_109_19 j62_1 rfl; have oc := oc_365_109; by omega))] at h9; have p9 := (show (x1).toNatClampNeg < 160 from (by show (x1).toInt.toNat < 160; exact (have a0 := in_u j62_1; have a1 := in_u ro_109_20; have a2 := in_u ro_109_19; have a3 := in_u j62_4; have a4 := in_u i242; have a5 := t_add e242 ro_109_19 j62_1 rfl; have a6 := in_u i226; have a7 := t_add e226 ro_109_19 j62_1 rfl; have oc := oc_365_109; by omega))); have az := arz_y hI p9 rfl g62_0.1; have r227 := (show z227 = s.1 113 (bs s + (x1).toNatClampNeg) from e227.trans ((congrFun (hFc62.1 113 rfl) _).trans (congrArg (s.1 113) (show z226.toNatClampNeg = bs s + (x1).toNatClampNeg from (by show z226.toInt.toNat = (s.2.2.1 109 19).toInt.toNat + (x1).toInt.toNat; rw [← e_109_19]; exact (have a0 := in_u j62_1; have a1 := in_u ro_109_20; have a2 := in_u ro_109_19; have a3 := in_u j62_4; have a4 := in_u i242; have a5 := t_add e242 ro_109_19 j62_1 rfl; have a6 := in_u i226; have a7 := t_add e226 ro_109_19 j62_1 rfl; have oc := oc_365_109; by omega)))))); have r243 := (show z243 = s.1 114 (bs s + (x1).toNatClampNeg) from e243.trans ((congrFun (hFc62.1 114 rfl) _).trans (congrArg (s.1 114) (show z242.toNatClampNeg = bs s + (x1).toNatClampNeg from (by show z242.toInt.toNat = (s.2.2.1 109 19).toInt.toNat + (x1).toInt.toNat; rw [← e_109_19]; exact (have a0 := in_u j62_1; have a1 := in_u ro_109_20; have a2 := in_u ro_109_19; have a3 := in_u j62_4; have a4 := in_u i242; have a5 := t_add e242 ro_109_19 j62_1 rfl; have a6 := in_u i226; have a7 := t_add e226 ro_109_19 j62_1 rfl; have oc := oc_365_109; by omega)))))); have bh : BHP (gvZ s) x1 := ⟨⟨by exact (have a0 := in_u j62_1; have a1 := in_u ro_109_20; have a2 := in_u ro_109_19; have a3 := in_u j62_4; have a4 := in_u i242; have a5 := t_add e242 ro_109_19 j62_1 rfl; have a6 := in_u i226; have a7 := t_add e226 ro_109_19 j62_1 rfl; have oc := oc_365_109; by omega), by exact (have a0 := in_u j62_1; have a1 := in_u ro_109_20; have a2 := in_u ro_109_19; have a3 := in_u j62_4; have a4 := in_u i242; have a5 := t_add e242 ro_109_19 j62_1 rfl; have a6 := in_u i226; have a7 := t_add e226 ro_109_19 j62_1 rfl; have oc := oc_365_109; by omega)⟩, (by rw [az.1]; omega)⟩; have wm := wki_m (x := z227) (y := z243) h9 (spk_n hI (n20 hI)) (arn1 hI p9 g62_0.1 r227) (arn2 hI p9 g62_0.1 r243) (by rw [r227]; exact az.1) (by rw [r243]; exact az.2) e228 e244 (by have h8 := i228; unfold In at h8; omega) (by have h8 := i244; unfold In at h8; omega); first | exact Or.inr ⟨g62_3, bh, ⟨fun _ => wm.mp c245, fun _ => by decide⟩⟩ | exact Or.inr ⟨g62_3, bh, ⟨fun h => absurd rfl h, fun h => absurd c245 (wm.mpr h)⟩⟩
          exact g_ireturn (gd rfl) rfl (nb01 (in_w 0 1 (in_c 1 rfl) rfl)) (hP _ _ ⟨sc62, hIc62, hFc62, (Int32.ofInt 1), rfl, rfl, in_w 0 1 (in_c 1 rfl) rfl, n253⟩)
      · skip
        have i68 := r_lt1 0 31 c68 j62_4 ro_109_20 rfl
        have i68a := r_lt2 1 32 c68 j62_4 ro_109_20 rfl
        refine g_iconst 0 72 (gd rfl) rfl rfl ?_
        refine g_istore 74 (gd rfl) rfl (Nat.le_of_ble_eq_true rfl) ?_
        have n74 : (y62_4).toInt < (u_109_20).toInt := by exact (have a0 := in_u j62_1; have a1 := in_u i68a; have a2 := in_u ro_109_19; have a3 := in_u i68; have a4 := in_u ((in_c 0 rfl)); have oc := oc_365_109; by omega)
        have n74a : WKJ (gvZ s) (x1).toNatClampNeg (s.2.2.1 109 20).toInt.toNat (y62_4).toNatClampNeg ((Int32.ofInt 0)).toNatClampNeg ((sc62).1 160) := by exact wkj_0 g62_2
        have n74b : ((sc62).2.2.1 109 0).toInt = 0 := by exact g62_3
        exact gg_w (by first | exact Nat.le_add_right _ _ | exact gw2 | exact gw3 | exact gwe rfl | exact gwf rfl | exact gwg rfl | exact gwh rfl | omega) (gg_f (gf_cons rfl (gf_cons rfl (gf_cons rfl (gf_cons rfl (gf_cons rfl gf_nil))))) (ct74 161 sc62 (Int32.ofInt 0) hIc62 hFc62 (in_w 0 31 i68 rfl) (in_w 0 160 (in_c 0 rfl) rfl) n74 n74a n74b (m_in 161 (in_w 0 160 (in_c 0 rfl) rfl) rfl)))
  have ct26 : ∀ (k26 : Nat) (sc26 : GS) (y26_2 : Int32), Inv sc26 → Fr fm_365 s sc26 → (In x1 0 159) → (In y26_2 0 32) → (JZ s (x1).toNatClampNeg) → ((∀ v : Nat, (v : Int) < (y26_2).toInt → (((sc26).1 160 v)).toNatClampNeg = v)) → (((sc26).2.2.1 109 0).toInt = 0) → 32 - (y26_2).toInt < (k26 : Int) → GG Z (d - 1) 365 post (gx xp) (4870835 + k26 * 900) 26 (fun j => xlook j [(0, .ref (A 109)), (1, .int x1), (2, .int y26_2)]) [] (WW Z A sc26 ++ ex) 0 0 := by
    intro k26
    induction k26 with
    | zero => intro sc26 y26_2 hIc26 hFc26 j26_1 j26_2 g26_0 g26_1 g26_2 mm26; exact m_no mm26 j26_2 rfl
    | succ k26 ih26 =>
      intro sc26 y26_2 hIc26 hFc26 j26_1 j26_2 g26_0 g26_1 g26_2 mm26
      refine gg_w (M := 4870835 + k26 * 900 + 900) gws ?_
      refine g_iload_n 27 (gd rfl) rfl rfl ?_
      refine g_aload_n 28 (gd rfl) rfl rfl ?_
      refine g_getI 31 (gd rfl) rfl rfl rfl (fun z28 e28 => ?_)
      have q28 : u_109_20 = z28 := (fr_F e_109_20 hFc26 rfl).trans e28.symm
      subst q28
      refine g_cmp_ge 34 47 (gd rfl) rfl rfl (fun c31 => ?_) (fun c31 => ?_)
      · skip
        refine g_aload_n 48 (gd rfl) rfl rfl ?_
        refine g_aload_n 49 (gd rfl) rfl rfl ?_
        refine g_getI 52 (gd rfl) rfl rfl rfl (fun z49 e49 => ?_)
        have q49 : u_109_19 = z49 := (fr_F e_109_19 hFc26 rfl).trans e49.symm
        subst q49
        refine g_iload_n 53 (gd rfl) rfl rfl ?_
        refine g_iadd 54 (gd rfl) rfl (fun z53 e53 => ?_)
        have i53 := in_add 0 319 e53 ro_109_19 j26_1 rfl rfl
        refine g_iload_n 55 (gd rfl) rfl rfl ?_
        refine g_callv (X := _) (As := [.int z53, .int x1]) (r := []) (b := A 109) (q := 109) 58 (gd rfl) rfl rfl rfl rfl rfl (ww_o rfl) (Nat.le_of_ble_eq_true rfl) (mc := 0) (ms := 0) (Nat.zero_le _) (Nat.zero_le _) (P := fun v u => _) ?_ (fun e u h => h) (fun v u h => h)
        intro po55 xx55 hp55 hx55
        refine g_enter2 (k := 366) (N := 300) (by first | exact dq1 hd rfl | exact dq0 hd rfl | exact dq2 hd rfl | exact dq3 hd rfl | omega) rfl (Nat.le_of_ble_eq_true rfl) ?_
        refine g_ldc2_w 1000 3 (gd rfl) rfl rfl ?_
        refine g_aload_n 4 (gd rfl) rfl rfl ?_
        refine g_getA (q2 := 115) 7 (gd rfl) rfl rfl rfl rfl ?_
        refine g_iload_n 8 (gd rfl) rfl rfl ?_
        refine g_iaload 9 (gd rfl) rfl (n := 480) rfl (in_ix i53 rfl) (fun z55x8 e55x8 => ?_)
        have i55x8 := inv_I hIc26 (n := 480) (t := 0) (-1000000) 1000000 rfl (in_ix i53 rfl) rfl e55x8
        refine g_i2l 10 (gd rfl) rfl (fun z55x9 e55x9 => ?_)
        have i55x9 := l_i e55x9 i55x8
        refine g_ldc2_w 1000000 13 (gd rfl) rfl rfl ?_
        refine g_ladd 14 (gd rfl) rfl (fun z55x13 e55x13 => ?_)
        have i55x13 := l_add 0 2000000 e55x13 i55x9 (l_c 1000000 rfl) rfl
        refine g_lmul 15 (gd rfl) rfl (fun z55x14 e55x14 => ?_)
        have i55x14 := l_mulc 1000 0 2000000000 (Or.inl e55x14) i55x13 rfl
        refine g_iload_n 16 (gd rfl) rfl rfl ?_
        refine g_i2l 17 (gd rfl) rfl (fun z55x16 e55x16 => ?_)
        have i55x16 := l_i e55x16 j26_1
        refine g_ladd 18 (gd rfl) rfl (fun z55x17 e55x17 => ?_)
        have i55x17 := l_add 0 2000000159 e55x17 i55x14 i55x16 rfl
        refine g_lreturn (gd rfl) rfl (hp55 _ _ ?_)
        show GG _ _ _ _ _ _ _ _ [.long z55x17] _ _ _
        refine g_lstore_n 59 (gd rfl) rfl (Nat.le_of_ble_eq_true rfl) ?_
        refine g_iconst 0 60 (gd rfl) rfl rfl ?_
        refine g_istore 62 (gd rfl) rfl (Nat.le_of_ble_eq_true rfl) ?_
        have n62 : ((Int32.ofInt 0)).toInt ≤ (u_109_20).toInt := by exact (have a0 := in_u j26_1; have a1 := in_u ro_109_20; have a2 := in_u ro_109_19; have a3 := in_u j26_2; have a4 := in_u ((in_c 0 rfl)); have a5 := tx_i2l e55x16; have a6 := tx_i2l e55x9; have a7 := in_u i55x8; have a8 := in_u i53; have a9 := t_add e53 ro_109_19 j26_1 rfl; have oc := oc_365_109; by omega)
        have n62a : JZ s (x1).toNatClampNeg := by exact g26_0
        have n62b : (z55x17).toInt = 1000 * ((s.1 115 (bs s + (x1).toNatClampNeg)).toInt + 1000000) + (x1).toInt := by rw [← (show z55x8 = s.1 115 (bs s + (x1).toNatClampNeg) from e55x8.trans ((congrFun (hFc26.1 115 rfl) _).trans (congrArg (s.1 115) (show z53.toNatClampNeg = bs s + (x1).toNatClampNeg from (by show z53.toInt.toNat = (s.2.2.1 109 19).toInt.toNat + (x1).toInt.toNat; rw [← e_109_19]; exact (have a0 := in_u j26_1; have a1 := in_u ro_109_20; have a2 := in_u ro_109_19; have a3 := in_u j26_2; have a4 := in_u ((in_c 0 rfl)); have a5 := tx_i2l e55x16; have a6 := tx_i2l e55x9; have a7 := in_u i55x8; have a8 := in_u i53; have a9 := t_add e53 ro_109_19 j26_1 rfl; have oc := oc_365_109; by omega))))))]; exact orv e55x9 e55x13 e55x14 e55x16 e55x17 i55x8 ⟨by exact (have a0 := in_u j26_1; have a1 := in_u ro_109_20; have a2 := in_u ro_109_19; have a3 := in_u j26_2; have a4 := in_u ((in_c 0 rfl)); have a5 := tx_i2l e55x16; have a6 := tx_i2l e55x9; have a7 := in_u i55x8; have a8 := in_u i53; have a9 := t_add e53 ro_109_19 j26_1 rfl; have oc := oc_365_109; by omega), by exact (have a0 := in_u j26_1; have a1 := in_u ro_109_20; have a2 := in_u ro_109_19; have a3 := in_u j26_2; have a4 := in_u ((in_c 0 rfl)); have a5 := tx_i2l e55x16; have a6 := tx_i2l e55x9; have a7 := in_u i55x8; have a8 := in_u i53; have a9 := t_add e53 ro_109_19 j26_1 rfl; have oc := oc_365_109; by omega)⟩
        have n62c : WKI (gvZ s) (x1).toNatClampNeg (s.2.2.1 109 20).toInt.toNat ((Int32.ofInt 0)).toNatClampNeg ((sc26).1 160) := by exact wki_0 (fun v hv => g26_1 v (by have h9 := n20 hI; rw [← e_109_20] at h9; rw [← e_109_20] at hv; exact (have a0 := in_u j26_1; have a1 := in_u ro_109_20; have a2 := in_u ro_109_19; have a3 := in_u j26_2; have a4 := in_u ((in_c 0 rfl)); have a5 := tx_i2l e55x16; have a6 := tx_i2l e55x9; have a7 := in_u i55x8; have a8 := in_u i53; have a9 := t_add e53 ro_109_19 j26_1 rfl; have oc := oc_365_109; by omega)))
        have n62d : ((sc26).2.2.1 109 0).toInt = 0 := by exact g26_2
        exact gg_w (by first | exact Nat.le_add_right _ _ | exact gw2 | exact gw3 | exact gwe rfl | exact gwf rfl | exact gwg rfl | exact gwh rfl | omega) (gg_f (gf_cons rfl (gf_cons rfl (gf_cons rfl (gf_cons rfl gf_nil)))) (ct62 33 sc26 z55x17 (Int32.ofInt 0) hIc26 hFc26 (in_w 0 159 j26_1 rfl) (in_w 0 32 (in_c 0 rfl) rfl) n62 n62a n62b n62c n62d (m_in 33 (in_w 0 32 (in_c 0 rfl) rfl) rfl)))
      · skip
        have i31 := r_lt1 0 31 c31 j26_2 ro_109_20 rfl
        have i31a := r_lt2 1 32 c31 j26_2 ro_109_20 rfl
        refine g_aload_n 35 (gd rfl) rfl rfl ?_
        refine g_getA (q2 := 160) 38 (gd rfl) rfl rfl rfl rfl ?_
        refine g_iload_n 39 (gd rfl) rfl rfl ?_
        refine g_iload_n 40 (gd rfl) rfl rfl ?_
        refine g_iastore 41 (gd rfl) rfl (n := 32) rfl (in_ix i31 rfl) ?_
        have hI40 := inv_sI (q := 160) (j := y26_2.toNatClampNeg) hIc26 rfl (in_w 0 31 i31 rfl)
        refine g_iinc 44 (gd rfl) rfl rfl (Nat.le_of_ble_eq_true rfl) (fun z41 e41 => ?_)
        have i41 := in_add 1 32 e41 i31 (in_c 1 rfl) rfl rfl
        refine g_goto 26 (gd rfl) rfl ?_
        have n26 : JZ s (x1).toNatClampNeg := by exact g26_0
        have n26a : (∀ v : Nat, (v : Int) < (z41).toInt → ((((sI sc26 160 y26_2.toNatClampNeg y26_2)).1 160 v)).toNatClampNeg = v) := by intro v hv; by_cases c : v = (y26_2).toNatClampNeg; (rw [c, sI_q, up_e]); (rw [sI_q, up_n c]; exact g26_1 v (by have e3 : (y26_2).toNatClampNeg = (y26_2).toInt.toNat := rfl; exact (have a0 := in_u j26_1; have a1 := in_u i31a; have a2 := in_u ro_109_19; have a3 := in_u i31; have a4 := in_u i41; have a5 := t_add e41 i31 (in_c 1 rfl) rfl; have a6 := in_u ((in_c 1 rfl)); have oc := oc_365_109; by omega)))
        have n26b : (((sI sc26 160 y26_2.toNatClampNeg y26_2)).2.2.1 109 0).toInt = 0 := by exact g26_2
        exact gg_w (by first | exact Nat.le_add_right _ _ | exact gw2 | exact gw3 | exact gwe rfl | exact gwf rfl | exact gwg rfl | exact gwh rfl | omega) (gg_f (gf_cons rfl (gf_cons rfl (gf_cons rfl gf_nil))) (ih26 (sI sc26 160 y26_2.toNatClampNeg y26_2) z41 hI40 (fr_sI rfl hFc26) (in_w 0 159 j26_1 rfl) (in_w 0 32 i41 rfl) n26 n26a n26b (m_up mm26 (t_add e41 i31 (in_c 1 rfl) rfl) (in_w 1 1 (in_c 1 rfl) rfl))))
  refine g_enter2 (k := 365) (N := 4901435) (by first | exact dq1 hd rfl | exact dq0 hd rfl | exact dq2 hd rfl | exact dq3 hd rfl | omega) rfl (Nat.le_of_ble_eq_true rfl) ?_
  refine g_aload_n 1 (gd rfl) rfl rfl ?_
  refine g_aload_n 2 (gd rfl) rfl rfl ?_
  refine g_iload_n 3 (gd rfl) rfl rfl ?_
  refine g_callv (X := _) (As := [.int x1]) (r := [.ref (A 109)]) (b := A 109) (q := 109) 6 (gd rfl) rfl rfl rfl rfl rfl (ww_o rfl) (Nat.le_of_ble_eq_true rfl) (mc := 0) (ms := 0) (Nat.zero_le _) (Nat.zero_le _) (P := fun v u => _) ?_ (fun e u h => h) (fun v u h => h)
  intro po3 xx3 hp3 hx3
  refine g_enter2 (k := 273) (N := 300) (by first | exact dq1 hd rfl | exact dq0 hd rfl | exact dq2 hd rfl | exact dq3 hd rfl | omega) rfl (Nat.le_of_ble_eq_true rfl) ?_
  refine g_iload_n 1 (gd rfl) rfl rfl ?_
  refine g_if_lt 4 29 (gd rfl) rfl rfl (fun c3x1 => ?_) (fun c3x1 => ?_)
  · skip
    have i3x1 := z_lt (-2147483648) (-1) c3x1 (i_rng x1) rfl
    refine g_iconst 0 30 (gd rfl) rfl rfl ?_
    refine g_ireturn (gd rfl) rfl (nb01 (in_w 0 1 (in_c 0 rfl) rfl)) (hp3 _ _ ?_)
    show GG _ _ _ _ _ _ _ _ [.int (Int32.ofInt 0), .ref (A 109)] _ _ _
    refine g_callv (X := _) (As := [.int (Int32.ofInt 0)]) (r := []) (b := A 109) (q := 109) 9 (gd rfl) rfl rfl rfl rfl rfl (ww_o rfl) (Nat.le_of_ble_eq_true rfl) (mc := 0) (ms := 0) (Nat.zero_le _) (Nat.zero_le _) (P := fun v u => _) ?_ (fun e u h => h) (fun v u h => h)
    intro po6 xx6 hp6 hx6
    refine g_enter2 (k := 271) (N := 300) (by first | exact dq1 hd rfl | exact dq0 hd rfl | exact dq2 hd rfl | exact dq3 hd rfl | omega) rfl (Nat.le_of_ble_eq_true rfl) ?_
    refine g_aload_n 1 (gd rfl) rfl rfl ?_
    refine g_iload_n 2 (gd rfl) rfl rfl ?_
    refine g_iconst 1 3 (gd rfl) rfl rfl ?_
    refine g_callv (X := _) (As := [.int (Int32.ofInt 0), .int (Int32.ofInt 1)]) (r := []) (b := A 109) (q := 109) 6 (gd rfl) rfl rfl rfl rfl rfl (ww_o rfl) (Nat.le_of_ble_eq_true rfl) (mc := 0) (ms := 0) (Nat.zero_le _) (Nat.zero_le _) (P := fun v u => _) ?_ (fun e u h => h) (fun v u h => h)
    intro po6x3 xx6x3 hp6x3 hx6x3
    refine g_enter2 (k := 270) (N := 300) (by first | exact dq1 hd rfl | exact dq0 hd rfl | exact dq2 hd rfl | exact dq3 hd rfl | omega) rfl (Nat.le_of_ble_eq_true rfl) ?_
    refine g_aload_n 1 (gd rfl) rfl rfl ?_
    refine g_iload_n 2 (gd rfl) rfl rfl ?_
    refine g_if_ne 5 9 (gd rfl) rfl rfl (fun c6x3x2 => ?_) (fun c6x3x2 => ?_)
    · skip
      exact zn_ne c6x3x2 (in_c 0 rfl) rfl
    · skip
      refine g_iconst 1 6 (gd rfl) rfl rfl ?_
      refine g_goto 18 (gd rfl) rfl ?_
      refine g_putI 21 (gd rfl) rfl rfl rfl rfl ?_
      have hI6x3x18 := inv_sF (q := 109) (j := 0) hI rfl (in_w 0 2 (in_c 1 rfl) rfl)
      refine g_aload_n 22 (gd rfl) rfl rfl ?_
      refine g_getI 25 (gd rfl) rfl rfl rfl (fun z6x3x22 e6x3x22 => ?_)
      have q6x3x22 : (Int32.ofInt 1) = z6x3x22 := (sF_get).trans e6x3x22.symm
      subst q6x3x22
      refine g_if_le 28 32 (gd rfl) rfl rfl (fun c6x3x25 => ?_) (fun c6x3x25 => ?_)
      · skip
        exact zn_le c6x3x25 (in_c 1 rfl) rfl
      · skip
        refine g_iconst 1 29 (gd rfl) rfl rfl ?_
        refine g_goto 33 (gd rfl) rfl ?_
        refine g_ireturn (gd rfl) rfl (nb01 (in_w 0 1 (in_c 1 rfl) rfl)) (hp6x3 _ _ ?_)
        show GG _ _ _ _ _ _ _ _ [.int (Int32.ofInt 1)] _ _ _
        refine g_ireturn (gd rfl) rfl (nb01 (in_w 0 1 (in_c 1 rfl) rfl)) (hp6 _ _ ?_)
        show GG _ _ _ _ _ _ _ _ [.int (Int32.ofInt 1)] _ _ _
        refine g_if_eq 12 14 (gd rfl) rfl rfl (fun c9 => ?_) (fun c9 => ?_)
        · skip
          exact zn_eq c9 (in_c 1 rfl) rfl
        · skip
          refine g_iconst 0 13 (gd rfl) rfl rfl ?_
          have n13 : SPR s (sF s 109 0 (Int32.ofInt 1)) x1 (Int32.ofInt 0) := by exact Or.inl ⟨rfl, fun h => (by have a := h.1.1; have b := h.1.2; exact (have a0 := in_u ro_109_20; have a1 := in_u ro_109_19; have a2 := in_u i3x1; have a3 := in_u ((in_c 1 rfl)); have oc := oc_365_109; by omega))⟩
          exact g_ireturn (gd rfl) rfl (nb01 (in_w 0 1 (in_c 0 rfl) rfl)) (hP _ _ ⟨(sF s 109 0 (Int32.ofInt 1)), hI6x3x18, (fr_sF rfl fr_rf), (Int32.ofInt 0), rfl, rfl, in_w 0 1 (in_c 0 rfl) rfl, n13⟩)
  · skip
    have i3x1 := z_ge 0 2147483647 c3x1 (i_rng x1) rfl
    refine g_iload_n 5 (gd rfl) rfl rfl ?_
    refine g_sipush 160 8 (gd rfl) rfl rfl ?_
    refine g_cmp_ge 11 29 (gd rfl) rfl rfl (fun c3x8 => ?_) (fun c3x8 => ?_)
    · skip
      have i3x8 := r_le2 160 2147483647 c3x8 (in_c 160 rfl) i3x1 rfl
      refine g_iconst 0 30 (gd rfl) rfl rfl ?_
      refine g_ireturn (gd rfl) rfl (nb01 (in_w 0 1 (in_c 0 rfl) rfl)) (hp3 _ _ ?_)
      show GG _ _ _ _ _ _ _ _ [.int (Int32.ofInt 0), .ref (A 109)] _ _ _
      refine g_callv (X := _) (As := [.int (Int32.ofInt 0)]) (r := []) (b := A 109) (q := 109) 9 (gd rfl) rfl rfl rfl rfl rfl (ww_o rfl) (Nat.le_of_ble_eq_true rfl) (mc := 0) (ms := 0) (Nat.zero_le _) (Nat.zero_le _) (P := fun v u => _) ?_ (fun e u h => h) (fun v u h => h)
      intro po6 xx6 hp6 hx6
      refine g_enter2 (k := 271) (N := 300) (by first | exact dq1 hd rfl | exact dq0 hd rfl | exact dq2 hd rfl | exact dq3 hd rfl | omega) rfl (Nat.le_of_ble_eq_true rfl) ?_
      refine g_aload_n 1 (gd rfl) rfl rfl ?_
      refine g_iload_n 2 (gd rfl) rfl rfl ?_
      refine g_iconst 1 3 (gd rfl) rfl rfl ?_
      refine g_callv (X := _) (As := [.int (Int32.ofInt 0), .int (Int32.ofInt 1)]) (r := []) (b := A 109) (q := 109) 6 (gd rfl) rfl rfl rfl rfl rfl (ww_o rfl) (Nat.le_of_ble_eq_true rfl) (mc := 0) (ms := 0) (Nat.zero_le _) (Nat.zero_le _) (P := fun v u => _) ?_ (fun e u h => h) (fun v u h => h)
      intro po6x3 xx6x3 hp6x3 hx6x3
      refine g_enter2 (k := 270) (N := 300) (by first | exact dq1 hd rfl | exact dq0 hd rfl | exact dq2 hd rfl | exact dq3 hd rfl | omega) rfl (Nat.le_of_ble_eq_true rfl) ?_
      refine g_aload_n 1 (gd rfl) rfl rfl ?_
      refine g_iload_n 2 (gd rfl) rfl rfl ?_
      refine g_if_ne 5 9 (gd rfl) rfl rfl (fun c6x3x2 => ?_) (fun c6x3x2 => ?_)
      · skip
        exact zn_ne c6x3x2 (in_c 0 rfl) rfl
      · skip
        refine g_iconst 1 6 (gd rfl) rfl rfl ?_
        refine g_goto 18 (gd rfl) rfl ?_
        refine g_putI 21 (gd rfl) rfl rfl rfl rfl ?_
        have hI6x3x18 := inv_sF (q := 109) (j := 0) hI rfl (in_w 0 2 (in_c 1 rfl) rfl)
        refine g_aload_n 22 (gd rfl) rfl rfl ?_
        refine g_getI 25 (gd rfl) rfl rfl rfl (fun z6x3x22 e6x3x22 => ?_)
        have q6x3x22 : (Int32.ofInt 1) = z6x3x22 := (sF_get).trans e6x3x22.symm
        subst q6x3x22
        refine g_if_le 28 32 (gd rfl) rfl rfl (fun c6x3x25 => ?_) (fun c6x3x25 => ?_)
        · skip
          exact zn_le c6x3x25 (in_c 1 rfl) rfl
        · skip
          refine g_iconst 1 29 (gd rfl) rfl rfl ?_
          refine g_goto 33 (gd rfl) rfl ?_
          refine g_ireturn (gd rfl) rfl (nb01 (in_w 0 1 (in_c 1 rfl) rfl)) (hp6x3 _ _ ?_)
          show GG _ _ _ _ _ _ _ _ [.int (Int32.ofInt 1)] _ _ _
          refine g_ireturn (gd rfl) rfl (nb01 (in_w 0 1 (in_c 1 rfl) rfl)) (hp6 _ _ ?_)
          show GG _ _ _ _ _ _ _ _ [.int (Int32.ofInt 1)] _ _ _
          refine g_if_eq 12 14 (gd rfl) rfl rfl (fun c9 => ?_) (fun c9 => ?_)
          · skip
            exact zn_eq c9 (in_c 1 rfl) rfl
          · skip
            refine g_iconst 0 13 (gd rfl) rfl rfl ?_
            have n13 : SPR s (sF s 109 0 (Int32.ofInt 1)) x1 (Int32.ofInt 0) := by exact Or.inl ⟨rfl, fun h => (by have a := h.1.1; have b := h.1.2; exact (have a0 := in_u ro_109_20; have a1 := in_u ro_109_19; have a2 := in_u i3x8; have a3 := in_u ((in_c 1 rfl)); have oc := oc_365_109; by omega))⟩
            exact g_ireturn (gd rfl) rfl (nb01 (in_w 0 1 (in_c 0 rfl) rfl)) (hP _ _ ⟨(sF s 109 0 (Int32.ofInt 1)), hI6x3x18, (fr_sF rfl fr_rf), (Int32.ofInt 0), rfl, rfl, in_w 0 1 (in_c 0 rfl) rfl, n13⟩)
    · skip
      have i3x8 := r_lt1 0 159 c3x8 i3x1 (in_c 160 rfl) rfl
      refine g_aload_n 12 (gd rfl) rfl rfl ?_
      refine g_getA (q2 := 112) 15 (gd rfl) rfl rfl rfl rfl ?_
      refine g_aload_n 16 (gd rfl) rfl rfl ?_
      refine g_getI 19 (gd rfl) rfl rfl rfl (fun z3x16 e3x16 => ?_)
      have q3x16 : u_109_19 = z3x16 := (e_109_19).trans e3x16.symm
      subst q3x16
      refine g_iload_n 20 (gd rfl) rfl rfl ?_
      refine g_iadd 21 (gd rfl) rfl (fun z3x20 e3x20 => ?_)
      have i3x20 := in_add 0 319 e3x20 ro_109_19 i3x8 rfl rfl
      refine g_baload 22 (gd rfl) rfl (n := 480) rfl (in_ix i3x20 rfl) (fun z3x21 e3x21 => ?_)
      have i3x21 := inv_I hI (n := 480) (t := 3) 0 1 rfl (in_ix i3x20 rfl) rfl e3x21
      refine g_if_eq 25 29 (gd rfl) rfl rfl (fun c3x22 => ?_) (fun c3x22 => ?_)
      · skip
        have i3x22 := z_eq 0 0 c3x22 i3x21 rfl
        refine g_iconst 0 30 (gd rfl) rfl rfl ?_
        refine g_ireturn (gd rfl) rfl (nb01 (in_w 0 1 (in_c 0 rfl) rfl)) (hp3 _ _ ?_)
        show GG _ _ _ _ _ _ _ _ [.int (Int32.ofInt 0), .ref (A 109)] _ _ _
        refine g_callv (X := _) (As := [.int (Int32.ofInt 0)]) (r := []) (b := A 109) (q := 109) 9 (gd rfl) rfl rfl rfl rfl rfl (ww_o rfl) (Nat.le_of_ble_eq_true rfl) (mc := 0) (ms := 0) (Nat.zero_le _) (Nat.zero_le _) (P := fun v u => _) ?_ (fun e u h => h) (fun v u h => h)
        intro po6 xx6 hp6 hx6
        refine g_enter2 (k := 271) (N := 300) (by first | exact dq1 hd rfl | exact dq0 hd rfl | exact dq2 hd rfl | exact dq3 hd rfl | omega) rfl (Nat.le_of_ble_eq_true rfl) ?_
        refine g_aload_n 1 (gd rfl) rfl rfl ?_
        refine g_iload_n 2 (gd rfl) rfl rfl ?_
        refine g_iconst 1 3 (gd rfl) rfl rfl ?_
        refine g_callv (X := _) (As := [.int (Int32.ofInt 0), .int (Int32.ofInt 1)]) (r := []) (b := A 109) (q := 109) 6 (gd rfl) rfl rfl rfl rfl rfl (ww_o rfl) (Nat.le_of_ble_eq_true rfl) (mc := 0) (ms := 0) (Nat.zero_le _) (Nat.zero_le _) (P := fun v u => _) ?_ (fun e u h => h) (fun v u h => h)
        intro po6x3 xx6x3 hp6x3 hx6x3
        refine g_enter2 (k := 270) (N := 300) (by first | exact dq1 hd rfl | exact dq0 hd rfl | exact dq2 hd rfl | exact dq3 hd rfl | omega) rfl (Nat.le_of_ble_eq_true rfl) ?_
        refine g_aload_n 1 (gd rfl) rfl rfl ?_
        refine g_iload_n 2 (gd rfl) rfl rfl ?_
        refine g_if_ne 5 9 (gd rfl) rfl rfl (fun c6x3x2 => ?_) (fun c6x3x2 => ?_)
        · skip
          exact zn_ne c6x3x2 (in_c 0 rfl) rfl
        · skip
          refine g_iconst 1 6 (gd rfl) rfl rfl ?_
          refine g_goto 18 (gd rfl) rfl ?_
          refine g_putI 21 (gd rfl) rfl rfl rfl rfl ?_
          have hI6x3x18 := inv_sF (q := 109) (j := 0) hI rfl (in_w 0 2 (in_c 1 rfl) rfl)
          refine g_aload_n 22 (gd rfl) rfl rfl ?_
          refine g_getI 25 (gd rfl) rfl rfl rfl (fun z6x3x22 e6x3x22 => ?_)
          have q6x3x22 : (Int32.ofInt 1) = z6x3x22 := (sF_get).trans e6x3x22.symm
          subst q6x3x22
          refine g_if_le 28 32 (gd rfl) rfl rfl (fun c6x3x25 => ?_) (fun c6x3x25 => ?_)
          · skip
            exact zn_le c6x3x25 (in_c 1 rfl) rfl
          · skip
            refine g_iconst 1 29 (gd rfl) rfl rfl ?_
            refine g_goto 33 (gd rfl) rfl ?_
            refine g_ireturn (gd rfl) rfl (nb01 (in_w 0 1 (in_c 1 rfl) rfl)) (hp6x3 _ _ ?_)
            show GG _ _ _ _ _ _ _ _ [.int (Int32.ofInt 1)] _ _ _
            refine g_ireturn (gd rfl) rfl (nb01 (in_w 0 1 (in_c 1 rfl) rfl)) (hp6 _ _ ?_)
            show GG _ _ _ _ _ _ _ _ [.int (Int32.ofInt 1)] _ _ _
            refine g_if_eq 12 14 (gd rfl) rfl rfl (fun c9 => ?_) (fun c9 => ?_)
            · skip
              exact zn_eq c9 (in_c 1 rfl) rfl
            · skip
              refine g_iconst 0 13 (gd rfl) rfl rfl ?_
              have n13 : SPR s (sF s 109 0 (Int32.ofInt 1)) x1 (Int32.ofInt 0) := by exact Or.inl ⟨rfl, fun h => h.2 (arz_n hI (show z3x21 = s.1 112 (bs s + (x1).toNatClampNeg) from e3x21.trans (congrArg (s.1 112) (show z3x20.toNatClampNeg = bs s + (x1).toNatClampNeg from (by show z3x20.toInt.toNat = (s.2.2.1 109 19).toInt.toNat + (x1).toInt.toNat; rw [← e_109_19]; exact (have a0 := in_u i3x8; have a1 := in_u ro_109_20; have a2 := in_u ro_109_19; have a3 := in_u ((in_c 1 rfl)); have a4 := in_u i3x20; have a5 := t_add e3x20 ro_109_19 i3x8 rfl; have oc := oc_365_109; by omega))))) (by exact (have a0 := in_u i3x8; have a1 := in_u ro_109_20; have a2 := in_u ro_109_19; have a3 := in_u ((in_c 1 rfl)); have a4 := in_u i3x20; have a5 := t_add e3x20 ro_109_19 i3x8 rfl; have oc := oc_365_109; by omega)))⟩
              exact g_ireturn (gd rfl) rfl (nb01 (in_w 0 1 (in_c 0 rfl) rfl)) (hP _ _ ⟨(sF s 109 0 (Int32.ofInt 1)), hI6x3x18, (fr_sF rfl fr_rf), (Int32.ofInt 0), rfl, rfl, in_w 0 1 (in_c 0 rfl) rfl, n13⟩)
      · skip
        have i3x22 := z_ne 1 1 c3x22 i3x21 rfl
        refine g_iconst 1 26 (gd rfl) rfl rfl ?_
        refine g_goto 30 (gd rfl) rfl ?_
        refine g_ireturn (gd rfl) rfl (nb01 (in_w 0 1 (in_c 1 rfl) rfl)) (hp3 _ _ ?_)
        show GG _ _ _ _ _ _ _ _ [.int (Int32.ofInt 1), .ref (A 109)] _ _ _
        refine g_callv (X := _) (As := [.int (Int32.ofInt 1)]) (r := []) (b := A 109) (q := 109) 9 (gd rfl) rfl rfl rfl rfl rfl (ww_o rfl) (Nat.le_of_ble_eq_true rfl) (mc := 0) (ms := 0) (Nat.zero_le _) (Nat.zero_le _) (P := fun v u => _) ?_ (fun e u h => h) (fun v u h => h)
        intro po6 xx6 hp6 hx6
        refine g_enter2 (k := 271) (N := 300) (by first | exact dq1 hd rfl | exact dq0 hd rfl | exact dq2 hd rfl | exact dq3 hd rfl | omega) rfl (Nat.le_of_ble_eq_true rfl) ?_
        refine g_aload_n 1 (gd rfl) rfl rfl ?_
        refine g_iload_n 2 (gd rfl) rfl rfl ?_
        refine g_iconst 1 3 (gd rfl) rfl rfl ?_
        refine g_callv (X := _) (As := [.int (Int32.ofInt 1), .int (Int32.ofInt 1)]) (r := []) (b := A 109) (q := 109) 6 (gd rfl) rfl rfl rfl rfl rfl (ww_o rfl) (Nat.le_of_ble_eq_true rfl) (mc := 0) (ms := 0) (Nat.zero_le _) (Nat.zero_le _) (P := fun v u => _) ?_ (fun e u h => h) (fun v u h => h)
        intro po6x3 xx6x3 hp6x3 hx6x3
        refine g_enter2 (k := 270) (N := 300) (by first | exact dq1 hd rfl | exact dq0 hd rfl | exact dq2 hd rfl | exact dq3 hd rfl | omega) rfl (Nat.le_of_ble_eq_true rfl) ?_
        refine g_aload_n 1 (gd rfl) rfl rfl ?_
        refine g_iload_n 2 (gd rfl) rfl rfl ?_
        refine g_if_ne 5 9 (gd rfl) rfl rfl (fun c6x3x2 => ?_) (fun c6x3x2 => ?_)
        · skip
          refine g_iload_n 10 (gd rfl) rfl rfl ?_
          refine g_if_ne 13 17 (gd rfl) rfl rfl (fun c6x3x10 => ?_) (fun c6x3x10 => ?_)
          · skip
            refine g_iconst 0 18 (gd rfl) rfl rfl ?_
            refine g_putI 21 (gd rfl) rfl rfl rfl rfl ?_
            have hI6x3x18 := inv_sF (q := 109) (j := 0) hI rfl (in_w 0 2 (in_c 0 rfl) rfl)
            refine g_aload_n 22 (gd rfl) rfl rfl ?_
            refine g_getI 25 (gd rfl) rfl rfl rfl (fun z6x3x22 e6x3x22 => ?_)
            have q6x3x22 : (Int32.ofInt 0) = z6x3x22 := (sF_get).trans e6x3x22.symm
            subst q6x3x22
            refine g_if_le 28 32 (gd rfl) rfl rfl (fun c6x3x25 => ?_) (fun c6x3x25 => ?_)
            · skip
              refine g_iconst 0 33 (gd rfl) rfl rfl ?_
              refine g_ireturn (gd rfl) rfl (nb01 (in_w 0 1 (in_c 0 rfl) rfl)) (hp6x3 _ _ ?_)
              show GG _ _ _ _ _ _ _ _ [.int (Int32.ofInt 0)] _ _ _
              refine g_ireturn (gd rfl) rfl (nb01 (in_w 0 1 (in_c 0 rfl) rfl)) (hp6 _ _ ?_)
              show GG _ _ _ _ _ _ _ _ [.int (Int32.ofInt 0)] _ _ _
              refine g_if_eq 12 14 (gd rfl) rfl rfl (fun c9 => ?_) (fun c9 => ?_)
              · skip
                refine g_aload_n 15 (gd rfl) rfl rfl ?_
                refine g_iload_n 16 (gd rfl) rfl rfl ?_
                refine g_callv (X := _) (As := [.int x1]) (r := []) (b := A 109) (q := 109) 19 (gd rfl) rfl rfl rfl rfl rfl (ww_o rfl) (Nat.le_of_ble_eq_true rfl) (mc := 0) (ms := 0) (Nat.zero_le _) (Nat.zero_le _) (P := fun v u => _) ?_ (fun e u h => h) (fun v u h => h)
                intro po16 xx16 hp16 hx16
                refine g_enter2 (k := 288) (N := 300) (by first | exact dq1 hd rfl | exact dq0 hd rfl | exact dq2 hd rfl | exact dq3 hd rfl | omega) rfl (Nat.le_of_ble_eq_true rfl) ?_
                refine g_aload_n 1 (gd rfl) rfl rfl ?_
                refine g_getA (q2 := 112) 4 (gd rfl) rfl rfl rfl rfl ?_
                refine g_aload_n 5 (gd rfl) rfl rfl ?_
                refine g_getI 8 (gd rfl) rfl rfl rfl (fun z16x5 e16x5 => ?_)
                have q16x5 : u_109_19 = z16x5 := (sF_ne rfl (e_109_19)).trans e16x5.symm
                subst q16x5
                refine g_iload_n 9 (gd rfl) rfl rfl ?_
                refine g_iadd 10 (gd rfl) rfl (fun z16x9 e16x9 => ?_)
                have i16x9 := in_add 0 319 e16x9 ro_109_19 i3x8 rfl rfl
                refine g_baload 11 (gd rfl) rfl (n := 480) rfl (in_ix i16x9 rfl) (fun z16x10 e16x10 => ?_)
                have i16x10 := inv_I hI6x3x18 (n := 480) (t := 3) 0 1 rfl (in_ix i16x9 rfl) rfl e16x10
                refine g_if_eq 14 43 (gd rfl) rfl rfl (fun c16x11 => ?_) (fun c16x11 => ?_)
                · skip
                  have i16x11 := z_eq 0 0 c16x11 i16x10 rfl
                  refine g_iconst 0 44 (gd rfl) rfl rfl ?_
                  refine g_ireturn (gd rfl) rfl (nb01 (in_w 0 1 (in_c 0 rfl) rfl)) (hp16 _ _ ?_)
                  show GG _ _ _ _ _ _ _ _ [.int (Int32.ofInt 0)] _ _ _
                  refine g_if_ne 22 24 (gd rfl) rfl rfl (fun c19 => ?_) (fun c19 => ?_)
                  · skip
                    exact zn_ne c19 (in_c 0 rfl) rfl
                  · skip
                    refine g_iconst 0 23 (gd rfl) rfl rfl ?_
                    have n23 : SPR s (sF s 109 0 (Int32.ofInt 0)) x1 (Int32.ofInt 0) := by exfalso; have h9 : z16x10 = z3x21 := (show z16x10 = s.1 112 (bs s + (x1).toNatClampNeg) from e16x10.trans (congrArg (s.1 112) (show z16x9.toNatClampNeg = bs s + (x1).toNatClampNeg from (by show z16x9.toInt.toNat = (s.2.2.1 109 19).toInt.toNat + (x1).toInt.toNat; rw [← e_109_19]; exact (have a0 := in_u i3x8; have a1 := in_u ro_109_20; have a2 := in_u ro_109_19; have a3 := in_u ((in_c 0 rfl)); have a4 := in_u i16x9; have a5 := t_add e16x9 ro_109_19 i3x8 rfl; have a6 := in_u i3x20; have a7 := t_add e3x20 ro_109_19 i3x8 rfl; have oc := oc_365_109; by omega))))).trans (show z3x21 = s.1 112 (bs s + (x1).toNatClampNeg) from e3x21.trans (congrArg (s.1 112) (show z3x20.toNatClampNeg = bs s + (x1).toNatClampNeg from (by show z3x20.toInt.toNat = (s.2.2.1 109 19).toInt.toNat + (x1).toInt.toNat; rw [← e_109_19]; exact (have a0 := in_u i3x8; have a1 := in_u ro_109_20; have a2 := in_u ro_109_19; have a3 := in_u ((in_c 0 rfl)); have a4 := in_u i16x9; have a5 := t_add e16x9 ro_109_19 i3x8 rfl; have a6 := in_u i3x20; have a7 := t_add e3x20 ro_109_19 i3x8 rfl; have oc := oc_365_109; by omega))))).symm; have h8 := congrArg Int32.toInt h9; exact (have a0 := in_u i3x8; have a1 := in_u ro_109_20; have a2 := in_u ro_109_19; have a3 := in_u ((in_c 0 rfl)); have a4 := in_u i16x9; have a5 := t_add e16x9 ro_109_19 i3x8 rfl; have a6 := in_u i3x20; have a7 := t_add e3x20 ro_109_19 i3x8 rfl; have oc := oc_365_109; by omega)
                    exact g_ireturn (gd rfl) rfl (nb01 (in_w 0 1 (in_c 0 rfl) rfl)) (hP _ _ ⟨(sF s 109 0 (Int32.ofInt 0)), hI6x3x18, (fr_sF rfl fr_rf), (Int32.ofInt 0), rfl, rfl, in_w 0 1 (in_c 0 rfl) rfl, n23⟩)
                · skip
                  have i16x11 := z_ne 1 1 c16x11 i16x10 rfl
                  refine g_aload_n 15 (gd rfl) rfl rfl ?_
                  refine g_getA (q2 := 113) 18 (gd rfl) rfl rfl rfl rfl ?_
                  refine g_aload_n 19 (gd rfl) rfl rfl ?_
                  refine g_getI 22 (gd rfl) rfl rfl rfl (fun z16x19 e16x19 => ?_)
                  have q16x19 : u_109_19 = z16x19 := (sF_ne rfl (e_109_19)).trans e16x19.symm
                  subst q16x19
                  refine g_iload_n 23 (gd rfl) rfl rfl ?_
                  refine g_iadd 24 (gd rfl) rfl (fun z16x23 e16x23 => ?_)
                  have i16x23 := in_add 0 319 e16x23 ro_109_19 i3x8 rfl rfl
                  refine g_iaload 25 (gd rfl) rfl (n := 480) rfl (in_ix i16x23 rfl) (fun z16x24 e16x24 => ?_)
                  have i16x24 := inv_I hI6x3x18 (n := 480) (t := 0) 0 31 rfl (in_ix i16x23 rfl) rfl e16x24
                  refine g_aload_n 26 (gd rfl) rfl rfl ?_
                  refine g_getA (q2 := 114) 29 (gd rfl) rfl rfl rfl rfl ?_
                  refine g_aload_n 30 (gd rfl) rfl rfl ?_
                  refine g_getI 33 (gd rfl) rfl rfl rfl (fun z16x30 e16x30 => ?_)
                  have q16x30 : u_109_19 = z16x30 := (sF_ne rfl (e_109_19)).trans e16x30.symm
                  subst q16x30
                  refine g_iload_n 34 (gd rfl) rfl rfl ?_
                  refine g_iadd 35 (gd rfl) rfl (fun z16x34 e16x34 => ?_)
                  have i16x34 := in_add 0 319 e16x34 ro_109_19 i3x8 rfl rfl
                  refine g_iaload 36 (gd rfl) rfl (n := 480) rfl (in_ix i16x34 rfl) (fun z16x35 e16x35 => ?_)
                  have i16x35 := inv_I hI6x3x18 (n := 480) (t := 0) 0 31 rfl (in_ix i16x34 rfl) rfl e16x35
                  refine g_cmp_eq 39 43 (gd rfl) rfl rfl (fun c16x36 => ?_) (fun c16x36 => ?_)
                  · skip
                    refine g_iconst 0 44 (gd rfl) rfl rfl ?_
                    refine g_ireturn (gd rfl) rfl (nb01 (in_w 0 1 (in_c 0 rfl) rfl)) (hp16 _ _ ?_)
                    show GG _ _ _ _ _ _ _ _ [.int (Int32.ofInt 0)] _ _ _
                    refine g_if_ne 22 24 (gd rfl) rfl rfl (fun c19 => ?_) (fun c19 => ?_)
                    · skip
                      exact zn_ne c19 (in_c 0 rfl) rfl
                    · skip
                      refine g_iconst 0 23 (gd rfl) rfl rfl ?_
                      have n23 : SPR s (sF s 109 0 (Int32.ofInt 0)) x1 (Int32.ofInt 0) := by exact Or.inr ⟨rfl, ⟨⟨by exact (have a0 := in_u i3x8; have a1 := in_u ro_109_20; have a2 := in_u ro_109_19; have a3 := in_u ((in_c 0 rfl)); have a4 := in_u i16x34; have a5 := t_add e16x34 ro_109_19 i3x8 rfl; have a6 := in_u i16x23; have a7 := t_add e16x23 ro_109_19 i3x8 rfl; have a8 := in_u i16x9; have a9 := t_add e16x9 ro_109_19 i3x8 rfl; have a10 := in_u i3x20; have a11 := t_add e3x20 ro_109_19 i3x8 rfl; have oc := oc_365_109; by omega), by exact (have a0 := in_u i3x8; have a1 := in_u ro_109_20; have a2 := in_u ro_109_19; have a3 := in_u ((in_c 0 rfl)); have a4 := in_u i16x34; have a5 := t_add e16x34 ro_109_19 i3x8 rfl; have a6 := in_u i16x23; have a7 := t_add e16x23 ro_109_19 i3x8 rfl; have a8 := in_u i16x9; have a9 := t_add e16x9 ro_109_19 i3x8 rfl; have a10 := in_u i3x20; have a11 := t_add e3x20 ro_109_19 i3x8 rfl; have oc := oc_365_109; by omega)⟩, (by rw [(arz_y hI (show (x1).toNatClampNeg < 160 from (by show (x1).toInt.toNat < 160; exact (have a0 := in_u i3x8; have a1 := in_u ro_109_20; have a2 := in_u ro_109_19; have a3 := in_u ((in_c 0 rfl)); have a4 := in_u i16x34; have a5 := t_add e16x34 ro_109_19 i3x8 rfl; have a6 := in_u i16x23; have a7 := t_add e16x23 ro_109_19 i3x8 rfl; have a8 := in_u i16x9; have a9 := t_add e16x9 ro_109_19 i3x8 rfl; have a10 := in_u i3x20; have a11 := t_add e3x20 ro_109_19 i3x8 rfl; have oc := oc_365_109; by omega))) (show z3x21 = s.1 112 (bs s + (x1).toNatClampNeg) from e3x21.trans (congrArg (s.1 112) (show z3x20.toNatClampNeg = bs s + (x1).toNatClampNeg from (by show z3x20.toInt.toNat = (s.2.2.1 109 19).toInt.toNat + (x1).toInt.toNat; rw [← e_109_19]; exact (have a0 := in_u i3x8; have a1 := in_u ro_109_20; have a2 := in_u ro_109_19; have a3 := in_u ((in_c 0 rfl)); have a4 := in_u i16x34; have a5 := t_add e16x34 ro_109_19 i3x8 rfl; have a6 := in_u i16x23; have a7 := t_add e16x23 ro_109_19 i3x8 rfl; have a8 := in_u i16x9; have a9 := t_add e16x9 ro_109_19 i3x8 rfl; have a10 := in_u i3x20; have a11 := t_add e3x20 ro_109_19 i3x8 rfl; have oc := oc_365_109; by omega))))) (by exact (have a0 := in_u i3x8; have a1 := in_u ro_109_20; have a2 := in_u ro_109_19; have a3 := in_u ((in_c 0 rfl)); have a4 := in_u i16x34; have a5 := t_add e16x34 ro_109_19 i3x8 rfl; have a6 := in_u i16x23; have a7 := t_add e16x23 ro_109_19 i3x8 rfl; have a8 := in_u i16x9; have a9 := t_add e16x9 ro_109_19 i3x8 rfl; have a10 := in_u i3x20; have a11 := t_add e3x20 ro_109_19 i3x8 rfl; have oc := oc_365_109; by omega))).1]; omega)⟩, ⟨fun h => absurd rfl h, fun h => absurd h (spr_lp hI (show (x1).toNatClampNeg < 160 from (by show (x1).toInt.toNat < 160; exact (have a0 := in_u i3x8; have a1 := in_u ro_109_20; have a2 := in_u ro_109_19; have a3 := in_u ((in_c 0 rfl)); have a4 := in_u i16x34; have a5 := t_add e16x34 ro_109_19 i3x8 rfl; have a6 := in_u i16x23; have a7 := t_add e16x23 ro_109_19 i3x8 rfl; have a8 := in_u i16x9; have a9 := t_add e16x9 ro_109_19 i3x8 rfl; have a10 := in_u i3x20; have a11 := t_add e3x20 ro_109_19 i3x8 rfl; have oc := oc_365_109; by omega))) (show z16x10 = s.1 112 (bs s + (x1).toNatClampNeg) from e16x10.trans (congrArg (s.1 112) (show z16x9.toNatClampNeg = bs s + (x1).toNatClampNeg from (by show z16x9.toInt.toNat = (s.2.2.1 109 19).toInt.toNat + (x1).toInt.toNat; rw [← e_109_19]; exact (have a0 := in_u i3x8; have a1 := in_u ro_109_20; have a2 := in_u ro_109_19; have a3 := in_u ((in_c 0 rfl)); have a4 := in_u i16x34; have a5 := t_add e16x34 ro_109_19 i3x8 rfl; have a6 := in_u i16x23; have a7 := t_add e16x23 ro_109_19 i3x8 rfl; have a8 := in_u i16x9; have a9 := t_add e16x9 ro_109_19 i3x8 rfl; have a10 := in_u i3x20; have a11 := t_add e3x20 ro_109_19 i3x8 rfl; have oc := oc_365_109; by omega))))) (by exact (have a0 := in_u i3x8; have a1 := in_u ro_109_20; have a2 := in_u ro_109_19; have a3 := in_u ((in_c 0 rfl)); have a4 := in_u i16x34; have a5 := t_add e16x34 ro_109_19 i3x8 rfl; have a6 := in_u i16x23; have a7 := t_add e16x23 ro_109_19 i3x8 rfl; have a8 := in_u i16x9; have a9 := t_add e16x9 ro_109_19 i3x8 rfl; have a10 := in_u i3x20; have a11 := t_add e3x20 ro_109_19 i3x8 rfl; have oc := oc_365_109; by omega)) (show z16x24 = s.1 113 (bs s + (x1).toNatClampNeg) from e16x24.trans (congrArg (s.1 113) (show z16x23.toNatClampNeg = bs s + (x1).toNatClampNeg from (by show z16x23.toInt.toNat = (s.2.2.1 109 19).toInt.toNat + (x1).toInt.toNat; rw [← e_109_19]; exact (have a0 := in_u i3x8; have a1 := in_u ro_109_20; have a2 := in_u ro_109_19; have a3 := in_u ((in_c 0 rfl)); have a4 := in_u i16x34; have a5 := t_add e16x34 ro_109_19 i3x8 rfl; have a6 := in_u i16x23; have a7 := t_add e16x23 ro_109_19 i3x8 rfl; have a8 := in_u i16x9; have a9 := t_add e16x9 ro_109_19 i3x8 rfl; have a10 := in_u i3x20; have a11 := t_add e3x20 ro_109_19 i3x8 rfl; have oc := oc_365_109; by omega))))) (show z16x35 = s.1 114 (bs s + (x1).toNatClampNeg) from e16x35.trans (congrArg (s.1 114) (show z16x34.toNatClampNeg = bs s + (x1).toNatClampNeg from (by show z16x34.toInt.toNat = (s.2.2.1 109 19).toInt.toNat + (x1).toInt.toNat; rw [← e_109_19]; exact (have a0 := in_u i3x8; have a1 := in_u ro_109_20; have a2 := in_u ro_109_19; have a3 := in_u ((in_c 0 rfl)); have a4 := in_u i16x34; have a5 := t_add e16x34 ro_109_19 i3x8 rfl; have a6 := in_u i16x23; have a7 := t_add e16x23 ro_109_19 i3x8 rfl; have a8 := in_u i16x9; have a9 := t_add e16x9 ro_109_19 i3x8 rfl; have a10 := in_u i3x20; have a11 := t_add e3x20 ro_109_19 i3x8 rfl; have oc := oc_365_109; by omega))))) c16x36)⟩⟩
                      exact g_ireturn (gd rfl) rfl (nb01 (in_w 0 1 (in_c 0 rfl) rfl)) (hP _ _ ⟨(sF s 109 0 (Int32.ofInt 0)), hI6x3x18, (fr_sF rfl fr_rf), (Int32.ofInt 0), rfl, rfl, in_w 0 1 (in_c 0 rfl) rfl, n23⟩)
                  · skip
                    refine g_iconst 1 40 (gd rfl) rfl rfl ?_
                    refine g_goto 44 (gd rfl) rfl ?_
                    refine g_ireturn (gd rfl) rfl (nb01 (in_w 0 1 (in_c 1 rfl) rfl)) (hp16 _ _ ?_)
                    show GG _ _ _ _ _ _ _ _ [.int (Int32.ofInt 1)] _ _ _
                    refine g_if_ne 22 24 (gd rfl) rfl rfl (fun c19 => ?_) (fun c19 => ?_)
                    · skip
                      refine g_iconst 0 25 (gd rfl) rfl rfl ?_
                      refine g_istore_n 26 (gd rfl) rfl (Nat.le_of_ble_eq_true rfl) ?_
                      have n26 : JZ s (x1).toNatClampNeg := by exact ⟨by rw [← (show z16x10 = s.1 112 (bs s + (x1).toNatClampNeg) from e16x10.trans (congrArg (s.1 112) (show z16x9.toNatClampNeg = bs s + (x1).toNatClampNeg from (by show z16x9.toInt.toNat = (s.2.2.1 109 19).toInt.toNat + (x1).toInt.toNat; rw [← e_109_19]; exact (have a0 := in_u i3x8; have a1 := in_u ro_109_20; have a2 := in_u ro_109_19; have a3 := in_u ((in_c 0 rfl)); have a4 := in_u i16x34; have a5 := t_add e16x34 ro_109_19 i3x8 rfl; have a6 := in_u i16x23; have a7 := t_add e16x23 ro_109_19 i3x8 rfl; have a8 := in_u i16x9; have a9 := t_add e16x9 ro_109_19 i3x8 rfl; have a10 := in_u i3x20; have a11 := t_add e3x20 ro_109_19 i3x8 rfl; have oc := oc_365_109; by omega)))))]; exact (have a0 := in_u i3x8; have a1 := in_u ro_109_20; have a2 := in_u ro_109_19; have a3 := in_u ((in_c 0 rfl)); have a4 := in_u i16x34; have a5 := t_add e16x34 ro_109_19 i3x8 rfl; have a6 := in_u i16x23; have a7 := t_add e16x23 ro_109_19 i3x8 rfl; have a8 := in_u i16x9; have a9 := t_add e16x9 ro_109_19 i3x8 rfl; have a10 := in_u i3x20; have a11 := t_add e3x20 ro_109_19 i3x8 rfl; have oc := oc_365_109; by omega), by rw [← (show z16x24 = s.1 113 (bs s + (x1).toNatClampNeg) from e16x24.trans (congrArg (s.1 113) (show z16x23.toNatClampNeg = bs s + (x1).toNatClampNeg from (by show z16x23.toInt.toNat = (s.2.2.1 109 19).toInt.toNat + (x1).toInt.toNat; rw [← e_109_19]; exact (have a0 := in_u i3x8; have a1 := in_u ro_109_20; have a2 := in_u ro_109_19; have a3 := in_u ((in_c 0 rfl)); have a4 := in_u i16x34; have a5 := t_add e16x34 ro_109_19 i3x8 rfl; have a6 := in_u i16x23; have a7 := t_add e16x23 ro_109_19 i3x8 rfl; have a8 := in_u i16x9; have a9 := t_add e16x9 ro_109_19 i3x8 rfl; have a10 := in_u i3x20; have a11 := t_add e3x20 ro_109_19 i3x8 rfl; have oc := oc_365_109; by omega))))), ← (show z16x35 = s.1 114 (bs s + (x1).toNatClampNeg) from e16x35.trans (congrArg (s.1 114) (show z16x34.toNatClampNeg = bs s + (x1).toNatClampNeg from (by show z16x34.toInt.toNat = (s.2.2.1 109 19).toInt.toNat + (x1).toInt.toNat; rw [← e_109_19]; exact (have a0 := in_u i3x8; have a1 := in_u ro_109_20; have a2 := in_u ro_109_19; have a3 := in_u ((in_c 0 rfl)); have a4 := in_u i16x34; have a5 := t_add e16x34 ro_109_19 i3x8 rfl; have a6 := in_u i16x23; have a7 := t_add e16x23 ro_109_19 i3x8 rfl; have a8 := in_u i16x9; have a9 := t_add e16x9 ro_109_19 i3x8 rfl; have a10 := in_u i3x20; have a11 := t_add e3x20 ro_109_19 i3x8 rfl; have oc := oc_365_109; by omega)))))]; exact c16x36⟩
                      have n26a : (∀ v : Nat, (v : Int) < ((Int32.ofInt 0)).toInt → ((((sF s 109 0 (Int32.ofInt 0))).1 160 v)).toNatClampNeg = v) := by intro v hv; exfalso; have h0 : (Int32.ofInt 0).toInt = 0 := rfl; omega
                      have n26b : (((sF s 109 0 (Int32.ofInt 0))).2.2.1 109 0).toInt = 0 := by rfl
                      exact gg_w (by first | exact Nat.le_of_ble_eq_true rfl | omega) (gg_f (gf_cons rfl (gf_cons rfl (gf_cons rfl gf_nil))) (ct26 33 (sF s 109 0 (Int32.ofInt 0)) (Int32.ofInt 0) hI6x3x18 (fr_sF rfl fr_rf) (in_w 0 159 i3x8 rfl) (in_w 0 32 (in_c 0 rfl) rfl) n26 n26a n26b (m_in 33 (in_w 0 32 (in_c 0 rfl) rfl) rfl)))
                    · skip
                      exact zn_eq c19 (in_c 1 rfl) rfl
              · skip
                exact zn_ne c9 (in_c 0 rfl) rfl
            · skip
              exact zn_gt c6x3x25 (in_c 0 rfl) rfl
          · skip
            exact zn_eq c6x3x10 (in_c 1 rfl) rfl
        · skip
          exact zn_eq c6x3x2 (in_c 1 rfl) rfl
