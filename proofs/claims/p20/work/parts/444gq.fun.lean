section
/-! FUNCTIONAL CONTRACTS, by fgen.py -/
theorem oc_198_49_2 : (Int32.ofInt (-1)).toInt = (-1) ∧ (Int32.ofInt 0).toInt = 0 ∧ (Int32.ofInt 1).toInt = 1 ∧ (Int64.ofInt 0).toInt = 0 ∧ (Int64.ofInt 9223372036854775807).toInt = 9223372036854775807 := ⟨rfl, rfl, rfl, rfl, rfl⟩
set_option maxHeartbeats 4000000 in
/-- GraphHouse$Ways.measure -/
theorem f_198_49_2 {Z : AmZ} {A : Nat → Nat} {s : GS} {ex : va_W} {d : Nat} {X : AmX} {x2 : Int32} (hd : 5 ≤ d) (hI : Inv s) (h2 : In x2 0 31) (q_0 : TQ s) (q_1 : NDQ (gvC s)) (q_2 : FXB (gvC s) s) (q_3 : (x2).toInt < (s.2.2.1 2 1).toInt) : GC Z d 198 [.ref (A 49), .ref (A 2), .int x2] (WW Z A s ++ ex) 0 0 (fun v u => ∃ t : GS, Inv t ∧ Fr fm_198_49_2 s t ∧ v = none ∧ u = WW Z A t ++ ex ∧ (FXQ (gvC s) t ∧ (t).2.2.1 49 1 = x2) ∧ (((t).2.2.1 2 4).toInt = ((t).2.2.1 2 0).toInt)) X := by
  intro post xp hP hX
  obtain ⟨u_2_0, e_2_0⟩ : ∃ w, w = s.2.2.1 2 0 := ⟨_, rfl⟩
  have ro_2_0 := inv_F hI 0 4000 rfl e_2_0
  obtain ⟨u_2_1, e_2_1⟩ : ∃ w, w = s.2.2.1 2 1 := ⟨_, rfl⟩
  have ro_2_1 := inv_F hI 0 32 rfl e_2_1
  have ct61 : ∀ (k61 : Nat) (sc61 : GS) (y61_3 : Int32) (y61_4 : Int32) (w61_2_4 : Int32) (w61_2_0 : Int32), Inv sc61 → Fr fm_198_49_2 s sc61 → (In y61_4 0 32) → (w61_2_4 = sc61.2.2.1 2 4) → (w61_2_0 = sc61.2.2.1 2 0) → ((w61_2_4).toInt = (w61_2_0).toInt) → (RND (gvC s) (x2).toNatClampNeg (y61_4).toNatClampNeg ((sc61).2.1 50) (y61_3)) → ((sc61).2.2.1 49 0 = s.2.2.1 2 0 ∧ (sc61).2.2.1 49 1 = x2) → 32 - (y61_4).toInt < (k61 : Int) → GG Z (d - 1) 198 post (gx xp) (1 + k61 * 900) 61 (fun j => xlook j [(0, .ref (A 49)), (1, .ref (A 2)), (2, .int x2), (3, .int y61_3), (4, .int y61_4)]) [] (WW Z A sc61 ++ ex) 0 0 := by
    intro k61
    induction k61 with
    | zero => intro sc61 y61_3 y61_4 w61_2_4 w61_2_0 hIc61 hFc61 j61_4 v61_2_4 v61_2_0 n61_0 g61_0 g61_1 mm61; exact m_no mm61 j61_4 rfl
    | succ k61 ih61 =>
      intro sc61 y61_3 y61_4 w61_2_4 w61_2_0 hIc61 hFc61 j61_4 v61_2_4 v61_2_0 n61_0 g61_0 g61_1 mm61
      refine gg_w (M := 1 + k61 * 900 + 900) gws ?_
      refine g_iload 63 (gd rfl) rfl rfl ?_
      refine g_aload_n 64 (gd rfl) rfl rfl ?_
      refine g_getI 67 (gd rfl) rfl rfl rfl (fun z64 e64 => ?_)
      have q64 : u_2_1 = z64 := (fr_F e_2_1 hFc61 rfl).trans e64.symm
      subst q64
      refine g_cmp_ge 70 87 (gd rfl) rfl rfl (fun c67 => ?_) (fun c67 => ?_)
      · skip
        refine g_aload_n 88 (gd rfl) rfl rfl ?_
        refine g_iload_n 89 (gd rfl) rfl rfl ?_
        refine g_if_ne 92 96 (gd rfl) rfl rfl (fun c89 => ?_) (fun c89 => ?_)
        · skip
          refine g_aload_n 97 (gd rfl) rfl rfl ?_
          refine g_getA (q2 := 11) 100 (gd rfl) rfl rfl rfl rfl ?_
          refine g_aload_n 101 (gd rfl) rfl rfl ?_
          refine g_aload_n 102 (gd rfl) rfl rfl ?_
          refine g_iload_n 103 (gd rfl) rfl rfl ?_
          have n103 : (w61_2_4).toInt = (w61_2_0).toInt := by first | exact n61_0 | (exact (have a0 := in_u h2; have a1 := in_u ro_2_1; have a2 := in_u ((inv_F hIc61 0 4000 rfl v61_2_0)); have a3 := in_u ((inv_F hIc61 (-1) 4000 rfl v61_2_4)); have a4 := in_u j61_4; have oc := oc_198_49_2; by omega))
          have p103 : TQ sc61 := by exact tq_fr q_0 hFc61 rfl
          have p103a : NDQ (gvC sc61) := by rw [(show gvC sc61 = gvC s from gvC_cg hFc61 rfl)]; exact q_1
          refine g_callv (X := _) (As := [.ref (A 2), .int y61_3]) (r := [.ref (A 11), .ref (A 49)]) (b := A 49) (q := 49) 106 (gd rfl) rfl rfl rfl rfl rfl (ww_o rfl) (Nat.le_of_ble_eq_true rfl) (Nat.zero_le _) (Nat.zero_le _) (f_199_49_2 (by first | exact dq1 hd rfl | exact dq0 hd rfl | exact dq2 hd rfl | exact dq3 hd rfl | omega) hIc61 v61_2_4 v61_2_0 n103 p103 p103a) (fun e u h => h) (fun v u h => ?_)
          obtain ⟨s103, hI103, hF103, z103, rfl, rfl, i103, p103b⟩ := h
          show GG _ _ _ _ _ _ _ _ [.int z103, .ref (A 11), .ref (A 49)] _ _ _
          refine g_iconst (-1) 107 (gd rfl) rfl rfl ?_
          refine g_calls (As := [.ref (A 11), .int z103, .int (Int32.ofInt (-1))]) (r := [.ref (A 49)]) 110 (gd rfl) rfl rfl rfl rfl rfl (Nat.le_of_ble_eq_true rfl) (Nat.zero_le _) (Nat.zero_le _) (f_266_11 (by first | exact dq1 hd rfl | exact dq0 hd rfl | exact dq2 hd rfl | exact dq3 hd rfl | omega) hI103 (in_w (-1) (-1) (in_c (-1) rfl) rfl)) (fun v u h => ?_)
          obtain ⟨z107, rfl, rfl, i107, p107, p107a⟩ := h
          show GG _ _ _ _ _ _ _ _ [.int z107, .ref (A 49)] _ _ _
          refine g_putI 113 (gd rfl) rfl rfl rfl rfl ?_
          have hI110 := inv_sF (q := 49) (j := 2) hI103 rfl (in_w (-2147483648) 2147483647 i107 rfl)
          have n113 : FXQ (gvC s) (sF s103 49 2 z107) ∧ ((sF s103 49 2 z107)).2.2.1 49 1 = x2 := by have h9 := p103b (x2).toNatClampNeg (y61_4).toNatClampNeg (show (y61_4).toNatClampNeg ≤ 40 from (by show (y61_4).toInt.toNat ≤ 40; exact (have a0 := in_u h2; have a1 := in_u ro_2_1; have a2 := in_u ((inv_F hIc61 0 4000 rfl v61_2_0)); have a3 := in_u ((inv_F hIc61 (-1) 4000 rfl v61_2_4)); have a4 := in_u j61_4; have oc := oc_198_49_2; by omega))) (by rw [(show gvC sc61 = gvC s from gvC_cg hFc61 rfl)]; exact g61_0.1); rw [(show gvC sc61 = gvC s from gvC_cg hFc61 rfl)] at h9; refine fxq_i (show (((sF s103 49 2 z107)).2.2.1 49 0).toInt = (gvC s).2.2.2.2.2.2.2 from (by show _ = (s.2.2.1 2 0).toInt; rw [show ((sF s103 49 2 z107)).2.2.1 49 0 = s103.2.2.1 49 0 from rfl, hF103.2.2.1 49 0 rfl, g61_1.1])) ((show ((sF s103 49 2 z107)).2.2.1 49 1 = s103.2.2.1 49 1 from rfl).trans ((hF103.2.2.1 49 1 rfl).trans g61_1.2)) ?_; have fe := fe_2 hI103 (fr_tr (L := fm_198_49_2) rfl hFc61 hF103) rfl rfl rfl (show (s103.2.2.1 2 4).toInt = (s103.2.2.1 2 0).toInt from (by rw [hF103.2.2.1 2 4 rfl, hF103.2.2.1 2 0 rfl, ← v61_2_4, ← v61_2_0]; exact n61_0)) q_0; exact fex_1 (ndq_ga q_1 (show ((((s.2.2.1 2 1).toInt.toNat : Nat)) : Int) = (gvC s).2.2.2.2.2.2.1 from (by show _ = (s.2.2.1 2 1).toInt; rw [← e_2_1]; exact (have a0 := in_u h2; have a1 := in_u ro_2_1; have a2 := in_u ((inv_F hIc61 0 4000 rfl v61_2_0)); have a3 := in_u ((inv_F hIc61 (-1) 4000 rfl v61_2_4)); have a4 := in_u j61_4; have oc := oc_198_49_2; by omega)))) (show (s.2.2.1 2 1).toInt.toNat ≤ 32 from (by rw [← e_2_1]; exact (have a0 := in_u h2; have a1 := in_u ro_2_1; have a2 := in_u ((inv_F hIc61 0 4000 rfl v61_2_0)); have a3 := in_u ((inv_F hIc61 (-1) 4000 rfl v61_2_4)); have a4 := in_u j61_4; have oc := oc_198_49_2; by omega))) (show (x2).toNatClampNeg < (s.2.2.1 2 1).toInt.toNat from (by have h9 := q_3; rw [← e_2_1] at h9 ⊢; show (x2).toInt.toNat < _; exact (have a0 := in_u h2; have a1 := in_u ro_2_1; have a2 := in_u ((inv_F hIc61 0 4000 rfl v61_2_0)); have a3 := in_u ((inv_F hIc61 (-1) 4000 rfl v61_2_4)); have a4 := in_u j61_4; have oc := oc_198_49_2; by omega))) (by show _ ≤ (y61_4).toInt.toNat; rw [← e_2_1]; exact (have a0 := in_u h2; have a1 := in_u ro_2_1; have a2 := in_u ((inv_F hIc61 0 4000 rfl v61_2_0)); have a3 := in_u ((inv_F hIc61 (-1) 4000 rfl v61_2_4)); have a4 := in_u j61_4; have oc := oc_198_49_2; by omega)) (show (y61_4).toNatClampNeg ≤ 40 from (by show (y61_4).toInt.toNat ≤ 40; exact (have a0 := in_u h2; have a1 := in_u ro_2_1; have a2 := in_u ((inv_F hIc61 0 4000 rfl v61_2_0)); have a3 := in_u ((inv_F hIc61 (-1) 4000 rfl v61_2_4)); have a4 := in_u j61_4; have oc := oc_198_49_2; by omega))) (gw_C hI) g61_0 h9 (fld_in fe.2.1 p107a)
          have n113a : (((sF s103 49 2 z107)).2.2.1 2 4).toInt = (((sF s103 49 2 z107)).2.2.1 2 0).toInt := by rw [show ((sF s103 49 2 z107)).2.2.1 2 4 = s103.2.2.1 2 4 from rfl, show ((sF s103 49 2 z107)).2.2.1 2 0 = s103.2.2.1 2 0 from rfl, hF103.2.2.1 2 4 rfl, hF103.2.2.1 2 0 rfl, ← v61_2_4, ← v61_2_0]; exact n61_0
          exact g_return (gd rfl) rfl (hP _ _ ⟨(sF s103 49 2 z107), hI110, (fr_sF rfl (fr_tr rfl hFc61 hF103)), rfl, rfl, n113, n113a⟩)
        · skip
          have i89 := z_eq 0 0 c89 (i_rng y61_3) rfl
          refine g_iconst 0 93 (gd rfl) rfl rfl ?_
          refine g_goto 110 (gd rfl) rfl ?_
          refine g_putI 113 (gd rfl) rfl rfl rfl rfl ?_
          have hI110 := inv_sF (q := 49) (j := 2) hIc61 rfl (in_w (-2147483648) 2147483647 (in_c 0 rfl) rfl)
          have n113 : FXQ (gvC s) (sF sc61 49 2 (Int32.ofInt 0)) ∧ ((sF sc61 49 2 (Int32.ofInt 0))).2.2.1 49 1 = x2 := by refine fxq_i (show (((sF sc61 49 2 (Int32.ofInt 0))).2.2.1 49 0).toInt = (gvC s).2.2.2.2.2.2.2 from (by show _ = (s.2.2.1 2 0).toInt; rw [show ((sF sc61 49 2 (Int32.ofInt 0))).2.2.1 49 0 = sc61.2.2.1 49 0 from rfl, g61_1.1])) ((show ((sF sc61 49 2 (Int32.ofInt 0))).2.2.1 49 1 = sc61.2.2.1 49 1 from rfl).trans g61_1.2) ?_; exact fex_0 (fun p u v hp => by have h8 := ndq_ga q_1 (show ((((s.2.2.1 2 1).toInt.toNat : Nat)) : Int) = (gvC s).2.2.2.2.2.2.1 from (by show _ = (s.2.2.1 2 1).toInt; rw [← e_2_1]; exact (have a0 := in_u i89; have a1 := in_u h2; have a2 := in_u ro_2_1; have a3 := in_u ((inv_F hIc61 0 4000 rfl v61_2_0)); have a4 := in_u ((inv_F hIc61 (-1) 4000 rfl v61_2_4)); have a5 := in_u j61_4; have a6 := in_u ((in_c 0 rfl)); have oc := oc_198_49_2; by omega))) p u v hp; have h7 := (show (s.2.2.1 2 1).toInt.toNat ≤ 32 from (by rw [← e_2_1]; exact (have a0 := in_u i89; have a1 := in_u h2; have a2 := in_u ro_2_1; have a3 := in_u ((inv_F hIc61 0 4000 rfl v61_2_0)); have a4 := in_u ((inv_F hIc61 (-1) 4000 rfl v61_2_4)); have a5 := in_u j61_4; have a6 := in_u ((in_c 0 rfl)); have oc := oc_198_49_2; by omega))); omega) (show (x2).toNatClampNeg < 32 from (by show (x2).toInt.toNat < 32; exact (have a0 := in_u i89; have a1 := in_u h2; have a2 := in_u ro_2_1; have a3 := in_u ((inv_F hIc61 0 4000 rfl v61_2_0)); have a4 := in_u ((inv_F hIc61 (-1) 4000 rfl v61_2_4)); have a5 := in_u j61_4; have a6 := in_u ((in_c 0 rfl)); have oc := oc_198_49_2; by omega))) g61_0 (fun v => by rw [show y61_3 = Int32.ofInt 0 from Int32.toInt_inj.mp c89]; exact bt_z) (fun v => bt_z) (gw_C hI) (show (y61_4).toNatClampNeg ≤ 40 from (by show (y61_4).toInt.toNat ≤ 40; exact (have a0 := in_u i89; have a1 := in_u h2; have a2 := in_u ro_2_1; have a3 := in_u ((inv_F hIc61 0 4000 rfl v61_2_0)); have a4 := in_u ((inv_F hIc61 (-1) 4000 rfl v61_2_4)); have a5 := in_u j61_4; have a6 := in_u ((in_c 0 rfl)); have oc := oc_198_49_2; by omega)))
          have n113a : (((sF sc61 49 2 (Int32.ofInt 0))).2.2.1 2 4).toInt = (((sF sc61 49 2 (Int32.ofInt 0))).2.2.1 2 0).toInt := by rw [show ((sF sc61 49 2 (Int32.ofInt 0))).2.2.1 2 4 = sc61.2.2.1 2 4 from rfl, show ((sF sc61 49 2 (Int32.ofInt 0))).2.2.1 2 0 = sc61.2.2.1 2 0 from rfl, ← v61_2_4, ← v61_2_0]; exact n61_0
          exact g_return (gd rfl) rfl (hP _ _ ⟨(sF sc61 49 2 (Int32.ofInt 0)), hI110, (fr_sF rfl hFc61), rfl, rfl, n113, n113a⟩)
      · skip
        have i67 := r_lt1 0 31 c67 j61_4 ro_2_1 rfl
        have i67a := r_lt2 1 32 c67 j61_4 ro_2_1 rfl
        refine g_iload_n 71 (gd rfl) rfl rfl ?_
        refine g_if_eq 74 87 (gd rfl) rfl rfl (fun c71 => ?_) (fun c71 => ?_)
        · skip
          have i71 := z_eq 0 0 c71 (i_rng y61_3) rfl
          refine g_aload_n 88 (gd rfl) rfl rfl ?_
          refine g_iload_n 89 (gd rfl) rfl rfl ?_
          refine g_if_ne 92 96 (gd rfl) rfl rfl (fun c89 => ?_) (fun c89 => ?_)
          · skip
            exact zn_ne c89 i71 rfl
          · skip
            refine g_iconst 0 93 (gd rfl) rfl rfl ?_
            refine g_goto 110 (gd rfl) rfl ?_
            refine g_putI 113 (gd rfl) rfl rfl rfl rfl ?_
            have hI110 := inv_sF (q := 49) (j := 2) hIc61 rfl (in_w (-2147483648) 2147483647 (in_c 0 rfl) rfl)
            have n113 : FXQ (gvC s) (sF sc61 49 2 (Int32.ofInt 0)) ∧ ((sF sc61 49 2 (Int32.ofInt 0))).2.2.1 49 1 = x2 := by refine fxq_i (show (((sF sc61 49 2 (Int32.ofInt 0))).2.2.1 49 0).toInt = (gvC s).2.2.2.2.2.2.2 from (by show _ = (s.2.2.1 2 0).toInt; rw [show ((sF sc61 49 2 (Int32.ofInt 0))).2.2.1 49 0 = sc61.2.2.1 49 0 from rfl, g61_1.1])) ((show ((sF sc61 49 2 (Int32.ofInt 0))).2.2.1 49 1 = sc61.2.2.1 49 1 from rfl).trans g61_1.2) ?_; exact fex_0 (fun p u v hp => by have h8 := ndq_ga q_1 (show ((((s.2.2.1 2 1).toInt.toNat : Nat)) : Int) = (gvC s).2.2.2.2.2.2.1 from (by show _ = (s.2.2.1 2 1).toInt; rw [← e_2_1]; exact (have a0 := in_u i71; have a1 := in_u h2; have a2 := in_u i67a; have a3 := in_u ((inv_F hIc61 0 4000 rfl v61_2_0)); have a4 := in_u ((inv_F hIc61 (-1) 4000 rfl v61_2_4)); have a5 := in_u i67; have a6 := in_u ((in_c 0 rfl)); have oc := oc_198_49_2; by omega))) p u v hp; have h7 := (show (s.2.2.1 2 1).toInt.toNat ≤ 32 from (by rw [← e_2_1]; exact (have a0 := in_u i71; have a1 := in_u h2; have a2 := in_u i67a; have a3 := in_u ((inv_F hIc61 0 4000 rfl v61_2_0)); have a4 := in_u ((inv_F hIc61 (-1) 4000 rfl v61_2_4)); have a5 := in_u i67; have a6 := in_u ((in_c 0 rfl)); have oc := oc_198_49_2; by omega))); omega) (show (x2).toNatClampNeg < 32 from (by show (x2).toInt.toNat < 32; exact (have a0 := in_u i71; have a1 := in_u h2; have a2 := in_u i67a; have a3 := in_u ((inv_F hIc61 0 4000 rfl v61_2_0)); have a4 := in_u ((inv_F hIc61 (-1) 4000 rfl v61_2_4)); have a5 := in_u i67; have a6 := in_u ((in_c 0 rfl)); have oc := oc_198_49_2; by omega))) g61_0 (fun v => by rw [show y61_3 = Int32.ofInt 0 from Int32.toInt_inj.mp c89]; exact bt_z) (fun v => bt_z) (gw_C hI) (show (y61_4).toNatClampNeg ≤ 40 from (by show (y61_4).toInt.toNat ≤ 40; exact (have a0 := in_u i71; have a1 := in_u h2; have a2 := in_u i67a; have a3 := in_u ((inv_F hIc61 0 4000 rfl v61_2_0)); have a4 := in_u ((inv_F hIc61 (-1) 4000 rfl v61_2_4)); have a5 := in_u i67; have a6 := in_u ((in_c 0 rfl)); have oc := oc_198_49_2; by omega)))
            have n113a : (((sF sc61 49 2 (Int32.ofInt 0))).2.2.1 2 4).toInt = (((sF sc61 49 2 (Int32.ofInt 0))).2.2.1 2 0).toInt := by rw [show ((sF sc61 49 2 (Int32.ofInt 0))).2.2.1 2 4 = sc61.2.2.1 2 4 from rfl, show ((sF sc61 49 2 (Int32.ofInt 0))).2.2.1 2 0 = sc61.2.2.1 2 0 from rfl, ← v61_2_4, ← v61_2_0]; exact n61_0
            exact g_return (gd rfl) rfl (hP _ _ ⟨(sF sc61 49 2 (Int32.ofInt 0)), hI110, (fr_sF rfl hFc61), rfl, rfl, n113, n113a⟩)
        · skip
          refine g_aload_n 75 (gd rfl) rfl rfl ?_
          refine g_aload_n 76 (gd rfl) rfl rfl ?_
          refine g_iload_n 77 (gd rfl) rfl rfl ?_
          have n77 : (w61_2_4).toInt = (w61_2_0).toInt := by first | exact n61_0 | (exact (have a0 := in_u h2; have a1 := in_u i67a; have a2 := in_u ((inv_F hIc61 0 4000 rfl v61_2_0)); have a3 := in_u ((inv_F hIc61 (-1) 4000 rfl v61_2_4)); have a4 := in_u i67; have oc := oc_198_49_2; by omega))
          have p77 : TQ sc61 := by exact tq_fr q_0 hFc61 rfl
          have p77a : NDQ (gvC sc61) := by rw [(show gvC sc61 = gvC s from gvC_cg hFc61 rfl)]; exact q_1
          refine g_callv (X := _) (As := [.ref (A 2), .int y61_3]) (r := []) (b := A 49) (q := 49) 80 (gd rfl) rfl rfl rfl rfl rfl (ww_o rfl) (Nat.le_of_ble_eq_true rfl) (Nat.zero_le _) (Nat.zero_le _) (f_199_49_2 (by first | exact dq1 hd rfl | exact dq0 hd rfl | exact dq2 hd rfl | exact dq3 hd rfl | omega) hIc61 v61_2_4 v61_2_0 n77 p77 p77a) (fun e u h => h) (fun v u h => ?_)
          obtain ⟨s77, hI77, hF77, z77, rfl, rfl, i77, p77b⟩ := h
          show GG _ _ _ _ _ _ _ _ [.int z77] _ _ _
          refine g_istore_n 81 (gd rfl) rfl (Nat.le_of_ble_eq_true rfl) ?_
          refine g_iinc 84 (gd rfl) rfl rfl (Nat.le_of_ble_eq_true rfl) (fun z81 e81 => ?_)
          have i81 := in_add 1 32 e81 i67 (in_c 1 rfl) rfl rfl
          refine g_goto 61 (gd rfl) rfl ?_
          have v61 : w61_2_4 = s77.2.2.1 2 4 := fr_F (v61_2_4) hF77 rfl
          have v61a : w61_2_0 = s77.2.2.1 2 0 := fr_F (v61_2_0) hF77 rfl
          have n61 : (w61_2_4).toInt = (w61_2_0).toInt := by first | exact n61_0 | (exact (have a0 := in_u h2; have a1 := in_u i67a; have a2 := in_u ((inv_F hIc61 0 4000 rfl v61_2_0)); have a3 := in_u ((inv_F hIc61 (-1) 4000 rfl v61_2_4)); have a4 := in_u i67; have a5 := in_u i81; have a6 := t_add e81 i67 (in_c 1 rfl) rfl; have a7 := in_u ((in_c 1 rfl)); have oc := oc_198_49_2; by omega))
          have n61a : RND (gvC s) (x2).toNatClampNeg (z81).toNatClampNeg ((s77).2.1 50) (z77) := by have h9 := p77b (x2).toNatClampNeg (y61_4).toNatClampNeg (show (y61_4).toNatClampNeg ≤ 40 from (by show (y61_4).toInt.toNat ≤ 40; exact (have a0 := in_u h2; have a1 := in_u i67a; have a2 := in_u ((inv_F hIc61 0 4000 rfl v61_2_0)); have a3 := in_u ((inv_F hIc61 (-1) 4000 rfl v61_2_4)); have a4 := in_u i67; have a5 := in_u i81; have a6 := t_add e81 i67 (in_c 1 rfl) rfl; have a7 := in_u ((in_c 1 rfl)); have oc := oc_198_49_2; by omega))) (by rw [(show gvC sc61 = gvC s from gvC_cg hFc61 rfl)]; exact g61_0.1); rw [(show gvC sc61 = gvC s from gvC_cg hFc61 rfl)] at h9; rw [(show (z81).toNatClampNeg = (y61_4).toNatClampNeg + 1 from (by show (z81).toInt.toNat = (y61_4).toInt.toNat + 1; exact (have a0 := in_u h2; have a1 := in_u i67a; have a2 := in_u ((inv_F hIc61 0 4000 rfl v61_2_0)); have a3 := in_u ((inv_F hIc61 (-1) 4000 rfl v61_2_4)); have a4 := in_u i67; have a5 := in_u i81; have a6 := t_add e81 i67 (in_c 1 rfl) rfl; have a7 := in_u ((in_c 1 rfl)); have oc := oc_198_49_2; by omega)))]; exact rnd_s (fun p u v hp => by have h8 := ndq_ga q_1 (show ((((s.2.2.1 2 1).toInt.toNat : Nat)) : Int) = (gvC s).2.2.2.2.2.2.1 from (by show _ = (s.2.2.1 2 1).toInt; rw [← e_2_1]; exact (have a0 := in_u h2; have a1 := in_u i67a; have a2 := in_u ((inv_F hIc61 0 4000 rfl v61_2_0)); have a3 := in_u ((inv_F hIc61 (-1) 4000 rfl v61_2_4)); have a4 := in_u i67; have a5 := in_u i81; have a6 := t_add e81 i67 (in_c 1 rfl) rfl; have a7 := in_u ((in_c 1 rfl)); have oc := oc_198_49_2; by omega))) p u v hp; have h7 := (show (s.2.2.1 2 1).toInt.toNat ≤ 32 from (by rw [← e_2_1]; exact (have a0 := in_u h2; have a1 := in_u i67a; have a2 := in_u ((inv_F hIc61 0 4000 rfl v61_2_0)); have a3 := in_u ((inv_F hIc61 (-1) 4000 rfl v61_2_4)); have a4 := in_u i67; have a5 := in_u i81; have a6 := t_add e81 i67 (in_c 1 rfl) rfl; have a7 := in_u ((in_c 1 rfl)); have oc := oc_198_49_2; by omega))); omega) (gw_C hI) (show (y61_4).toNatClampNeg ≤ 40 from (by show (y61_4).toInt.toNat ≤ 40; exact (have a0 := in_u h2; have a1 := in_u i67a; have a2 := in_u ((inv_F hIc61 0 4000 rfl v61_2_0)); have a3 := in_u ((inv_F hIc61 (-1) 4000 rfl v61_2_4)); have a4 := in_u i67; have a5 := in_u i81; have a6 := t_add e81 i67 (in_c 1 rfl) rfl; have a7 := in_u ((in_c 1 rfl)); have oc := oc_198_49_2; by omega))) g61_0 h9
          have n61b : (s77).2.2.1 49 0 = s.2.2.1 2 0 ∧ (s77).2.2.1 49 1 = x2 := by exact ⟨(hF77.2.2.1 49 0 rfl).trans g61_1.1, (hF77.2.2.1 49 1 rfl).trans g61_1.2⟩
          exact gg_w (by first | exact Nat.le_add_right _ _ | exact gw2 | exact gw3 | exact gwe rfl | exact gwf rfl | exact gwg rfl | exact gwh rfl | omega) (gg_f (gf_cons rfl (gf_cons rfl (gf_cons rfl (gf_cons rfl (gf_cons rfl gf_nil))))) (ih61 s77 z77 z81 w61_2_4 w61_2_0 hI77 (fr_tr rfl hFc61 hF77) (in_w 0 32 i81 rfl) v61 v61a n61 n61a n61b (m_up mm61 (t_add e81 i67 (in_c 1 rfl) rfl) (in_w 1 1 (in_c 1 rfl) rfl))))
  refine g_enter2 (k := 198) (N := 30601) (by first | exact dq1 hd rfl | exact dq0 hd rfl | exact dq2 hd rfl | exact dq3 hd rfl | omega) rfl (Nat.le_of_ble_eq_true rfl) ?_
  refine g_aload_n 1 (gd rfl) rfl rfl ?_
  refine g_callv (X := _) (As := []) (r := []) (b := A 2) (q := 2) 4 (gd rfl) rfl rfl rfl rfl rfl (ww_o rfl) (Nat.le_of_ble_eq_true rfl) (Nat.zero_le _) (Nat.zero_le _) (k_106_2 (by first | exact dq1 hd rfl | exact dq0 hd rfl | exact dq2 hd rfl | exact dq3 hd rfl | omega) hI ) (fun e u h => h) (fun v u h => ?_)
  obtain ⟨s1, hI1, hF1, n1, rfl, rfl⟩ := h
  obtain ⟨z1a, e1⟩ : ∃ w, w = s1.2.2.1 2 4 := ⟨_, rfl⟩
  have i1a := inv_F hI1 (-1) 4000 rfl e1
  rw [← (show z1a = s1.2.2.1 2 4 from e1)] at n1
  rw [← (show u_2_0 = s1.2.2.1 2 0 from fr_F (e_2_0) hF1 rfl)] at n1
  show GG _ _ _ _ _ _ _ _ [] _ _ _
  refine g_aload_n 5 (gd rfl) rfl rfl ?_
  refine g_getI 8 (gd rfl) rfl rfl rfl (fun z5 e5 => ?_)
  have i5 := inv_F hI1 (-1) 4000 rfl e5
  refine g_aload_n 9 (gd rfl) rfl rfl ?_
  refine g_getI 12 (gd rfl) rfl rfl rfl (fun z9 e9 => ?_)
  have q9 : u_2_0 = z9 := (fr_F (e_2_0) hF1 rfl).trans e9.symm
  subst q9
  refine g_cmp_ne 15 24 (gd rfl) rfl rfl (fun c12 => ?_) (fun c12 => ?_)
  · skip
    refine g_aload_n 25 (gd rfl) rfl rfl ?_
    refine g_aload_n 26 (gd rfl) rfl rfl ?_
    refine g_getI 29 (gd rfl) rfl rfl rfl (fun z26 e26 => ?_)
    have q26 : u_2_0 = z26 := (fr_F (e_2_0) hF1 rfl).trans e26.symm
    subst q26
    refine g_putI 32 (gd rfl) rfl rfl rfl rfl ?_
    have hI29 := inv_sF (q := 49) (j := 0) hI1 rfl (in_w (-1) 4000 ro_2_0 rfl)
    refine g_aload_n 33 (gd rfl) rfl rfl ?_
    refine g_iload_n 34 (gd rfl) rfl rfl ?_
    refine g_putI 37 (gd rfl) rfl rfl rfl rfl ?_
    have hI34 := inv_sF (q := 49) (j := 1) hI29 rfl (in_w 0 31 h2 rfl)
    refine g_aload_n 38 (gd rfl) rfl rfl ?_
    refine g_getA (q2 := 50) 41 (gd rfl) rfl rfl rfl rfl ?_
    refine g_ldc2_w 9223372036854775807 44 (gd rfl) rfl rfl ?_
    refine g_calls (As := [.ref (A 50), .long (Int64.ofInt 9223372036854775807)]) (r := []) 47 (gd rfl) rfl rfl rfl rfl rfl (Nat.le_of_ble_eq_true rfl) (Nat.zero_le _) (Nat.zero_le _) (k_fillL 50 (by first | exact dq1 hd rfl | exact dq0 hd rfl | exact dq2 hd rfl | exact dq3 hd rfl | omega) hI34 (n := 32) rfl rfl rfl (l_rng (Int64.ofInt 9223372036854775807))) (fun v u h => ?_)
    obtain ⟨s44, hI44, hF44, rfl, rfl, fl44⟩ := h
    show GG _ _ _ _ _ _ _ _ [] _ _ _
    refine g_aload_n 48 (gd rfl) rfl rfl ?_
    refine g_getA (q2 := 50) 51 (gd rfl) rfl rfl rfl rfl ?_
    refine g_iload_n 52 (gd rfl) rfl rfl ?_
    refine g_lconst 0 53 (gd rfl) rfl rfl ?_
    refine g_lastore 54 (gd rfl) rfl (n := 32) rfl (in_ix h2 rfl) ?_
    have hI53 := inv_sL (q := 50) (j := x2.toNatClampNeg) (x := (Int64.ofInt 0)) hI44 rfl (l_rng (Int64.ofInt 0))
    refine g_iconst 1 55 (gd rfl) rfl rfl ?_
    refine g_iload_n 56 (gd rfl) rfl rfl ?_
    refine g_ishl 57 (gd rfl) rfl (fun z56 e56 => ?_)
    refine g_istore_n 58 (gd rfl) rfl (Nat.le_of_ble_eq_true rfl) ?_
    refine g_iconst 0 59 (gd rfl) rfl rfl ?_
    refine g_istore 61 (gd rfl) rfl (Nat.le_of_ble_eq_true rfl) ?_
    have v61 : z1a = (sL s44 50 x2.toNatClampNeg (Int64.ofInt 0)).2.2.1 2 4 := sL_F (fr_F (s := (sF (sF s1 49 0 u_2_0) 49 1 x2)) (sF_ne rfl (sF_ne rfl (e1))) hF44 rfl)
    have v61a : u_2_0 = (sL s44 50 x2.toNatClampNeg (Int64.ofInt 0)).2.2.1 2 0 := sL_F (fr_F (s := (sF (sF s1 49 0 u_2_0) 49 1 x2)) (sF_ne rfl (sF_ne rfl (fr_F (e_2_0) hF1 rfl))) hF44 rfl)
    have n61 : (z1a).toInt = (u_2_0).toInt := by exact (have a0 := in_u ro_2_1; have a1 := in_u ro_2_0; have a2 := in_u h2; have a3 := in_u ((in_c 0 rfl)); have a4 := in_u i1a; have oc := oc_198_49_2; by omega)
    have n61a : RND (gvC s) (x2).toNatClampNeg ((Int32.ofInt 0)).toNatClampNeg (((sL s44 50 x2.toNatClampNeg (Int64.ofInt 0))).2.1 50) (z56) := by exact (show RND _ _ 0 _ _ from rnd_0 (show (x2).toNatClampNeg < 32 from (by show (x2).toInt.toNat < 32; exact (have a0 := in_u ro_2_1; have a1 := in_u ro_2_0; have a2 := in_u h2; have a3 := in_u ((in_c 0 rfl)); have a4 := in_u i1a; have oc := oc_198_49_2; by omega))) (by rw [sL_qb, ul_eq]; rfl) (fun v hv ne => by rw [sL_qb, ul_ne ne, fl44 v hv]; rfl) (fun v _ => bt_one e56 h2))
    have n61b : ((sL s44 50 x2.toNatClampNeg (Int64.ofInt 0))).2.2.1 49 0 = s.2.2.1 2 0 ∧ ((sL s44 50 x2.toNatClampNeg (Int64.ofInt 0))).2.2.1 49 1 = x2 := by refine ⟨?_, ?_⟩; (show s44.2.2.1 49 0 = _; rw [hF44.2.2.1 49 0 rfl]; exact e_2_0); (show s44.2.2.1 49 1 = _; rw [hF44.2.2.1 49 1 rfl]; rfl)
    exact gg_w (by first | exact Nat.le_of_ble_eq_true rfl | omega) (gg_f (gf_cons rfl (gf_cons rfl (gf_cons rfl (gf_cons rfl (gf_cons rfl gf_nil))))) (ct61 33 (sL s44 50 x2.toNatClampNeg (Int64.ofInt 0)) z56 (Int32.ofInt 0) z1a u_2_0 hI53 (fr_sL rfl (fr_tr rfl (fr_sF rfl (fr_sF rfl (fr_tr rfl fr_rf hF1))) hF44)) (in_w 0 32 (in_c 0 rfl) rfl) v61 v61a n61 n61a n61b (m_in 33 (in_w 0 32 (in_c 0 rfl) rfl) rfl)))
  · skip
    have i12 := r_eq1 0 4000 c12 i5 ro_2_0 rfl
    refine g_aload_n 16 (gd rfl) rfl rfl ?_
    refine g_getI 19 (gd rfl) rfl rfl rfl (fun z16 e16 => ?_)
    have i16 := inv_F hI1 0 31 rfl e16
    refine g_iload_n 20 (gd rfl) rfl rfl ?_
    refine g_cmp_ne 23 24 (gd rfl) rfl rfl (fun c20 => ?_) (fun c20 => ?_)
    · skip
      refine g_aload_n 25 (gd rfl) rfl rfl ?_
      refine g_aload_n 26 (gd rfl) rfl rfl ?_
      refine g_getI 29 (gd rfl) rfl rfl rfl (fun z26 e26 => ?_)
      have q26 : u_2_0 = z26 := (fr_F (e_2_0) hF1 rfl).trans e26.symm
      subst q26
      refine g_putI 32 (gd rfl) rfl rfl rfl rfl ?_
      have hI29 := inv_sF (q := 49) (j := 0) hI1 rfl (in_w (-1) 4000 ro_2_0 rfl)
      refine g_aload_n 33 (gd rfl) rfl rfl ?_
      refine g_iload_n 34 (gd rfl) rfl rfl ?_
      refine g_putI 37 (gd rfl) rfl rfl rfl rfl ?_
      have hI34 := inv_sF (q := 49) (j := 1) hI29 rfl (in_w 0 31 h2 rfl)
      refine g_aload_n 38 (gd rfl) rfl rfl ?_
      refine g_getA (q2 := 50) 41 (gd rfl) rfl rfl rfl rfl ?_
      refine g_ldc2_w 9223372036854775807 44 (gd rfl) rfl rfl ?_
      refine g_calls (As := [.ref (A 50), .long (Int64.ofInt 9223372036854775807)]) (r := []) 47 (gd rfl) rfl rfl rfl rfl rfl (Nat.le_of_ble_eq_true rfl) (Nat.zero_le _) (Nat.zero_le _) (k_fillL 50 (by first | exact dq1 hd rfl | exact dq0 hd rfl | exact dq2 hd rfl | exact dq3 hd rfl | omega) hI34 (n := 32) rfl rfl rfl (l_rng (Int64.ofInt 9223372036854775807))) (fun v u h => ?_)
      obtain ⟨s44, hI44, hF44, rfl, rfl, fl44⟩ := h
      show GG _ _ _ _ _ _ _ _ [] _ _ _
      refine g_aload_n 48 (gd rfl) rfl rfl ?_
      refine g_getA (q2 := 50) 51 (gd rfl) rfl rfl rfl rfl ?_
      refine g_iload_n 52 (gd rfl) rfl rfl ?_
      refine g_lconst 0 53 (gd rfl) rfl rfl ?_
      refine g_lastore 54 (gd rfl) rfl (n := 32) rfl (in_ix h2 rfl) ?_
      have hI53 := inv_sL (q := 50) (j := x2.toNatClampNeg) (x := (Int64.ofInt 0)) hI44 rfl (l_rng (Int64.ofInt 0))
      refine g_iconst 1 55 (gd rfl) rfl rfl ?_
      refine g_iload_n 56 (gd rfl) rfl rfl ?_
      refine g_ishl 57 (gd rfl) rfl (fun z56 e56 => ?_)
      refine g_istore_n 58 (gd rfl) rfl (Nat.le_of_ble_eq_true rfl) ?_
      refine g_iconst 0 59 (gd rfl) rfl rfl ?_
      refine g_istore 61 (gd rfl) rfl (Nat.le_of_ble_eq_true rfl) ?_
      have v61 : z1a = (sL s44 50 x2.toNatClampNeg (Int64.ofInt 0)).2.2.1 2 4 := sL_F (fr_F (s := (sF (sF s1 49 0 u_2_0) 49 1 x2)) (sF_ne rfl (sF_ne rfl (e1))) hF44 rfl)
      have v61a : u_2_0 = (sL s44 50 x2.toNatClampNeg (Int64.ofInt 0)).2.2.1 2 0 := sL_F (fr_F (s := (sF (sF s1 49 0 u_2_0) 49 1 x2)) (sF_ne rfl (sF_ne rfl (fr_F (e_2_0) hF1 rfl))) hF44 rfl)
      have n61 : (z1a).toInt = (u_2_0).toInt := by exact (have a0 := in_u ro_2_1; have a1 := in_u ro_2_0; have a2 := in_u h2; have a3 := in_u ((in_c 0 rfl)); have a4 := in_u i1a; have oc := oc_198_49_2; by omega)
      have n61a : RND (gvC s) (x2).toNatClampNeg ((Int32.ofInt 0)).toNatClampNeg (((sL s44 50 x2.toNatClampNeg (Int64.ofInt 0))).2.1 50) (z56) := by exact (show RND _ _ 0 _ _ from rnd_0 (show (x2).toNatClampNeg < 32 from (by show (x2).toInt.toNat < 32; exact (have a0 := in_u ro_2_1; have a1 := in_u ro_2_0; have a2 := in_u h2; have a3 := in_u ((in_c 0 rfl)); have a4 := in_u i1a; have oc := oc_198_49_2; by omega))) (by rw [sL_qb, ul_eq]; rfl) (fun v hv ne => by rw [sL_qb, ul_ne ne, fl44 v hv]; rfl) (fun v _ => bt_one e56 h2))
      have n61b : ((sL s44 50 x2.toNatClampNeg (Int64.ofInt 0))).2.2.1 49 0 = s.2.2.1 2 0 ∧ ((sL s44 50 x2.toNatClampNeg (Int64.ofInt 0))).2.2.1 49 1 = x2 := by refine ⟨?_, ?_⟩; (show s44.2.2.1 49 0 = _; rw [hF44.2.2.1 49 0 rfl]; exact e_2_0); (show s44.2.2.1 49 1 = _; rw [hF44.2.2.1 49 1 rfl]; rfl)
      exact gg_w (by first | exact Nat.le_of_ble_eq_true rfl | omega) (gg_f (gf_cons rfl (gf_cons rfl (gf_cons rfl (gf_cons rfl (gf_cons rfl gf_nil))))) (ct61 33 (sL s44 50 x2.toNatClampNeg (Int64.ofInt 0)) z56 (Int32.ofInt 0) z1a u_2_0 hI53 (fr_sL rfl (fr_tr rfl (fr_sF rfl (fr_sF rfl (fr_tr rfl fr_rf hF1))) hF44)) (in_w 0 32 (in_c 0 rfl) rfl) v61 v61a n61 n61a n61b (m_in 33 (in_w 0 32 (in_c 0 rfl) rfl) rfl)))
    · skip
      have n23 : FXQ (gvC s) s1 ∧ (s1).2.2.1 49 1 = x2 := by have c9 : (s1.2.2.1 49 0).toInt = (gvC s).2.2.2.2.2.2.2 := (by show _ = (s.2.2.1 2 0).toInt; rw [← e5, ← e_2_0]; first | exact c12 | exact c12.symm); have a1 : s1.2.2.1 49 1 = x2 := Int32.toInt_inj.mp (by rw [← e16]; first | exact c20 | exact c20.symm); refine fxq_i c9 a1 ?_; have k9 := q_2 (by rw [← hF1.2.2.1 49 0 rfl]; exact c9); rw [← hF1.2.2.1 49 1 rfl, ← hF1.2.1 50 rfl, ← hF1.2.2.1 49 2 rfl, a1] at k9; exact k9
      have n23a : ((s1).2.2.1 2 4).toInt = ((s1).2.2.1 2 0).toInt := by rw [← (show z1a = s1.2.2.1 2 4 from e1), ← (show u_2_0 = s1.2.2.1 2 0 from fr_F (e_2_0) hF1 rfl)]; exact n1
      exact g_return (gd rfl) rfl (hP _ _ ⟨s1, hI1, (fr_tr rfl fr_rf hF1), rfl, rfl, n23, n23a⟩)

theorem oc_198_49_32 : (Int32.ofInt (-1)).toInt = (-1) ∧ (Int32.ofInt 0).toInt = 0 ∧ (Int32.ofInt 1).toInt = 1 ∧ (Int64.ofInt 0).toInt = 0 ∧ (Int64.ofInt 9223372036854775807).toInt = 9223372036854775807 := ⟨rfl, rfl, rfl, rfl, rfl⟩
set_option maxHeartbeats 4000000 in
/-- GraphHouse$Ways.measure -/
theorem f_198_49_32 {Z : AmZ} {A : Nat → Nat} {s : GS} {ex : va_W} {d : Nat} {X : AmX} {x2 : Int32} (hd : 5 ≤ d) (hI : Inv s) (h2 : In x2 0 31) (q_0 : TQD s) (q_1 : NDQ (gvD s)) (q_2 : FXB (gvD s) s) (q_3 : (x2).toInt < (s.2.2.1 32 1).toInt) : GC Z d 198 [.ref (A 49), .ref (A 32), .int x2] (WW Z A s ++ ex) 0 0 (fun v u => ∃ t : GS, Inv t ∧ Fr fm_198_49_32 s t ∧ v = none ∧ u = WW Z A t ++ ex ∧ (FXQ (gvD s) t ∧ (t).2.2.1 49 1 = x2) ∧ (((t).2.2.1 32 4).toInt = ((t).2.2.1 32 0).toInt)) X := by
  intro post xp hP hX
  obtain ⟨u_32_0, e_32_0⟩ : ∃ w, w = s.2.2.1 32 0 := ⟨_, rfl⟩
  have ro_32_0 := inv_F hI 0 4000 rfl e_32_0
  obtain ⟨u_32_1, e_32_1⟩ : ∃ w, w = s.2.2.1 32 1 := ⟨_, rfl⟩
  have ro_32_1 := inv_F hI 0 32 rfl e_32_1
  have ct61 : ∀ (k61 : Nat) (sc61 : GS) (y61_3 : Int32) (y61_4 : Int32) (w61_32_4 : Int32) (w61_32_0 : Int32), Inv sc61 → Fr fm_198_49_32 s sc61 → (In y61_4 0 32) → (w61_32_4 = sc61.2.2.1 32 4) → (w61_32_0 = sc61.2.2.1 32 0) → ((w61_32_4).toInt = (w61_32_0).toInt) → (RND (gvD s) (x2).toNatClampNeg (y61_4).toNatClampNeg ((sc61).2.1 50) (y61_3)) → ((sc61).2.2.1 49 0 = s.2.2.1 32 0 ∧ (sc61).2.2.1 49 1 = x2) → 32 - (y61_4).toInt < (k61 : Int) → GG Z (d - 1) 198 post (gx xp) (1 + k61 * 900) 61 (fun j => xlook j [(0, .ref (A 49)), (1, .ref (A 32)), (2, .int x2), (3, .int y61_3), (4, .int y61_4)]) [] (WW Z A sc61 ++ ex) 0 0 := by
    intro k61
    induction k61 with
    | zero => intro sc61 y61_3 y61_4 w61_32_4 w61_32_0 hIc61 hFc61 j61_4 v61_32_4 v61_32_0 n61_0 g61_0 g61_1 mm61; exact m_no mm61 j61_4 rfl
    | succ k61 ih61 =>
      intro sc61 y61_3 y61_4 w61_32_4 w61_32_0 hIc61 hFc61 j61_4 v61_32_4 v61_32_0 n61_0 g61_0 g61_1 mm61
      refine gg_w (M := 1 + k61 * 900 + 900) gws ?_
      refine g_iload 63 (gd rfl) rfl rfl ?_
      refine g_aload_n 64 (gd rfl) rfl rfl ?_
      refine g_getI 67 (gd rfl) rfl rfl rfl (fun z64 e64 => ?_)
      have q64 : u_32_1 = z64 := (fr_F e_32_1 hFc61 rfl).trans e64.symm
      subst q64
      refine g_cmp_ge 70 87 (gd rfl) rfl rfl (fun c67 => ?_) (fun c67 => ?_)
      · skip
        refine g_aload_n 88 (gd rfl) rfl rfl ?_
        refine g_iload_n 89 (gd rfl) rfl rfl ?_
        refine g_if_ne 92 96 (gd rfl) rfl rfl (fun c89 => ?_) (fun c89 => ?_)
        · skip
          refine g_aload_n 97 (gd rfl) rfl rfl ?_
          refine g_getA (q2 := 41) 100 (gd rfl) rfl rfl rfl rfl ?_
          refine g_aload_n 101 (gd rfl) rfl rfl ?_
          refine g_aload_n 102 (gd rfl) rfl rfl ?_
          refine g_iload_n 103 (gd rfl) rfl rfl ?_
          have n103 : (w61_32_4).toInt = (w61_32_0).toInt := by first | exact n61_0 | (exact (have a0 := in_u h2; have a1 := in_u ro_32_1; have a2 := in_u ((inv_F hIc61 0 4000 rfl v61_32_0)); have a3 := in_u ((inv_F hIc61 (-1) 4000 rfl v61_32_4)); have a4 := in_u j61_4; have oc := oc_198_49_32; by omega))
          have p103 : TQD sc61 := by exact tqd_fr q_0 hFc61 rfl
          have p103a : NDQ (gvD sc61) := by rw [(show gvD sc61 = gvD s from gvD_fr hFc61 rfl)]; exact q_1
          refine g_callv (X := _) (As := [.ref (A 32), .int y61_3]) (r := [.ref (A 41), .ref (A 49)]) (b := A 49) (q := 49) 106 (gd rfl) rfl rfl rfl rfl rfl (ww_o rfl) (Nat.le_of_ble_eq_true rfl) (Nat.zero_le _) (Nat.zero_le _) (f_199_49_32 (by first | exact dq1 hd rfl | exact dq0 hd rfl | exact dq2 hd rfl | exact dq3 hd rfl | omega) hIc61 v61_32_4 v61_32_0 n103 p103 p103a) (fun e u h => h) (fun v u h => ?_)
          obtain ⟨s103, hI103, hF103, z103, rfl, rfl, i103, p103b⟩ := h
          show GG _ _ _ _ _ _ _ _ [.int z103, .ref (A 41), .ref (A 49)] _ _ _
          refine g_iconst (-1) 107 (gd rfl) rfl rfl ?_
          refine g_calls (As := [.ref (A 41), .int z103, .int (Int32.ofInt (-1))]) (r := [.ref (A 49)]) 110 (gd rfl) rfl rfl rfl rfl rfl (Nat.le_of_ble_eq_true rfl) (Nat.zero_le _) (Nat.zero_le _) (f_266_41 (by first | exact dq1 hd rfl | exact dq0 hd rfl | exact dq2 hd rfl | exact dq3 hd rfl | omega) hI103 (in_w (-1) (-1) (in_c (-1) rfl) rfl)) (fun v u h => ?_)
          obtain ⟨z107, rfl, rfl, i107, p107, p107a⟩ := h
          show GG _ _ _ _ _ _ _ _ [.int z107, .ref (A 49)] _ _ _
          refine g_putI 113 (gd rfl) rfl rfl rfl rfl ?_
          have hI110 := inv_sF (q := 49) (j := 2) hI103 rfl (in_w (-2147483648) 2147483647 i107 rfl)
          have n113 : FXQ (gvD s) (sF s103 49 2 z107) ∧ ((sF s103 49 2 z107)).2.2.1 49 1 = x2 := by have h9 := p103b (x2).toNatClampNeg (y61_4).toNatClampNeg (show (y61_4).toNatClampNeg ≤ 40 from (by show (y61_4).toInt.toNat ≤ 40; exact (have a0 := in_u h2; have a1 := in_u ro_32_1; have a2 := in_u ((inv_F hIc61 0 4000 rfl v61_32_0)); have a3 := in_u ((inv_F hIc61 (-1) 4000 rfl v61_32_4)); have a4 := in_u j61_4; have oc := oc_198_49_32; by omega))) (by rw [(show gvD sc61 = gvD s from gvD_fr hFc61 rfl)]; exact g61_0.1); rw [(show gvD sc61 = gvD s from gvD_fr hFc61 rfl)] at h9; refine fxq_i (show (((sF s103 49 2 z107)).2.2.1 49 0).toInt = (gvD s).2.2.2.2.2.2.2 from (by show _ = (s.2.2.1 32 0).toInt; rw [show ((sF s103 49 2 z107)).2.2.1 49 0 = s103.2.2.1 49 0 from rfl, hF103.2.2.1 49 0 rfl, g61_1.1])) ((show ((sF s103 49 2 z107)).2.2.1 49 1 = s103.2.2.1 49 1 from rfl).trans ((hF103.2.2.1 49 1 rfl).trans g61_1.2)) ?_; have fe := fe_32 hI103 (fr_tr (L := fm_198_49_32) rfl hFc61 hF103) rfl rfl rfl (show (s103.2.2.1 32 4).toInt = (s103.2.2.1 32 0).toInt from (by rw [hF103.2.2.1 32 4 rfl, hF103.2.2.1 32 0 rfl, ← v61_32_4, ← v61_32_0]; exact n61_0)) q_0; exact fex_1 (ndq_ga q_1 (show ((((s.2.2.1 32 1).toInt.toNat : Nat)) : Int) = (gvD s).2.2.2.2.2.2.1 from (by show _ = (s.2.2.1 32 1).toInt; rw [← e_32_1]; exact (have a0 := in_u h2; have a1 := in_u ro_32_1; have a2 := in_u ((inv_F hIc61 0 4000 rfl v61_32_0)); have a3 := in_u ((inv_F hIc61 (-1) 4000 rfl v61_32_4)); have a4 := in_u j61_4; have oc := oc_198_49_32; by omega)))) (show (s.2.2.1 32 1).toInt.toNat ≤ 32 from (by rw [← e_32_1]; exact (have a0 := in_u h2; have a1 := in_u ro_32_1; have a2 := in_u ((inv_F hIc61 0 4000 rfl v61_32_0)); have a3 := in_u ((inv_F hIc61 (-1) 4000 rfl v61_32_4)); have a4 := in_u j61_4; have oc := oc_198_49_32; by omega))) (show (x2).toNatClampNeg < (s.2.2.1 32 1).toInt.toNat from (by have h9 := q_3; rw [← e_32_1] at h9 ⊢; show (x2).toInt.toNat < _; exact (have a0 := in_u h2; have a1 := in_u ro_32_1; have a2 := in_u ((inv_F hIc61 0 4000 rfl v61_32_0)); have a3 := in_u ((inv_F hIc61 (-1) 4000 rfl v61_32_4)); have a4 := in_u j61_4; have oc := oc_198_49_32; by omega))) (by show _ ≤ (y61_4).toInt.toNat; rw [← e_32_1]; exact (have a0 := in_u h2; have a1 := in_u ro_32_1; have a2 := in_u ((inv_F hIc61 0 4000 rfl v61_32_0)); have a3 := in_u ((inv_F hIc61 (-1) 4000 rfl v61_32_4)); have a4 := in_u j61_4; have oc := oc_198_49_32; by omega)) (show (y61_4).toNatClampNeg ≤ 40 from (by show (y61_4).toInt.toNat ≤ 40; exact (have a0 := in_u h2; have a1 := in_u ro_32_1; have a2 := in_u ((inv_F hIc61 0 4000 rfl v61_32_0)); have a3 := in_u ((inv_F hIc61 (-1) 4000 rfl v61_32_4)); have a4 := in_u j61_4; have oc := oc_198_49_32; by omega))) (gw_D hI) g61_0 h9 (fld_in fe.2.1 p107a)
          have n113a : (((sF s103 49 2 z107)).2.2.1 32 4).toInt = (((sF s103 49 2 z107)).2.2.1 32 0).toInt := by rw [show ((sF s103 49 2 z107)).2.2.1 32 4 = s103.2.2.1 32 4 from rfl, show ((sF s103 49 2 z107)).2.2.1 32 0 = s103.2.2.1 32 0 from rfl, hF103.2.2.1 32 4 rfl, hF103.2.2.1 32 0 rfl, ← v61_32_4, ← v61_32_0]; exact n61_0
          exact g_return (gd rfl) rfl (hP _ _ ⟨(sF s103 49 2 z107), hI110, (fr_sF rfl (fr_tr rfl hFc61 hF103)), rfl, rfl, n113, n113a⟩)
        · skip
          have i89 := z_eq 0 0 c89 (i_rng y61_3) rfl
          refine g_iconst 0 93 (gd rfl) rfl rfl ?_
          refine g_goto 110 (gd rfl) rfl ?_
          refine g_putI 113 (gd rfl) rfl rfl rfl rfl ?_
          have hI110 := inv_sF (q := 49) (j := 2) hIc61 rfl (in_w (-2147483648) 2147483647 (in_c 0 rfl) rfl)
          have n113 : FXQ (gvD s) (sF sc61 49 2 (Int32.ofInt 0)) ∧ ((sF sc61 49 2 (Int32.ofInt 0))).2.2.1 49 1 = x2 := by refine fxq_i (show (((sF sc61 49 2 (Int32.ofInt 0))).2.2.1 49 0).toInt = (gvD s).2.2.2.2.2.2.2 from (by show _ = (s.2.2.1 32 0).toInt; rw [show ((sF sc61 49 2 (Int32.ofInt 0))).2.2.1 49 0 = sc61.2.2.1 49 0 from rfl, g61_1.1])) ((show ((sF sc61 49 2 (Int32.ofInt 0))).2.2.1 49 1 = sc61.2.2.1 49 1 from rfl).trans g61_1.2) ?_; exact fex_0 (fun p u v hp => by have h8 := ndq_ga q_1 (show ((((s.2.2.1 32 1).toInt.toNat : Nat)) : Int) = (gvD s).2.2.2.2.2.2.1 from (by show _ = (s.2.2.1 32 1).toInt; rw [← e_32_1]; exact (have a0 := in_u i89; have a1 := in_u h2; have a2 := in_u ro_32_1; have a3 := in_u ((inv_F hIc61 0 4000 rfl v61_32_0)); have a4 := in_u ((inv_F hIc61 (-1) 4000 rfl v61_32_4)); have a5 := in_u j61_4; have a6 := in_u ((in_c 0 rfl)); have oc := oc_198_49_32; by omega))) p u v hp; have h7 := (show (s.2.2.1 32 1).toInt.toNat ≤ 32 from (by rw [← e_32_1]; exact (have a0 := in_u i89; have a1 := in_u h2; have a2 := in_u ro_32_1; have a3 := in_u ((inv_F hIc61 0 4000 rfl v61_32_0)); have a4 := in_u ((inv_F hIc61 (-1) 4000 rfl v61_32_4)); have a5 := in_u j61_4; have a6 := in_u ((in_c 0 rfl)); have oc := oc_198_49_32; by omega))); omega) (show (x2).toNatClampNeg < 32 from (by show (x2).toInt.toNat < 32; exact (have a0 := in_u i89; have a1 := in_u h2; have a2 := in_u ro_32_1; have a3 := in_u ((inv_F hIc61 0 4000 rfl v61_32_0)); have a4 := in_u ((inv_F hIc61 (-1) 4000 rfl v61_32_4)); have a5 := in_u j61_4; have a6 := in_u ((in_c 0 rfl)); have oc := oc_198_49_32; by omega))) g61_0 (fun v => by rw [show y61_3 = Int32.ofInt 0 from Int32.toInt_inj.mp c89]; exact bt_z) (fun v => bt_z) (gw_D hI) (show (y61_4).toNatClampNeg ≤ 40 from (by show (y61_4).toInt.toNat ≤ 40; exact (have a0 := in_u i89; have a1 := in_u h2; have a2 := in_u ro_32_1; have a3 := in_u ((inv_F hIc61 0 4000 rfl v61_32_0)); have a4 := in_u ((inv_F hIc61 (-1) 4000 rfl v61_32_4)); have a5 := in_u j61_4; have a6 := in_u ((in_c 0 rfl)); have oc := oc_198_49_32; by omega)))
          have n113a : (((sF sc61 49 2 (Int32.ofInt 0))).2.2.1 32 4).toInt = (((sF sc61 49 2 (Int32.ofInt 0))).2.2.1 32 0).toInt := by rw [show ((sF sc61 49 2 (Int32.ofInt 0))).2.2.1 32 4 = sc61.2.2.1 32 4 from rfl, show ((sF sc61 49 2 (Int32.ofInt 0))).2.2.1 32 0 = sc61.2.2.1 32 0 from rfl, ← v61_32_4, ← v61_32_0]; exact n61_0
          exact g_return (gd rfl) rfl (hP _ _ ⟨(sF sc61 49 2 (Int32.ofInt 0)), hI110, (fr_sF rfl hFc61), rfl, rfl, n113, n113a⟩)
      · skip
        have i67 := r_lt1 0 31 c67 j61_4 ro_32_1 rfl
        have i67a := r_lt2 1 32 c67 j61_4 ro_32_1 rfl
        refine g_iload_n 71 (gd rfl) rfl rfl ?_
        refine g_if_eq 74 87 (gd rfl) rfl rfl (fun c71 => ?_) (fun c71 => ?_)
        · skip
          have i71 := z_eq 0 0 c71 (i_rng y61_3) rfl
          refine g_aload_n 88 (gd rfl) rfl rfl ?_
          refine g_iload_n 89 (gd rfl) rfl rfl ?_
          refine g_if_ne 92 96 (gd rfl) rfl rfl (fun c89 => ?_) (fun c89 => ?_)
          · skip
            exact zn_ne c89 i71 rfl
          · skip
            refine g_iconst 0 93 (gd rfl) rfl rfl ?_
            refine g_goto 110 (gd rfl) rfl ?_
            refine g_putI 113 (gd rfl) rfl rfl rfl rfl ?_
            have hI110 := inv_sF (q := 49) (j := 2) hIc61 rfl (in_w (-2147483648) 2147483647 (in_c 0 rfl) rfl)
            have n113 : FXQ (gvD s) (sF sc61 49 2 (Int32.ofInt 0)) ∧ ((sF sc61 49 2 (Int32.ofInt 0))).2.2.1 49 1 = x2 := by refine fxq_i (show (((sF sc61 49 2 (Int32.ofInt 0))).2.2.1 49 0).toInt = (gvD s).2.2.2.2.2.2.2 from (by show _ = (s.2.2.1 32 0).toInt; rw [show ((sF sc61 49 2 (Int32.ofInt 0))).2.2.1 49 0 = sc61.2.2.1 49 0 from rfl, g61_1.1])) ((show ((sF sc61 49 2 (Int32.ofInt 0))).2.2.1 49 1 = sc61.2.2.1 49 1 from rfl).trans g61_1.2) ?_; exact fex_0 (fun p u v hp => by have h8 := ndq_ga q_1 (show ((((s.2.2.1 32 1).toInt.toNat : Nat)) : Int) = (gvD s).2.2.2.2.2.2.1 from (by show _ = (s.2.2.1 32 1).toInt; rw [← e_32_1]; exact (have a0 := in_u i71; have a1 := in_u h2; have a2 := in_u i67a; have a3 := in_u ((inv_F hIc61 0 4000 rfl v61_32_0)); have a4 := in_u ((inv_F hIc61 (-1) 4000 rfl v61_32_4)); have a5 := in_u i67; have a6 := in_u ((in_c 0 rfl)); have oc := oc_198_49_32; by omega))) p u v hp; have h7 := (show (s.2.2.1 32 1).toInt.toNat ≤ 32 from (by rw [← e_32_1]; exact (have a0 := in_u i71; have a1 := in_u h2; have a2 := in_u i67a; have a3 := in_u ((inv_F hIc61 0 4000 rfl v61_32_0)); have a4 := in_u ((inv_F hIc61 (-1) 4000 rfl v61_32_4)); have a5 := in_u i67; have a6 := in_u ((in_c 0 rfl)); have oc := oc_198_49_32; by omega))); omega) (show (x2).toNatClampNeg < 32 from (by show (x2).toInt.toNat < 32; exact (have a0 := in_u i71; have a1 := in_u h2; have a2 := in_u i67a; have a3 := in_u ((inv_F hIc61 0 4000 rfl v61_32_0)); have a4 := in_u ((inv_F hIc61 (-1) 4000 rfl v61_32_4)); have a5 := in_u i67; have a6 := in_u ((in_c 0 rfl)); have oc := oc_198_49_32; by omega))) g61_0 (fun v => by rw [show y61_3 = Int32.ofInt 0 from Int32.toInt_inj.mp c89]; exact bt_z) (fun v => bt_z) (gw_D hI) (show (y61_4).toNatClampNeg ≤ 40 from (by show (y61_4).toInt.toNat ≤ 40; exact (have a0 := in_u i71; have a1 := in_u h2; have a2 := in_u i67a; have a3 := in_u ((inv_F hIc61 0 4000 rfl v61_32_0)); have a4 := in_u ((inv_F hIc61 (-1) 4000 rfl v61_32_4)); have a5 := in_u i67; have a6 := in_u ((in_c 0 rfl)); have oc := oc_198_49_32; by omega)))
            have n113a : (((sF sc61 49 2 (Int32.ofInt 0))).2.2.1 32 4).toInt = (((sF sc61 49 2 (Int32.ofInt 0))).2.2.1 32 0).toInt := by rw [show ((sF sc61 49 2 (Int32.ofInt 0))).2.2.1 32 4 = sc61.2.2.1 32 4 from rfl, show ((sF sc61 49 2 (Int32.ofInt 0))).2.2.1 32 0 = sc61.2.2.1 32 0 from rfl, ← v61_32_4, ← v61_32_0]; exact n61_0
            exact g_return (gd rfl) rfl (hP _ _ ⟨(sF sc61 49 2 (Int32.ofInt 0)), hI110, (fr_sF rfl hFc61), rfl, rfl, n113, n113a⟩)
        · skip
          refine g_aload_n 75 (gd rfl) rfl rfl ?_
          refine g_aload_n 76 (gd rfl) rfl rfl ?_
          refine g_iload_n 77 (gd rfl) rfl rfl ?_
          have n77 : (w61_32_4).toInt = (w61_32_0).toInt := by first | exact n61_0 | (exact (have a0 := in_u h2; have a1 := in_u i67a; have a2 := in_u ((inv_F hIc61 0 4000 rfl v61_32_0)); have a3 := in_u ((inv_F hIc61 (-1) 4000 rfl v61_32_4)); have a4 := in_u i67; have oc := oc_198_49_32; by omega))
          have p77 : TQD sc61 := by exact tqd_fr q_0 hFc61 rfl
          have p77a : NDQ (gvD sc61) := by rw [(show gvD sc61 = gvD s from gvD_fr hFc61 rfl)]; exact q_1
          refine g_callv (X := _) (As := [.ref (A 32), .int y61_3]) (r := []) (b := A 49) (q := 49) 80 (gd rfl) rfl rfl rfl rfl rfl (ww_o rfl) (Nat.le_of_ble_eq_true rfl) (Nat.zero_le _) (Nat.zero_le _) (f_199_49_32 (by first | exact dq1 hd rfl | exact dq0 hd rfl | exact dq2 hd rfl | exact dq3 hd rfl | omega) hIc61 v61_32_4 v61_32_0 n77 p77 p77a) (fun e u h => h) (fun v u h => ?_)
          obtain ⟨s77, hI77, hF77, z77, rfl, rfl, i77, p77b⟩ := h
          show GG _ _ _ _ _ _ _ _ [.int z77] _ _ _
          refine g_istore_n 81 (gd rfl) rfl (Nat.le_of_ble_eq_true rfl) ?_
          refine g_iinc 84 (gd rfl) rfl rfl (Nat.le_of_ble_eq_true rfl) (fun z81 e81 => ?_)
          have i81 := in_add 1 32 e81 i67 (in_c 1 rfl) rfl rfl
          refine g_goto 61 (gd rfl) rfl ?_
          have v61 : w61_32_4 = s77.2.2.1 32 4 := fr_F (v61_32_4) hF77 rfl
          have v61a : w61_32_0 = s77.2.2.1 32 0 := fr_F (v61_32_0) hF77 rfl
          have n61 : (w61_32_4).toInt = (w61_32_0).toInt := by first | exact n61_0 | (exact (have a0 := in_u h2; have a1 := in_u i67a; have a2 := in_u ((inv_F hIc61 0 4000 rfl v61_32_0)); have a3 := in_u ((inv_F hIc61 (-1) 4000 rfl v61_32_4)); have a4 := in_u i67; have a5 := in_u i81; have a6 := t_add e81 i67 (in_c 1 rfl) rfl; have a7 := in_u ((in_c 1 rfl)); have oc := oc_198_49_32; by omega))
          have n61a : RND (gvD s) (x2).toNatClampNeg (z81).toNatClampNeg ((s77).2.1 50) (z77) := by have h9 := p77b (x2).toNatClampNeg (y61_4).toNatClampNeg (show (y61_4).toNatClampNeg ≤ 40 from (by show (y61_4).toInt.toNat ≤ 40; exact (have a0 := in_u h2; have a1 := in_u i67a; have a2 := in_u ((inv_F hIc61 0 4000 rfl v61_32_0)); have a3 := in_u ((inv_F hIc61 (-1) 4000 rfl v61_32_4)); have a4 := in_u i67; have a5 := in_u i81; have a6 := t_add e81 i67 (in_c 1 rfl) rfl; have a7 := in_u ((in_c 1 rfl)); have oc := oc_198_49_32; by omega))) (by rw [(show gvD sc61 = gvD s from gvD_fr hFc61 rfl)]; exact g61_0.1); rw [(show gvD sc61 = gvD s from gvD_fr hFc61 rfl)] at h9; rw [(show (z81).toNatClampNeg = (y61_4).toNatClampNeg + 1 from (by show (z81).toInt.toNat = (y61_4).toInt.toNat + 1; exact (have a0 := in_u h2; have a1 := in_u i67a; have a2 := in_u ((inv_F hIc61 0 4000 rfl v61_32_0)); have a3 := in_u ((inv_F hIc61 (-1) 4000 rfl v61_32_4)); have a4 := in_u i67; have a5 := in_u i81; have a6 := t_add e81 i67 (in_c 1 rfl) rfl; have a7 := in_u ((in_c 1 rfl)); have oc := oc_198_49_32; by omega)))]; exact rnd_s (fun p u v hp => by have h8 := ndq_ga q_1 (show ((((s.2.2.1 32 1).toInt.toNat : Nat)) : Int) = (gvD s).2.2.2.2.2.2.1 from (by show _ = (s.2.2.1 32 1).toInt; rw [← e_32_1]; exact (have a0 := in_u h2; have a1 := in_u i67a; have a2 := in_u ((inv_F hIc61 0 4000 rfl v61_32_0)); have a3 := in_u ((inv_F hIc61 (-1) 4000 rfl v61_32_4)); have a4 := in_u i67; have a5 := in_u i81; have a6 := t_add e81 i67 (in_c 1 rfl) rfl; have a7 := in_u ((in_c 1 rfl)); have oc := oc_198_49_32; by omega))) p u v hp; have h7 := (show (s.2.2.1 32 1).toInt.toNat ≤ 32 from (by rw [← e_32_1]; exact (have a0 := in_u h2; have a1 := in_u i67a; have a2 := in_u ((inv_F hIc61 0 4000 rfl v61_32_0)); have a3 := in_u ((inv_F hIc61 (-1) 4000 rfl v61_32_4)); have a4 := in_u i67; have a5 := in_u i81; have a6 := t_add e81 i67 (in_c 1 rfl) rfl; have a7 := in_u ((in_c 1 rfl)); have oc := oc_198_49_32; by omega))); omega) (gw_D hI) (show (y61_4).toNatClampNeg ≤ 40 from (by show (y61_4).toInt.toNat ≤ 40; exact (have a0 := in_u h2; have a1 := in_u i67a; have a2 := in_u ((inv_F hIc61 0 4000 rfl v61_32_0)); have a3 := in_u ((inv_F hIc61 (-1) 4000 rfl v61_32_4)); have a4 := in_u i67; have a5 := in_u i81; have a6 := t_add e81 i67 (in_c 1 rfl) rfl; have a7 := in_u ((in_c 1 rfl)); have oc := oc_198_49_32; by omega))) g61_0 h9
          have n61b : (s77).2.2.1 49 0 = s.2.2.1 32 0 ∧ (s77).2.2.1 49 1 = x2 := by exact ⟨(hF77.2.2.1 49 0 rfl).trans g61_1.1, (hF77.2.2.1 49 1 rfl).trans g61_1.2⟩
          exact gg_w (by first | exact Nat.le_add_right _ _ | exact gw2 | exact gw3 | exact gwe rfl | exact gwf rfl | exact gwg rfl | exact gwh rfl | omega) (gg_f (gf_cons rfl (gf_cons rfl (gf_cons rfl (gf_cons rfl (gf_cons rfl gf_nil))))) (ih61 s77 z77 z81 w61_32_4 w61_32_0 hI77 (fr_tr rfl hFc61 hF77) (in_w 0 32 i81 rfl) v61 v61a n61 n61a n61b (m_up mm61 (t_add e81 i67 (in_c 1 rfl) rfl) (in_w 1 1 (in_c 1 rfl) rfl))))
  refine g_enter2 (k := 198) (N := 30601) (by first | exact dq1 hd rfl | exact dq0 hd rfl | exact dq2 hd rfl | exact dq3 hd rfl | omega) rfl (Nat.le_of_ble_eq_true rfl) ?_
  refine g_aload_n 1 (gd rfl) rfl rfl ?_
  refine g_callv (X := _) (As := []) (r := []) (b := A 32) (q := 32) 4 (gd rfl) rfl rfl rfl rfl rfl (ww_o rfl) (Nat.le_of_ble_eq_true rfl) (Nat.zero_le _) (Nat.zero_le _) (k_106_32 (by first | exact dq1 hd rfl | exact dq0 hd rfl | exact dq2 hd rfl | exact dq3 hd rfl | omega) hI ) (fun e u h => h) (fun v u h => ?_)
  obtain ⟨s1, hI1, hF1, n1, rfl, rfl⟩ := h
  obtain ⟨z1a, e1⟩ : ∃ w, w = s1.2.2.1 32 4 := ⟨_, rfl⟩
  have i1a := inv_F hI1 (-1) 4000 rfl e1
  rw [← (show z1a = s1.2.2.1 32 4 from e1)] at n1
  rw [← (show u_32_0 = s1.2.2.1 32 0 from fr_F (e_32_0) hF1 rfl)] at n1
  show GG _ _ _ _ _ _ _ _ [] _ _ _
  refine g_aload_n 5 (gd rfl) rfl rfl ?_
  refine g_getI 8 (gd rfl) rfl rfl rfl (fun z5 e5 => ?_)
  have i5 := inv_F hI1 (-1) 4000 rfl e5
  refine g_aload_n 9 (gd rfl) rfl rfl ?_
  refine g_getI 12 (gd rfl) rfl rfl rfl (fun z9 e9 => ?_)
  have q9 : u_32_0 = z9 := (fr_F (e_32_0) hF1 rfl).trans e9.symm
  subst q9
  refine g_cmp_ne 15 24 (gd rfl) rfl rfl (fun c12 => ?_) (fun c12 => ?_)
  · skip
    refine g_aload_n 25 (gd rfl) rfl rfl ?_
    refine g_aload_n 26 (gd rfl) rfl rfl ?_
    refine g_getI 29 (gd rfl) rfl rfl rfl (fun z26 e26 => ?_)
    have q26 : u_32_0 = z26 := (fr_F (e_32_0) hF1 rfl).trans e26.symm
    subst q26
    refine g_putI 32 (gd rfl) rfl rfl rfl rfl ?_
    have hI29 := inv_sF (q := 49) (j := 0) hI1 rfl (in_w (-1) 4000 ro_32_0 rfl)
    refine g_aload_n 33 (gd rfl) rfl rfl ?_
    refine g_iload_n 34 (gd rfl) rfl rfl ?_
    refine g_putI 37 (gd rfl) rfl rfl rfl rfl ?_
    have hI34 := inv_sF (q := 49) (j := 1) hI29 rfl (in_w 0 31 h2 rfl)
    refine g_aload_n 38 (gd rfl) rfl rfl ?_
    refine g_getA (q2 := 50) 41 (gd rfl) rfl rfl rfl rfl ?_
    refine g_ldc2_w 9223372036854775807 44 (gd rfl) rfl rfl ?_
    refine g_calls (As := [.ref (A 50), .long (Int64.ofInt 9223372036854775807)]) (r := []) 47 (gd rfl) rfl rfl rfl rfl rfl (Nat.le_of_ble_eq_true rfl) (Nat.zero_le _) (Nat.zero_le _) (k_fillL 50 (by first | exact dq1 hd rfl | exact dq0 hd rfl | exact dq2 hd rfl | exact dq3 hd rfl | omega) hI34 (n := 32) rfl rfl rfl (l_rng (Int64.ofInt 9223372036854775807))) (fun v u h => ?_)
    obtain ⟨s44, hI44, hF44, rfl, rfl, fl44⟩ := h
    show GG _ _ _ _ _ _ _ _ [] _ _ _
    refine g_aload_n 48 (gd rfl) rfl rfl ?_
    refine g_getA (q2 := 50) 51 (gd rfl) rfl rfl rfl rfl ?_
    refine g_iload_n 52 (gd rfl) rfl rfl ?_
    refine g_lconst 0 53 (gd rfl) rfl rfl ?_
    refine g_lastore 54 (gd rfl) rfl (n := 32) rfl (in_ix h2 rfl) ?_
    have hI53 := inv_sL (q := 50) (j := x2.toNatClampNeg) (x := (Int64.ofInt 0)) hI44 rfl (l_rng (Int64.ofInt 0))
    refine g_iconst 1 55 (gd rfl) rfl rfl ?_
    refine g_iload_n 56 (gd rfl) rfl rfl ?_
    refine g_ishl 57 (gd rfl) rfl (fun z56 e56 => ?_)
    refine g_istore_n 58 (gd rfl) rfl (Nat.le_of_ble_eq_true rfl) ?_
    refine g_iconst 0 59 (gd rfl) rfl rfl ?_
    refine g_istore 61 (gd rfl) rfl (Nat.le_of_ble_eq_true rfl) ?_
    have v61 : z1a = (sL s44 50 x2.toNatClampNeg (Int64.ofInt 0)).2.2.1 32 4 := sL_F (fr_F (s := (sF (sF s1 49 0 u_32_0) 49 1 x2)) (sF_ne rfl (sF_ne rfl (e1))) hF44 rfl)
    have v61a : u_32_0 = (sL s44 50 x2.toNatClampNeg (Int64.ofInt 0)).2.2.1 32 0 := sL_F (fr_F (s := (sF (sF s1 49 0 u_32_0) 49 1 x2)) (sF_ne rfl (sF_ne rfl (fr_F (e_32_0) hF1 rfl))) hF44 rfl)
    have n61 : (z1a).toInt = (u_32_0).toInt := by exact (have a0 := in_u ro_32_1; have a1 := in_u ro_32_0; have a2 := in_u h2; have a3 := in_u ((in_c 0 rfl)); have a4 := in_u i1a; have oc := oc_198_49_32; by omega)
    have n61a : RND (gvD s) (x2).toNatClampNeg ((Int32.ofInt 0)).toNatClampNeg (((sL s44 50 x2.toNatClampNeg (Int64.ofInt 0))).2.1 50) (z56) := by exact (show RND _ _ 0 _ _ from rnd_0 (show (x2).toNatClampNeg < 32 from (by show (x2).toInt.toNat < 32; exact (have a0 := in_u ro_32_1; have a1 := in_u ro_32_0; have a2 := in_u h2; have a3 := in_u ((in_c 0 rfl)); have a4 := in_u i1a; have oc := oc_198_49_32; by omega))) (by rw [sL_qb, ul_eq]; rfl) (fun v hv ne => by rw [sL_qb, ul_ne ne, fl44 v hv]; rfl) (fun v _ => bt_one e56 h2))
    have n61b : ((sL s44 50 x2.toNatClampNeg (Int64.ofInt 0))).2.2.1 49 0 = s.2.2.1 32 0 ∧ ((sL s44 50 x2.toNatClampNeg (Int64.ofInt 0))).2.2.1 49 1 = x2 := by refine ⟨?_, ?_⟩; (show s44.2.2.1 49 0 = _; rw [hF44.2.2.1 49 0 rfl]; exact e_32_0); (show s44.2.2.1 49 1 = _; rw [hF44.2.2.1 49 1 rfl]; rfl)
    exact gg_w (by first | exact Nat.le_of_ble_eq_true rfl | omega) (gg_f (gf_cons rfl (gf_cons rfl (gf_cons rfl (gf_cons rfl (gf_cons rfl gf_nil))))) (ct61 33 (sL s44 50 x2.toNatClampNeg (Int64.ofInt 0)) z56 (Int32.ofInt 0) z1a u_32_0 hI53 (fr_sL rfl (fr_tr rfl (fr_sF rfl (fr_sF rfl (fr_tr rfl fr_rf hF1))) hF44)) (in_w 0 32 (in_c 0 rfl) rfl) v61 v61a n61 n61a n61b (m_in 33 (in_w 0 32 (in_c 0 rfl) rfl) rfl)))
  · skip
    have i12 := r_eq1 0 4000 c12 i5 ro_32_0 rfl
    refine g_aload_n 16 (gd rfl) rfl rfl ?_
    refine g_getI 19 (gd rfl) rfl rfl rfl (fun z16 e16 => ?_)
    have i16 := inv_F hI1 0 31 rfl e16
    refine g_iload_n 20 (gd rfl) rfl rfl ?_
    refine g_cmp_ne 23 24 (gd rfl) rfl rfl (fun c20 => ?_) (fun c20 => ?_)
    · skip
      refine g_aload_n 25 (gd rfl) rfl rfl ?_
      refine g_aload_n 26 (gd rfl) rfl rfl ?_
      refine g_getI 29 (gd rfl) rfl rfl rfl (fun z26 e26 => ?_)
      have q26 : u_32_0 = z26 := (fr_F (e_32_0) hF1 rfl).trans e26.symm
      subst q26
      refine g_putI 32 (gd rfl) rfl rfl rfl rfl ?_
      have hI29 := inv_sF (q := 49) (j := 0) hI1 rfl (in_w (-1) 4000 ro_32_0 rfl)
      refine g_aload_n 33 (gd rfl) rfl rfl ?_
      refine g_iload_n 34 (gd rfl) rfl rfl ?_
      refine g_putI 37 (gd rfl) rfl rfl rfl rfl ?_
      have hI34 := inv_sF (q := 49) (j := 1) hI29 rfl (in_w 0 31 h2 rfl)
      refine g_aload_n 38 (gd rfl) rfl rfl ?_
      refine g_getA (q2 := 50) 41 (gd rfl) rfl rfl rfl rfl ?_
      refine g_ldc2_w 9223372036854775807 44 (gd rfl) rfl rfl ?_
      refine g_calls (As := [.ref (A 50), .long (Int64.ofInt 9223372036854775807)]) (r := []) 47 (gd rfl) rfl rfl rfl rfl rfl (Nat.le_of_ble_eq_true rfl) (Nat.zero_le _) (Nat.zero_le _) (k_fillL 50 (by first | exact dq1 hd rfl | exact dq0 hd rfl | exact dq2 hd rfl | exact dq3 hd rfl | omega) hI34 (n := 32) rfl rfl rfl (l_rng (Int64.ofInt 9223372036854775807))) (fun v u h => ?_)
      obtain ⟨s44, hI44, hF44, rfl, rfl, fl44⟩ := h
      show GG _ _ _ _ _ _ _ _ [] _ _ _
      refine g_aload_n 48 (gd rfl) rfl rfl ?_
      refine g_getA (q2 := 50) 51 (gd rfl) rfl rfl rfl rfl ?_
      refine g_iload_n 52 (gd rfl) rfl rfl ?_
      refine g_lconst 0 53 (gd rfl) rfl rfl ?_
      refine g_lastore 54 (gd rfl) rfl (n := 32) rfl (in_ix h2 rfl) ?_
      have hI53 := inv_sL (q := 50) (j := x2.toNatClampNeg) (x := (Int64.ofInt 0)) hI44 rfl (l_rng (Int64.ofInt 0))
      refine g_iconst 1 55 (gd rfl) rfl rfl ?_
      refine g_iload_n 56 (gd rfl) rfl rfl ?_
      refine g_ishl 57 (gd rfl) rfl (fun z56 e56 => ?_)
      refine g_istore_n 58 (gd rfl) rfl (Nat.le_of_ble_eq_true rfl) ?_
      refine g_iconst 0 59 (gd rfl) rfl rfl ?_
      refine g_istore 61 (gd rfl) rfl (Nat.le_of_ble_eq_true rfl) ?_
      have v61 : z1a = (sL s44 50 x2.toNatClampNeg (Int64.ofInt 0)).2.2.1 32 4 := sL_F (fr_F (s := (sF (sF s1 49 0 u_32_0) 49 1 x2)) (sF_ne rfl (sF_ne rfl (e1))) hF44 rfl)
      have v61a : u_32_0 = (sL s44 50 x2.toNatClampNeg (Int64.ofInt 0)).2.2.1 32 0 := sL_F (fr_F (s := (sF (sF s1 49 0 u_32_0) 49 1 x2)) (sF_ne rfl (sF_ne rfl (fr_F (e_32_0) hF1 rfl))) hF44 rfl)
      have n61 : (z1a).toInt = (u_32_0).toInt := by exact (have a0 := in_u ro_32_1; have a1 := in_u ro_32_0; have a2 := in_u h2; have a3 := in_u ((in_c 0 rfl)); have a4 := in_u i1a; have oc := oc_198_49_32; by omega)
      have n61a : RND (gvD s) (x2).toNatClampNeg ((Int32.ofInt 0)).toNatClampNeg (((sL s44 50 x2.toNatClampNeg (Int64.ofInt 0))).2.1 50) (z56) := by exact (show RND _ _ 0 _ _ from rnd_0 (show (x2).toNatClampNeg < 32 from (by show (x2).toInt.toNat < 32; exact (have a0 := in_u ro_32_1; have a1 := in_u ro_32_0; have a2 := in_u h2; have a3 := in_u ((in_c 0 rfl)); have a4 := in_u i1a; have oc := oc_198_49_32; by omega))) (by rw [sL_qb, ul_eq]; rfl) (fun v hv ne => by rw [sL_qb, ul_ne ne, fl44 v hv]; rfl) (fun v _ => bt_one e56 h2))
      have n61b : ((sL s44 50 x2.toNatClampNeg (Int64.ofInt 0))).2.2.1 49 0 = s.2.2.1 32 0 ∧ ((sL s44 50 x2.toNatClampNeg (Int64.ofInt 0))).2.2.1 49 1 = x2 := by refine ⟨?_, ?_⟩; (show s44.2.2.1 49 0 = _; rw [hF44.2.2.1 49 0 rfl]; exact e_32_0); (show s44.2.2.1 49 1 = _; rw [hF44.2.2.1 49 1 rfl]; rfl)
      exact gg_w (by first | exact Nat.le_of_ble_eq_true rfl | omega) (gg_f (gf_cons rfl (gf_cons rfl (gf_cons rfl (gf_cons rfl (gf_cons rfl gf_nil))))) (ct61 33 (sL s44 50 x2.toNatClampNeg (Int64.ofInt 0)) z56 (Int32.ofInt 0) z1a u_32_0 hI53 (fr_sL rfl (fr_tr rfl (fr_sF rfl (fr_sF rfl (fr_tr rfl fr_rf hF1))) hF44)) (in_w 0 32 (in_c 0 rfl) rfl) v61 v61a n61 n61a n61b (m_in 33 (in_w 0 32 (in_c 0 rfl) rfl) rfl)))
    · skip
      have n23 : FXQ (gvD s) s1 ∧ (s1).2.2.1 49 1 = x2 := by have c9 : (s1.2.2.1 49 0).toInt = (gvD s).2.2.2.2.2.2.2 := (by show _ = (s.2.2.1 32 0).toInt; rw [← e5, ← e_32_0]; first | exact c12 | exact c12.symm); have a1 : s1.2.2.1 49 1 = x2 := Int32.toInt_inj.mp (by rw [← e16]; first | exact c20 | exact c20.symm); refine fxq_i c9 a1 ?_; have k9 := q_2 (by rw [← hF1.2.2.1 49 0 rfl]; exact c9); rw [← hF1.2.2.1 49 1 rfl, ← hF1.2.1 50 rfl, ← hF1.2.2.1 49 2 rfl, a1] at k9; exact k9
      have n23a : ((s1).2.2.1 32 4).toInt = ((s1).2.2.1 32 0).toInt := by rw [← (show z1a = s1.2.2.1 32 4 from e1), ← (show u_32_0 = s1.2.2.1 32 0 from fr_F (e_32_0) hF1 rfl)]; exact n1
      exact g_return (gd rfl) rfl (hP _ _ ⟨s1, hI1, (fr_tr rfl fr_rf hF1), rfl, rfl, n23, n23a⟩)

theorem oc_194_49_2 : (Int32.ofInt (-1)).toInt = (-1) ∧ (Int32.ofInt 0).toInt = 0 ∧ (Int32.ofInt 1).toInt = 1 ∧ (Int64.ofInt 0).toInt = 0 ∧ (Int64.ofInt 1).toInt = 1 ∧ (Int64.ofInt 1024).toInt = 1024 ∧ (Int64.ofInt 9000000000000000).toInt = 9000000000000000 ∧ (Int64.ofInt 9000000000000001).toInt = 9000000000000001 ∧ (Int64.ofInt 9223372036854775807).toInt = 9223372036854775807 := ⟨rfl, rfl, rfl, rfl, rfl, rfl, rfl, rfl, rfl⟩
def fm_194_49_2 : FM := ([9, 10, 11, 12, 13, 14, 15], [50], [(2, 4), (49, 0), (49, 1), (49, 2)], [])
/-- GraphHouse$Ways.leastWeight -/
theorem f_194_49_2 {Z : AmZ} {A : Nat → Nat} {s : GS} {ex : va_W} {d : Nat} {X : AmX} {x2 : Int32} {x3 : Int32} (hd : 6 ≤ d) (hI : Inv s) (h2 : In x2 0 31) (h3 : In x3 0 31) (q_0 : TQ s) (q_1 : NDQ (gvC s)) (q_2 : FXB (gvC s) s) (q_3 : (x3).toInt < (s.2.2.1 2 1).toInt) : GC Z d 194 [.ref (A 49), .ref (A 2), .int x2, .int x3] (WW Z A s ++ ex) 0 0 (fun v u => ∃ t : GS, Inv t ∧ Fr fm_194_49_2 s t ∧ ∃ z : Int64, v = some (.long z) ∧ u = WW Z A t ++ ex ∧ (DSV (gvC s) (x2).toNatClampNeg (x3).toNatClampNeg (z).toInt) ∧ (FXQ (gvC s) t)) X := by
  intro post xp hP hX
  refine g_enter2 (k := 194) (N := 900) (by first | exact dq1 hd rfl | exact dq0 hd rfl | exact dq2 hd rfl | exact dq3 hd rfl | omega) rfl (Nat.le_of_ble_eq_true rfl) ?_
  refine g_aload_n 1 (gd rfl) rfl rfl ?_
  refine g_aload_n 2 (gd rfl) rfl rfl ?_
  refine g_iload_n 3 (gd rfl) rfl rfl ?_
  have p3 : TQ s := by exact q_0
  have p3a : NDQ (gvC s) := by exact q_1
  have p3b : FXB (gvC s) s := by exact q_2
  have p3c : (x3).toInt < (s.2.2.1 2 1).toInt := by exact q_3
  refine g_callv (X := _) (As := [.ref (A 2), .int x3]) (r := []) (b := A 49) (q := 49) 6 (gd rfl) rfl rfl rfl rfl rfl (ww_o rfl) (Nat.le_of_ble_eq_true rfl) (Nat.zero_le _) (Nat.zero_le _) (f_198_49_2 (by first | exact dq1 hd rfl | exact dq0 hd rfl | exact dq2 hd rfl | exact dq3 hd rfl | omega) hI (in_w 0 31 h3 rfl) p3 p3a p3b p3c) (fun e u h => h) (fun v u h => ?_)
  obtain ⟨s3, hI3, hF3, rfl, rfl, p3d, p3e⟩ := h
  show GG _ _ _ _ _ _ _ _ [] _ _ _
  refine g_aload_n 7 (gd rfl) rfl rfl ?_
  refine g_getI 10 (gd rfl) rfl rfl rfl (fun z7 e7 => ?_)
  refine g_iload_n 11 (gd rfl) rfl rfl ?_
  refine g_ishr 12 (gd rfl) rfl (fun z11 e11 => ?_)
  refine g_iconst 1 13 (gd rfl) rfl rfl ?_
  refine g_iand 14 (gd rfl) rfl (fun z13 e13 => ?_)
  have i13 := in_and2 e13 (in_c 1 rfl) rfl
  refine g_if_eq 17 21 (gd rfl) rfl rfl (fun c14 => ?_) (fun c14 => ?_)
  · skip
    have i14 := z_eq 0 0 c14 i13 rfl
    refine g_aload_n 22 (gd rfl) rfl rfl ?_
    refine g_getA (q2 := 50) 25 (gd rfl) rfl rfl rfl rfl ?_
    refine g_iload_n 26 (gd rfl) rfl rfl ?_
    refine g_laload 27 (gd rfl) rfl (n := 32) rfl (in_ix h2 rfl) (fun z26 e26 => ?_)
    refine g_ldc2_w 9223372036854775807 30 (gd rfl) rfl rfl ?_
    refine g_lcmp 31 (gd rfl) rfl (fun z30 e30 => ?_)
    have i30 := lc_in e30
    refine g_if_ne 34 40 (gd rfl) rfl rfl (fun c31 => ?_) (fun c31 => ?_)
    · skip
      have c31a := lc_ne e30 c31
      have i31 := lr_ne1 (-9223372036854775808) 9223372036854775806 c31a (l_rng z26) (l_c 9223372036854775807 rfl) rfl
      refine g_aload_n 41 (gd rfl) rfl rfl ?_
      refine g_getA (q2 := 50) 44 (gd rfl) rfl rfl rfl rfl ?_
      refine g_iload_n 45 (gd rfl) rfl rfl ?_
      refine g_laload 46 (gd rfl) rfl (n := 32) rfl (in_ix h2 rfl) (fun z45 e45 => ?_)
      refine g_ldc2_w 1024 49 (gd rfl) rfl rfl ?_
      refine g_calls (As := [.long z45, .long (Int64.ofInt 1024)]) (r := []) 52 (gd rfl) rfl rfl rfl rfl rfl (Nat.le_of_ble_eq_true rfl) (mc := 0) (ms := 0) (Nat.zero_le _) (Nat.zero_le _) (P := fun v u => _) ?_ (fun v u h => h)
      intro po49 xx49 hp49 hx49
      refine g_enter2 (k := 418) (N := 300) (by first | exact dq1 hd rfl | exact dq0 hd rfl | exact dq2 hd rfl | exact dq3 hd rfl | omega) rfl (Nat.le_of_ble_eq_true rfl) ?_
      refine g_lload_n 1 (gd rfl) rfl rfl ?_
      refine g_lload_n 2 (gd rfl) rfl rfl ?_
      refine g_ldiv 3 (gd rfl) rfl (by decide) (fun z49x2 e49x2 => ?_)
      refine g_lstore 5 (gd rfl) rfl (Nat.le_of_ble_eq_true rfl) ?_
      refine g_lload_n 6 (gd rfl) rfl rfl ?_
      refine g_lload_n 7 (gd rfl) rfl rfl ?_
      refine g_lxor 8 (gd rfl) rfl (fun z49x7 e49x7 => ?_)
      refine g_lconst 0 9 (gd rfl) rfl rfl ?_
      refine g_lcmp 10 (gd rfl) rfl (fun z49x9 e49x9 => ?_)
      have i49x9 := lc_in e49x9
      refine g_if_ge 13 27 (gd rfl) rfl rfl (fun c49x10 => ?_) (fun c49x10 => ?_)
      · skip
        have i49x10 := z_ge 0 1 c49x10 i49x9 rfl
        have c49x10a := lc_ge e49x9 c49x10
        have i49x10a := lr_le2 0 9223372036854775807 c49x10a (l_c 0 rfl) (l_rng z49x7) rfl
        refine g_lload 29 (gd rfl) rfl rfl ?_
        refine g_lreturn (gd rfl) rfl (hp49 _ _ ?_)
        show GG _ _ _ _ _ _ _ _ [.long z49x2] _ _ _
        have n52 : DSV (gvC s) (x2).toNatClampNeg (x3).toNatClampNeg (z49x2).toInt := by have i20 := inv_F hI (z := s.2.2.1 2 1) 0 32 rfl rfl; unfold In at i20; have dv := dsv_c (ndq_ga q_1 (show ((((s.2.2.1 2 1).toInt.toNat : Nat)) : Int) = (gvC s).2.2.2.2.2.2.1 from (by show _ = (s.2.2.1 2 1).toInt; omega))) (show (x3).toNatClampNeg < (s.2.2.1 2 1).toInt.toNat from (by show (x3).toInt.toNat < _; have h9 := q_3; exact (have a0 := in_u h3; have a1 := in_u h2; have oc := oc_194_49_2; by omega))) (by omega) (show FEX (gvC s) (x3).toNatClampNeg (s3.2.1 50) (s3.2.2.1 49 2) from (by have h9 := p3d.1.2; rw [p3d.2] at h9; exact h9)) (show (x2).toNatClampNeg < 32 from (by show (x2).toInt.toNat < 32; exact (have a0 := in_u h3; have a1 := in_u h2; have oc := oc_194_49_2; by omega))); have lt : (s3.2.1 50 (x2).toNatClampNeg).toInt < FRC := (by have h8 := Int64.toInt_lt (s3.2.1 50 (x2).toNatClampNeg); have h7 := c31a; rw [← e26]; unfold FRC; have h6 := Int64.toInt_lt z26; have h5 : (Int64.ofInt 9223372036854775807).toInt = 9223372036854775807 := rfl; omega); have ans := (dv.2 (by rw [← e7]; exact bt_f0 (bt_ask e11 e13 h2) c14)).2 lt; rw [← e45] at ans; rw [fdv_p e49x2 e49x7 (by have h := c49x10a; have h5 : (Int64.ofInt 0).toInt = 0 := rfl; omega)]; exact ans
        have n52a : FXQ (gvC s) s3 := by exact p3d.1
        exact g_lreturn (gd rfl) rfl (hP _ _ ⟨s3, hI3, (fr_tr rfl fr_rf hF3), z49x2, rfl, rfl, n52, n52a⟩)
      · skip
        have i49x10 := z_lt (-1) (-1) c49x10 i49x9 rfl
        have c49x10a := lc_lt e49x9 c49x10
        have i49x10a := lr_lt1 (-9223372036854775808) (-1) c49x10a (l_rng z49x7) (l_c 0 rfl) rfl
        refine g_lload 15 (gd rfl) rfl rfl ?_
        refine g_lload_n 16 (gd rfl) rfl rfl ?_
        refine g_lmul 17 (gd rfl) rfl (fun z49x16 e49x16 => ?_)
        refine g_lload_n 18 (gd rfl) rfl rfl ?_
        refine g_lcmp 19 (gd rfl) rfl (fun z49x18 e49x18 => ?_)
        have i49x18 := lc_in e49x18
        refine g_if_eq 22 27 (gd rfl) rfl rfl (fun c49x19 => ?_) (fun c49x19 => ?_)
        · skip
          have i49x19 := z_eq 0 0 c49x19 i49x18 rfl
          have c49x19a := lc_eq e49x18 c49x19
          refine g_lload 29 (gd rfl) rfl rfl ?_
          refine g_lreturn (gd rfl) rfl (hp49 _ _ ?_)
          show GG _ _ _ _ _ _ _ _ [.long z49x2] _ _ _
          have n52 : DSV (gvC s) (x2).toNatClampNeg (x3).toNatClampNeg (z49x2).toInt := by have i20 := inv_F hI (z := s.2.2.1 2 1) 0 32 rfl rfl; unfold In at i20; have dv := dsv_c (ndq_ga q_1 (show ((((s.2.2.1 2 1).toInt.toNat : Nat)) : Int) = (gvC s).2.2.2.2.2.2.1 from (by show _ = (s.2.2.1 2 1).toInt; omega))) (show (x3).toNatClampNeg < (s.2.2.1 2 1).toInt.toNat from (by show (x3).toInt.toNat < _; have h9 := q_3; exact (have a0 := in_u h3; have a1 := in_u h2; have oc := oc_194_49_2; by omega))) (by omega) (show FEX (gvC s) (x3).toNatClampNeg (s3.2.1 50) (s3.2.2.1 49 2) from (by have h9 := p3d.1.2; rw [p3d.2] at h9; exact h9)) (show (x2).toNatClampNeg < 32 from (by show (x2).toInt.toNat < 32; exact (have a0 := in_u h3; have a1 := in_u h2; have oc := oc_194_49_2; by omega))); have lt : (s3.2.1 50 (x2).toNatClampNeg).toInt < FRC := (by have h8 := Int64.toInt_lt (s3.2.1 50 (x2).toNatClampNeg); have h7 := c31a; rw [← e26]; unfold FRC; have h6 := Int64.toInt_lt z26; have h5 : (Int64.ofInt 9223372036854775807).toInt = 9223372036854775807 := rfl; omega); have ans := (dv.2 (by rw [← e7]; exact bt_f0 (bt_ask e11 e13 h2) c14)).2 lt; rw [← e45] at ans; rw [fdv_e e49x2 e49x7 (by have h := c49x10a; have h5 : (Int64.ofInt 0).toInt = 0 := rfl; omega) e49x16 c49x19a]; exact ans
          have n52a : FXQ (gvC s) s3 := by exact p3d.1
          exact g_lreturn (gd rfl) rfl (hP _ _ ⟨s3, hI3, (fr_tr rfl fr_rf hF3), z49x2, rfl, rfl, n52, n52a⟩)
        · skip
          have c49x19a := lc_ne e49x18 c49x19
          refine g_lload 24 (gd rfl) rfl rfl ?_
          refine g_lconst 1 25 (gd rfl) rfl rfl ?_
          refine g_lsub 26 (gd rfl) rfl (fun z49x25 e49x25 => ?_)
          refine g_lreturn (gd rfl) rfl (hp49 _ _ ?_)
          show GG _ _ _ _ _ _ _ _ [.long z49x25] _ _ _
          have n52 : DSV (gvC s) (x2).toNatClampNeg (x3).toNatClampNeg (z49x25).toInt := by have i20 := inv_F hI (z := s.2.2.1 2 1) 0 32 rfl rfl; unfold In at i20; have dv := dsv_c (ndq_ga q_1 (show ((((s.2.2.1 2 1).toInt.toNat : Nat)) : Int) = (gvC s).2.2.2.2.2.2.1 from (by show _ = (s.2.2.1 2 1).toInt; omega))) (show (x3).toNatClampNeg < (s.2.2.1 2 1).toInt.toNat from (by show (x3).toInt.toNat < _; have h9 := q_3; exact (have a0 := in_u h3; have a1 := in_u h2; have oc := oc_194_49_2; by omega))) (by omega) (show FEX (gvC s) (x3).toNatClampNeg (s3.2.1 50) (s3.2.2.1 49 2) from (by have h9 := p3d.1.2; rw [p3d.2] at h9; exact h9)) (show (x2).toNatClampNeg < 32 from (by show (x2).toInt.toNat < 32; exact (have a0 := in_u h3; have a1 := in_u h2; have oc := oc_194_49_2; by omega))); have lt : (s3.2.1 50 (x2).toNatClampNeg).toInt < FRC := (by have h8 := Int64.toInt_lt (s3.2.1 50 (x2).toNatClampNeg); have h7 := c31a; rw [← e26]; unfold FRC; have h6 := Int64.toInt_lt z26; have h5 : (Int64.ofInt 9223372036854775807).toInt = 9223372036854775807 := rfl; omega); have ans := (dv.2 (by rw [← e7]; exact bt_f0 (bt_ask e11 e13 h2) c14)).2 lt; rw [← e45] at ans; rw [fdv_n e49x2 e49x7 (by have h := c49x10a; have h5 : (Int64.ofInt 0).toInt = 0 := rfl; omega) e49x16 c49x19a e49x25]; exact ans
          have n52a : FXQ (gvC s) s3 := by exact p3d.1
          exact g_lreturn (gd rfl) rfl (hP _ _ ⟨s3, hI3, (fr_tr rfl fr_rf hF3), z49x25, rfl, rfl, n52, n52a⟩)
    · skip
      have i31 := z_eq 0 0 c31 i30 rfl
      have c31a := lc_eq e30 c31
      have i31a := lr_eq1 9223372036854775807 9223372036854775807 c31a (l_rng z26) (l_c 9223372036854775807 rfl) rfl
      refine g_ldc2_w 9000000000000000 37 (gd rfl) rfl rfl ?_
      refine g_goto 52 (gd rfl) rfl ?_
      have n52 : DSV (gvC s) (x2).toNatClampNeg (x3).toNatClampNeg ((Int64.ofInt 9000000000000000)).toInt := by have i20 := inv_F hI (z := s.2.2.1 2 1) 0 32 rfl rfl; unfold In at i20; have dv := dsv_c (ndq_ga q_1 (show ((((s.2.2.1 2 1).toInt.toNat : Nat)) : Int) = (gvC s).2.2.2.2.2.2.1 from (by show _ = (s.2.2.1 2 1).toInt; omega))) (show (x3).toNatClampNeg < (s.2.2.1 2 1).toInt.toNat from (by show (x3).toInt.toNat < _; have h9 := q_3; exact (have a0 := in_u h3; have a1 := in_u h2; have oc := oc_194_49_2; by omega))) (by omega) (show FEX (gvC s) (x3).toNatClampNeg (s3.2.1 50) (s3.2.2.1 49 2) from (by have h9 := p3d.1.2; rw [p3d.2] at h9; exact h9)) (show (x2).toNatClampNeg < 32 from (by show (x2).toInt.toNat < 32; exact (have a0 := in_u h3; have a1 := in_u h2; have oc := oc_194_49_2; by omega))); exact (dv.2 (by rw [← e7]; exact bt_f0 (bt_ask e11 e13 h2) c14)).1 (by rw [← e26]; have h7 := c31a; exact h7)
      have n52a : FXQ (gvC s) s3 := by exact p3d.1
      exact g_lreturn (gd rfl) rfl (hP _ _ ⟨s3, hI3, (fr_tr rfl fr_rf hF3), (Int64.ofInt 9000000000000000), rfl, rfl, n52, n52a⟩)
  · skip
    have i14 := z_ne 1 1 c14 i13 rfl
    refine g_ldc2_w 9000000000000001 20 (gd rfl) rfl rfl ?_
    have n20 : DSV (gvC s) (x2).toNatClampNeg (x3).toNatClampNeg ((Int64.ofInt 9000000000000001)).toInt := by have i20 := inv_F hI (z := s.2.2.1 2 1) 0 32 rfl rfl; unfold In at i20; have dv := dsv_c (ndq_ga q_1 (show ((((s.2.2.1 2 1).toInt.toNat : Nat)) : Int) = (gvC s).2.2.2.2.2.2.1 from (by show _ = (s.2.2.1 2 1).toInt; omega))) (show (x3).toNatClampNeg < (s.2.2.1 2 1).toInt.toNat from (by show (x3).toInt.toNat < _; have h9 := q_3; exact (have a0 := in_u h3; have a1 := in_u h2; have oc := oc_194_49_2; by omega))) (by omega) (show FEX (gvC s) (x3).toNatClampNeg (s3.2.1 50) (s3.2.2.1 49 2) from (by have h9 := p3d.1.2; rw [p3d.2] at h9; exact h9)) (show (x2).toNatClampNeg < 32 from (by show (x2).toInt.toNat < 32; exact (have a0 := in_u h3; have a1 := in_u h2; have oc := oc_194_49_2; by omega))); exact dv.1 (by rw [← e7]; exact bt_t1 (bt_ask e11 e13 h2) c14)
    have n20a : FXQ (gvC s) s3 := by exact p3d.1
    exact g_lreturn (gd rfl) rfl (hP _ _ ⟨s3, hI3, (fr_tr rfl fr_rf hF3), (Int64.ofInt 9000000000000001), rfl, rfl, n20, n20a⟩)

theorem oc_194_49_32 : (Int32.ofInt (-1)).toInt = (-1) ∧ (Int32.ofInt 0).toInt = 0 ∧ (Int32.ofInt 1).toInt = 1 ∧ (Int64.ofInt 0).toInt = 0 ∧ (Int64.ofInt 1).toInt = 1 ∧ (Int64.ofInt 1024).toInt = 1024 ∧ (Int64.ofInt 9000000000000000).toInt = 9000000000000000 ∧ (Int64.ofInt 9000000000000001).toInt = 9000000000000001 ∧ (Int64.ofInt 9223372036854775807).toInt = 9223372036854775807 := ⟨rfl, rfl, rfl, rfl, rfl, rfl, rfl, rfl, rfl⟩
def fm_194_49_32 : FM := ([39, 40, 41, 42, 43, 44, 45], [50], [(32, 4), (49, 0), (49, 1), (49, 2)], [])
/-- GraphHouse$Ways.leastWeight -/
theorem f_194_49_32 {Z : AmZ} {A : Nat → Nat} {s : GS} {ex : va_W} {d : Nat} {X : AmX} {x2 : Int32} {x3 : Int32} (hd : 6 ≤ d) (hI : Inv s) (h2 : In x2 0 31) (h3 : In x3 0 31) (q_0 : TQD s) (q_1 : NDQ (gvD s)) (q_2 : FXB (gvD s) s) (q_3 : (x3).toInt < (s.2.2.1 32 1).toInt) : GC Z d 194 [.ref (A 49), .ref (A 32), .int x2, .int x3] (WW Z A s ++ ex) 0 0 (fun v u => ∃ t : GS, Inv t ∧ Fr fm_194_49_32 s t ∧ ∃ z : Int64, v = some (.long z) ∧ u = WW Z A t ++ ex ∧ (DSV (gvD s) (x2).toNatClampNeg (x3).toNatClampNeg (z).toInt) ∧ (FXQ (gvD s) t)) X := by
  intro post xp hP hX
  refine g_enter2 (k := 194) (N := 900) (by first | exact dq1 hd rfl | exact dq0 hd rfl | exact dq2 hd rfl | exact dq3 hd rfl | omega) rfl (Nat.le_of_ble_eq_true rfl) ?_
  refine g_aload_n 1 (gd rfl) rfl rfl ?_
  refine g_aload_n 2 (gd rfl) rfl rfl ?_
  refine g_iload_n 3 (gd rfl) rfl rfl ?_
  have p3 : TQD s := by exact q_0
  have p3a : NDQ (gvD s) := by exact q_1
  have p3b : FXB (gvD s) s := by exact q_2
  have p3c : (x3).toInt < (s.2.2.1 32 1).toInt := by exact q_3
  refine g_callv (X := _) (As := [.ref (A 32), .int x3]) (r := []) (b := A 49) (q := 49) 6 (gd rfl) rfl rfl rfl rfl rfl (ww_o rfl) (Nat.le_of_ble_eq_true rfl) (Nat.zero_le _) (Nat.zero_le _) (f_198_49_32 (by first | exact dq1 hd rfl | exact dq0 hd rfl | exact dq2 hd rfl | exact dq3 hd rfl | omega) hI (in_w 0 31 h3 rfl) p3 p3a p3b p3c) (fun e u h => h) (fun v u h => ?_)
  obtain ⟨s3, hI3, hF3, rfl, rfl, p3d, p3e⟩ := h
  show GG _ _ _ _ _ _ _ _ [] _ _ _
  refine g_aload_n 7 (gd rfl) rfl rfl ?_
  refine g_getI 10 (gd rfl) rfl rfl rfl (fun z7 e7 => ?_)
  refine g_iload_n 11 (gd rfl) rfl rfl ?_
  refine g_ishr 12 (gd rfl) rfl (fun z11 e11 => ?_)
  refine g_iconst 1 13 (gd rfl) rfl rfl ?_
  refine g_iand 14 (gd rfl) rfl (fun z13 e13 => ?_)
  have i13 := in_and2 e13 (in_c 1 rfl) rfl
  refine g_if_eq 17 21 (gd rfl) rfl rfl (fun c14 => ?_) (fun c14 => ?_)
  · skip
    have i14 := z_eq 0 0 c14 i13 rfl
    refine g_aload_n 22 (gd rfl) rfl rfl ?_
    refine g_getA (q2 := 50) 25 (gd rfl) rfl rfl rfl rfl ?_
    refine g_iload_n 26 (gd rfl) rfl rfl ?_
    refine g_laload 27 (gd rfl) rfl (n := 32) rfl (in_ix h2 rfl) (fun z26 e26 => ?_)
    refine g_ldc2_w 9223372036854775807 30 (gd rfl) rfl rfl ?_
    refine g_lcmp 31 (gd rfl) rfl (fun z30 e30 => ?_)
    have i30 := lc_in e30
    refine g_if_ne 34 40 (gd rfl) rfl rfl (fun c31 => ?_) (fun c31 => ?_)
    · skip
      have c31a := lc_ne e30 c31
      have i31 := lr_ne1 (-9223372036854775808) 9223372036854775806 c31a (l_rng z26) (l_c 9223372036854775807 rfl) rfl
      refine g_aload_n 41 (gd rfl) rfl rfl ?_
      refine g_getA (q2 := 50) 44 (gd rfl) rfl rfl rfl rfl ?_
      refine g_iload_n 45 (gd rfl) rfl rfl ?_
      refine g_laload 46 (gd rfl) rfl (n := 32) rfl (in_ix h2 rfl) (fun z45 e45 => ?_)
      refine g_ldc2_w 1024 49 (gd rfl) rfl rfl ?_
      refine g_calls (As := [.long z45, .long (Int64.ofInt 1024)]) (r := []) 52 (gd rfl) rfl rfl rfl rfl rfl (Nat.le_of_ble_eq_true rfl) (mc := 0) (ms := 0) (Nat.zero_le _) (Nat.zero_le _) (P := fun v u => _) ?_ (fun v u h => h)
      intro po49 xx49 hp49 hx49
      refine g_enter2 (k := 418) (N := 300) (by first | exact dq1 hd rfl | exact dq0 hd rfl | exact dq2 hd rfl | exact dq3 hd rfl | omega) rfl (Nat.le_of_ble_eq_true rfl) ?_
      refine g_lload_n 1 (gd rfl) rfl rfl ?_
      refine g_lload_n 2 (gd rfl) rfl rfl ?_
      refine g_ldiv 3 (gd rfl) rfl (by decide) (fun z49x2 e49x2 => ?_)
      refine g_lstore 5 (gd rfl) rfl (Nat.le_of_ble_eq_true rfl) ?_
      refine g_lload_n 6 (gd rfl) rfl rfl ?_
      refine g_lload_n 7 (gd rfl) rfl rfl ?_
      refine g_lxor 8 (gd rfl) rfl (fun z49x7 e49x7 => ?_)
      refine g_lconst 0 9 (gd rfl) rfl rfl ?_
      refine g_lcmp 10 (gd rfl) rfl (fun z49x9 e49x9 => ?_)
      have i49x9 := lc_in e49x9
      refine g_if_ge 13 27 (gd rfl) rfl rfl (fun c49x10 => ?_) (fun c49x10 => ?_)
      · skip
        have i49x10 := z_ge 0 1 c49x10 i49x9 rfl
        have c49x10a := lc_ge e49x9 c49x10
        have i49x10a := lr_le2 0 9223372036854775807 c49x10a (l_c 0 rfl) (l_rng z49x7) rfl
        refine g_lload 29 (gd rfl) rfl rfl ?_
        refine g_lreturn (gd rfl) rfl (hp49 _ _ ?_)
        show GG _ _ _ _ _ _ _ _ [.long z49x2] _ _ _
        have n52 : DSV (gvD s) (x2).toNatClampNeg (x3).toNatClampNeg (z49x2).toInt := by have i20 := inv_F hI (z := s.2.2.1 32 1) 0 32 rfl rfl; unfold In at i20; have dv := dsv_c (ndq_ga q_1 (show ((((s.2.2.1 32 1).toInt.toNat : Nat)) : Int) = (gvD s).2.2.2.2.2.2.1 from (by show _ = (s.2.2.1 32 1).toInt; omega))) (show (x3).toNatClampNeg < (s.2.2.1 32 1).toInt.toNat from (by show (x3).toInt.toNat < _; have h9 := q_3; exact (have a0 := in_u h3; have a1 := in_u h2; have oc := oc_194_49_32; by omega))) (by omega) (show FEX (gvD s) (x3).toNatClampNeg (s3.2.1 50) (s3.2.2.1 49 2) from (by have h9 := p3d.1.2; rw [p3d.2] at h9; exact h9)) (show (x2).toNatClampNeg < 32 from (by show (x2).toInt.toNat < 32; exact (have a0 := in_u h3; have a1 := in_u h2; have oc := oc_194_49_32; by omega))); have lt : (s3.2.1 50 (x2).toNatClampNeg).toInt < FRC := (by have h8 := Int64.toInt_lt (s3.2.1 50 (x2).toNatClampNeg); have h7 := c31a; rw [← e26]; unfold FRC; have h6 := Int64.toInt_lt z26; have h5 : (Int64.ofInt 9223372036854775807).toInt = 9223372036854775807 := rfl; omega); have ans := (dv.2 (by rw [← e7]; exact bt_f0 (bt_ask e11 e13 h2) c14)).2 lt; rw [← e45] at ans; rw [fdv_p e49x2 e49x7 (by have h := c49x10a; have h5 : (Int64.ofInt 0).toInt = 0 := rfl; omega)]; exact ans
        have n52a : FXQ (gvD s) s3 := by exact p3d.1
        exact g_lreturn (gd rfl) rfl (hP _ _ ⟨s3, hI3, (fr_tr rfl fr_rf hF3), z49x2, rfl, rfl, n52, n52a⟩)
      · skip
        have i49x10 := z_lt (-1) (-1) c49x10 i49x9 rfl
        have c49x10a := lc_lt e49x9 c49x10
        have i49x10a := lr_lt1 (-9223372036854775808) (-1) c49x10a (l_rng z49x7) (l_c 0 rfl) rfl
        refine g_lload 15 (gd rfl) rfl rfl ?_
        refine g_lload_n 16 (gd rfl) rfl rfl ?_
        refine g_lmul 17 (gd rfl) rfl (fun z49x16 e49x16 => ?_)
        refine g_lload_n 18 (gd rfl) rfl rfl ?_
        refine g_lcmp 19 (gd rfl) rfl (fun z49x18 e49x18 => ?_)
        have i49x18 := lc_in e49x18
        refine g_if_eq 22 27 (gd rfl) rfl rfl (fun c49x19 => ?_) (fun c49x19 => ?_)
        · skip
          have i49x19 := z_eq 0 0 c49x19 i49x18 rfl
          have c49x19a := lc_eq e49x18 c49x19
          refine g_lload 29 (gd rfl) rfl rfl ?_
          refine g_lreturn (gd rfl) rfl (hp49 _ _ ?_)
          show GG _ _ _ _ _ _ _ _ [.long z49x2] _ _ _
          have n52 : DSV (gvD s) (x2).toNatClampNeg (x3).toNatClampNeg (z49x2).toInt := by have i20 := inv_F hI (z := s.2.2.1 32 1) 0 32 rfl rfl; unfold In at i20; have dv := dsv_c (ndq_ga q_1 (show ((((s.2.2.1 32 1).toInt.toNat : Nat)) : Int) = (gvD s).2.2.2.2.2.2.1 from (by show _ = (s.2.2.1 32 1).toInt; omega))) (show (x3).toNatClampNeg < (s.2.2.1 32 1).toInt.toNat from (by show (x3).toInt.toNat < _; have h9 := q_3; exact (have a0 := in_u h3; have a1 := in_u h2; have oc := oc_194_49_32; by omega))) (by omega) (show FEX (gvD s) (x3).toNatClampNeg (s3.2.1 50) (s3.2.2.1 49 2) from (by have h9 := p3d.1.2; rw [p3d.2] at h9; exact h9)) (show (x2).toNatClampNeg < 32 from (by show (x2).toInt.toNat < 32; exact (have a0 := in_u h3; have a1 := in_u h2; have oc := oc_194_49_32; by omega))); have lt : (s3.2.1 50 (x2).toNatClampNeg).toInt < FRC := (by have h8 := Int64.toInt_lt (s3.2.1 50 (x2).toNatClampNeg); have h7 := c31a; rw [← e26]; unfold FRC; have h6 := Int64.toInt_lt z26; have h5 : (Int64.ofInt 9223372036854775807).toInt = 9223372036854775807 := rfl; omega); have ans := (dv.2 (by rw [← e7]; exact bt_f0 (bt_ask e11 e13 h2) c14)).2 lt; rw [← e45] at ans; rw [fdv_e e49x2 e49x7 (by have h := c49x10a; have h5 : (Int64.ofInt 0).toInt = 0 := rfl; omega) e49x16 c49x19a]; exact ans
          have n52a : FXQ (gvD s) s3 := by exact p3d.1
          exact g_lreturn (gd rfl) rfl (hP _ _ ⟨s3, hI3, (fr_tr rfl fr_rf hF3), z49x2, rfl, rfl, n52, n52a⟩)
        · skip
          have c49x19a := lc_ne e49x18 c49x19
          refine g_lload 24 (gd rfl) rfl rfl ?_
          refine g_lconst 1 25 (gd rfl) rfl rfl ?_
          refine g_lsub 26 (gd rfl) rfl (fun z49x25 e49x25 => ?_)
          refine g_lreturn (gd rfl) rfl (hp49 _ _ ?_)
          show GG _ _ _ _ _ _ _ _ [.long z49x25] _ _ _
          have n52 : DSV (gvD s) (x2).toNatClampNeg (x3).toNatClampNeg (z49x25).toInt := by have i20 := inv_F hI (z := s.2.2.1 32 1) 0 32 rfl rfl; unfold In at i20; have dv := dsv_c (ndq_ga q_1 (show ((((s.2.2.1 32 1).toInt.toNat : Nat)) : Int) = (gvD s).2.2.2.2.2.2.1 from (by show _ = (s.2.2.1 32 1).toInt; omega))) (show (x3).toNatClampNeg < (s.2.2.1 32 1).toInt.toNat from (by show (x3).toInt.toNat < _; have h9 := q_3; exact (have a0 := in_u h3; have a1 := in_u h2; have oc := oc_194_49_32; by omega))) (by omega) (show FEX (gvD s) (x3).toNatClampNeg (s3.2.1 50) (s3.2.2.1 49 2) from (by have h9 := p3d.1.2; rw [p3d.2] at h9; exact h9)) (show (x2).toNatClampNeg < 32 from (by show (x2).toInt.toNat < 32; exact (have a0 := in_u h3; have a1 := in_u h2; have oc := oc_194_49_32; by omega))); have lt : (s3.2.1 50 (x2).toNatClampNeg).toInt < FRC := (by have h8 := Int64.toInt_lt (s3.2.1 50 (x2).toNatClampNeg); have h7 := c31a; rw [← e26]; unfold FRC; have h6 := Int64.toInt_lt z26; have h5 : (Int64.ofInt 9223372036854775807).toInt = 9223372036854775807 := rfl; omega); have ans := (dv.2 (by rw [← e7]; exact bt_f0 (bt_ask e11 e13 h2) c14)).2 lt; rw [← e45] at ans; rw [fdv_n e49x2 e49x7 (by have h := c49x10a; have h5 : (Int64.ofInt 0).toInt = 0 := rfl; omega) e49x16 c49x19a e49x25]; exact ans
          have n52a : FXQ (gvD s) s3 := by exact p3d.1
          exact g_lreturn (gd rfl) rfl (hP _ _ ⟨s3, hI3, (fr_tr rfl fr_rf hF3), z49x25, rfl, rfl, n52, n52a⟩)
    · skip
      have i31 := z_eq 0 0 c31 i30 rfl
      have c31a := lc_eq e30 c31
      have i31a := lr_eq1 9223372036854775807 9223372036854775807 c31a (l_rng z26) (l_c 9223372036854775807 rfl) rfl
      refine g_ldc2_w 9000000000000000 37 (gd rfl) rfl rfl ?_
      refine g_goto 52 (gd rfl) rfl ?_
      have n52 : DSV (gvD s) (x2).toNatClampNeg (x3).toNatClampNeg ((Int64.ofInt 9000000000000000)).toInt := by have i20 := inv_F hI (z := s.2.2.1 32 1) 0 32 rfl rfl; unfold In at i20; have dv := dsv_c (ndq_ga q_1 (show ((((s.2.2.1 32 1).toInt.toNat : Nat)) : Int) = (gvD s).2.2.2.2.2.2.1 from (by show _ = (s.2.2.1 32 1).toInt; omega))) (show (x3).toNatClampNeg < (s.2.2.1 32 1).toInt.toNat from (by show (x3).toInt.toNat < _; have h9 := q_3; exact (have a0 := in_u h3; have a1 := in_u h2; have oc := oc_194_49_32; by omega))) (by omega) (show FEX (gvD s) (x3).toNatClampNeg (s3.2.1 50) (s3.2.2.1 49 2) from (by have h9 := p3d.1.2; rw [p3d.2] at h9; exact h9)) (show (x2).toNatClampNeg < 32 from (by show (x2).toInt.toNat < 32; exact (have a0 := in_u h3; have a1 := in_u h2; have oc := oc_194_49_32; by omega))); exact (dv.2 (by rw [← e7]; exact bt_f0 (bt_ask e11 e13 h2) c14)).1 (by rw [← e26]; have h7 := c31a; exact h7)
      have n52a : FXQ (gvD s) s3 := by exact p3d.1
      exact g_lreturn (gd rfl) rfl (hP _ _ ⟨s3, hI3, (fr_tr rfl fr_rf hF3), (Int64.ofInt 9000000000000000), rfl, rfl, n52, n52a⟩)
  · skip
    have i14 := z_ne 1 1 c14 i13 rfl
    refine g_ldc2_w 9000000000000001 20 (gd rfl) rfl rfl ?_
    have n20 : DSV (gvD s) (x2).toNatClampNeg (x3).toNatClampNeg ((Int64.ofInt 9000000000000001)).toInt := by have i20 := inv_F hI (z := s.2.2.1 32 1) 0 32 rfl rfl; unfold In at i20; have dv := dsv_c (ndq_ga q_1 (show ((((s.2.2.1 32 1).toInt.toNat : Nat)) : Int) = (gvD s).2.2.2.2.2.2.1 from (by show _ = (s.2.2.1 32 1).toInt; omega))) (show (x3).toNatClampNeg < (s.2.2.1 32 1).toInt.toNat from (by show (x3).toInt.toNat < _; have h9 := q_3; exact (have a0 := in_u h3; have a1 := in_u h2; have oc := oc_194_49_32; by omega))) (by omega) (show FEX (gvD s) (x3).toNatClampNeg (s3.2.1 50) (s3.2.2.1 49 2) from (by have h9 := p3d.1.2; rw [p3d.2] at h9; exact h9)) (show (x2).toNatClampNeg < 32 from (by show (x2).toInt.toNat < 32; exact (have a0 := in_u h3; have a1 := in_u h2; have oc := oc_194_49_32; by omega))); exact dv.1 (by rw [← e7]; exact bt_t1 (bt_ask e11 e13 h2) c14)
    have n20a : FXQ (gvD s) s3 := by exact p3d.1
    exact g_lreturn (gd rfl) rfl (hP _ _ ⟨s3, hI3, (fr_tr rfl fr_rf hF3), (Int64.ofInt 9000000000000001), rfl, rfl, n20, n20a⟩)

theorem oc_229_0 : (Int32.ofInt (-1)).toInt = (-1) ∧ (Int32.ofInt 0).toInt = 0 ∧ (Int32.ofInt 1).toInt = 1 := ⟨rfl, rfl, rfl⟩
/-- GraphHouse.distance -/
theorem f_229_0 {Z : AmZ} {A : Nat → Nat} {s : GS} {ex : va_W} {d : Nat} {x1 : Int32} {x2 : Int32} (hd : 7 ≤ d) (hI : Inv s) (q_0 : TQ s) (q_1 : TQD s) (q_2 : NDC s) (q_3 : FXC s) : GC Z d 229 [.ref (A 0), .int x1, .int x2] (WW Z A s ++ ex) 3 18 (fun v u => ∃ t : GS, Inv t ∧ Fr fm_229_0 s t ∧ ∃ z : Int64, v = some (.long z) ∧ u = WW Z A t ++ ex ∧ (((0 ≤ x1.toInt ∧ x1.toInt < (shC s).2.2.2.2.2.2.1) ∧ (0 ≤ x2.toInt ∧ x2.toInt < (shC s).2.2.2.2.2.2.1)) ∧ DSV (shC s) x1.toNatClampNeg x2.toNatClampNeg (z).toInt) ∧ (FXQ (shC s) t)) (gEx Z A ex ([], [], [], []) s (¬ ((0 ≤ x1.toInt ∧ x1.toInt < (shC s).2.2.2.2.2.2.1) ∧ (0 ≤ x2.toInt ∧ x2.toInt < (shC s).2.2.2.2.2.2.1))) (False)) := by
  intro post xp hP hX
  obtain ⟨u_0_2, e_0_2⟩ : ∃ w, w = s.2.2.1 0 2 := ⟨_, rfl⟩
  have ro_0_2 := inv_F hI (-1) 4000 rfl e_0_2
  obtain ⟨u_2_1, e_2_1⟩ : ∃ w, w = s.2.2.1 2 1 := ⟨_, rfl⟩
  have ro_2_1 := inv_F hI 0 32 rfl e_2_1
  obtain ⟨u_32_1, e_32_1⟩ : ∃ w, w = s.2.2.1 32 1 := ⟨_, rfl⟩
  have ro_32_1 := inv_F hI 0 32 rfl e_32_1
  refine g_enter2 (k := 229) (N := 900) (by first | exact dq1 hd rfl | exact dq0 hd rfl | exact dq2 hd rfl | exact dq3 hd rfl | omega) rfl (Nat.le_of_ble_eq_true rfl) ?_
  refine g_aload_n 1 (gd rfl) rfl rfl ?_
  refine g_callv (X := _) (As := []) (r := []) (b := A 0) (q := 0) 4 (gd rfl) rfl rfl rfl rfl rfl (ww_o rfl) (Nat.le_of_ble_eq_true rfl) (mc := 0) (ms := 0) (Nat.zero_le _) (Nat.zero_le _) (P := fun v u => _) ?_ (fun e u h => h) (fun v u h => h)
  intro po1 xx1 hp1 hx1
  refine g_enter2 (k := 259) (N := 300) (by first | exact dq1 hd rfl | exact dq0 hd rfl | exact dq2 hd rfl | exact dq3 hd rfl | omega) rfl (Nat.le_of_ble_eq_true rfl) ?_
  refine g_aload_n 1 (gd rfl) rfl rfl ?_
  refine g_getI 4 (gd rfl) rfl rfl rfl (fun z1x1 e1x1 => ?_)
  have q1x1 : u_0_2 = z1x1 := (e_0_2).trans e1x1.symm
  subst q1x1
  refine g_iconst (-1) 5 (gd rfl) rfl rfl ?_
  refine g_cmp_ne 8 18 (gd rfl) rfl rfl (fun c1x5 => ?_) (fun c1x5 => ?_)
  · skip
    have i1x5 := r_ne1 0 4000 c1x5 ro_0_2 (in_c (-1) rfl) rfl
    refine g_aload_n 19 (gd rfl) rfl rfl ?_
    refine g_getA (q2 := 32) 22 (gd rfl) rfl rfl rfl rfl ?_
    refine g_areturn (gd rfl) rfl (hp1 _ _ ?_)
    show GG _ _ _ _ _ _ _ _ [.ref (A 32)] _ _ _
    refine g_astore_n 5 (gd rfl) rfl (Nat.le_of_ble_eq_true rfl) ?_
    refine g_aload_n 6 (gd rfl) rfl rfl ?_
    refine g_iload_n 7 (gd rfl) rfl rfl ?_
    refine g_callv (X := _) (As := [.int x1]) (r := []) (b := A 32) (q := 32) 10 (gd rfl) rfl rfl rfl rfl rfl (ww_o rfl) (Nat.le_of_ble_eq_true rfl) (mc := 0) (ms := 0) (Nat.zero_le _) (Nat.zero_le _) (P := fun v u => _) ?_ (fun e u h => h) (fun v u h => h)
    intro po7 xx7 hp7 hx7
    refine g_enter2 (k := 94) (N := 300) (by first | exact dq1 hd rfl | exact dq0 hd rfl | exact dq2 hd rfl | exact dq3 hd rfl | omega) rfl (Nat.le_of_ble_eq_true rfl) ?_
    refine g_iload_n 1 (gd rfl) rfl rfl ?_
    refine g_if_lt 4 16 (gd rfl) rfl rfl (fun c7x1 => ?_) (fun c7x1 => ?_)
    · skip
      have i7x1 := z_lt (-2147483648) (-1) c7x1 (i_rng x1) rfl
      refine g_iconst 0 17 (gd rfl) rfl rfl ?_
      refine g_ireturn (gd rfl) rfl (nb01 (in_w 0 1 (in_c 0 rfl) rfl)) (hp7 _ _ ?_)
      show GG _ _ _ _ _ _ _ _ [.int (Int32.ofInt 0)] _ _ _
      refine g_if_eq 13 25 (gd rfl) rfl rfl (fun c10 => ?_) (fun c10 => ?_)
      · skip
        refine g_iconst 0 26 (gd rfl) rfl rfl ?_
        refine g_thr (E := am_IA) (y := yX11_allow) 29 (gd rfl) rfl rfl (Or.inl ⟨rfl, rfl, rfl⟩) (by first | exact dq1 hd rfl | exact dq0 hd rfl | exact dq2 hd rfl | exact dq3 hd rfl | omega) (Nat.le_of_ble_eq_true rfl) (Nat.le_of_ble_eq_true rfl) (Nat.le_of_ble_eq_true rfl) (fun c26 => ?_) (fun c26 => ?_)
        · skip
          exact zn_ne c26 (in_c 0 rfl) rfl
        · skip
          have n26 : ¬ ((0 ≤ x1.toInt ∧ x1.toInt < (shC s).2.2.2.2.2.2.1) ∧ (0 ≤ x2.toInt ∧ x2.toInt < (shC s).2.2.2.2.2.2.1)) := by first | (rw [shC_n (by rw [← e1x1]; exact c1x5)]; show ¬ ((0 ≤ x1.toInt ∧ x1.toInt < (s.2.2.1 2 1).toInt) ∧ (0 ≤ x2.toInt ∧ x2.toInt < (s.2.2.1 2 1).toInt)); rw [← e_2_1]; exact (have a0 := in_u ro_32_1; have a1 := in_u ro_2_1; have a2 := in_u i1x5; have a3 := in_u i7x1; have oc := oc_229_0; by omega)) | (rw [shC_d (by rw [← e1x1]; exact c1x5)]; show ¬ ((0 ≤ x1.toInt ∧ x1.toInt < (s.2.2.1 32 1).toInt) ∧ (0 ≤ x2.toInt ∧ x2.toInt < (s.2.2.1 32 1).toInt)); rw [← e_32_1]; exact (have a0 := in_u ro_32_1; have a1 := in_u ro_2_1; have a2 := in_u i1x5; have a3 := in_u i7x1; have oc := oc_229_0; by omega))
          exact (hX _ _ ⟨Or.inl ⟨rfl, n26⟩, s, hI, fr_rf, rfl⟩)
      · skip
        exact zn_ne c10 (in_c 0 rfl) rfl
    · skip
      have i7x1 := z_ge 0 2147483647 c7x1 (i_rng x1) rfl
      refine g_iload_n 5 (gd rfl) rfl rfl ?_
      refine g_aload_n 6 (gd rfl) rfl rfl ?_
      refine g_getI 9 (gd rfl) rfl rfl rfl (fun z7x6 e7x6 => ?_)
      have q7x6 : u_32_1 = z7x6 := (e_32_1).trans e7x6.symm
      subst q7x6
      refine g_cmp_ge 12 16 (gd rfl) rfl rfl (fun c7x9 => ?_) (fun c7x9 => ?_)
      · skip
        refine g_iconst 0 17 (gd rfl) rfl rfl ?_
        refine g_ireturn (gd rfl) rfl (nb01 (in_w 0 1 (in_c 0 rfl) rfl)) (hp7 _ _ ?_)
        show GG _ _ _ _ _ _ _ _ [.int (Int32.ofInt 0)] _ _ _
        refine g_if_eq 13 25 (gd rfl) rfl rfl (fun c10 => ?_) (fun c10 => ?_)
        · skip
          refine g_iconst 0 26 (gd rfl) rfl rfl ?_
          refine g_thr (E := am_IA) (y := yX11_allow) 29 (gd rfl) rfl rfl (Or.inl ⟨rfl, rfl, rfl⟩) (by first | exact dq1 hd rfl | exact dq0 hd rfl | exact dq2 hd rfl | exact dq3 hd rfl | omega) (Nat.le_of_ble_eq_true rfl) (Nat.le_of_ble_eq_true rfl) (Nat.le_of_ble_eq_true rfl) (fun c26 => ?_) (fun c26 => ?_)
          · skip
            exact zn_ne c26 (in_c 0 rfl) rfl
          · skip
            have n26 : ¬ ((0 ≤ x1.toInt ∧ x1.toInt < (shC s).2.2.2.2.2.2.1) ∧ (0 ≤ x2.toInt ∧ x2.toInt < (shC s).2.2.2.2.2.2.1)) := by first | (rw [shC_n (by rw [← e1x1]; exact c1x5)]; show ¬ ((0 ≤ x1.toInt ∧ x1.toInt < (s.2.2.1 2 1).toInt) ∧ (0 ≤ x2.toInt ∧ x2.toInt < (s.2.2.1 2 1).toInt)); rw [← e_2_1]; exact (have a0 := in_u ro_32_1; have a1 := in_u ro_2_1; have a2 := in_u i1x5; have a3 := in_u i7x1; have oc := oc_229_0; by omega)) | (rw [shC_d (by rw [← e1x1]; exact c1x5)]; show ¬ ((0 ≤ x1.toInt ∧ x1.toInt < (s.2.2.1 32 1).toInt) ∧ (0 ≤ x2.toInt ∧ x2.toInt < (s.2.2.1 32 1).toInt)); rw [← e_32_1]; exact (have a0 := in_u ro_32_1; have a1 := in_u ro_2_1; have a2 := in_u i1x5; have a3 := in_u i7x1; have oc := oc_229_0; by omega))
            exact (hX _ _ ⟨Or.inl ⟨rfl, n26⟩, s, hI, fr_rf, rfl⟩)
        · skip
          exact zn_ne c10 (in_c 0 rfl) rfl
      · skip
        have i7x9 := r_lt1 0 31 c7x9 i7x1 ro_32_1 rfl
        have i7x9a := r_lt2 1 32 c7x9 i7x1 ro_32_1 rfl
        refine g_iconst 1 13 (gd rfl) rfl rfl ?_
        refine g_goto 17 (gd rfl) rfl ?_
        refine g_ireturn (gd rfl) rfl (nb01 (in_w 0 1 (in_c 1 rfl) rfl)) (hp7 _ _ ?_)
        show GG _ _ _ _ _ _ _ _ [.int (Int32.ofInt 1)] _ _ _
        refine g_if_eq 13 25 (gd rfl) rfl rfl (fun c10 => ?_) (fun c10 => ?_)
        · skip
          exact zn_eq c10 (in_c 1 rfl) rfl
        · skip
          refine g_aload_n 14 (gd rfl) rfl rfl ?_
          refine g_iload_n 15 (gd rfl) rfl rfl ?_
          refine g_callv (X := _) (As := [.int x2]) (r := []) (b := A 32) (q := 32) 18 (gd rfl) rfl rfl rfl rfl rfl (ww_o rfl) (Nat.le_of_ble_eq_true rfl) (mc := 0) (ms := 0) (Nat.zero_le _) (Nat.zero_le _) (P := fun v u => _) ?_ (fun e u h => h) (fun v u h => h)
          intro po15 xx15 hp15 hx15
          refine g_enter2 (k := 94) (N := 300) (by first | exact dq1 hd rfl | exact dq0 hd rfl | exact dq2 hd rfl | exact dq3 hd rfl | omega) rfl (Nat.le_of_ble_eq_true rfl) ?_
          refine g_iload_n 1 (gd rfl) rfl rfl ?_
          refine g_if_lt 4 16 (gd rfl) rfl rfl (fun c15x1 => ?_) (fun c15x1 => ?_)
          · skip
            have i15x1 := z_lt (-2147483648) (-1) c15x1 (i_rng x2) rfl
            refine g_iconst 0 17 (gd rfl) rfl rfl ?_
            refine g_ireturn (gd rfl) rfl (nb01 (in_w 0 1 (in_c 0 rfl) rfl)) (hp15 _ _ ?_)
            show GG _ _ _ _ _ _ _ _ [.int (Int32.ofInt 0)] _ _ _
            refine g_if_eq 21 25 (gd rfl) rfl rfl (fun c18 => ?_) (fun c18 => ?_)
            · skip
              refine g_iconst 0 26 (gd rfl) rfl rfl ?_
              refine g_thr (E := am_IA) (y := yX11_allow) 29 (gd rfl) rfl rfl (Or.inl ⟨rfl, rfl, rfl⟩) (by first | exact dq1 hd rfl | exact dq0 hd rfl | exact dq2 hd rfl | exact dq3 hd rfl | omega) (Nat.le_of_ble_eq_true rfl) (Nat.le_of_ble_eq_true rfl) (Nat.le_of_ble_eq_true rfl) (fun c26 => ?_) (fun c26 => ?_)
              · skip
                exact zn_ne c26 (in_c 0 rfl) rfl
              · skip
                have n26 : ¬ ((0 ≤ x1.toInt ∧ x1.toInt < (shC s).2.2.2.2.2.2.1) ∧ (0 ≤ x2.toInt ∧ x2.toInt < (shC s).2.2.2.2.2.2.1)) := by first | (rw [shC_n (by rw [← e1x1]; exact c1x5)]; show ¬ ((0 ≤ x1.toInt ∧ x1.toInt < (s.2.2.1 2 1).toInt) ∧ (0 ≤ x2.toInt ∧ x2.toInt < (s.2.2.1 2 1).toInt)); rw [← e_2_1]; exact (have a0 := in_u i7x9; have a1 := in_u i7x9a; have a2 := in_u ro_2_1; have a3 := in_u i1x5; have a4 := in_u i15x1; have oc := oc_229_0; by omega)) | (rw [shC_d (by rw [← e1x1]; exact c1x5)]; show ¬ ((0 ≤ x1.toInt ∧ x1.toInt < (s.2.2.1 32 1).toInt) ∧ (0 ≤ x2.toInt ∧ x2.toInt < (s.2.2.1 32 1).toInt)); rw [← e_32_1]; exact (have a0 := in_u i7x9; have a1 := in_u i7x9a; have a2 := in_u ro_2_1; have a3 := in_u i1x5; have a4 := in_u i15x1; have oc := oc_229_0; by omega))
                exact (hX _ _ ⟨Or.inl ⟨rfl, n26⟩, s, hI, fr_rf, rfl⟩)
            · skip
              exact zn_ne c18 (in_c 0 rfl) rfl
          · skip
            have i15x1 := z_ge 0 2147483647 c15x1 (i_rng x2) rfl
            refine g_iload_n 5 (gd rfl) rfl rfl ?_
            refine g_aload_n 6 (gd rfl) rfl rfl ?_
            refine g_getI 9 (gd rfl) rfl rfl rfl (fun z15x6 e15x6 => ?_)
            have q15x6 : u_32_1 = z15x6 := (e_32_1).trans e15x6.symm
            subst q15x6
            refine g_cmp_ge 12 16 (gd rfl) rfl rfl (fun c15x9 => ?_) (fun c15x9 => ?_)
            · skip
              have i15x9 := r_le2 1 2147483647 c15x9 i7x9a i15x1 rfl
              refine g_iconst 0 17 (gd rfl) rfl rfl ?_
              refine g_ireturn (gd rfl) rfl (nb01 (in_w 0 1 (in_c 0 rfl) rfl)) (hp15 _ _ ?_)
              show GG _ _ _ _ _ _ _ _ [.int (Int32.ofInt 0)] _ _ _
              refine g_if_eq 21 25 (gd rfl) rfl rfl (fun c18 => ?_) (fun c18 => ?_)
              · skip
                refine g_iconst 0 26 (gd rfl) rfl rfl ?_
                refine g_thr (E := am_IA) (y := yX11_allow) 29 (gd rfl) rfl rfl (Or.inl ⟨rfl, rfl, rfl⟩) (by first | exact dq1 hd rfl | exact dq0 hd rfl | exact dq2 hd rfl | exact dq3 hd rfl | omega) (Nat.le_of_ble_eq_true rfl) (Nat.le_of_ble_eq_true rfl) (Nat.le_of_ble_eq_true rfl) (fun c26 => ?_) (fun c26 => ?_)
                · skip
                  exact zn_ne c26 (in_c 0 rfl) rfl
                · skip
                  have n26 : ¬ ((0 ≤ x1.toInt ∧ x1.toInt < (shC s).2.2.2.2.2.2.1) ∧ (0 ≤ x2.toInt ∧ x2.toInt < (shC s).2.2.2.2.2.2.1)) := by first | (rw [shC_n (by rw [← e1x1]; exact c1x5)]; show ¬ ((0 ≤ x1.toInt ∧ x1.toInt < (s.2.2.1 2 1).toInt) ∧ (0 ≤ x2.toInt ∧ x2.toInt < (s.2.2.1 2 1).toInt)); rw [← e_2_1]; exact (have a0 := in_u i7x9; have a1 := in_u i7x9a; have a2 := in_u ro_2_1; have a3 := in_u i1x5; have a4 := in_u i15x9; have oc := oc_229_0; by omega)) | (rw [shC_d (by rw [← e1x1]; exact c1x5)]; show ¬ ((0 ≤ x1.toInt ∧ x1.toInt < (s.2.2.1 32 1).toInt) ∧ (0 ≤ x2.toInt ∧ x2.toInt < (s.2.2.1 32 1).toInt)); rw [← e_32_1]; exact (have a0 := in_u i7x9; have a1 := in_u i7x9a; have a2 := in_u ro_2_1; have a3 := in_u i1x5; have a4 := in_u i15x9; have oc := oc_229_0; by omega))
                  exact (hX _ _ ⟨Or.inl ⟨rfl, n26⟩, s, hI, fr_rf, rfl⟩)
              · skip
                exact zn_ne c18 (in_c 0 rfl) rfl
            · skip
              have i15x9 := r_lt1 0 31 c15x9 i15x1 i7x9a rfl
              refine g_iconst 1 13 (gd rfl) rfl rfl ?_
              refine g_goto 17 (gd rfl) rfl ?_
              refine g_ireturn (gd rfl) rfl (nb01 (in_w 0 1 (in_c 1 rfl) rfl)) (hp15 _ _ ?_)
              show GG _ _ _ _ _ _ _ _ [.int (Int32.ofInt 1)] _ _ _
              refine g_if_eq 21 25 (gd rfl) rfl rfl (fun c18 => ?_) (fun c18 => ?_)
              · skip
                exact zn_eq c18 (in_c 1 rfl) rfl
              · skip
                refine g_iconst 1 22 (gd rfl) rfl rfl ?_
                refine g_goto 26 (gd rfl) rfl ?_
                refine g_thr (E := am_IA) (y := yX11_allow) 29 (gd rfl) rfl rfl (Or.inl ⟨rfl, rfl, rfl⟩) (by first | exact dq1 hd rfl | exact dq0 hd rfl | exact dq2 hd rfl | exact dq3 hd rfl | omega) (Nat.le_of_ble_eq_true rfl) (Nat.le_of_ble_eq_true rfl) (Nat.le_of_ble_eq_true rfl) (fun c26 => ?_) (fun c26 => ?_)
                · skip
                  refine g_aload_n 30 (gd rfl) rfl rfl ?_
                  refine g_getA (q2 := 49) 33 (gd rfl) rfl rfl rfl rfl ?_
                  refine g_aload_n 34 (gd rfl) rfl rfl ?_
                  refine g_iload_n 35 (gd rfl) rfl rfl ?_
                  refine g_iload_n 36 (gd rfl) rfl rfl ?_
                  have p36 : TQD s := by first | exact q_0 | exact q_1
                  have p36a : NDQ (gvD s) := by first | (rw [← shC_n (by rw [← e1x1]; exact c1x5)]; exact q_2) | (rw [← shC_d (by rw [← e1x1]; exact c1x5)]; exact q_2)
                  have p36b : FXB (gvD s) s := by first | (rw [← shC_n (by rw [← e1x1]; exact c1x5)]; exact q_3) | (rw [← shC_d (by rw [← e1x1]; exact c1x5)]; exact q_3)
                  have p36c : (x2).toInt < (s.2.2.1 32 1).toInt := by first | (rw [← e_2_1]; exact (have a0 := in_u i15x9; have a1 := in_u i7x9; have a2 := in_u i7x9a; have a3 := in_u ro_2_1; have a4 := in_u i1x5; have oc := oc_229_0; by omega)) | (rw [← e_32_1]; exact (have a0 := in_u i15x9; have a1 := in_u i7x9; have a2 := in_u i7x9a; have a3 := in_u ro_2_1; have a4 := in_u i1x5; have oc := oc_229_0; by omega))
                  refine g_callv (X := _) (As := [.ref (A 32), .int x1, .int x2]) (r := []) (b := A 49) (q := 49) 39 (gd rfl) rfl rfl rfl rfl rfl (ww_o rfl) (Nat.le_of_ble_eq_true rfl) (Nat.zero_le _) (Nat.zero_le _) (f_194_49_32 (by first | exact dq1 hd rfl | exact dq0 hd rfl | exact dq2 hd rfl | exact dq3 hd rfl | omega) hI (in_w 0 31 i7x9 rfl) (in_w 0 31 i15x9 rfl) p36 p36a p36b p36c) (fun e u h => h) (fun v u h => ?_)
                  obtain ⟨s36, hI36, hF36, z36, rfl, rfl, p36d, p36e⟩ := h
                  show GG _ _ _ _ _ _ _ _ [.long z36] _ _ _
                  have n39 : ((0 ≤ x1.toInt ∧ x1.toInt < (shC s).2.2.2.2.2.2.1) ∧ (0 ≤ x2.toInt ∧ x2.toInt < (shC s).2.2.2.2.2.2.1)) ∧ DSV (shC s) x1.toNatClampNeg x2.toNatClampNeg (z36).toInt := by first | (rw [shC_n (by rw [← e1x1]; exact c1x5)]; exact ⟨⟨⟨by exact (have a0 := in_u i15x9; have a1 := in_u i7x9; have a2 := in_u i7x9a; have a3 := in_u ro_2_1; have a4 := in_u i1x5; have oc := oc_229_0; by omega), by show x1.toInt < (s.2.2.1 2 1).toInt; rw [← e_2_1]; exact (have a0 := in_u i15x9; have a1 := in_u i7x9; have a2 := in_u i7x9a; have a3 := in_u ro_2_1; have a4 := in_u i1x5; have oc := oc_229_0; by omega)⟩, ⟨by exact (have a0 := in_u i15x9; have a1 := in_u i7x9; have a2 := in_u i7x9a; have a3 := in_u ro_2_1; have a4 := in_u i1x5; have oc := oc_229_0; by omega), by show x2.toInt < (s.2.2.1 2 1).toInt; rw [← e_2_1]; exact (have a0 := in_u i15x9; have a1 := in_u i7x9; have a2 := in_u i7x9a; have a3 := in_u ro_2_1; have a4 := in_u i1x5; have oc := oc_229_0; by omega)⟩⟩, p36d⟩) | (rw [shC_d (by rw [← e1x1]; exact c1x5)]; exact ⟨⟨⟨by exact (have a0 := in_u i15x9; have a1 := in_u i7x9; have a2 := in_u i7x9a; have a3 := in_u ro_2_1; have a4 := in_u i1x5; have oc := oc_229_0; by omega), by show x1.toInt < (s.2.2.1 32 1).toInt; rw [← e_32_1]; exact (have a0 := in_u i15x9; have a1 := in_u i7x9; have a2 := in_u i7x9a; have a3 := in_u ro_2_1; have a4 := in_u i1x5; have oc := oc_229_0; by omega)⟩, ⟨by exact (have a0 := in_u i15x9; have a1 := in_u i7x9; have a2 := in_u i7x9a; have a3 := in_u ro_2_1; have a4 := in_u i1x5; have oc := oc_229_0; by omega), by show x2.toInt < (s.2.2.1 32 1).toInt; rw [← e_32_1]; exact (have a0 := in_u i15x9; have a1 := in_u i7x9; have a2 := in_u i7x9a; have a3 := in_u ro_2_1; have a4 := in_u i1x5; have oc := oc_229_0; by omega)⟩⟩, p36d⟩)
                  have n39a : FXQ (shC s) s36 := by first | (rw [shC_n (by rw [← e1x1]; exact c1x5)]; exact p36e) | (rw [shC_d (by rw [← e1x1]; exact c1x5)]; exact p36e)
                  exact g_lreturn (gd rfl) rfl (hP _ _ ⟨s36, hI36, (fr_tr rfl fr_rf hF36), z36, rfl, rfl, n39, n39a⟩)
                · skip
                  exact zn_eq c26 (in_c 1 rfl) rfl
  · skip
    have i1x5 := r_eq1 (-1) (-1) c1x5 ro_0_2 (in_c (-1) rfl) rfl
    refine g_aload_n 9 (gd rfl) rfl rfl ?_
    refine g_getA (q2 := 1) 12 (gd rfl) rfl rfl rfl rfl ?_
    refine g_getA (q2 := 2) 15 (gd rfl) rfl rfl rfl rfl ?_
    refine g_goto 22 (gd rfl) rfl ?_
    refine g_areturn (gd rfl) rfl (hp1 _ _ ?_)
    show GG _ _ _ _ _ _ _ _ [.ref (A 2)] _ _ _
    refine g_astore_n 5 (gd rfl) rfl (Nat.le_of_ble_eq_true rfl) ?_
    refine g_aload_n 6 (gd rfl) rfl rfl ?_
    refine g_iload_n 7 (gd rfl) rfl rfl ?_
    refine g_callv (X := _) (As := [.int x1]) (r := []) (b := A 2) (q := 2) 10 (gd rfl) rfl rfl rfl rfl rfl (ww_o rfl) (Nat.le_of_ble_eq_true rfl) (mc := 0) (ms := 0) (Nat.zero_le _) (Nat.zero_le _) (P := fun v u => _) ?_ (fun e u h => h) (fun v u h => h)
    intro po7 xx7 hp7 hx7
    refine g_enter2 (k := 94) (N := 300) (by first | exact dq1 hd rfl | exact dq0 hd rfl | exact dq2 hd rfl | exact dq3 hd rfl | omega) rfl (Nat.le_of_ble_eq_true rfl) ?_
    refine g_iload_n 1 (gd rfl) rfl rfl ?_
    refine g_if_lt 4 16 (gd rfl) rfl rfl (fun c7x1 => ?_) (fun c7x1 => ?_)
    · skip
      have i7x1 := z_lt (-2147483648) (-1) c7x1 (i_rng x1) rfl
      refine g_iconst 0 17 (gd rfl) rfl rfl ?_
      refine g_ireturn (gd rfl) rfl (nb01 (in_w 0 1 (in_c 0 rfl) rfl)) (hp7 _ _ ?_)
      show GG _ _ _ _ _ _ _ _ [.int (Int32.ofInt 0)] _ _ _
      refine g_if_eq 13 25 (gd rfl) rfl rfl (fun c10 => ?_) (fun c10 => ?_)
      · skip
        refine g_iconst 0 26 (gd rfl) rfl rfl ?_
        refine g_thr (E := am_IA) (y := yX11_allow) 29 (gd rfl) rfl rfl (Or.inl ⟨rfl, rfl, rfl⟩) (by first | exact dq1 hd rfl | exact dq0 hd rfl | exact dq2 hd rfl | exact dq3 hd rfl | omega) (Nat.le_of_ble_eq_true rfl) (Nat.le_of_ble_eq_true rfl) (Nat.le_of_ble_eq_true rfl) (fun c26 => ?_) (fun c26 => ?_)
        · skip
          exact zn_ne c26 (in_c 0 rfl) rfl
        · skip
          have n26 : ¬ ((0 ≤ x1.toInt ∧ x1.toInt < (shC s).2.2.2.2.2.2.1) ∧ (0 ≤ x2.toInt ∧ x2.toInt < (shC s).2.2.2.2.2.2.1)) := by first | (rw [shC_n (by rw [← e1x1]; exact c1x5)]; show ¬ ((0 ≤ x1.toInt ∧ x1.toInt < (s.2.2.1 2 1).toInt) ∧ (0 ≤ x2.toInt ∧ x2.toInt < (s.2.2.1 2 1).toInt)); rw [← e_2_1]; exact (have a0 := in_u ro_32_1; have a1 := in_u ro_2_1; have a2 := in_u i1x5; have a3 := in_u i7x1; have oc := oc_229_0; by omega)) | (rw [shC_d (by rw [← e1x1]; exact c1x5)]; show ¬ ((0 ≤ x1.toInt ∧ x1.toInt < (s.2.2.1 32 1).toInt) ∧ (0 ≤ x2.toInt ∧ x2.toInt < (s.2.2.1 32 1).toInt)); rw [← e_32_1]; exact (have a0 := in_u ro_32_1; have a1 := in_u ro_2_1; have a2 := in_u i1x5; have a3 := in_u i7x1; have oc := oc_229_0; by omega))
          exact (hX _ _ ⟨Or.inl ⟨rfl, n26⟩, s, hI, fr_rf, rfl⟩)
      · skip
        exact zn_ne c10 (in_c 0 rfl) rfl
    · skip
      have i7x1 := z_ge 0 2147483647 c7x1 (i_rng x1) rfl
      refine g_iload_n 5 (gd rfl) rfl rfl ?_
      refine g_aload_n 6 (gd rfl) rfl rfl ?_
      refine g_getI 9 (gd rfl) rfl rfl rfl (fun z7x6 e7x6 => ?_)
      have q7x6 : u_2_1 = z7x6 := (e_2_1).trans e7x6.symm
      subst q7x6
      refine g_cmp_ge 12 16 (gd rfl) rfl rfl (fun c7x9 => ?_) (fun c7x9 => ?_)
      · skip
        refine g_iconst 0 17 (gd rfl) rfl rfl ?_
        refine g_ireturn (gd rfl) rfl (nb01 (in_w 0 1 (in_c 0 rfl) rfl)) (hp7 _ _ ?_)
        show GG _ _ _ _ _ _ _ _ [.int (Int32.ofInt 0)] _ _ _
        refine g_if_eq 13 25 (gd rfl) rfl rfl (fun c10 => ?_) (fun c10 => ?_)
        · skip
          refine g_iconst 0 26 (gd rfl) rfl rfl ?_
          refine g_thr (E := am_IA) (y := yX11_allow) 29 (gd rfl) rfl rfl (Or.inl ⟨rfl, rfl, rfl⟩) (by first | exact dq1 hd rfl | exact dq0 hd rfl | exact dq2 hd rfl | exact dq3 hd rfl | omega) (Nat.le_of_ble_eq_true rfl) (Nat.le_of_ble_eq_true rfl) (Nat.le_of_ble_eq_true rfl) (fun c26 => ?_) (fun c26 => ?_)
          · skip
            exact zn_ne c26 (in_c 0 rfl) rfl
          · skip
            have n26 : ¬ ((0 ≤ x1.toInt ∧ x1.toInt < (shC s).2.2.2.2.2.2.1) ∧ (0 ≤ x2.toInt ∧ x2.toInt < (shC s).2.2.2.2.2.2.1)) := by first | (rw [shC_n (by rw [← e1x1]; exact c1x5)]; show ¬ ((0 ≤ x1.toInt ∧ x1.toInt < (s.2.2.1 2 1).toInt) ∧ (0 ≤ x2.toInt ∧ x2.toInt < (s.2.2.1 2 1).toInt)); rw [← e_2_1]; exact (have a0 := in_u ro_32_1; have a1 := in_u ro_2_1; have a2 := in_u i1x5; have a3 := in_u i7x1; have oc := oc_229_0; by omega)) | (rw [shC_d (by rw [← e1x1]; exact c1x5)]; show ¬ ((0 ≤ x1.toInt ∧ x1.toInt < (s.2.2.1 32 1).toInt) ∧ (0 ≤ x2.toInt ∧ x2.toInt < (s.2.2.1 32 1).toInt)); rw [← e_32_1]; exact (have a0 := in_u ro_32_1; have a1 := in_u ro_2_1; have a2 := in_u i1x5; have a3 := in_u i7x1; have oc := oc_229_0; by omega))
            exact (hX _ _ ⟨Or.inl ⟨rfl, n26⟩, s, hI, fr_rf, rfl⟩)
        · skip
          exact zn_ne c10 (in_c 0 rfl) rfl
      · skip
        have i7x9 := r_lt1 0 31 c7x9 i7x1 ro_2_1 rfl
        have i7x9a := r_lt2 1 32 c7x9 i7x1 ro_2_1 rfl
        refine g_iconst 1 13 (gd rfl) rfl rfl ?_
        refine g_goto 17 (gd rfl) rfl ?_
        refine g_ireturn (gd rfl) rfl (nb01 (in_w 0 1 (in_c 1 rfl) rfl)) (hp7 _ _ ?_)
        show GG _ _ _ _ _ _ _ _ [.int (Int32.ofInt 1)] _ _ _
        refine g_if_eq 13 25 (gd rfl) rfl rfl (fun c10 => ?_) (fun c10 => ?_)
        · skip
          exact zn_eq c10 (in_c 1 rfl) rfl
        · skip
          refine g_aload_n 14 (gd rfl) rfl rfl ?_
          refine g_iload_n 15 (gd rfl) rfl rfl ?_
          refine g_callv (X := _) (As := [.int x2]) (r := []) (b := A 2) (q := 2) 18 (gd rfl) rfl rfl rfl rfl rfl (ww_o rfl) (Nat.le_of_ble_eq_true rfl) (mc := 0) (ms := 0) (Nat.zero_le _) (Nat.zero_le _) (P := fun v u => _) ?_ (fun e u h => h) (fun v u h => h)
          intro po15 xx15 hp15 hx15
          refine g_enter2 (k := 94) (N := 300) (by first | exact dq1 hd rfl | exact dq0 hd rfl | exact dq2 hd rfl | exact dq3 hd rfl | omega) rfl (Nat.le_of_ble_eq_true rfl) ?_
          refine g_iload_n 1 (gd rfl) rfl rfl ?_
          refine g_if_lt 4 16 (gd rfl) rfl rfl (fun c15x1 => ?_) (fun c15x1 => ?_)
          · skip
            have i15x1 := z_lt (-2147483648) (-1) c15x1 (i_rng x2) rfl
            refine g_iconst 0 17 (gd rfl) rfl rfl ?_
            refine g_ireturn (gd rfl) rfl (nb01 (in_w 0 1 (in_c 0 rfl) rfl)) (hp15 _ _ ?_)
            show GG _ _ _ _ _ _ _ _ [.int (Int32.ofInt 0)] _ _ _
            refine g_if_eq 21 25 (gd rfl) rfl rfl (fun c18 => ?_) (fun c18 => ?_)
            · skip
              refine g_iconst 0 26 (gd rfl) rfl rfl ?_
              refine g_thr (E := am_IA) (y := yX11_allow) 29 (gd rfl) rfl rfl (Or.inl ⟨rfl, rfl, rfl⟩) (by first | exact dq1 hd rfl | exact dq0 hd rfl | exact dq2 hd rfl | exact dq3 hd rfl | omega) (Nat.le_of_ble_eq_true rfl) (Nat.le_of_ble_eq_true rfl) (Nat.le_of_ble_eq_true rfl) (fun c26 => ?_) (fun c26 => ?_)
              · skip
                exact zn_ne c26 (in_c 0 rfl) rfl
              · skip
                have n26 : ¬ ((0 ≤ x1.toInt ∧ x1.toInt < (shC s).2.2.2.2.2.2.1) ∧ (0 ≤ x2.toInt ∧ x2.toInt < (shC s).2.2.2.2.2.2.1)) := by first | (rw [shC_n (by rw [← e1x1]; exact c1x5)]; show ¬ ((0 ≤ x1.toInt ∧ x1.toInt < (s.2.2.1 2 1).toInt) ∧ (0 ≤ x2.toInt ∧ x2.toInt < (s.2.2.1 2 1).toInt)); rw [← e_2_1]; exact (have a0 := in_u i7x9; have a1 := in_u ro_32_1; have a2 := in_u i7x9a; have a3 := in_u i1x5; have a4 := in_u i15x1; have oc := oc_229_0; by omega)) | (rw [shC_d (by rw [← e1x1]; exact c1x5)]; show ¬ ((0 ≤ x1.toInt ∧ x1.toInt < (s.2.2.1 32 1).toInt) ∧ (0 ≤ x2.toInt ∧ x2.toInt < (s.2.2.1 32 1).toInt)); rw [← e_32_1]; exact (have a0 := in_u i7x9; have a1 := in_u ro_32_1; have a2 := in_u i7x9a; have a3 := in_u i1x5; have a4 := in_u i15x1; have oc := oc_229_0; by omega))
                exact (hX _ _ ⟨Or.inl ⟨rfl, n26⟩, s, hI, fr_rf, rfl⟩)
            · skip
              exact zn_ne c18 (in_c 0 rfl) rfl
          · skip
            have i15x1 := z_ge 0 2147483647 c15x1 (i_rng x2) rfl
            refine g_iload_n 5 (gd rfl) rfl rfl ?_
            refine g_aload_n 6 (gd rfl) rfl rfl ?_
            refine g_getI 9 (gd rfl) rfl rfl rfl (fun z15x6 e15x6 => ?_)
            have q15x6 : u_2_1 = z15x6 := (e_2_1).trans e15x6.symm
            subst q15x6
            refine g_cmp_ge 12 16 (gd rfl) rfl rfl (fun c15x9 => ?_) (fun c15x9 => ?_)
            · skip
              have i15x9 := r_le2 1 2147483647 c15x9 i7x9a i15x1 rfl
              refine g_iconst 0 17 (gd rfl) rfl rfl ?_
              refine g_ireturn (gd rfl) rfl (nb01 (in_w 0 1 (in_c 0 rfl) rfl)) (hp15 _ _ ?_)
              show GG _ _ _ _ _ _ _ _ [.int (Int32.ofInt 0)] _ _ _
              refine g_if_eq 21 25 (gd rfl) rfl rfl (fun c18 => ?_) (fun c18 => ?_)
              · skip
                refine g_iconst 0 26 (gd rfl) rfl rfl ?_
                refine g_thr (E := am_IA) (y := yX11_allow) 29 (gd rfl) rfl rfl (Or.inl ⟨rfl, rfl, rfl⟩) (by first | exact dq1 hd rfl | exact dq0 hd rfl | exact dq2 hd rfl | exact dq3 hd rfl | omega) (Nat.le_of_ble_eq_true rfl) (Nat.le_of_ble_eq_true rfl) (Nat.le_of_ble_eq_true rfl) (fun c26 => ?_) (fun c26 => ?_)
                · skip
                  exact zn_ne c26 (in_c 0 rfl) rfl
                · skip
                  have n26 : ¬ ((0 ≤ x1.toInt ∧ x1.toInt < (shC s).2.2.2.2.2.2.1) ∧ (0 ≤ x2.toInt ∧ x2.toInt < (shC s).2.2.2.2.2.2.1)) := by first | (rw [shC_n (by rw [← e1x1]; exact c1x5)]; show ¬ ((0 ≤ x1.toInt ∧ x1.toInt < (s.2.2.1 2 1).toInt) ∧ (0 ≤ x2.toInt ∧ x2.toInt < (s.2.2.1 2 1).toInt)); rw [← e_2_1]; exact (have a0 := in_u i7x9; have a1 := in_u ro_32_1; have a2 := in_u i7x9a; have a3 := in_u i1x5; have a4 := in_u i15x9; have oc := oc_229_0; by omega)) | (rw [shC_d (by rw [← e1x1]; exact c1x5)]; show ¬ ((0 ≤ x1.toInt ∧ x1.toInt < (s.2.2.1 32 1).toInt) ∧ (0 ≤ x2.toInt ∧ x2.toInt < (s.2.2.1 32 1).toInt)); rw [← e_32_1]; exact (have a0 := in_u i7x9; have a1 := in_u ro_32_1; have a2 := in_u i7x9a; have a3 := in_u i1x5; have a4 := in_u i15x9; have oc := oc_229_0; by omega))
                  exact (hX _ _ ⟨Or.inl ⟨rfl, n26⟩, s, hI, fr_rf, rfl⟩)
              · skip
                exact zn_ne c18 (in_c 0 rfl) rfl
            · skip
              have i15x9 := r_lt1 0 31 c15x9 i15x1 i7x9a rfl
              refine g_iconst 1 13 (gd rfl) rfl rfl ?_
              refine g_goto 17 (gd rfl) rfl ?_
              refine g_ireturn (gd rfl) rfl (nb01 (in_w 0 1 (in_c 1 rfl) rfl)) (hp15 _ _ ?_)
              show GG _ _ _ _ _ _ _ _ [.int (Int32.ofInt 1)] _ _ _
              refine g_if_eq 21 25 (gd rfl) rfl rfl (fun c18 => ?_) (fun c18 => ?_)
              · skip
                exact zn_eq c18 (in_c 1 rfl) rfl
              · skip
                refine g_iconst 1 22 (gd rfl) rfl rfl ?_
                refine g_goto 26 (gd rfl) rfl ?_
                refine g_thr (E := am_IA) (y := yX11_allow) 29 (gd rfl) rfl rfl (Or.inl ⟨rfl, rfl, rfl⟩) (by first | exact dq1 hd rfl | exact dq0 hd rfl | exact dq2 hd rfl | exact dq3 hd rfl | omega) (Nat.le_of_ble_eq_true rfl) (Nat.le_of_ble_eq_true rfl) (Nat.le_of_ble_eq_true rfl) (fun c26 => ?_) (fun c26 => ?_)
                · skip
                  refine g_aload_n 30 (gd rfl) rfl rfl ?_
                  refine g_getA (q2 := 49) 33 (gd rfl) rfl rfl rfl rfl ?_
                  refine g_aload_n 34 (gd rfl) rfl rfl ?_
                  refine g_iload_n 35 (gd rfl) rfl rfl ?_
                  refine g_iload_n 36 (gd rfl) rfl rfl ?_
                  have p36 : TQ s := by first | exact q_0 | exact q_1
                  have p36a : NDQ (gvC s) := by first | (rw [← shC_n (by rw [← e1x1]; exact c1x5)]; exact q_2) | (rw [← shC_d (by rw [← e1x1]; exact c1x5)]; exact q_2)
                  have p36b : FXB (gvC s) s := by first | (rw [← shC_n (by rw [← e1x1]; exact c1x5)]; exact q_3) | (rw [← shC_d (by rw [← e1x1]; exact c1x5)]; exact q_3)
                  have p36c : (x2).toInt < (s.2.2.1 2 1).toInt := by first | (rw [← e_2_1]; exact (have a0 := in_u i15x9; have a1 := in_u i7x9; have a2 := in_u ro_32_1; have a3 := in_u i7x9a; have a4 := in_u i1x5; have oc := oc_229_0; by omega)) | (rw [← e_32_1]; exact (have a0 := in_u i15x9; have a1 := in_u i7x9; have a2 := in_u ro_32_1; have a3 := in_u i7x9a; have a4 := in_u i1x5; have oc := oc_229_0; by omega))
                  refine g_callv (X := _) (As := [.ref (A 2), .int x1, .int x2]) (r := []) (b := A 49) (q := 49) 39 (gd rfl) rfl rfl rfl rfl rfl (ww_o rfl) (Nat.le_of_ble_eq_true rfl) (Nat.zero_le _) (Nat.zero_le _) (f_194_49_2 (by first | exact dq1 hd rfl | exact dq0 hd rfl | exact dq2 hd rfl | exact dq3 hd rfl | omega) hI (in_w 0 31 i7x9 rfl) (in_w 0 31 i15x9 rfl) p36 p36a p36b p36c) (fun e u h => h) (fun v u h => ?_)
                  obtain ⟨s36, hI36, hF36, z36, rfl, rfl, p36d, p36e⟩ := h
                  show GG _ _ _ _ _ _ _ _ [.long z36] _ _ _
                  have n39 : ((0 ≤ x1.toInt ∧ x1.toInt < (shC s).2.2.2.2.2.2.1) ∧ (0 ≤ x2.toInt ∧ x2.toInt < (shC s).2.2.2.2.2.2.1)) ∧ DSV (shC s) x1.toNatClampNeg x2.toNatClampNeg (z36).toInt := by first | (rw [shC_n (by rw [← e1x1]; exact c1x5)]; exact ⟨⟨⟨by exact (have a0 := in_u i15x9; have a1 := in_u i7x9; have a2 := in_u ro_32_1; have a3 := in_u i7x9a; have a4 := in_u i1x5; have oc := oc_229_0; by omega), by show x1.toInt < (s.2.2.1 2 1).toInt; rw [← e_2_1]; exact (have a0 := in_u i15x9; have a1 := in_u i7x9; have a2 := in_u ro_32_1; have a3 := in_u i7x9a; have a4 := in_u i1x5; have oc := oc_229_0; by omega)⟩, ⟨by exact (have a0 := in_u i15x9; have a1 := in_u i7x9; have a2 := in_u ro_32_1; have a3 := in_u i7x9a; have a4 := in_u i1x5; have oc := oc_229_0; by omega), by show x2.toInt < (s.2.2.1 2 1).toInt; rw [← e_2_1]; exact (have a0 := in_u i15x9; have a1 := in_u i7x9; have a2 := in_u ro_32_1; have a3 := in_u i7x9a; have a4 := in_u i1x5; have oc := oc_229_0; by omega)⟩⟩, p36d⟩) | (rw [shC_d (by rw [← e1x1]; exact c1x5)]; exact ⟨⟨⟨by exact (have a0 := in_u i15x9; have a1 := in_u i7x9; have a2 := in_u ro_32_1; have a3 := in_u i7x9a; have a4 := in_u i1x5; have oc := oc_229_0; by omega), by show x1.toInt < (s.2.2.1 32 1).toInt; rw [← e_32_1]; exact (have a0 := in_u i15x9; have a1 := in_u i7x9; have a2 := in_u ro_32_1; have a3 := in_u i7x9a; have a4 := in_u i1x5; have oc := oc_229_0; by omega)⟩, ⟨by exact (have a0 := in_u i15x9; have a1 := in_u i7x9; have a2 := in_u ro_32_1; have a3 := in_u i7x9a; have a4 := in_u i1x5; have oc := oc_229_0; by omega), by show x2.toInt < (s.2.2.1 32 1).toInt; rw [← e_32_1]; exact (have a0 := in_u i15x9; have a1 := in_u i7x9; have a2 := in_u ro_32_1; have a3 := in_u i7x9a; have a4 := in_u i1x5; have oc := oc_229_0; by omega)⟩⟩, p36d⟩)
                  have n39a : FXQ (shC s) s36 := by first | (rw [shC_n (by rw [← e1x1]; exact c1x5)]; exact p36e) | (rw [shC_d (by rw [← e1x1]; exact c1x5)]; exact p36e)
                  exact g_lreturn (gd rfl) rfl (hP _ _ ⟨s36, hI36, (fr_tr rfl fr_rf hF36), z36, rfl, rfl, n39, n39a⟩)
                · skip
                  exact zn_eq c26 (in_c 1 rfl) rfl

theorem oc_196_49_2 : (Int32.ofInt (-1)).toInt = (-1) ∧ (Int32.ofInt 0).toInt = 0 ∧ (Int32.ofInt 1).toInt = 1 ∧ (Int64.ofInt 1).toInt = 1 ∧ (Int64.ofInt 1024).toInt = 1024 ∧ (Int64.ofInt 9223372036854775807).toInt = 9223372036854775807 := ⟨rfl, rfl, rfl, rfl, rfl, rfl⟩
set_option maxHeartbeats 4000000 in
/-- GraphHouse$Ways.stepFrom -/
theorem f_196_49_2 {Z : AmZ} {A : Nat → Nat} {s : GS} {ex : va_W} {d : Nat} {X : AmX} {x2 : Int32} (hd : 3 ≤ d) (hI : Inv s) (h2 : In x2 0 31) (q_0 : TQ s) (q_1 : NDQ (gvC s)) (q_2 : ((s).2.2.1 2 4).toInt = ((s).2.2.1 2 0).toInt) (q_3 : STB (gvC s) ((s).2.1 50) (x2).toNatClampNeg) : GC Z d 196 [.ref (A 49), .ref (A 2), .int x2] (WW Z A s ++ ex) 0 0 (fun v u => ∃ z : Int32, v = some (.int z) ∧ u = WW Z A s ++ ex ∧ In z (-1) 159 ∧ (SFQ (gvC s) (s.2.1 50) (x2).toNatClampNeg (z).toInt)) X := by
  intro post xp hP hX
  have ct7 : ∀ (k7 : Nat) (y7_3 : Int32), (In y7_3 0 160) → (STR (gvC s) (s.2.1 50) (x2).toNatClampNeg ((y7_3).toInt - (s.1 12 (x2).toNatClampNeg).toInt)) → ((s.1 12 (x2).toNatClampNeg).toInt ≤ (y7_3).toInt) → 160 - (y7_3).toInt < (k7 : Int) → GG Z (d - 1) 196 post (gx xp) (1 + k7 * 900) 7 (fun j => xlook j [(0, .ref (A 49)), (1, .ref (A 2)), (2, .int x2), (3, .int y7_3)]) [] (WW Z A s ++ ex) 0 0 := by
    intro k7
    induction k7 with
    | zero => intro y7_3 j7_3 g7_0 g7_1 mm7; exact m_no mm7 j7_3 rfl
    | succ k7 ih7 =>
      intro y7_3 j7_3 g7_0 g7_1 mm7
      refine gg_w (M := 1 + k7 * 900 + 900) gws ?_
      refine g_iload_n 8 (gd rfl) rfl rfl ?_
      refine g_aload_n 9 (gd rfl) rfl rfl ?_
      refine g_getA (q2 := 12) 12 (gd rfl) rfl rfl rfl rfl ?_
      refine g_iload_n 13 (gd rfl) rfl rfl ?_
      refine g_iconst 1 14 (gd rfl) rfl rfl ?_
      refine g_iadd 15 (gd rfl) rfl (fun z14 e14 => ?_)
      have i14 := in_add 1 32 e14 h2 (in_c 1 rfl) rfl rfl
      refine g_iaload 16 (gd rfl) rfl (n := 33) rfl (in_ix i14 rfl) (fun z15 e15 => ?_)
      have i15 := inv_I hI (n := 33) (t := 0) 0 160 rfl (in_ix i14 rfl) rfl e15
      refine g_cmp_ge 19 84 (gd rfl) rfl rfl (fun c16 => ?_) (fun c16 => ?_)
      · skip
        refine g_iconst (-1) 85 (gd rfl) rfl rfl ?_
        have n85 : SFQ (gvC s) (s.2.1 50) (x2).toNatClampNeg ((Int32.ofInt (-1))).toInt := by have ex : (((x2).toNatClampNeg : Nat) : Int) = (x2).toInt := clx h2.1; have rx := row_2_0 (L := ([], [], [], [])) (a1 := z15) hI fr_rf rfl rfl rfl q_2 q_0 h2 rfl (e15.trans (congrArg (s.1 12) (show z14.toInt.toNat = (x2.toInt + 1).toNat from (by rw [show z14.toInt = x2.toInt + 1 from (by exact (have a0 := in_u h2; have a1 := in_u j7_3; have a2 := in_u i14; have a3 := t_add e14 h2 (in_c 1 rfl) rfl; have a4 := in_u ((in_c 1 rfl)); have oc := oc_196_49_2; by omega))])))); exact sf_e g7_0 (fun p hp hf => by have h8 := rx.2.1 p hp (by rw [← ex]; exact hf); rw [ex]; have h7 := c16; omega) rfl
        exact g_ireturn (gd rfl) rfl rfl (hP _ _ ⟨(Int32.ofInt (-1)), rfl, rfl, in_w (-1) 159 (in_c (-1) rfl) rfl, n85⟩)
      · skip
        have i16 := r_lt1 0 159 c16 j7_3 i15 rfl
        have i16a := r_lt2 1 160 c16 j7_3 i15 rfl
        refine g_aload_n 20 (gd rfl) rfl rfl ?_
        refine g_getA (q2 := 13) 23 (gd rfl) rfl rfl rfl rfl ?_
        refine g_iload_n 24 (gd rfl) rfl rfl ?_
        refine g_iaload 25 (gd rfl) rfl (n := 160) rfl (in_ix i16 rfl) (fun z24 e24 => ?_)
        have i24 := inv_I hI (n := 160) (t := 0) 0 159 rfl (in_ix i16 rfl) rfl e24
        refine g_istore 27 (gd rfl) rfl (Nat.le_of_ble_eq_true rfl) ?_
        refine g_aload_n 28 (gd rfl) rfl rfl ?_
        refine g_getA (q2 := 50) 31 (gd rfl) rfl rfl rfl rfl ?_
        refine g_aload_n 32 (gd rfl) rfl rfl ?_
        refine g_getA (q2 := 5) 35 (gd rfl) rfl rfl rfl rfl ?_
        refine g_iload 37 (gd rfl) rfl rfl ?_
        refine g_iaload 38 (gd rfl) rfl (n := 160) rfl (in_ix i24 rfl) (fun z37 e37 => ?_)
        have i37 := inv_I hI (n := 160) (t := 0) 0 31 rfl (in_ix i24 rfl) rfl e37
        refine g_laload 39 (gd rfl) rfl (n := 32) rfl (in_ix i37 rfl) (fun z38 e38 => ?_)
        refine g_ldc2_w 9223372036854775807 42 (gd rfl) rfl rfl ?_
        refine g_lcmp 43 (gd rfl) rfl (fun z42 e42 => ?_)
        have i42 := lc_in e42
        refine g_if_eq 46 78 (gd rfl) rfl rfl (fun c43 => ?_) (fun c43 => ?_)
        · skip
          have i43 := z_eq 0 0 c43 i42 rfl
          have c43a := lc_eq e42 c43
          have i43a := lr_eq1 9223372036854775807 9223372036854775807 c43a (l_rng z38) (l_c 9223372036854775807 rfl) rfl
          refine g_iinc 81 (gd rfl) rfl rfl (Nat.le_of_ble_eq_true rfl) (fun z78 e78 => ?_)
          have i78 := in_add 1 160 e78 i16 (in_c 1 rfl) rfl rfl
          refine g_goto 7 (gd rfl) rfl ?_
          have n7 : STR (gvC s) (s.2.1 50) (x2).toNatClampNeg ((z78).toInt - (s.1 12 (x2).toNatClampNeg).toInt) := by have ex : (((x2).toNatClampNeg : Nat) : Int) = (x2).toInt := clx h2.1; have rx := row_2_0 (L := ([], [], [], [])) (a1 := z15) hI fr_rf rfl rfl rfl q_2 q_0 h2 rfl (e15.trans (congrArg (s.1 12) (show z14.toInt.toNat = (x2.toInt + 1).toNat from (by rw [show z14.toInt = x2.toInt + 1 from (by exact (have a0 := in_u h2; have a1 := in_u i16; have a2 := in_u i24; have a3 := in_u i78; have a4 := t_add e78 i16 (in_c 1 rfl) rfl; have a5 := in_u ((in_c 1 rfl)); have a6 := in_u i14; have a7 := t_add e14 h2 (in_c 1 rfl) rfl; have oc := oc_196_49_2; by omega))])))); obtain ⟨p, p1, p2, p3, p4⟩ := rx.1 y7_3 z24 g7_1 (by have h9 := c16; omega) e24; have pz : z24.toNatClampNeg = p := (by show z24.toInt.toNat = p; omega); have hv : z37 = s.1 5 p := (by rw [← pz]; exact e37); have ne : ((gvC s).2.1 p).toInt ≠ -1 := (fun z => by rw [are_no z] at p2; have h9 := h2.1; omega); have tv : ARE (gvC s) 1 p = (z37).toInt := ((are_t p1 ne (by decide)).trans (congrArg Int32.toInt hv.symm)); have ga : GA (gvC s) p (x2).toNatClampNeg (z37).toNatClampNeg := ⟨p1, by rw [ex]; exact p2, by rw [clx i37.1]; exact tv⟩; have cnp : cn (ARE (gvC s) 0) (((x2).toNatClampNeg : Nat) : Int) p = (y7_3).toInt - (s.1 12 (x2).toNatClampNeg).toInt := (by rw [ex]; exact p3); exact str_s g7_0 ga cnp (fun hs => by have h8 := hs.1; rw [← e38] at h8; have h7 := c43a; unfold FRC at h8; have h5 : (Int64.ofInt 9223372036854775807).toInt = 9223372036854775807 := rfl; omega) (by exact (have a0 := in_u h2; have a1 := in_u i16; have a2 := in_u i24; have a3 := in_u i78; have a4 := t_add e78 i16 (in_c 1 rfl) rfl; have a5 := in_u ((in_c 1 rfl)); have a6 := in_u i14; have a7 := t_add e14 h2 (in_c 1 rfl) rfl; have oc := oc_196_49_2; by omega))
          have n7a : (s.1 12 (x2).toNatClampNeg).toInt ≤ (z78).toInt := by show (s.1 12 (x2).toNatClampNeg).toInt ≤ (z78).toInt; have h9 := g7_1; exact (have a0 := in_u h2; have a1 := in_u i16; have a2 := in_u i24; have a3 := in_u i78; have a4 := t_add e78 i16 (in_c 1 rfl) rfl; have a5 := in_u ((in_c 1 rfl)); have a6 := in_u i14; have a7 := t_add e14 h2 (in_c 1 rfl) rfl; have oc := oc_196_49_2; by omega)
          exact gg_w (by first | exact Nat.le_add_right _ _ | exact gw2 | exact gw3 | exact gwe rfl | exact gwf rfl | exact gwg rfl | exact gwh rfl | omega) (gg_f (gf_cons rfl (gf_cons rfl (gf_cons rfl (gf_cons rfl gf_nil)))) (ih7  z78  (in_w 0 160 i78 rfl) n7 n7a (m_up mm7 (t_add e78 i16 (in_c 1 rfl) rfl) (in_w 1 1 (in_c 1 rfl) rfl))))
        · skip
          have c43a := lc_ne e42 c43
          have i43 := lr_ne1 (-9223372036854775808) 9223372036854775806 c43a (l_rng z38) (l_c 9223372036854775807 rfl) rfl
          refine g_aload_n 47 (gd rfl) rfl rfl ?_
          refine g_iload 49 (gd rfl) rfl rfl ?_
          refine g_calls (As := [.ref (A 2), .int z24]) (r := []) 52 (gd rfl) rfl rfl rfl rfl rfl (Nat.le_of_ble_eq_true rfl) (mc := 0) (ms := 0) (Nat.zero_le _) (Nat.zero_le _) (P := fun v u => _) ?_ (fun v u h => h)
          intro po49 xx49 hp49 hx49
          refine g_enter2 (k := 197) (N := 300) (by first | exact dq1 hd rfl | exact dq0 hd rfl | exact dq2 hd rfl | exact dq3 hd rfl | omega) rfl (Nat.le_of_ble_eq_true rfl) ?_
          refine g_aload_n 1 (gd rfl) rfl rfl ?_
          refine g_getA (q2 := 6) 4 (gd rfl) rfl rfl rfl rfl ?_
          refine g_iload_n 5 (gd rfl) rfl rfl ?_
          refine g_iaload 6 (gd rfl) rfl (n := 160) rfl (in_ix i24 rfl) (fun z49x5 e49x5 => ?_)
          have i49x5 := inv_I hI (n := 160) (t := 0) (-1000000) 1000000 rfl (in_ix i24 rfl) rfl e49x5
          refine g_i2l 7 (gd rfl) rfl (fun z49x6 e49x6 => ?_)
          have i49x6 := l_i e49x6 i49x5
          refine g_ldc2_w 1024 10 (gd rfl) rfl rfl ?_
          refine g_lmul 11 (gd rfl) rfl (fun z49x10 e49x10 => ?_)
          have i49x10 := l_mulc 1024 (-1024000000) 1024000000 (Or.inr e49x10) i49x6 rfl
          refine g_lconst 1 12 (gd rfl) rfl rfl ?_
          refine g_ladd 13 (gd rfl) rfl (fun z49x12 e49x12 => ?_)
          have i49x12 := l_add (-1023999999) 1024000001 e49x12 i49x10 (l_c 1 rfl) rfl
          refine g_lreturn (gd rfl) rfl (hp49 _ _ ?_)
          show GG _ _ _ _ _ _ _ _ [.long z49x12] _ _ _
          refine g_aload_n 53 (gd rfl) rfl rfl ?_
          refine g_getA (q2 := 50) 56 (gd rfl) rfl rfl rfl rfl ?_
          refine g_aload_n 57 (gd rfl) rfl rfl ?_
          refine g_getA (q2 := 5) 60 (gd rfl) rfl rfl rfl rfl ?_
          refine g_iload 62 (gd rfl) rfl rfl ?_
          refine g_iaload 63 (gd rfl) rfl (n := 160) rfl (in_ix i24 rfl) (fun z62 e62 => ?_)
          have q62 : z37 = z62 := (e37).trans e62.symm
          subst q62
          refine g_laload 64 (gd rfl) rfl (n := 32) rfl (in_ix i37 rfl) (fun z63 e63 => ?_)
          refine g_ladd 65 (gd rfl) rfl (fun z64 e64 => ?_)
          refine g_aload_n 66 (gd rfl) rfl rfl ?_
          refine g_getA (q2 := 50) 69 (gd rfl) rfl rfl rfl rfl ?_
          refine g_iload_n 70 (gd rfl) rfl rfl ?_
          refine g_laload 71 (gd rfl) rfl (n := 32) rfl (in_ix h2 rfl) (fun z70 e70 => ?_)
          refine g_lcmp 72 (gd rfl) rfl (fun z71 e71 => ?_)
          have i71 := lc_in e71
          refine g_if_ne 75 78 (gd rfl) rfl rfl (fun c72 => ?_) (fun c72 => ?_)
          · skip
            have c72a := lc_ne e71 c72
            refine g_iinc 81 (gd rfl) rfl rfl (Nat.le_of_ble_eq_true rfl) (fun z78 e78 => ?_)
            have i78 := in_add 1 160 e78 i16 (in_c 1 rfl) rfl rfl
            refine g_goto 7 (gd rfl) rfl ?_
            have n7 : STR (gvC s) (s.2.1 50) (x2).toNatClampNeg ((z78).toInt - (s.1 12 (x2).toNatClampNeg).toInt) := by have ex : (((x2).toNatClampNeg : Nat) : Int) = (x2).toInt := clx h2.1; have rx := row_2_0 (L := ([], [], [], [])) (a1 := z15) hI fr_rf rfl rfl rfl q_2 q_0 h2 rfl (e15.trans (congrArg (s.1 12) (show z14.toInt.toNat = (x2.toInt + 1).toNat from (by rw [show z14.toInt = x2.toInt + 1 from (by exact (have a0 := in_u h2; have a1 := in_u i16; have a2 := in_u i24; have a3 := in_u i78; have a4 := t_add e78 i16 (in_c 1 rfl) rfl; have a5 := in_u ((in_c 1 rfl)); have a6 := tx_i2l e49x6; have a7 := in_u i49x5; have a8 := in_u i14; have a9 := t_add e14 h2 (in_c 1 rfl) rfl; have oc := oc_196_49_2; by omega))])))); obtain ⟨p, p1, p2, p3, p4⟩ := rx.1 y7_3 z24 g7_1 (by have h9 := c16; omega) e24; have pz : z24.toNatClampNeg = p := (by show z24.toInt.toNat = p; omega); have hv : z37 = s.1 5 p := (by rw [← pz]; exact e37); have ne : ((gvC s).2.1 p).toInt ≠ -1 := (fun z => by rw [are_no z] at p2; have h9 := h2.1; omega); have tv : ARE (gvC s) 1 p = (z37).toInt := ((are_t p1 ne (by decide)).trans (congrArg Int32.toInt hv.symm)); have ga : GA (gvC s) p (x2).toNatClampNeg (z37).toNatClampNeg := ⟨p1, by rw [ex]; exact p2, by rw [clx i37.1]; exact tv⟩; have cnp : cn (ARE (gvC s) 0) (((x2).toNatClampNeg : Nat) : Int) p = (y7_3).toInt - (s.1 12 (x2).toNatClampNeg).toInt := (by rw [ex]; exact p3); have fv : ((s.2.1 50) (z37).toNatClampNeg).toInt < FRC := (by rw [← e38]; have h7 := c43a; have h6 := Int64.toInt_lt z38; have h5 : (Int64.ofInt 9223372036854775807).toInt = 9223372036854775807 := rfl; unfold FRC; omega); have hw : z49x5 = (gvC s).2.2.2.1 p := (by rw [← pz]; exact e49x5); have hc := cW_v hw i49x5 e49x6 e49x10 e49x12; have cb9 := i49x12; unfold InL at cb9; have sm := stc_i q_3 ga fv hc cb9 e63 e64; exact str_s g7_0 ga cnp (fun hs => c72a (by rw [sm, e70]; exact hs.2.symm)) (by exact (have a0 := in_u h2; have a1 := in_u i16; have a2 := in_u i24; have a3 := in_u i78; have a4 := t_add e78 i16 (in_c 1 rfl) rfl; have a5 := in_u ((in_c 1 rfl)); have a6 := tx_i2l e49x6; have a7 := in_u i49x5; have a8 := in_u i14; have a9 := t_add e14 h2 (in_c 1 rfl) rfl; have oc := oc_196_49_2; by omega))
            have n7a : (s.1 12 (x2).toNatClampNeg).toInt ≤ (z78).toInt := by show (s.1 12 (x2).toNatClampNeg).toInt ≤ (z78).toInt; have h9 := g7_1; exact (have a0 := in_u h2; have a1 := in_u i16; have a2 := in_u i24; have a3 := in_u i78; have a4 := t_add e78 i16 (in_c 1 rfl) rfl; have a5 := in_u ((in_c 1 rfl)); have a6 := tx_i2l e49x6; have a7 := in_u i49x5; have a8 := in_u i14; have a9 := t_add e14 h2 (in_c 1 rfl) rfl; have oc := oc_196_49_2; by omega)
            exact gg_w (by first | exact Nat.le_add_right _ _ | exact gw2 | exact gw3 | exact gwe rfl | exact gwf rfl | exact gwg rfl | exact gwh rfl | omega) (gg_f (gf_cons rfl (gf_cons rfl (gf_cons rfl (gf_cons rfl gf_nil)))) (ih7  z78  (in_w 0 160 i78 rfl) n7 n7a (m_up mm7 (t_add e78 i16 (in_c 1 rfl) rfl) (in_w 1 1 (in_c 1 rfl) rfl))))
          · skip
            have i72 := z_eq 0 0 c72 i71 rfl
            have c72a := lc_eq e71 c72
            refine g_iload 77 (gd rfl) rfl rfl ?_
            have n77 : SFQ (gvC s) (s.2.1 50) (x2).toNatClampNeg (z24).toInt := by have ex : (((x2).toNatClampNeg : Nat) : Int) = (x2).toInt := clx h2.1; have rx := row_2_0 (L := ([], [], [], [])) (a1 := z15) hI fr_rf rfl rfl rfl q_2 q_0 h2 rfl (e15.trans (congrArg (s.1 12) (show z14.toInt.toNat = (x2.toInt + 1).toNat from (by rw [show z14.toInt = x2.toInt + 1 from (by exact (have a0 := in_u h2; have a1 := in_u i16; have a2 := in_u i24; have a3 := tx_i2l e49x6; have a4 := in_u i49x5; have a5 := in_u i14; have a6 := t_add e14 h2 (in_c 1 rfl) rfl; have a7 := in_u ((in_c 1 rfl)); have oc := oc_196_49_2; by omega))])))); obtain ⟨p, p1, p2, p3, p4⟩ := rx.1 y7_3 z24 g7_1 (by have h9 := c16; omega) e24; have pz : z24.toNatClampNeg = p := (by show z24.toInt.toNat = p; omega); have hv : z37 = s.1 5 p := (by rw [← pz]; exact e37); have ne : ((gvC s).2.1 p).toInt ≠ -1 := (fun z => by rw [are_no z] at p2; have h9 := h2.1; omega); have tv : ARE (gvC s) 1 p = (z37).toInt := ((are_t p1 ne (by decide)).trans (congrArg Int32.toInt hv.symm)); have ga : GA (gvC s) p (x2).toNatClampNeg (z37).toNatClampNeg := ⟨p1, by rw [ex]; exact p2, by rw [clx i37.1]; exact tv⟩; have cnp : cn (ARE (gvC s) 0) (((x2).toNatClampNeg : Nat) : Int) p = (y7_3).toInt - (s.1 12 (x2).toNatClampNeg).toInt := (by rw [ex]; exact p3); have fv : ((s.2.1 50) (z37).toNatClampNeg).toInt < FRC := (by rw [← e38]; have h7 := c43a; have h6 := Int64.toInt_lt z38; have h5 : (Int64.ofInt 9223372036854775807).toInt = 9223372036854775807 := rfl; unfold FRC; omega); have hw : z49x5 = (gvC s).2.2.2.1 p := (by rw [← pz]; exact e49x5); have hc := cW_v hw i49x5 e49x6 e49x10 e49x12; have cb9 := i49x12; unfold InL at cb9; have sm := stc_i q_3 ga fv hc cb9 e63 e64; exact sf_y g7_0 ga cnp ⟨fv, by rw [← e70, ← c72a]; exact sm⟩ p4
            exact g_ireturn (gd rfl) rfl rfl (hP _ _ ⟨z24, rfl, rfl, in_w (-1) 159 i24 rfl, n77⟩)
  refine g_enter2 (k := 196) (N := 145801) (by first | exact dq1 hd rfl | exact dq0 hd rfl | exact dq2 hd rfl | exact dq3 hd rfl | omega) rfl (Nat.le_of_ble_eq_true rfl) ?_
  refine g_aload_n 1 (gd rfl) rfl rfl ?_
  refine g_getA (q2 := 12) 4 (gd rfl) rfl rfl rfl rfl ?_
  refine g_iload_n 5 (gd rfl) rfl rfl ?_
  refine g_iaload 6 (gd rfl) rfl (n := 33) rfl (in_ix h2 rfl) (fun z5 e5 => ?_)
  have i5 := inv_I hI (n := 33) (t := 0) 0 160 rfl (in_ix h2 rfl) rfl e5
  refine g_istore_n 7 (gd rfl) rfl (Nat.le_of_ble_eq_true rfl) ?_
  have n7 : STR (gvC s) (s.2.1 50) (x2).toNatClampNeg ((z5).toInt - (s.1 12 (x2).toNatClampNeg).toInt) := by exact str_0 (by rw [← e5]; omega)
  have n7a : (s.1 12 (x2).toNatClampNeg).toInt ≤ (z5).toInt := by rw [← e5]; exact Int.le_refl _
  exact gg_w (by first | exact Nat.le_of_ble_eq_true rfl | omega) (gg_f (gf_cons rfl (gf_cons rfl (gf_cons rfl (gf_cons rfl gf_nil)))) (ct7 161  z5  (in_w 0 160 i5 rfl) n7 n7a (m_in 161 (in_w 0 160 i5 rfl) rfl)))

theorem oc_196_49_32 : (Int32.ofInt (-1)).toInt = (-1) ∧ (Int32.ofInt 0).toInt = 0 ∧ (Int32.ofInt 1).toInt = 1 ∧ (Int64.ofInt 1).toInt = 1 ∧ (Int64.ofInt 1024).toInt = 1024 ∧ (Int64.ofInt 9223372036854775807).toInt = 9223372036854775807 := ⟨rfl, rfl, rfl, rfl, rfl, rfl⟩
set_option maxHeartbeats 4000000 in
/-- GraphHouse$Ways.stepFrom -/
theorem f_196_49_32 {Z : AmZ} {A : Nat → Nat} {s : GS} {ex : va_W} {d : Nat} {X : AmX} {x2 : Int32} (hd : 3 ≤ d) (hI : Inv s) (h2 : In x2 0 31) (q_0 : TQD s) (q_1 : NDQ (gvD s)) (q_2 : ((s).2.2.1 32 4).toInt = ((s).2.2.1 32 0).toInt) (q_3 : STB (gvD s) ((s).2.1 50) (x2).toNatClampNeg) : GC Z d 196 [.ref (A 49), .ref (A 32), .int x2] (WW Z A s ++ ex) 0 0 (fun v u => ∃ z : Int32, v = some (.int z) ∧ u = WW Z A s ++ ex ∧ In z (-1) 159 ∧ (SFQ (gvD s) (s.2.1 50) (x2).toNatClampNeg (z).toInt)) X := by
  intro post xp hP hX
  have ct7 : ∀ (k7 : Nat) (y7_3 : Int32), (In y7_3 0 160) → (STR (gvD s) (s.2.1 50) (x2).toNatClampNeg ((y7_3).toInt - (s.1 42 (x2).toNatClampNeg).toInt)) → ((s.1 42 (x2).toNatClampNeg).toInt ≤ (y7_3).toInt) → 160 - (y7_3).toInt < (k7 : Int) → GG Z (d - 1) 196 post (gx xp) (1 + k7 * 900) 7 (fun j => xlook j [(0, .ref (A 49)), (1, .ref (A 32)), (2, .int x2), (3, .int y7_3)]) [] (WW Z A s ++ ex) 0 0 := by
    intro k7
    induction k7 with
    | zero => intro y7_3 j7_3 g7_0 g7_1 mm7; exact m_no mm7 j7_3 rfl
    | succ k7 ih7 =>
      intro y7_3 j7_3 g7_0 g7_1 mm7
      refine gg_w (M := 1 + k7 * 900 + 900) gws ?_
      refine g_iload_n 8 (gd rfl) rfl rfl ?_
      refine g_aload_n 9 (gd rfl) rfl rfl ?_
      refine g_getA (q2 := 42) 12 (gd rfl) rfl rfl rfl rfl ?_
      refine g_iload_n 13 (gd rfl) rfl rfl ?_
      refine g_iconst 1 14 (gd rfl) rfl rfl ?_
      refine g_iadd 15 (gd rfl) rfl (fun z14 e14 => ?_)
      have i14 := in_add 1 32 e14 h2 (in_c 1 rfl) rfl rfl
      refine g_iaload 16 (gd rfl) rfl (n := 33) rfl (in_ix i14 rfl) (fun z15 e15 => ?_)
      have i15 := inv_I hI (n := 33) (t := 0) 0 160 rfl (in_ix i14 rfl) rfl e15
      refine g_cmp_ge 19 84 (gd rfl) rfl rfl (fun c16 => ?_) (fun c16 => ?_)
      · skip
        refine g_iconst (-1) 85 (gd rfl) rfl rfl ?_
        have n85 : SFQ (gvD s) (s.2.1 50) (x2).toNatClampNeg ((Int32.ofInt (-1))).toInt := by have ex : (((x2).toNatClampNeg : Nat) : Int) = (x2).toInt := clx h2.1; have rx := row_32_0 (L := ([], [], [], [])) (a1 := z15) hI fr_rf rfl rfl rfl q_2 q_0 h2 rfl (e15.trans (congrArg (s.1 42) (show z14.toInt.toNat = (x2.toInt + 1).toNat from (by rw [show z14.toInt = x2.toInt + 1 from (by exact (have a0 := in_u h2; have a1 := in_u j7_3; have a2 := in_u i14; have a3 := t_add e14 h2 (in_c 1 rfl) rfl; have a4 := in_u ((in_c 1 rfl)); have oc := oc_196_49_32; by omega))])))); exact sf_e g7_0 (fun p hp hf => by have h8 := rx.2.1 p hp (by rw [← ex]; exact hf); rw [ex]; have h7 := c16; omega) rfl
        exact g_ireturn (gd rfl) rfl rfl (hP _ _ ⟨(Int32.ofInt (-1)), rfl, rfl, in_w (-1) 159 (in_c (-1) rfl) rfl, n85⟩)
      · skip
        have i16 := r_lt1 0 159 c16 j7_3 i15 rfl
        have i16a := r_lt2 1 160 c16 j7_3 i15 rfl
        refine g_aload_n 20 (gd rfl) rfl rfl ?_
        refine g_getA (q2 := 43) 23 (gd rfl) rfl rfl rfl rfl ?_
        refine g_iload_n 24 (gd rfl) rfl rfl ?_
        refine g_iaload 25 (gd rfl) rfl (n := 160) rfl (in_ix i16 rfl) (fun z24 e24 => ?_)
        have i24 := inv_I hI (n := 160) (t := 0) 0 159 rfl (in_ix i16 rfl) rfl e24
        refine g_istore 27 (gd rfl) rfl (Nat.le_of_ble_eq_true rfl) ?_
        refine g_aload_n 28 (gd rfl) rfl rfl ?_
        refine g_getA (q2 := 50) 31 (gd rfl) rfl rfl rfl rfl ?_
        refine g_aload_n 32 (gd rfl) rfl rfl ?_
        refine g_getA (q2 := 35) 35 (gd rfl) rfl rfl rfl rfl ?_
        refine g_iload 37 (gd rfl) rfl rfl ?_
        refine g_iaload 38 (gd rfl) rfl (n := 160) rfl (in_ix i24 rfl) (fun z37 e37 => ?_)
        have i37 := inv_I hI (n := 160) (t := 0) 0 31 rfl (in_ix i24 rfl) rfl e37
        refine g_laload 39 (gd rfl) rfl (n := 32) rfl (in_ix i37 rfl) (fun z38 e38 => ?_)
        refine g_ldc2_w 9223372036854775807 42 (gd rfl) rfl rfl ?_
        refine g_lcmp 43 (gd rfl) rfl (fun z42 e42 => ?_)
        have i42 := lc_in e42
        refine g_if_eq 46 78 (gd rfl) rfl rfl (fun c43 => ?_) (fun c43 => ?_)
        · skip
          have i43 := z_eq 0 0 c43 i42 rfl
          have c43a := lc_eq e42 c43
          have i43a := lr_eq1 9223372036854775807 9223372036854775807 c43a (l_rng z38) (l_c 9223372036854775807 rfl) rfl
          refine g_iinc 81 (gd rfl) rfl rfl (Nat.le_of_ble_eq_true rfl) (fun z78 e78 => ?_)
          have i78 := in_add 1 160 e78 i16 (in_c 1 rfl) rfl rfl
          refine g_goto 7 (gd rfl) rfl ?_
          have n7 : STR (gvD s) (s.2.1 50) (x2).toNatClampNeg ((z78).toInt - (s.1 42 (x2).toNatClampNeg).toInt) := by have ex : (((x2).toNatClampNeg : Nat) : Int) = (x2).toInt := clx h2.1; have rx := row_32_0 (L := ([], [], [], [])) (a1 := z15) hI fr_rf rfl rfl rfl q_2 q_0 h2 rfl (e15.trans (congrArg (s.1 42) (show z14.toInt.toNat = (x2.toInt + 1).toNat from (by rw [show z14.toInt = x2.toInt + 1 from (by exact (have a0 := in_u h2; have a1 := in_u i16; have a2 := in_u i24; have a3 := in_u i78; have a4 := t_add e78 i16 (in_c 1 rfl) rfl; have a5 := in_u ((in_c 1 rfl)); have a6 := in_u i14; have a7 := t_add e14 h2 (in_c 1 rfl) rfl; have oc := oc_196_49_32; by omega))])))); obtain ⟨p, p1, p2, p3, p4⟩ := rx.1 y7_3 z24 g7_1 (by have h9 := c16; omega) e24; have pz : z24.toNatClampNeg = p := (by show z24.toInt.toNat = p; omega); have hv : z37 = s.1 35 p := (by rw [← pz]; exact e37); have ne : ((gvD s).2.1 p).toInt ≠ -1 := (fun z => by rw [are_no z] at p2; have h9 := h2.1; omega); have tv : ARE (gvD s) 1 p = (z37).toInt := ((are_t p1 ne (by decide)).trans (congrArg Int32.toInt hv.symm)); have ga : GA (gvD s) p (x2).toNatClampNeg (z37).toNatClampNeg := ⟨p1, by rw [ex]; exact p2, by rw [clx i37.1]; exact tv⟩; have cnp : cn (ARE (gvD s) 0) (((x2).toNatClampNeg : Nat) : Int) p = (y7_3).toInt - (s.1 42 (x2).toNatClampNeg).toInt := (by rw [ex]; exact p3); exact str_s g7_0 ga cnp (fun hs => by have h8 := hs.1; rw [← e38] at h8; have h7 := c43a; unfold FRC at h8; have h5 : (Int64.ofInt 9223372036854775807).toInt = 9223372036854775807 := rfl; omega) (by exact (have a0 := in_u h2; have a1 := in_u i16; have a2 := in_u i24; have a3 := in_u i78; have a4 := t_add e78 i16 (in_c 1 rfl) rfl; have a5 := in_u ((in_c 1 rfl)); have a6 := in_u i14; have a7 := t_add e14 h2 (in_c 1 rfl) rfl; have oc := oc_196_49_32; by omega))
          have n7a : (s.1 42 (x2).toNatClampNeg).toInt ≤ (z78).toInt := by show (s.1 42 (x2).toNatClampNeg).toInt ≤ (z78).toInt; have h9 := g7_1; exact (have a0 := in_u h2; have a1 := in_u i16; have a2 := in_u i24; have a3 := in_u i78; have a4 := t_add e78 i16 (in_c 1 rfl) rfl; have a5 := in_u ((in_c 1 rfl)); have a6 := in_u i14; have a7 := t_add e14 h2 (in_c 1 rfl) rfl; have oc := oc_196_49_32; by omega)
          exact gg_w (by first | exact Nat.le_add_right _ _ | exact gw2 | exact gw3 | exact gwe rfl | exact gwf rfl | exact gwg rfl | exact gwh rfl | omega) (gg_f (gf_cons rfl (gf_cons rfl (gf_cons rfl (gf_cons rfl gf_nil)))) (ih7  z78  (in_w 0 160 i78 rfl) n7 n7a (m_up mm7 (t_add e78 i16 (in_c 1 rfl) rfl) (in_w 1 1 (in_c 1 rfl) rfl))))
        · skip
          have c43a := lc_ne e42 c43
          have i43 := lr_ne1 (-9223372036854775808) 9223372036854775806 c43a (l_rng z38) (l_c 9223372036854775807 rfl) rfl
          refine g_aload_n 47 (gd rfl) rfl rfl ?_
          refine g_iload 49 (gd rfl) rfl rfl ?_
          refine g_calls (As := [.ref (A 32), .int z24]) (r := []) 52 (gd rfl) rfl rfl rfl rfl rfl (Nat.le_of_ble_eq_true rfl) (mc := 0) (ms := 0) (Nat.zero_le _) (Nat.zero_le _) (P := fun v u => _) ?_ (fun v u h => h)
          intro po49 xx49 hp49 hx49
          refine g_enter2 (k := 197) (N := 300) (by first | exact dq1 hd rfl | exact dq0 hd rfl | exact dq2 hd rfl | exact dq3 hd rfl | omega) rfl (Nat.le_of_ble_eq_true rfl) ?_
          refine g_aload_n 1 (gd rfl) rfl rfl ?_
          refine g_getA (q2 := 36) 4 (gd rfl) rfl rfl rfl rfl ?_
          refine g_iload_n 5 (gd rfl) rfl rfl ?_
          refine g_iaload 6 (gd rfl) rfl (n := 160) rfl (in_ix i24 rfl) (fun z49x5 e49x5 => ?_)
          have i49x5 := inv_I hI (n := 160) (t := 0) (-1000000) 1000000 rfl (in_ix i24 rfl) rfl e49x5
          refine g_i2l 7 (gd rfl) rfl (fun z49x6 e49x6 => ?_)
          have i49x6 := l_i e49x6 i49x5
          refine g_ldc2_w 1024 10 (gd rfl) rfl rfl ?_
          refine g_lmul 11 (gd rfl) rfl (fun z49x10 e49x10 => ?_)
          have i49x10 := l_mulc 1024 (-1024000000) 1024000000 (Or.inr e49x10) i49x6 rfl
          refine g_lconst 1 12 (gd rfl) rfl rfl ?_
          refine g_ladd 13 (gd rfl) rfl (fun z49x12 e49x12 => ?_)
          have i49x12 := l_add (-1023999999) 1024000001 e49x12 i49x10 (l_c 1 rfl) rfl
          refine g_lreturn (gd rfl) rfl (hp49 _ _ ?_)
          show GG _ _ _ _ _ _ _ _ [.long z49x12] _ _ _
          refine g_aload_n 53 (gd rfl) rfl rfl ?_
          refine g_getA (q2 := 50) 56 (gd rfl) rfl rfl rfl rfl ?_
          refine g_aload_n 57 (gd rfl) rfl rfl ?_
          refine g_getA (q2 := 35) 60 (gd rfl) rfl rfl rfl rfl ?_
          refine g_iload 62 (gd rfl) rfl rfl ?_
          refine g_iaload 63 (gd rfl) rfl (n := 160) rfl (in_ix i24 rfl) (fun z62 e62 => ?_)
          have q62 : z37 = z62 := (e37).trans e62.symm
          subst q62
          refine g_laload 64 (gd rfl) rfl (n := 32) rfl (in_ix i37 rfl) (fun z63 e63 => ?_)
          refine g_ladd 65 (gd rfl) rfl (fun z64 e64 => ?_)
          refine g_aload_n 66 (gd rfl) rfl rfl ?_
          refine g_getA (q2 := 50) 69 (gd rfl) rfl rfl rfl rfl ?_
          refine g_iload_n 70 (gd rfl) rfl rfl ?_
          refine g_laload 71 (gd rfl) rfl (n := 32) rfl (in_ix h2 rfl) (fun z70 e70 => ?_)
          refine g_lcmp 72 (gd rfl) rfl (fun z71 e71 => ?_)
          have i71 := lc_in e71
          refine g_if_ne 75 78 (gd rfl) rfl rfl (fun c72 => ?_) (fun c72 => ?_)
          · skip
            have c72a := lc_ne e71 c72
            refine g_iinc 81 (gd rfl) rfl rfl (Nat.le_of_ble_eq_true rfl) (fun z78 e78 => ?_)
            have i78 := in_add 1 160 e78 i16 (in_c 1 rfl) rfl rfl
            refine g_goto 7 (gd rfl) rfl ?_
            have n7 : STR (gvD s) (s.2.1 50) (x2).toNatClampNeg ((z78).toInt - (s.1 42 (x2).toNatClampNeg).toInt) := by have ex : (((x2).toNatClampNeg : Nat) : Int) = (x2).toInt := clx h2.1; have rx := row_32_0 (L := ([], [], [], [])) (a1 := z15) hI fr_rf rfl rfl rfl q_2 q_0 h2 rfl (e15.trans (congrArg (s.1 42) (show z14.toInt.toNat = (x2.toInt + 1).toNat from (by rw [show z14.toInt = x2.toInt + 1 from (by exact (have a0 := in_u h2; have a1 := in_u i16; have a2 := in_u i24; have a3 := in_u i78; have a4 := t_add e78 i16 (in_c 1 rfl) rfl; have a5 := in_u ((in_c 1 rfl)); have a6 := tx_i2l e49x6; have a7 := in_u i49x5; have a8 := in_u i14; have a9 := t_add e14 h2 (in_c 1 rfl) rfl; have oc := oc_196_49_32; by omega))])))); obtain ⟨p, p1, p2, p3, p4⟩ := rx.1 y7_3 z24 g7_1 (by have h9 := c16; omega) e24; have pz : z24.toNatClampNeg = p := (by show z24.toInt.toNat = p; omega); have hv : z37 = s.1 35 p := (by rw [← pz]; exact e37); have ne : ((gvD s).2.1 p).toInt ≠ -1 := (fun z => by rw [are_no z] at p2; have h9 := h2.1; omega); have tv : ARE (gvD s) 1 p = (z37).toInt := ((are_t p1 ne (by decide)).trans (congrArg Int32.toInt hv.symm)); have ga : GA (gvD s) p (x2).toNatClampNeg (z37).toNatClampNeg := ⟨p1, by rw [ex]; exact p2, by rw [clx i37.1]; exact tv⟩; have cnp : cn (ARE (gvD s) 0) (((x2).toNatClampNeg : Nat) : Int) p = (y7_3).toInt - (s.1 42 (x2).toNatClampNeg).toInt := (by rw [ex]; exact p3); have fv : ((s.2.1 50) (z37).toNatClampNeg).toInt < FRC := (by rw [← e38]; have h7 := c43a; have h6 := Int64.toInt_lt z38; have h5 : (Int64.ofInt 9223372036854775807).toInt = 9223372036854775807 := rfl; unfold FRC; omega); have hw : z49x5 = (gvD s).2.2.2.1 p := (by rw [← pz]; exact e49x5); have hc := cW_v hw i49x5 e49x6 e49x10 e49x12; have cb9 := i49x12; unfold InL at cb9; have sm := stc_i q_3 ga fv hc cb9 e63 e64; exact str_s g7_0 ga cnp (fun hs => c72a (by rw [sm, e70]; exact hs.2.symm)) (by exact (have a0 := in_u h2; have a1 := in_u i16; have a2 := in_u i24; have a3 := in_u i78; have a4 := t_add e78 i16 (in_c 1 rfl) rfl; have a5 := in_u ((in_c 1 rfl)); have a6 := tx_i2l e49x6; have a7 := in_u i49x5; have a8 := in_u i14; have a9 := t_add e14 h2 (in_c 1 rfl) rfl; have oc := oc_196_49_32; by omega))
            have n7a : (s.1 42 (x2).toNatClampNeg).toInt ≤ (z78).toInt := by show (s.1 42 (x2).toNatClampNeg).toInt ≤ (z78).toInt; have h9 := g7_1; exact (have a0 := in_u h2; have a1 := in_u i16; have a2 := in_u i24; have a3 := in_u i78; have a4 := t_add e78 i16 (in_c 1 rfl) rfl; have a5 := in_u ((in_c 1 rfl)); have a6 := tx_i2l e49x6; have a7 := in_u i49x5; have a8 := in_u i14; have a9 := t_add e14 h2 (in_c 1 rfl) rfl; have oc := oc_196_49_32; by omega)
            exact gg_w (by first | exact Nat.le_add_right _ _ | exact gw2 | exact gw3 | exact gwe rfl | exact gwf rfl | exact gwg rfl | exact gwh rfl | omega) (gg_f (gf_cons rfl (gf_cons rfl (gf_cons rfl (gf_cons rfl gf_nil)))) (ih7  z78  (in_w 0 160 i78 rfl) n7 n7a (m_up mm7 (t_add e78 i16 (in_c 1 rfl) rfl) (in_w 1 1 (in_c 1 rfl) rfl))))
          · skip
            have i72 := z_eq 0 0 c72 i71 rfl
            have c72a := lc_eq e71 c72
            refine g_iload 77 (gd rfl) rfl rfl ?_
            have n77 : SFQ (gvD s) (s.2.1 50) (x2).toNatClampNeg (z24).toInt := by have ex : (((x2).toNatClampNeg : Nat) : Int) = (x2).toInt := clx h2.1; have rx := row_32_0 (L := ([], [], [], [])) (a1 := z15) hI fr_rf rfl rfl rfl q_2 q_0 h2 rfl (e15.trans (congrArg (s.1 42) (show z14.toInt.toNat = (x2.toInt + 1).toNat from (by rw [show z14.toInt = x2.toInt + 1 from (by exact (have a0 := in_u h2; have a1 := in_u i16; have a2 := in_u i24; have a3 := tx_i2l e49x6; have a4 := in_u i49x5; have a5 := in_u i14; have a6 := t_add e14 h2 (in_c 1 rfl) rfl; have a7 := in_u ((in_c 1 rfl)); have oc := oc_196_49_32; by omega))])))); obtain ⟨p, p1, p2, p3, p4⟩ := rx.1 y7_3 z24 g7_1 (by have h9 := c16; omega) e24; have pz : z24.toNatClampNeg = p := (by show z24.toInt.toNat = p; omega); have hv : z37 = s.1 35 p := (by rw [← pz]; exact e37); have ne : ((gvD s).2.1 p).toInt ≠ -1 := (fun z => by rw [are_no z] at p2; have h9 := h2.1; omega); have tv : ARE (gvD s) 1 p = (z37).toInt := ((are_t p1 ne (by decide)).trans (congrArg Int32.toInt hv.symm)); have ga : GA (gvD s) p (x2).toNatClampNeg (z37).toNatClampNeg := ⟨p1, by rw [ex]; exact p2, by rw [clx i37.1]; exact tv⟩; have cnp : cn (ARE (gvD s) 0) (((x2).toNatClampNeg : Nat) : Int) p = (y7_3).toInt - (s.1 42 (x2).toNatClampNeg).toInt := (by rw [ex]; exact p3); have fv : ((s.2.1 50) (z37).toNatClampNeg).toInt < FRC := (by rw [← e38]; have h7 := c43a; have h6 := Int64.toInt_lt z38; have h5 : (Int64.ofInt 9223372036854775807).toInt = 9223372036854775807 := rfl; unfold FRC; omega); have hw : z49x5 = (gvD s).2.2.2.1 p := (by rw [← pz]; exact e49x5); have hc := cW_v hw i49x5 e49x6 e49x10 e49x12; have cb9 := i49x12; unfold InL at cb9; have sm := stc_i q_3 ga fv hc cb9 e63 e64; exact sf_y g7_0 ga cnp ⟨fv, by rw [← e70, ← c72a]; exact sm⟩ p4
            exact g_ireturn (gd rfl) rfl rfl (hP _ _ ⟨z24, rfl, rfl, in_w (-1) 159 i24 rfl, n77⟩)
  refine g_enter2 (k := 196) (N := 145801) (by first | exact dq1 hd rfl | exact dq0 hd rfl | exact dq2 hd rfl | exact dq3 hd rfl | omega) rfl (Nat.le_of_ble_eq_true rfl) ?_
  refine g_aload_n 1 (gd rfl) rfl rfl ?_
  refine g_getA (q2 := 42) 4 (gd rfl) rfl rfl rfl rfl ?_
  refine g_iload_n 5 (gd rfl) rfl rfl ?_
  refine g_iaload 6 (gd rfl) rfl (n := 33) rfl (in_ix h2 rfl) (fun z5 e5 => ?_)
  have i5 := inv_I hI (n := 33) (t := 0) 0 160 rfl (in_ix h2 rfl) rfl e5
  refine g_istore_n 7 (gd rfl) rfl (Nat.le_of_ble_eq_true rfl) ?_
  have n7 : STR (gvD s) (s.2.1 50) (x2).toNatClampNeg ((z5).toInt - (s.1 42 (x2).toNatClampNeg).toInt) := by exact str_0 (by rw [← e5]; omega)
  have n7a : (s.1 42 (x2).toNatClampNeg).toInt ≤ (z5).toInt := by rw [← e5]; exact Int.le_refl _
  exact gg_w (by first | exact Nat.le_of_ble_eq_true rfl | omega) (gg_f (gf_cons rfl (gf_cons rfl (gf_cons rfl (gf_cons rfl gf_nil)))) (ct7 161  z5  (in_w 0 160 i5 rfl) n7 n7a (m_in 161 (in_w 0 160 i5 rfl) rfl)))

theorem oc_195_49_2 : (Int32.ofInt (-1)).toInt = (-1) ∧ (Int32.ofInt 0).toInt = 0 ∧ (Int32.ofInt 1).toInt = 1 ∧ (Int64.ofInt 0).toInt = 0 ∧ (Int64.ofInt 1024).toInt = 1024 ∧ (Int64.ofInt 9223372036854775807).toInt = 9223372036854775807 := ⟨rfl, rfl, rfl, rfl, rfl, rfl⟩
set_option maxHeartbeats 4000000 in
/-- GraphHouse$Ways.leastArc -/
theorem f_195_49_2 {Z : AmZ} {A : Nat → Nat} {s : GS} {ex : va_W} {d : Nat} {X : AmX} {x2 : Int32} {x3 : Int32} {x4 : Int32} (hd : 6 ≤ d) (hI : Inv s) (h2 : In x2 0 31) (h3 : In x3 0 31) (h4 : In x4 0 2147483647) (q_0 : TQ s) (q_1 : NDQ (gvC s)) (q_2 : FXB (gvC s) s) (q_3 : (x3).toInt < (s.2.2.1 2 1).toInt) : GC Z d 195 [.ref (A 49), .ref (A 2), .int x2, .int x3, .int x4] (WW Z A s ++ ex) 0 0 (fun v u => ∃ t : GS, Inv t ∧ Fr fm_195_49_2 s t ∧ ∃ z : Int32, v = some (.int z) ∧ u = WW Z A t ++ ex ∧ In z (-1) 159 ∧ (FXQ (gvC s) t) ∧ (WYV (gvC s) (x2).toNatClampNeg (x3).toNatClampNeg (x4).toInt (z).toInt)) X := by
  intro post xp hP hX
  have ct60 : ∀ (k60 : Nat) (sc60 : GS) (y60_5 : Int32) (y60_6 : Int32) (y60_7 : Int32), Inv sc60 → Fr fm_195_49_2 s sc60 → (In x4 0 2046) → (In y60_5 (-1) 159) → (In y60_6 0 31) → (In y60_7 0 4000) → (FXQ (gvC s) sc60) → ((sc60).2.2.1 49 1 = x3 ∧ ((sc60).2.2.1 2 4).toInt = ((sc60).2.2.1 2 0).toInt) → (WYI (gvC s) (x3).toNatClampNeg (x4).toInt (x2).toNatClampNeg (y60_6).toNatClampNeg (y60_7).toNatClampNeg (y60_5).toInt) → ((y60_7).toInt ≤ (x4).toInt + 1) → 4000 - (y60_7).toInt < (k60 : Int) → GG Z (d - 1) 195 post (gx xp) (1 + k60 * 900) 60 (fun j => xlook j [(0, .ref (A 49)), (1, .ref (A 2)), (2, .int x2), (3, .int x3), (4, .int x4), (5, .int y60_5), (6, .int y60_6), (7, .int y60_7)]) [] (WW Z A sc60 ++ ex) 0 0 := by
    intro k60
    induction k60 with
    | zero => intro sc60 y60_5 y60_6 y60_7 hIc60 hFc60 j60_4 j60_5 j60_6 j60_7 g60_0 g60_1 g60_2 g60_3 mm60; exact m_no mm60 j60_7 rfl
    | succ k60 ih60 =>
      intro sc60 y60_5 y60_6 y60_7 hIc60 hFc60 j60_4 j60_5 j60_6 j60_7 g60_0 g60_1 g60_2 g60_3 mm60
      refine gg_w (M := 1 + k60 * 900 + 900) gws ?_
      refine g_iload 62 (gd rfl) rfl rfl ?_
      refine g_iload 64 (gd rfl) rfl rfl ?_
      refine g_cmp_gt 67 99 (gd rfl) rfl rfl (fun c64 => ?_) (fun c64 => ?_)
      · skip
        have i64 := r_lt2 1 4000 c64 j60_4 j60_7 rfl
        refine g_iload 101 (gd rfl) rfl rfl ?_
        have n101 : FXQ (gvC s) sc60 := by exact g60_0
        have n101a : WYV (gvC s) (x2).toNatClampNeg (x3).toNatClampNeg (x4).toInt (y60_5).toInt := by exact wyi_e g60_2 (by exact (have a0 := in_u j60_4; have a1 := in_u h3; have a2 := in_u h2; have a3 := in_u i64; have a4 := in_u j60_6; have a5 := in_u j60_5; have oc := oc_195_49_2; by omega)) (by show (((y60_7).toInt.toNat : Nat) : Int) = _; have h9 := g60_3; exact (have a0 := in_u j60_4; have a1 := in_u h3; have a2 := in_u h2; have a3 := in_u i64; have a4 := in_u j60_6; have a5 := in_u j60_5; have oc := oc_195_49_2; by omega))
        exact g_ireturn (gd rfl) rfl rfl (hP _ _ ⟨sc60, hIc60, hFc60, y60_5, rfl, rfl, in_w (-1) 159 j60_5 rfl, n101, n101a⟩)
      · skip
        have i64 := r_le1 0 2046 c64 j60_7 j60_4 rfl
        refine g_aload_n 68 (gd rfl) rfl rfl ?_
        refine g_aload_n 69 (gd rfl) rfl rfl ?_
        refine g_iload 71 (gd rfl) rfl rfl ?_
        have p71 : TQ sc60 := by exact tq_fr q_0 hFc60 rfl
        have p71a : NDQ (gvC sc60) := by rw [(show gvC sc60 = gvC s from gvC_cg hFc60 rfl)]; exact q_1
        have p71b : ((sc60).2.2.1 2 4).toInt = ((sc60).2.2.1 2 0).toInt := by exact g60_1.2
        have p71c : STB (gvC sc60) ((sc60).2.1 50) (y60_6).toNatClampNeg := by rw [(show gvC sc60 = gvC s from gvC_cg hFc60 rfl)]; have i20 := inv_F hI (z := s.2.2.1 2 1) 0 32 rfl rfl; unfold In at i20; have an := ndq_ga q_1 (show ((((s.2.2.1 2 1).toInt.toNat : Nat)) : Int) = (gvC s).2.2.2.2.2.2.1 from (by show _ = (s.2.2.1 2 1).toInt; omega)); have tn : (x3).toNatClampNeg < (s.2.2.1 2 1).toInt.toNat := (by show (x3).toInt.toNat < _; have h9 := q_3; exact (have a0 := in_u j60_4; have a1 := in_u h3; have a2 := in_u h2; have a3 := in_u i64; have a4 := in_u j60_6; have a5 := in_u j60_5; have oc := oc_195_49_2; by omega)); have n32 : (s.2.2.1 2 1).toInt.toNat ≤ 32 := (by omega); have fx : FEX (gvC s) (x3).toNatClampNeg (sc60.2.1 50) (sc60.2.2.1 49 2) := (by have h9 := g60_0.2; rw [g60_1.1] at h9; exact h9); have u32 : (y60_6).toNatClampNeg < 32 := (by show (y60_6).toInt.toNat < 32; exact (have a0 := in_u j60_4; have a1 := in_u h3; have a2 := in_u h2; have a3 := in_u i64; have a4 := in_u j60_6; have a5 := in_u j60_5; have oc := oc_195_49_2; by omega)); obtain ⟨w9, l9, lw, -⟩ := g60_2.2.1; have ok := lew_ok fx u32 lw; exact fx_b an tn n32 (gw_C hI) fx u32 ok.1
        refine g_callv (X := _) (As := [.ref (A 2), .int y60_6]) (r := []) (b := A 49) (q := 49) 74 (gd rfl) rfl rfl rfl rfl rfl (ww_o rfl) (Nat.le_of_ble_eq_true rfl) (Nat.zero_le _) (Nat.zero_le _) (f_196_49_2 (by first | exact dq1 hd rfl | exact dq0 hd rfl | exact dq2 hd rfl | exact dq3 hd rfl | omega) hIc60 (in_w 0 31 j60_6 rfl) p71 p71a p71b p71c) (fun e u h => h) (fun v u h => ?_)
        obtain ⟨z71, rfl, rfl, i71, p71d⟩ := h
        show GG _ _ _ _ _ _ _ _ [.int z71] _ _ _
        refine g_istore 76 (gd rfl) rfl (Nat.le_of_ble_eq_true rfl) ?_
        refine g_iload 78 (gd rfl) rfl rfl ?_
        refine g_iconst (-1) 79 (gd rfl) rfl rfl ?_
        refine g_cmp_ne 82 84 (gd rfl) rfl rfl (fun c79 => ?_) (fun c79 => ?_)
        · skip
          have i79 := r_ne1 0 159 c79 i71 (in_c (-1) rfl) rfl
          refine g_aload_n 85 (gd rfl) rfl rfl ?_
          refine g_getA (q2 := 5) 88 (gd rfl) rfl rfl rfl rfl ?_
          refine g_iload 90 (gd rfl) rfl rfl ?_
          refine g_iaload 91 (gd rfl) rfl (n := 160) rfl (in_ix i79 rfl) (fun z90 e90 => ?_)
          have i90 := inv_I hIc60 (n := 160) (t := 0) 0 31 rfl (in_ix i79 rfl) rfl e90
          refine g_istore 93 (gd rfl) rfl (Nat.le_of_ble_eq_true rfl) ?_
          refine g_iinc 96 (gd rfl) rfl rfl (Nat.le_of_ble_eq_true rfl) (fun z93 e93 => ?_)
          have i93 := in_add 1 2047 e93 i64 (in_c 1 rfl) rfl rfl
          refine g_goto 60 (gd rfl) rfl ?_
          have n60 : FXQ (gvC s) sc60 := by exact g60_0
          have n60a : (sc60).2.2.1 49 1 = x3 ∧ ((sc60).2.2.1 2 4).toInt = ((sc60).2.2.1 2 0).toInt := by exact g60_1
          have n60b : WYI (gvC s) (x3).toNatClampNeg (x4).toInt (x2).toNatClampNeg (z90).toNatClampNeg (z93).toNatClampNeg (z71).toInt := by have i20 := inv_F hI (z := s.2.2.1 2 1) 0 32 rfl rfl; unfold In at i20; have an := ndq_ga q_1 (show ((((s.2.2.1 2 1).toInt.toNat : Nat)) : Int) = (gvC s).2.2.2.2.2.2.1 from (by show _ = (s.2.2.1 2 1).toInt; omega)); have tn : (x3).toNatClampNeg < (s.2.2.1 2 1).toInt.toNat := (by show (x3).toInt.toNat < _; have h9 := q_3; exact (have a0 := in_u j60_4; have a1 := in_u h3; have a2 := in_u h2; have a3 := in_u i64; have a4 := in_u j60_6; have a5 := in_u j60_5; have a6 := in_u i93; have a7 := t_add e93 i64 (in_c 1 rfl) rfl; have a8 := in_u ((in_c 1 rfl)); have a9 := in_u i90; have a10 := in_u i79; have oc := oc_195_49_2; by omega)); have n32 : (s.2.2.1 2 1).toInt.toNat ≤ 32 := (by omega); have fx : FEX (gvC s) (x3).toNatClampNeg (sc60.2.1 50) (sc60.2.2.1 49 2) := (by have h9 := g60_0.2; rw [g60_1.1] at h9; exact h9); have u32 : (y60_6).toNatClampNeg < 32 := (by show (y60_6).toInt.toNat < 32; exact (have a0 := in_u j60_4; have a1 := in_u h3; have a2 := in_u h2; have a3 := in_u i64; have a4 := in_u j60_6; have a5 := in_u j60_5; have a6 := in_u i93; have a7 := t_add e93 i64 (in_c 1 rfl) rfl; have a8 := in_u ((in_c 1 rfl)); have a9 := in_u i90; have a10 := in_u i79; have oc := oc_195_49_2; by omega)); obtain ⟨w9, l9, lw, -⟩ := g60_2.2.1; have ok := lew_ok fx u32 lw; have sf := sf_nx an tn n32 fx u32 ok.1 ok.2 (by rw [← (show gvC sc60 = gvC s from gvC_cg hFc60 rfl)]; exact p71d); rcases sf with ⟨p, v, hn, hz⟩ | ⟨hz, -⟩; (have pz : z71.toNatClampNeg = p := (by show z71.toInt.toNat = p; omega); have hvv : z90 = s.1 5 p := (by rw [← pz]; exact e90.trans (congrFun (hFc60.1 5 rfl) _)); have ne : ((gvC s).2.1 p).toInt ≠ -1 := (fun z => by have h8 := hn.1.1.2.1; rw [are_no z] at h8; omega); have tv : ARE (gvC s) 1 p = (z90).toInt := ((are_t hn.1.1.1 ne (by decide)).trans (congrArg Int32.toInt hvv.symm)); have v9 : v = (z90).toNatClampNeg := (by have h8 := hn.1.1.2.2; rw [tv] at h8; show v = (z90).toInt.toNat; omega); rw [← v9]; exact wyi_s g60_2 hn hz (show (z93).toNatClampNeg = (y60_7).toNatClampNeg + 1 from (by show (z93).toInt.toNat = (y60_7).toInt.toNat + 1; exact (have a0 := in_u j60_4; have a1 := in_u h3; have a2 := in_u h2; have a3 := in_u i64; have a4 := in_u j60_6; have a5 := in_u j60_5; have a6 := in_u i93; have a7 := t_add e93 i64 (in_c 1 rfl) rfl; have a8 := in_u ((in_c 1 rfl)); have a9 := in_u i90; have a10 := in_u i79; have oc := oc_195_49_2; by omega)))); (exfalso; have h8 := c79; have h7 : (Int32.ofInt (-1)).toInt = -1 := rfl; omega)
          have n60c : (z93).toInt ≤ (x4).toInt + 1 := by exact (have a0 := in_u j60_4; have a1 := in_u h3; have a2 := in_u h2; have a3 := in_u i64; have a4 := in_u j60_6; have a5 := in_u j60_5; have a6 := in_u i93; have a7 := t_add e93 i64 (in_c 1 rfl) rfl; have a8 := in_u ((in_c 1 rfl)); have a9 := in_u i90; have a10 := in_u i79; have oc := oc_195_49_2; by omega)
          exact gg_w (by first | exact Nat.le_add_right _ _ | exact gw2 | exact gw3 | exact gwe rfl | exact gwf rfl | exact gwg rfl | exact gwh rfl | omega) (gg_f (gf_cons rfl (gf_cons rfl (gf_cons rfl (gf_cons rfl (gf_cons rfl (gf_cons rfl (gf_cons rfl (gf_cons rfl gf_nil)))))))) (ih60 sc60 z71 z90 z93 hIc60 hFc60 (in_w 0 2046 j60_4 rfl) (in_w (-1) 159 i79 rfl) (in_w 0 31 i90 rfl) (in_w 0 4000 i93 rfl) n60 n60a n60b n60c (m_up mm60 (t_add e93 i64 (in_c 1 rfl) rfl) (in_w 1 1 (in_c 1 rfl) rfl))))
        · skip
          have i79 := r_eq1 (-1) (-1) c79 i71 (in_c (-1) rfl) rfl
          refine g_iconst (-1) 83 (gd rfl) rfl rfl ?_
          have n83 : FXQ (gvC s) sc60 := by exact g60_0
          have n83a : WYV (gvC s) (x2).toNatClampNeg (x3).toNatClampNeg (x4).toInt ((Int32.ofInt (-1))).toInt := by have i20 := inv_F hI (z := s.2.2.1 2 1) 0 32 rfl rfl; unfold In at i20; have an := ndq_ga q_1 (show ((((s.2.2.1 2 1).toInt.toNat : Nat)) : Int) = (gvC s).2.2.2.2.2.2.1 from (by show _ = (s.2.2.1 2 1).toInt; omega)); have tn : (x3).toNatClampNeg < (s.2.2.1 2 1).toInt.toNat := (by show (x3).toInt.toNat < _; have h9 := q_3; exact (have a0 := in_u j60_4; have a1 := in_u h3; have a2 := in_u h2; have a3 := in_u i64; have a4 := in_u j60_6; have a5 := in_u j60_5; have a6 := in_u i79; have oc := oc_195_49_2; by omega)); have n32 : (s.2.2.1 2 1).toInt.toNat ≤ 32 := (by omega); have fx : FEX (gvC s) (x3).toNatClampNeg (sc60.2.1 50) (sc60.2.2.1 49 2) := (by have h9 := g60_0.2; rw [g60_1.1] at h9; exact h9); have u32 : (y60_6).toNatClampNeg < 32 := (by show (y60_6).toInt.toNat < 32; exact (have a0 := in_u j60_4; have a1 := in_u h3; have a2 := in_u h2; have a3 := in_u i64; have a4 := in_u j60_6; have a5 := in_u j60_5; have a6 := in_u i79; have oc := oc_195_49_2; by omega)); obtain ⟨w9, l9, lw, -⟩ := g60_2.2.1; have ok := lew_ok fx u32 lw; have sf := sf_nx an tn n32 fx u32 ok.1 ok.2 (by rw [← (show gvC sc60 = gvC s from gvC_cg hFc60 rfl)]; exact p71d); rcases sf with ⟨p, v, hn, hz⟩ | ⟨hz, hn⟩; (exfalso; have h8 := c79; have h7 : (Int32.ofInt (-1)).toInt = -1 := rfl; omega); (exact (wyi_n g60_2 (by show (((y60_7).toInt.toNat : Nat) : Int) ≤ _; exact (have a0 := in_u j60_4; have a1 := in_u h3; have a2 := in_u h2; have a3 := in_u i64; have a4 := in_u j60_6; have a5 := in_u j60_5; have a6 := in_u i79; have oc := oc_195_49_2; by omega)) hn).elim)
          exact g_ireturn (gd rfl) rfl rfl (hP _ _ ⟨sc60, hIc60, hFc60, (Int32.ofInt (-1)), rfl, rfl, in_w (-1) 159 (in_c (-1) rfl) rfl, n83, n83a⟩)
  refine g_enter2 (k := 195) (N := 3601801) (by first | exact dq1 hd rfl | exact dq0 hd rfl | exact dq2 hd rfl | exact dq3 hd rfl | omega) rfl (Nat.le_of_ble_eq_true rfl) ?_
  refine g_aload_n 1 (gd rfl) rfl rfl ?_
  refine g_aload_n 2 (gd rfl) rfl rfl ?_
  refine g_iload_n 3 (gd rfl) rfl rfl ?_
  have p3 : TQ s := by exact q_0
  have p3a : NDQ (gvC s) := by exact q_1
  have p3b : FXB (gvC s) s := by exact q_2
  have p3c : (x3).toInt < (s.2.2.1 2 1).toInt := by exact q_3
  refine g_callv (X := _) (As := [.ref (A 2), .int x3]) (r := []) (b := A 49) (q := 49) 6 (gd rfl) rfl rfl rfl rfl rfl (ww_o rfl) (Nat.le_of_ble_eq_true rfl) (Nat.zero_le _) (Nat.zero_le _) (f_198_49_2 (by first | exact dq1 hd rfl | exact dq0 hd rfl | exact dq2 hd rfl | exact dq3 hd rfl | omega) hI (in_w 0 31 h3 rfl) p3 p3a p3b p3c) (fun e u h => h) (fun v u h => ?_)
  obtain ⟨s3, hI3, hF3, rfl, rfl, p3d, p3e⟩ := h
  show GG _ _ _ _ _ _ _ _ [] _ _ _
  refine g_aload_n 7 (gd rfl) rfl rfl ?_
  refine g_getI 10 (gd rfl) rfl rfl rfl (fun z7 e7 => ?_)
  refine g_iload_n 11 (gd rfl) rfl rfl ?_
  refine g_ishr 12 (gd rfl) rfl (fun z11 e11 => ?_)
  refine g_iconst 1 13 (gd rfl) rfl rfl ?_
  refine g_iand 14 (gd rfl) rfl (fun z13 e13 => ?_)
  have i13 := in_and2 e13 (in_c 1 rfl) rfl
  refine g_if_ne 17 49 (gd rfl) rfl rfl (fun c14 => ?_) (fun c14 => ?_)
  · skip
    have i14 := z_ne 1 1 c14 i13 rfl
    refine g_iconst (-1) 50 (gd rfl) rfl rfl ?_
    have n50 : FXQ (gvC s) s3 := by exact p3d.1
    have n50a : WYV (gvC s) (x2).toNatClampNeg (x3).toNatClampNeg (x4).toInt ((Int32.ofInt (-1))).toInt := by have fx : FEX (gvC s) (x3).toNatClampNeg (s3.2.1 50) (s3.2.2.1 49 2) := (by have h9 := p3d.1.2; rw [p3d.2] at h9; exact h9); have x32 : (x2).toNatClampNeg < 32 := (by show (x2).toInt.toNat < 32; exact (have a0 := in_u h3; have a1 := in_u h2; have a2 := in_u h4; have oc := oc_195_49_2; by omega)); exact wy_no fx x32 (Or.inl (by rw [← e7]; exact bt_t1 (bt_ask e11 e13 h2) c14)) rfl
    exact g_ireturn (gd rfl) rfl rfl (hP _ _ ⟨s3, hI3, (fr_tr rfl fr_rf hF3), (Int32.ofInt (-1)), rfl, rfl, in_w (-1) 159 (in_c (-1) rfl) rfl, n50, n50a⟩)
  · skip
    have i14 := z_eq 0 0 c14 i13 rfl
    refine g_aload_n 18 (gd rfl) rfl rfl ?_
    refine g_getA (q2 := 50) 21 (gd rfl) rfl rfl rfl rfl ?_
    refine g_iload_n 22 (gd rfl) rfl rfl ?_
    refine g_laload 23 (gd rfl) rfl (n := 32) rfl (in_ix h2 rfl) (fun z22 e22 => ?_)
    refine g_ldc2_w 9223372036854775807 26 (gd rfl) rfl rfl ?_
    refine g_lcmp 27 (gd rfl) rfl (fun z26 e26 => ?_)
    have i26 := lc_in e26
    refine g_if_eq 30 49 (gd rfl) rfl rfl (fun c27 => ?_) (fun c27 => ?_)
    · skip
      have i27 := z_eq 0 0 c27 i26 rfl
      have c27a := lc_eq e26 c27
      have i27a := lr_eq1 9223372036854775807 9223372036854775807 c27a (l_rng z22) (l_c 9223372036854775807 rfl) rfl
      refine g_iconst (-1) 50 (gd rfl) rfl rfl ?_
      have n50 : FXQ (gvC s) s3 := by exact p3d.1
      have n50a : WYV (gvC s) (x2).toNatClampNeg (x3).toNatClampNeg (x4).toInt ((Int32.ofInt (-1))).toInt := by have fx : FEX (gvC s) (x3).toNatClampNeg (s3.2.1 50) (s3.2.2.1 49 2) := (by have h9 := p3d.1.2; rw [p3d.2] at h9; exact h9); have x32 : (x2).toNatClampNeg < 32 := (by show (x2).toInt.toNat < 32; exact (have a0 := in_u h3; have a1 := in_u h2; have a2 := in_u h4; have oc := oc_195_49_2; by omega)); exact wy_no fx x32 (Or.inr ⟨(by rw [← e7]; exact bt_f0 (bt_ask e11 e13 h2) c14), by rw [← e22]; have h7 := c27a; unfold FRC; have h5 : (Int64.ofInt 9223372036854775807).toInt = 9223372036854775807 := rfl; omega⟩) rfl
      exact g_ireturn (gd rfl) rfl rfl (hP _ _ ⟨s3, hI3, (fr_tr rfl fr_rf hF3), (Int32.ofInt (-1)), rfl, rfl, in_w (-1) 159 (in_c (-1) rfl) rfl, n50, n50a⟩)
    · skip
      have c27a := lc_ne e26 c27
      have i27 := lr_ne1 (-9223372036854775808) 9223372036854775806 c27a (l_rng z22) (l_c 9223372036854775807 rfl) rfl
      refine g_iload 32 (gd rfl) rfl rfl ?_
      refine g_i2l 33 (gd rfl) rfl (fun z32 e32 => ?_)
      have i32 := l_i e32 h4
      refine g_aload_n 34 (gd rfl) rfl rfl ?_
      refine g_getA (q2 := 50) 37 (gd rfl) rfl rfl rfl rfl ?_
      refine g_iload_n 38 (gd rfl) rfl rfl ?_
      refine g_laload 39 (gd rfl) rfl (n := 32) rfl (in_ix h2 rfl) (fun z38 e38 => ?_)
      refine g_ldc2_w 1024 42 (gd rfl) rfl rfl ?_
      refine g_calls (As := [.long z38, .long (Int64.ofInt 1024)]) (r := [.long z32]) 45 (gd rfl) rfl rfl rfl rfl rfl (Nat.le_of_ble_eq_true rfl) (mc := 0) (ms := 0) (Nat.zero_le _) (Nat.zero_le _) (P := fun v u => _) ?_ (fun v u h => h)
      intro po42 xx42 hp42 hx42
      refine g_enter2 (k := 419) (N := 300) (by first | exact dq1 hd rfl | exact dq0 hd rfl | exact dq2 hd rfl | exact dq3 hd rfl | omega) rfl (Nat.le_of_ble_eq_true rfl) ?_
      refine g_lload_n 1 (gd rfl) rfl rfl ?_
      refine g_lload_n 2 (gd rfl) rfl rfl ?_
      refine g_lrem 3 (gd rfl) rfl (by decide) (fun z42x2 e42x2 => ?_)
      have i42x2 := l_rem (-1023) 1023 e42x2 rfl
      refine g_lstore 5 (gd rfl) rfl (Nat.le_of_ble_eq_true rfl) ?_
      refine g_lload_n 6 (gd rfl) rfl rfl ?_
      refine g_lload_n 7 (gd rfl) rfl rfl ?_
      refine g_lxor 8 (gd rfl) rfl (fun z42x7 e42x7 => ?_)
      refine g_lconst 0 9 (gd rfl) rfl rfl ?_
      refine g_lcmp 10 (gd rfl) rfl (fun z42x9 e42x9 => ?_)
      have i42x9 := lc_in e42x9
      refine g_if_ge 13 25 (gd rfl) rfl rfl (fun c42x10 => ?_) (fun c42x10 => ?_)
      · skip
        have i42x10 := z_ge 0 1 c42x10 i42x9 rfl
        have c42x10a := lc_ge e42x9 c42x10
        have i42x10a := lr_le2 0 9223372036854775807 c42x10a (l_c 0 rfl) (l_rng z42x7) rfl
        refine g_lload 27 (gd rfl) rfl rfl ?_
        refine g_lreturn (gd rfl) rfl (hp42 _ _ ?_)
        show GG _ _ _ _ _ _ _ _ [.long z42x2, .long z32] _ _ _
        refine g_lcmp 46 (gd rfl) rfl (fun z45 e45 => ?_)
        have i45 := lc_in e45
        refine g_if_lt 49 51 (gd rfl) rfl rfl (fun c46 => ?_) (fun c46 => ?_)
        · skip
          have i46 := z_lt (-1) (-1) c46 i45 rfl
          have c46a := lc_lt e45 c46
          have i46a := lr_lt1 0 1022 c46a i32 i42x2 rfl
          have i46b := l_b e32 i46a
          have i46c := lr_lt2 1 1023 c46a i32 i42x2 rfl
          refine g_iconst (-1) 52 (gd rfl) rfl rfl ?_
          refine g_istore 54 (gd rfl) rfl (Nat.le_of_ble_eq_true rfl) ?_
          refine g_iload_n 55 (gd rfl) rfl rfl ?_
          refine g_istore 57 (gd rfl) rfl (Nat.le_of_ble_eq_true rfl) ?_
          refine g_iconst 0 58 (gd rfl) rfl rfl ?_
          refine g_istore 60 (gd rfl) rfl (Nat.le_of_ble_eq_true rfl) ?_
          have n60 : FXQ (gvC s) s3 := by exact p3d.1
          have n60a : (s3).2.2.1 49 1 = x3 ∧ ((s3).2.2.1 2 4).toInt = ((s3).2.2.1 2 0).toInt := by exact ⟨p3d.2, p3e⟩
          have n60b : WYI (gvC s) (x3).toNatClampNeg (x4).toInt (x2).toNatClampNeg (x2).toNatClampNeg ((Int32.ofInt 0)).toNatClampNeg ((Int32.ofInt (-1))).toInt := by have i20 := inv_F hI (z := s.2.2.1 2 1) 0 32 rfl rfl; unfold In at i20; have an := ndq_ga q_1 (show ((((s.2.2.1 2 1).toInt.toNat : Nat)) : Int) = (gvC s).2.2.2.2.2.2.1 from (by show _ = (s.2.2.1 2 1).toInt; omega)); have tn : (x3).toNatClampNeg < (s.2.2.1 2 1).toInt.toNat := (by show (x3).toInt.toNat < _; have h9 := q_3; exact (have a0 := in_u i46b; have a1 := in_u h3; have a2 := in_u h2; have a3 := in_u ((in_c 0 rfl)); have a4 := in_u ((in_c (-1) rfl)); have a5 := tx_i2l e32; have oc := oc_195_49_2; by omega)); have n32 : (s.2.2.1 2 1).toInt.toNat ≤ 32 := (by omega); have fx : FEX (gvC s) (x3).toNatClampNeg (s3.2.1 50) (s3.2.2.1 49 2) := (by have h9 := p3d.1.2; rw [p3d.2] at h9; exact h9); have x32 : (x2).toNatClampNeg < 32 := (by show (x2).toInt.toNat < 32; exact (have a0 := in_u i46b; have a1 := in_u h3; have a2 := in_u h2; have a3 := in_u ((in_c 0 rfl)); have a4 := in_u ((in_c (-1) rfl)); have a5 := tx_i2l e32; have oc := oc_195_49_2; by omega)); have lt : (s3.2.1 50 (x2).toNatClampNeg).toInt < FRC := (by have h7 := c27a; rw [← e22]; unfold FRC; have h6 := Int64.toInt_lt z22; have h5 : (Int64.ofInt 9223372036854775807).toInt = 9223372036854775807 := rfl; omega); have nb : bt (s3.2.2.1 49 2) (x2).toNatClampNeg = false := (by rw [← e7]; exact bt_f0 (bt_ask e11 e13 h2) c14); exact (show WYI _ _ _ _ _ 0 _ from wyi_0 (wy_lt (m := (z42x2).toInt) an tn n32 fx x32 nb lt (by rw [← e38]; exact fmd_a (w := z42x7) e42x2 e42x7 (by have h := c42x10a; have h5 : (Int64.ofInt 0).toInt = 0 := rfl; omega)) (by have h := c46a; rw [tx_i2l e32] at h; exact h)))
          have n60c : ((Int32.ofInt 0)).toInt ≤ (x4).toInt + 1 := by exact (have a0 := in_u i46b; have a1 := in_u h3; have a2 := in_u h2; have a3 := in_u ((in_c 0 rfl)); have a4 := in_u ((in_c (-1) rfl)); have a5 := tx_i2l e32; have oc := oc_195_49_2; by omega)
          exact gg_w (by first | exact Nat.le_of_ble_eq_true rfl | omega) (gg_f (gf_cons rfl (gf_cons rfl (gf_cons rfl (gf_cons rfl (gf_cons rfl (gf_cons rfl (gf_cons rfl (gf_cons rfl gf_nil)))))))) (ct60 4001 s3 (Int32.ofInt (-1)) x2 (Int32.ofInt 0) hI3 (fr_tr rfl fr_rf hF3) (in_w 0 2046 i46b rfl) (in_w (-1) 159 (in_c (-1) rfl) rfl) (in_w 0 31 h2 rfl) (in_w 0 4000 (in_c 0 rfl) rfl) n60 n60a n60b n60c (m_in 4001 (in_w 0 4000 (in_c 0 rfl) rfl) rfl)))
        · skip
          have i46 := z_ge 0 1 c46 i45 rfl
          have c46a := lc_ge e45 c46
          refine g_iconst (-1) 50 (gd rfl) rfl rfl ?_
          have n50 : FXQ (gvC s) s3 := by exact p3d.1
          have n50a : WYV (gvC s) (x2).toNatClampNeg (x3).toNatClampNeg (x4).toInt ((Int32.ofInt (-1))).toInt := by have i20 := inv_F hI (z := s.2.2.1 2 1) 0 32 rfl rfl; unfold In at i20; have an := ndq_ga q_1 (show ((((s.2.2.1 2 1).toInt.toNat : Nat)) : Int) = (gvC s).2.2.2.2.2.2.1 from (by show _ = (s.2.2.1 2 1).toInt; omega)); have tn : (x3).toNatClampNeg < (s.2.2.1 2 1).toInt.toNat := (by show (x3).toInt.toNat < _; have h9 := q_3; exact (have a0 := in_u h3; have a1 := in_u h2; have a2 := in_u h4; have a3 := tx_i2l e32; have oc := oc_195_49_2; by omega)); have n32 : (s.2.2.1 2 1).toInt.toNat ≤ 32 := (by omega); have fx : FEX (gvC s) (x3).toNatClampNeg (s3.2.1 50) (s3.2.2.1 49 2) := (by have h9 := p3d.1.2; rw [p3d.2] at h9; exact h9); have x32 : (x2).toNatClampNeg < 32 := (by show (x2).toInt.toNat < 32; exact (have a0 := in_u h3; have a1 := in_u h2; have a2 := in_u h4; have a3 := tx_i2l e32; have oc := oc_195_49_2; by omega)); have lt : (s3.2.1 50 (x2).toNatClampNeg).toInt < FRC := (by have h7 := c27a; rw [← e22]; unfold FRC; have h6 := Int64.toInt_lt z22; have h5 : (Int64.ofInt 9223372036854775807).toInt = 9223372036854775807 := rfl; omega); have nb : bt (s3.2.2.1 49 2) (x2).toNatClampNeg = false := (by rw [← e7]; exact bt_f0 (bt_ask e11 e13 h2) c14); exact wy_ge (m := (z42x2).toInt) an tn n32 fx x32 nb lt (by rw [← e38]; exact fmd_a (w := z42x7) e42x2 e42x7 (by have h := c42x10a; have h5 : (Int64.ofInt 0).toInt = 0 := rfl; omega)) (by have h := c46a; rw [tx_i2l e32] at h; exact h) rfl
          exact g_ireturn (gd rfl) rfl rfl (hP _ _ ⟨s3, hI3, (fr_tr rfl fr_rf hF3), (Int32.ofInt (-1)), rfl, rfl, in_w (-1) 159 (in_c (-1) rfl) rfl, n50, n50a⟩)
      · skip
        have i42x10 := z_lt (-1) (-1) c42x10 i42x9 rfl
        have c42x10a := lc_lt e42x9 c42x10
        have i42x10a := lr_lt1 (-9223372036854775808) (-1) c42x10a (l_rng z42x7) (l_c 0 rfl) rfl
        refine g_lload 15 (gd rfl) rfl rfl ?_
        refine g_lconst 0 16 (gd rfl) rfl rfl ?_
        refine g_lcmp 17 (gd rfl) rfl (fun z42x16 e42x16 => ?_)
        have i42x16 := lc_in e42x16
        refine g_if_eq 20 25 (gd rfl) rfl rfl (fun c42x17 => ?_) (fun c42x17 => ?_)
        · skip
          have i42x17 := z_eq 0 0 c42x17 i42x16 rfl
          have c42x17a := lc_eq e42x16 c42x17
          have i42x17a := lr_eq1 0 0 c42x17a i42x2 (l_c 0 rfl) rfl
          refine g_lload 27 (gd rfl) rfl rfl ?_
          refine g_lreturn (gd rfl) rfl (hp42 _ _ ?_)
          show GG _ _ _ _ _ _ _ _ [.long z42x2, .long z32] _ _ _
          refine g_lcmp 46 (gd rfl) rfl (fun z45 e45 => ?_)
          have i45 := lc_in e45
          refine g_if_lt 49 51 (gd rfl) rfl rfl (fun c46 => ?_) (fun c46 => ?_)
          · skip
            have i46 := z_lt (-1) (-1) c46 i45 rfl
            have c46a := lc_lt e45 c46
            exact ln_lt c46a i32 i42x17a rfl
          · skip
            have i46 := z_ge 0 1 c46 i45 rfl
            have c46a := lc_ge e45 c46
            refine g_iconst (-1) 50 (gd rfl) rfl rfl ?_
            have n50 : FXQ (gvC s) s3 := by exact p3d.1
            have n50a : WYV (gvC s) (x2).toNatClampNeg (x3).toNatClampNeg (x4).toInt ((Int32.ofInt (-1))).toInt := by have i20 := inv_F hI (z := s.2.2.1 2 1) 0 32 rfl rfl; unfold In at i20; have an := ndq_ga q_1 (show ((((s.2.2.1 2 1).toInt.toNat : Nat)) : Int) = (gvC s).2.2.2.2.2.2.1 from (by show _ = (s.2.2.1 2 1).toInt; omega)); have tn : (x3).toNatClampNeg < (s.2.2.1 2 1).toInt.toNat := (by show (x3).toInt.toNat < _; have h9 := q_3; exact (have a0 := in_u h3; have a1 := in_u h2; have a2 := in_u h4; have a3 := tx_i2l e32; have oc := oc_195_49_2; by omega)); have n32 : (s.2.2.1 2 1).toInt.toNat ≤ 32 := (by omega); have fx : FEX (gvC s) (x3).toNatClampNeg (s3.2.1 50) (s3.2.2.1 49 2) := (by have h9 := p3d.1.2; rw [p3d.2] at h9; exact h9); have x32 : (x2).toNatClampNeg < 32 := (by show (x2).toInt.toNat < 32; exact (have a0 := in_u h3; have a1 := in_u h2; have a2 := in_u h4; have a3 := tx_i2l e32; have oc := oc_195_49_2; by omega)); have lt : (s3.2.1 50 (x2).toNatClampNeg).toInt < FRC := (by have h7 := c27a; rw [← e22]; unfold FRC; have h6 := Int64.toInt_lt z22; have h5 : (Int64.ofInt 9223372036854775807).toInt = 9223372036854775807 := rfl; omega); have nb : bt (s3.2.2.1 49 2) (x2).toNatClampNeg = false := (by rw [← e7]; exact bt_f0 (bt_ask e11 e13 h2) c14); exact wy_ge (m := (z42x2).toInt) an tn n32 fx x32 nb lt (by rw [← e38]; exact fmd_0 e42x2 (by have h := c42x17a; have h5 : (Int64.ofInt 0).toInt = 0 := rfl; omega)) (by have h := c46a; rw [tx_i2l e32] at h; exact h) rfl
            exact g_ireturn (gd rfl) rfl rfl (hP _ _ ⟨s3, hI3, (fr_tr rfl fr_rf hF3), (Int32.ofInt (-1)), rfl, rfl, in_w (-1) 159 (in_c (-1) rfl) rfl, n50, n50a⟩)
        · skip
          have c42x17a := lc_ne e42x16 c42x17
          refine g_lload 22 (gd rfl) rfl rfl ?_
          refine g_lload_n 23 (gd rfl) rfl rfl ?_
          refine g_ladd 24 (gd rfl) rfl (fun z42x23 e42x23 => ?_)
          have i42x23 := l_add 1 2047 e42x23 i42x2 (l_c 1024 rfl) rfl
          refine g_lreturn (gd rfl) rfl (hp42 _ _ ?_)
          show GG _ _ _ _ _ _ _ _ [.long z42x23, .long z32] _ _ _
          refine g_lcmp 46 (gd rfl) rfl (fun z45 e45 => ?_)
          have i45 := lc_in e45
          refine g_if_lt 49 51 (gd rfl) rfl rfl (fun c46 => ?_) (fun c46 => ?_)
          · skip
            have i46 := z_lt (-1) (-1) c46 i45 rfl
            have c46a := lc_lt e45 c46
            have i46a := lr_lt1 0 2046 c46a i32 i42x23 rfl
            have i46b := l_b e32 i46a
            refine g_iconst (-1) 52 (gd rfl) rfl rfl ?_
            refine g_istore 54 (gd rfl) rfl (Nat.le_of_ble_eq_true rfl) ?_
            refine g_iload_n 55 (gd rfl) rfl rfl ?_
            refine g_istore 57 (gd rfl) rfl (Nat.le_of_ble_eq_true rfl) ?_
            refine g_iconst 0 58 (gd rfl) rfl rfl ?_
            refine g_istore 60 (gd rfl) rfl (Nat.le_of_ble_eq_true rfl) ?_
            have n60 : FXQ (gvC s) s3 := by exact p3d.1
            have n60a : (s3).2.2.1 49 1 = x3 ∧ ((s3).2.2.1 2 4).toInt = ((s3).2.2.1 2 0).toInt := by exact ⟨p3d.2, p3e⟩
            have n60b : WYI (gvC s) (x3).toNatClampNeg (x4).toInt (x2).toNatClampNeg (x2).toNatClampNeg ((Int32.ofInt 0)).toNatClampNeg ((Int32.ofInt (-1))).toInt := by have i20 := inv_F hI (z := s.2.2.1 2 1) 0 32 rfl rfl; unfold In at i20; have an := ndq_ga q_1 (show ((((s.2.2.1 2 1).toInt.toNat : Nat)) : Int) = (gvC s).2.2.2.2.2.2.1 from (by show _ = (s.2.2.1 2 1).toInt; omega)); have tn : (x3).toNatClampNeg < (s.2.2.1 2 1).toInt.toNat := (by show (x3).toInt.toNat < _; have h9 := q_3; exact (have a0 := in_u i46b; have a1 := in_u h3; have a2 := in_u h2; have a3 := in_u ((in_c 0 rfl)); have a4 := in_u ((in_c (-1) rfl)); have a5 := tx_i2l e32; have oc := oc_195_49_2; by omega)); have n32 : (s.2.2.1 2 1).toInt.toNat ≤ 32 := (by omega); have fx : FEX (gvC s) (x3).toNatClampNeg (s3.2.1 50) (s3.2.2.1 49 2) := (by have h9 := p3d.1.2; rw [p3d.2] at h9; exact h9); have x32 : (x2).toNatClampNeg < 32 := (by show (x2).toInt.toNat < 32; exact (have a0 := in_u i46b; have a1 := in_u h3; have a2 := in_u h2; have a3 := in_u ((in_c 0 rfl)); have a4 := in_u ((in_c (-1) rfl)); have a5 := tx_i2l e32; have oc := oc_195_49_2; by omega)); have lt : (s3.2.1 50 (x2).toNatClampNeg).toInt < FRC := (by have h7 := c27a; rw [← e22]; unfold FRC; have h6 := Int64.toInt_lt z22; have h5 : (Int64.ofInt 9223372036854775807).toInt = 9223372036854775807 := rfl; omega); have nb : bt (s3.2.2.1 49 2) (x2).toNatClampNeg = false := (by rw [← e7]; exact bt_f0 (bt_ask e11 e13 h2) c14); exact (show WYI _ _ _ _ _ 0 _ from wyi_0 (wy_lt (m := (z42x23).toInt) an tn n32 fx x32 nb lt (by rw [← e38]; exact fmd_c (w := z42x7) e42x2 e42x7 (by have h := c42x10a; have h5 : (Int64.ofInt 0).toInt = 0 := rfl; omega) (by have h := c42x17a; have h5 : (Int64.ofInt 0).toInt = 0 := rfl; omega) e42x23) (by have h := c46a; rw [tx_i2l e32] at h; exact h)))
            have n60c : ((Int32.ofInt 0)).toInt ≤ (x4).toInt + 1 := by exact (have a0 := in_u i46b; have a1 := in_u h3; have a2 := in_u h2; have a3 := in_u ((in_c 0 rfl)); have a4 := in_u ((in_c (-1) rfl)); have a5 := tx_i2l e32; have oc := oc_195_49_2; by omega)
            exact gg_w (by first | exact Nat.le_of_ble_eq_true rfl | omega) (gg_f (gf_cons rfl (gf_cons rfl (gf_cons rfl (gf_cons rfl (gf_cons rfl (gf_cons rfl (gf_cons rfl (gf_cons rfl gf_nil)))))))) (ct60 4001 s3 (Int32.ofInt (-1)) x2 (Int32.ofInt 0) hI3 (fr_tr rfl fr_rf hF3) (in_w 0 2046 i46b rfl) (in_w (-1) 159 (in_c (-1) rfl) rfl) (in_w 0 31 h2 rfl) (in_w 0 4000 (in_c 0 rfl) rfl) n60 n60a n60b n60c (m_in 4001 (in_w 0 4000 (in_c 0 rfl) rfl) rfl)))
          · skip
            have i46 := z_ge 0 1 c46 i45 rfl
            have c46a := lc_ge e45 c46
            have i46a := lr_le2 1 2147483647 c46a i42x23 i32 rfl
            have i46b := l_b e32 i46a
            refine g_iconst (-1) 50 (gd rfl) rfl rfl ?_
            have n50 : FXQ (gvC s) s3 := by exact p3d.1
            have n50a : WYV (gvC s) (x2).toNatClampNeg (x3).toNatClampNeg (x4).toInt ((Int32.ofInt (-1))).toInt := by have i20 := inv_F hI (z := s.2.2.1 2 1) 0 32 rfl rfl; unfold In at i20; have an := ndq_ga q_1 (show ((((s.2.2.1 2 1).toInt.toNat : Nat)) : Int) = (gvC s).2.2.2.2.2.2.1 from (by show _ = (s.2.2.1 2 1).toInt; omega)); have tn : (x3).toNatClampNeg < (s.2.2.1 2 1).toInt.toNat := (by show (x3).toInt.toNat < _; have h9 := q_3; exact (have a0 := in_u h3; have a1 := in_u h2; have a2 := in_u i46b; have a3 := tx_i2l e32; have oc := oc_195_49_2; by omega)); have n32 : (s.2.2.1 2 1).toInt.toNat ≤ 32 := (by omega); have fx : FEX (gvC s) (x3).toNatClampNeg (s3.2.1 50) (s3.2.2.1 49 2) := (by have h9 := p3d.1.2; rw [p3d.2] at h9; exact h9); have x32 : (x2).toNatClampNeg < 32 := (by show (x2).toInt.toNat < 32; exact (have a0 := in_u h3; have a1 := in_u h2; have a2 := in_u i46b; have a3 := tx_i2l e32; have oc := oc_195_49_2; by omega)); have lt : (s3.2.1 50 (x2).toNatClampNeg).toInt < FRC := (by have h7 := c27a; rw [← e22]; unfold FRC; have h6 := Int64.toInt_lt z22; have h5 : (Int64.ofInt 9223372036854775807).toInt = 9223372036854775807 := rfl; omega); have nb : bt (s3.2.2.1 49 2) (x2).toNatClampNeg = false := (by rw [← e7]; exact bt_f0 (bt_ask e11 e13 h2) c14); exact wy_ge (m := (z42x23).toInt) an tn n32 fx x32 nb lt (by rw [← e38]; exact fmd_c (w := z42x7) e42x2 e42x7 (by have h := c42x10a; have h5 : (Int64.ofInt 0).toInt = 0 := rfl; omega) (by have h := c42x17a; have h5 : (Int64.ofInt 0).toInt = 0 := rfl; omega) e42x23) (by have h := c46a; rw [tx_i2l e32] at h; exact h) rfl
            exact g_ireturn (gd rfl) rfl rfl (hP _ _ ⟨s3, hI3, (fr_tr rfl fr_rf hF3), (Int32.ofInt (-1)), rfl, rfl, in_w (-1) 159 (in_c (-1) rfl) rfl, n50, n50a⟩)

theorem oc_195_49_32 : (Int32.ofInt (-1)).toInt = (-1) ∧ (Int32.ofInt 0).toInt = 0 ∧ (Int32.ofInt 1).toInt = 1 ∧ (Int64.ofInt 0).toInt = 0 ∧ (Int64.ofInt 1024).toInt = 1024 ∧ (Int64.ofInt 9223372036854775807).toInt = 9223372036854775807 := ⟨rfl, rfl, rfl, rfl, rfl, rfl⟩
set_option maxHeartbeats 4000000 in
/-- GraphHouse$Ways.leastArc -/
theorem f_195_49_32 {Z : AmZ} {A : Nat → Nat} {s : GS} {ex : va_W} {d : Nat} {X : AmX} {x2 : Int32} {x3 : Int32} {x4 : Int32} (hd : 6 ≤ d) (hI : Inv s) (h2 : In x2 0 31) (h3 : In x3 0 31) (h4 : In x4 0 2147483647) (q_0 : TQD s) (q_1 : NDQ (gvD s)) (q_2 : FXB (gvD s) s) (q_3 : (x3).toInt < (s.2.2.1 32 1).toInt) : GC Z d 195 [.ref (A 49), .ref (A 32), .int x2, .int x3, .int x4] (WW Z A s ++ ex) 0 0 (fun v u => ∃ t : GS, Inv t ∧ Fr fm_195_49_32 s t ∧ ∃ z : Int32, v = some (.int z) ∧ u = WW Z A t ++ ex ∧ In z (-1) 159 ∧ (FXQ (gvD s) t) ∧ (WYV (gvD s) (x2).toNatClampNeg (x3).toNatClampNeg (x4).toInt (z).toInt)) X := by
  intro post xp hP hX
  have ct60 : ∀ (k60 : Nat) (sc60 : GS) (y60_5 : Int32) (y60_6 : Int32) (y60_7 : Int32), Inv sc60 → Fr fm_195_49_32 s sc60 → (In x4 0 2046) → (In y60_5 (-1) 159) → (In y60_6 0 31) → (In y60_7 0 4000) → (FXQ (gvD s) sc60) → ((sc60).2.2.1 49 1 = x3 ∧ ((sc60).2.2.1 32 4).toInt = ((sc60).2.2.1 32 0).toInt) → (WYI (gvD s) (x3).toNatClampNeg (x4).toInt (x2).toNatClampNeg (y60_6).toNatClampNeg (y60_7).toNatClampNeg (y60_5).toInt) → ((y60_7).toInt ≤ (x4).toInt + 1) → 4000 - (y60_7).toInt < (k60 : Int) → GG Z (d - 1) 195 post (gx xp) (1 + k60 * 900) 60 (fun j => xlook j [(0, .ref (A 49)), (1, .ref (A 32)), (2, .int x2), (3, .int x3), (4, .int x4), (5, .int y60_5), (6, .int y60_6), (7, .int y60_7)]) [] (WW Z A sc60 ++ ex) 0 0 := by
    intro k60
    induction k60 with
    | zero => intro sc60 y60_5 y60_6 y60_7 hIc60 hFc60 j60_4 j60_5 j60_6 j60_7 g60_0 g60_1 g60_2 g60_3 mm60; exact m_no mm60 j60_7 rfl
    | succ k60 ih60 =>
      intro sc60 y60_5 y60_6 y60_7 hIc60 hFc60 j60_4 j60_5 j60_6 j60_7 g60_0 g60_1 g60_2 g60_3 mm60
      refine gg_w (M := 1 + k60 * 900 + 900) gws ?_
      refine g_iload 62 (gd rfl) rfl rfl ?_
      refine g_iload 64 (gd rfl) rfl rfl ?_
      refine g_cmp_gt 67 99 (gd rfl) rfl rfl (fun c64 => ?_) (fun c64 => ?_)
      · skip
        have i64 := r_lt2 1 4000 c64 j60_4 j60_7 rfl
        refine g_iload 101 (gd rfl) rfl rfl ?_
        have n101 : FXQ (gvD s) sc60 := by exact g60_0
        have n101a : WYV (gvD s) (x2).toNatClampNeg (x3).toNatClampNeg (x4).toInt (y60_5).toInt := by exact wyi_e g60_2 (by exact (have a0 := in_u j60_4; have a1 := in_u h3; have a2 := in_u h2; have a3 := in_u i64; have a4 := in_u j60_6; have a5 := in_u j60_5; have oc := oc_195_49_32; by omega)) (by show (((y60_7).toInt.toNat : Nat) : Int) = _; have h9 := g60_3; exact (have a0 := in_u j60_4; have a1 := in_u h3; have a2 := in_u h2; have a3 := in_u i64; have a4 := in_u j60_6; have a5 := in_u j60_5; have oc := oc_195_49_32; by omega))
        exact g_ireturn (gd rfl) rfl rfl (hP _ _ ⟨sc60, hIc60, hFc60, y60_5, rfl, rfl, in_w (-1) 159 j60_5 rfl, n101, n101a⟩)
      · skip
        have i64 := r_le1 0 2046 c64 j60_7 j60_4 rfl
        refine g_aload_n 68 (gd rfl) rfl rfl ?_
        refine g_aload_n 69 (gd rfl) rfl rfl ?_
        refine g_iload 71 (gd rfl) rfl rfl ?_
        have p71 : TQD sc60 := by exact tqd_fr q_0 hFc60 rfl
        have p71a : NDQ (gvD sc60) := by rw [(show gvD sc60 = gvD s from gvD_fr hFc60 rfl)]; exact q_1
        have p71b : ((sc60).2.2.1 32 4).toInt = ((sc60).2.2.1 32 0).toInt := by exact g60_1.2
        have p71c : STB (gvD sc60) ((sc60).2.1 50) (y60_6).toNatClampNeg := by rw [(show gvD sc60 = gvD s from gvD_fr hFc60 rfl)]; have i20 := inv_F hI (z := s.2.2.1 32 1) 0 32 rfl rfl; unfold In at i20; have an := ndq_ga q_1 (show ((((s.2.2.1 32 1).toInt.toNat : Nat)) : Int) = (gvD s).2.2.2.2.2.2.1 from (by show _ = (s.2.2.1 32 1).toInt; omega)); have tn : (x3).toNatClampNeg < (s.2.2.1 32 1).toInt.toNat := (by show (x3).toInt.toNat < _; have h9 := q_3; exact (have a0 := in_u j60_4; have a1 := in_u h3; have a2 := in_u h2; have a3 := in_u i64; have a4 := in_u j60_6; have a5 := in_u j60_5; have oc := oc_195_49_32; by omega)); have n32 : (s.2.2.1 32 1).toInt.toNat ≤ 32 := (by omega); have fx : FEX (gvD s) (x3).toNatClampNeg (sc60.2.1 50) (sc60.2.2.1 49 2) := (by have h9 := g60_0.2; rw [g60_1.1] at h9; exact h9); have u32 : (y60_6).toNatClampNeg < 32 := (by show (y60_6).toInt.toNat < 32; exact (have a0 := in_u j60_4; have a1 := in_u h3; have a2 := in_u h2; have a3 := in_u i64; have a4 := in_u j60_6; have a5 := in_u j60_5; have oc := oc_195_49_32; by omega)); obtain ⟨w9, l9, lw, -⟩ := g60_2.2.1; have ok := lew_ok fx u32 lw; exact fx_b an tn n32 (gw_D hI) fx u32 ok.1
        refine g_callv (X := _) (As := [.ref (A 32), .int y60_6]) (r := []) (b := A 49) (q := 49) 74 (gd rfl) rfl rfl rfl rfl rfl (ww_o rfl) (Nat.le_of_ble_eq_true rfl) (Nat.zero_le _) (Nat.zero_le _) (f_196_49_32 (by first | exact dq1 hd rfl | exact dq0 hd rfl | exact dq2 hd rfl | exact dq3 hd rfl | omega) hIc60 (in_w 0 31 j60_6 rfl) p71 p71a p71b p71c) (fun e u h => h) (fun v u h => ?_)
        obtain ⟨z71, rfl, rfl, i71, p71d⟩ := h
        show GG _ _ _ _ _ _ _ _ [.int z71] _ _ _
        refine g_istore 76 (gd rfl) rfl (Nat.le_of_ble_eq_true rfl) ?_
        refine g_iload 78 (gd rfl) rfl rfl ?_
        refine g_iconst (-1) 79 (gd rfl) rfl rfl ?_
        refine g_cmp_ne 82 84 (gd rfl) rfl rfl (fun c79 => ?_) (fun c79 => ?_)
        · skip
          have i79 := r_ne1 0 159 c79 i71 (in_c (-1) rfl) rfl
          refine g_aload_n 85 (gd rfl) rfl rfl ?_
          refine g_getA (q2 := 35) 88 (gd rfl) rfl rfl rfl rfl ?_
          refine g_iload 90 (gd rfl) rfl rfl ?_
          refine g_iaload 91 (gd rfl) rfl (n := 160) rfl (in_ix i79 rfl) (fun z90 e90 => ?_)
          have i90 := inv_I hIc60 (n := 160) (t := 0) 0 31 rfl (in_ix i79 rfl) rfl e90
          refine g_istore 93 (gd rfl) rfl (Nat.le_of_ble_eq_true rfl) ?_
          refine g_iinc 96 (gd rfl) rfl rfl (Nat.le_of_ble_eq_true rfl) (fun z93 e93 => ?_)
          have i93 := in_add 1 2047 e93 i64 (in_c 1 rfl) rfl rfl
          refine g_goto 60 (gd rfl) rfl ?_
          have n60 : FXQ (gvD s) sc60 := by exact g60_0
          have n60a : (sc60).2.2.1 49 1 = x3 ∧ ((sc60).2.2.1 32 4).toInt = ((sc60).2.2.1 32 0).toInt := by exact g60_1
          have n60b : WYI (gvD s) (x3).toNatClampNeg (x4).toInt (x2).toNatClampNeg (z90).toNatClampNeg (z93).toNatClampNeg (z71).toInt := by have i20 := inv_F hI (z := s.2.2.1 32 1) 0 32 rfl rfl; unfold In at i20; have an := ndq_ga q_1 (show ((((s.2.2.1 32 1).toInt.toNat : Nat)) : Int) = (gvD s).2.2.2.2.2.2.1 from (by show _ = (s.2.2.1 32 1).toInt; omega)); have tn : (x3).toNatClampNeg < (s.2.2.1 32 1).toInt.toNat := (by show (x3).toInt.toNat < _; have h9 := q_3; exact (have a0 := in_u j60_4; have a1 := in_u h3; have a2 := in_u h2; have a3 := in_u i64; have a4 := in_u j60_6; have a5 := in_u j60_5; have a6 := in_u i93; have a7 := t_add e93 i64 (in_c 1 rfl) rfl; have a8 := in_u ((in_c 1 rfl)); have a9 := in_u i90; have a10 := in_u i79; have oc := oc_195_49_32; by omega)); have n32 : (s.2.2.1 32 1).toInt.toNat ≤ 32 := (by omega); have fx : FEX (gvD s) (x3).toNatClampNeg (sc60.2.1 50) (sc60.2.2.1 49 2) := (by have h9 := g60_0.2; rw [g60_1.1] at h9; exact h9); have u32 : (y60_6).toNatClampNeg < 32 := (by show (y60_6).toInt.toNat < 32; exact (have a0 := in_u j60_4; have a1 := in_u h3; have a2 := in_u h2; have a3 := in_u i64; have a4 := in_u j60_6; have a5 := in_u j60_5; have a6 := in_u i93; have a7 := t_add e93 i64 (in_c 1 rfl) rfl; have a8 := in_u ((in_c 1 rfl)); have a9 := in_u i90; have a10 := in_u i79; have oc := oc_195_49_32; by omega)); obtain ⟨w9, l9, lw, -⟩ := g60_2.2.1; have ok := lew_ok fx u32 lw; have sf := sf_nx an tn n32 fx u32 ok.1 ok.2 (by rw [← (show gvD sc60 = gvD s from gvD_fr hFc60 rfl)]; exact p71d); rcases sf with ⟨p, v, hn, hz⟩ | ⟨hz, -⟩; (have pz : z71.toNatClampNeg = p := (by show z71.toInt.toNat = p; omega); have hvv : z90 = s.1 35 p := (by rw [← pz]; exact e90.trans (congrFun (hFc60.1 35 rfl) _)); have ne : ((gvD s).2.1 p).toInt ≠ -1 := (fun z => by have h8 := hn.1.1.2.1; rw [are_no z] at h8; omega); have tv : ARE (gvD s) 1 p = (z90).toInt := ((are_t hn.1.1.1 ne (by decide)).trans (congrArg Int32.toInt hvv.symm)); have v9 : v = (z90).toNatClampNeg := (by have h8 := hn.1.1.2.2; rw [tv] at h8; show v = (z90).toInt.toNat; omega); rw [← v9]; exact wyi_s g60_2 hn hz (show (z93).toNatClampNeg = (y60_7).toNatClampNeg + 1 from (by show (z93).toInt.toNat = (y60_7).toInt.toNat + 1; exact (have a0 := in_u j60_4; have a1 := in_u h3; have a2 := in_u h2; have a3 := in_u i64; have a4 := in_u j60_6; have a5 := in_u j60_5; have a6 := in_u i93; have a7 := t_add e93 i64 (in_c 1 rfl) rfl; have a8 := in_u ((in_c 1 rfl)); have a9 := in_u i90; have a10 := in_u i79; have oc := oc_195_49_32; by omega)))); (exfalso; have h8 := c79; have h7 : (Int32.ofInt (-1)).toInt = -1 := rfl; omega)
          have n60c : (z93).toInt ≤ (x4).toInt + 1 := by exact (have a0 := in_u j60_4; have a1 := in_u h3; have a2 := in_u h2; have a3 := in_u i64; have a4 := in_u j60_6; have a5 := in_u j60_5; have a6 := in_u i93; have a7 := t_add e93 i64 (in_c 1 rfl) rfl; have a8 := in_u ((in_c 1 rfl)); have a9 := in_u i90; have a10 := in_u i79; have oc := oc_195_49_32; by omega)
          exact gg_w (by first | exact Nat.le_add_right _ _ | exact gw2 | exact gw3 | exact gwe rfl | exact gwf rfl | exact gwg rfl | exact gwh rfl | omega) (gg_f (gf_cons rfl (gf_cons rfl (gf_cons rfl (gf_cons rfl (gf_cons rfl (gf_cons rfl (gf_cons rfl (gf_cons rfl gf_nil)))))))) (ih60 sc60 z71 z90 z93 hIc60 hFc60 (in_w 0 2046 j60_4 rfl) (in_w (-1) 159 i79 rfl) (in_w 0 31 i90 rfl) (in_w 0 4000 i93 rfl) n60 n60a n60b n60c (m_up mm60 (t_add e93 i64 (in_c 1 rfl) rfl) (in_w 1 1 (in_c 1 rfl) rfl))))
        · skip
          have i79 := r_eq1 (-1) (-1) c79 i71 (in_c (-1) rfl) rfl
          refine g_iconst (-1) 83 (gd rfl) rfl rfl ?_
          have n83 : FXQ (gvD s) sc60 := by exact g60_0
          have n83a : WYV (gvD s) (x2).toNatClampNeg (x3).toNatClampNeg (x4).toInt ((Int32.ofInt (-1))).toInt := by have i20 := inv_F hI (z := s.2.2.1 32 1) 0 32 rfl rfl; unfold In at i20; have an := ndq_ga q_1 (show ((((s.2.2.1 32 1).toInt.toNat : Nat)) : Int) = (gvD s).2.2.2.2.2.2.1 from (by show _ = (s.2.2.1 32 1).toInt; omega)); have tn : (x3).toNatClampNeg < (s.2.2.1 32 1).toInt.toNat := (by show (x3).toInt.toNat < _; have h9 := q_3; exact (have a0 := in_u j60_4; have a1 := in_u h3; have a2 := in_u h2; have a3 := in_u i64; have a4 := in_u j60_6; have a5 := in_u j60_5; have a6 := in_u i79; have oc := oc_195_49_32; by omega)); have n32 : (s.2.2.1 32 1).toInt.toNat ≤ 32 := (by omega); have fx : FEX (gvD s) (x3).toNatClampNeg (sc60.2.1 50) (sc60.2.2.1 49 2) := (by have h9 := g60_0.2; rw [g60_1.1] at h9; exact h9); have u32 : (y60_6).toNatClampNeg < 32 := (by show (y60_6).toInt.toNat < 32; exact (have a0 := in_u j60_4; have a1 := in_u h3; have a2 := in_u h2; have a3 := in_u i64; have a4 := in_u j60_6; have a5 := in_u j60_5; have a6 := in_u i79; have oc := oc_195_49_32; by omega)); obtain ⟨w9, l9, lw, -⟩ := g60_2.2.1; have ok := lew_ok fx u32 lw; have sf := sf_nx an tn n32 fx u32 ok.1 ok.2 (by rw [← (show gvD sc60 = gvD s from gvD_fr hFc60 rfl)]; exact p71d); rcases sf with ⟨p, v, hn, hz⟩ | ⟨hz, hn⟩; (exfalso; have h8 := c79; have h7 : (Int32.ofInt (-1)).toInt = -1 := rfl; omega); (exact (wyi_n g60_2 (by show (((y60_7).toInt.toNat : Nat) : Int) ≤ _; exact (have a0 := in_u j60_4; have a1 := in_u h3; have a2 := in_u h2; have a3 := in_u i64; have a4 := in_u j60_6; have a5 := in_u j60_5; have a6 := in_u i79; have oc := oc_195_49_32; by omega)) hn).elim)
          exact g_ireturn (gd rfl) rfl rfl (hP _ _ ⟨sc60, hIc60, hFc60, (Int32.ofInt (-1)), rfl, rfl, in_w (-1) 159 (in_c (-1) rfl) rfl, n83, n83a⟩)
  refine g_enter2 (k := 195) (N := 3601801) (by first | exact dq1 hd rfl | exact dq0 hd rfl | exact dq2 hd rfl | exact dq3 hd rfl | omega) rfl (Nat.le_of_ble_eq_true rfl) ?_
  refine g_aload_n 1 (gd rfl) rfl rfl ?_
  refine g_aload_n 2 (gd rfl) rfl rfl ?_
  refine g_iload_n 3 (gd rfl) rfl rfl ?_
  have p3 : TQD s := by exact q_0
  have p3a : NDQ (gvD s) := by exact q_1
  have p3b : FXB (gvD s) s := by exact q_2
  have p3c : (x3).toInt < (s.2.2.1 32 1).toInt := by exact q_3
  refine g_callv (X := _) (As := [.ref (A 32), .int x3]) (r := []) (b := A 49) (q := 49) 6 (gd rfl) rfl rfl rfl rfl rfl (ww_o rfl) (Nat.le_of_ble_eq_true rfl) (Nat.zero_le _) (Nat.zero_le _) (f_198_49_32 (by first | exact dq1 hd rfl | exact dq0 hd rfl | exact dq2 hd rfl | exact dq3 hd rfl | omega) hI (in_w 0 31 h3 rfl) p3 p3a p3b p3c) (fun e u h => h) (fun v u h => ?_)
  obtain ⟨s3, hI3, hF3, rfl, rfl, p3d, p3e⟩ := h
  show GG _ _ _ _ _ _ _ _ [] _ _ _
  refine g_aload_n 7 (gd rfl) rfl rfl ?_
  refine g_getI 10 (gd rfl) rfl rfl rfl (fun z7 e7 => ?_)
  refine g_iload_n 11 (gd rfl) rfl rfl ?_
  refine g_ishr 12 (gd rfl) rfl (fun z11 e11 => ?_)
  refine g_iconst 1 13 (gd rfl) rfl rfl ?_
  refine g_iand 14 (gd rfl) rfl (fun z13 e13 => ?_)
  have i13 := in_and2 e13 (in_c 1 rfl) rfl
  refine g_if_ne 17 49 (gd rfl) rfl rfl (fun c14 => ?_) (fun c14 => ?_)
  · skip
    have i14 := z_ne 1 1 c14 i13 rfl
    refine g_iconst (-1) 50 (gd rfl) rfl rfl ?_
    have n50 : FXQ (gvD s) s3 := by exact p3d.1
    have n50a : WYV (gvD s) (x2).toNatClampNeg (x3).toNatClampNeg (x4).toInt ((Int32.ofInt (-1))).toInt := by have fx : FEX (gvD s) (x3).toNatClampNeg (s3.2.1 50) (s3.2.2.1 49 2) := (by have h9 := p3d.1.2; rw [p3d.2] at h9; exact h9); have x32 : (x2).toNatClampNeg < 32 := (by show (x2).toInt.toNat < 32; exact (have a0 := in_u h3; have a1 := in_u h2; have a2 := in_u h4; have oc := oc_195_49_32; by omega)); exact wy_no fx x32 (Or.inl (by rw [← e7]; exact bt_t1 (bt_ask e11 e13 h2) c14)) rfl
    exact g_ireturn (gd rfl) rfl rfl (hP _ _ ⟨s3, hI3, (fr_tr rfl fr_rf hF3), (Int32.ofInt (-1)), rfl, rfl, in_w (-1) 159 (in_c (-1) rfl) rfl, n50, n50a⟩)
  · skip
    have i14 := z_eq 0 0 c14 i13 rfl
    refine g_aload_n 18 (gd rfl) rfl rfl ?_
    refine g_getA (q2 := 50) 21 (gd rfl) rfl rfl rfl rfl ?_
    refine g_iload_n 22 (gd rfl) rfl rfl ?_
    refine g_laload 23 (gd rfl) rfl (n := 32) rfl (in_ix h2 rfl) (fun z22 e22 => ?_)
    refine g_ldc2_w 9223372036854775807 26 (gd rfl) rfl rfl ?_
    refine g_lcmp 27 (gd rfl) rfl (fun z26 e26 => ?_)
    have i26 := lc_in e26
    refine g_if_eq 30 49 (gd rfl) rfl rfl (fun c27 => ?_) (fun c27 => ?_)
    · skip
      have i27 := z_eq 0 0 c27 i26 rfl
      have c27a := lc_eq e26 c27
      have i27a := lr_eq1 9223372036854775807 9223372036854775807 c27a (l_rng z22) (l_c 9223372036854775807 rfl) rfl
      refine g_iconst (-1) 50 (gd rfl) rfl rfl ?_
      have n50 : FXQ (gvD s) s3 := by exact p3d.1
      have n50a : WYV (gvD s) (x2).toNatClampNeg (x3).toNatClampNeg (x4).toInt ((Int32.ofInt (-1))).toInt := by have fx : FEX (gvD s) (x3).toNatClampNeg (s3.2.1 50) (s3.2.2.1 49 2) := (by have h9 := p3d.1.2; rw [p3d.2] at h9; exact h9); have x32 : (x2).toNatClampNeg < 32 := (by show (x2).toInt.toNat < 32; exact (have a0 := in_u h3; have a1 := in_u h2; have a2 := in_u h4; have oc := oc_195_49_32; by omega)); exact wy_no fx x32 (Or.inr ⟨(by rw [← e7]; exact bt_f0 (bt_ask e11 e13 h2) c14), by rw [← e22]; have h7 := c27a; unfold FRC; have h5 : (Int64.ofInt 9223372036854775807).toInt = 9223372036854775807 := rfl; omega⟩) rfl
      exact g_ireturn (gd rfl) rfl rfl (hP _ _ ⟨s3, hI3, (fr_tr rfl fr_rf hF3), (Int32.ofInt (-1)), rfl, rfl, in_w (-1) 159 (in_c (-1) rfl) rfl, n50, n50a⟩)
    · skip
      have c27a := lc_ne e26 c27
      have i27 := lr_ne1 (-9223372036854775808) 9223372036854775806 c27a (l_rng z22) (l_c 9223372036854775807 rfl) rfl
      refine g_iload 32 (gd rfl) rfl rfl ?_
      refine g_i2l 33 (gd rfl) rfl (fun z32 e32 => ?_)
      have i32 := l_i e32 h4
      refine g_aload_n 34 (gd rfl) rfl rfl ?_
      refine g_getA (q2 := 50) 37 (gd rfl) rfl rfl rfl rfl ?_
      refine g_iload_n 38 (gd rfl) rfl rfl ?_
      refine g_laload 39 (gd rfl) rfl (n := 32) rfl (in_ix h2 rfl) (fun z38 e38 => ?_)
      refine g_ldc2_w 1024 42 (gd rfl) rfl rfl ?_
      refine g_calls (As := [.long z38, .long (Int64.ofInt 1024)]) (r := [.long z32]) 45 (gd rfl) rfl rfl rfl rfl rfl (Nat.le_of_ble_eq_true rfl) (mc := 0) (ms := 0) (Nat.zero_le _) (Nat.zero_le _) (P := fun v u => _) ?_ (fun v u h => h)
      intro po42 xx42 hp42 hx42
      refine g_enter2 (k := 419) (N := 300) (by first | exact dq1 hd rfl | exact dq0 hd rfl | exact dq2 hd rfl | exact dq3 hd rfl | omega) rfl (Nat.le_of_ble_eq_true rfl) ?_
      refine g_lload_n 1 (gd rfl) rfl rfl ?_
      refine g_lload_n 2 (gd rfl) rfl rfl ?_
      refine g_lrem 3 (gd rfl) rfl (by decide) (fun z42x2 e42x2 => ?_)
      have i42x2 := l_rem (-1023) 1023 e42x2 rfl
      refine g_lstore 5 (gd rfl) rfl (Nat.le_of_ble_eq_true rfl) ?_
      refine g_lload_n 6 (gd rfl) rfl rfl ?_
      refine g_lload_n 7 (gd rfl) rfl rfl ?_
      refine g_lxor 8 (gd rfl) rfl (fun z42x7 e42x7 => ?_)
      refine g_lconst 0 9 (gd rfl) rfl rfl ?_
      refine g_lcmp 10 (gd rfl) rfl (fun z42x9 e42x9 => ?_)
      have i42x9 := lc_in e42x9
      refine g_if_ge 13 25 (gd rfl) rfl rfl (fun c42x10 => ?_) (fun c42x10 => ?_)
      · skip
        have i42x10 := z_ge 0 1 c42x10 i42x9 rfl
        have c42x10a := lc_ge e42x9 c42x10
        have i42x10a := lr_le2 0 9223372036854775807 c42x10a (l_c 0 rfl) (l_rng z42x7) rfl
        refine g_lload 27 (gd rfl) rfl rfl ?_
        refine g_lreturn (gd rfl) rfl (hp42 _ _ ?_)
        show GG _ _ _ _ _ _ _ _ [.long z42x2, .long z32] _ _ _
        refine g_lcmp 46 (gd rfl) rfl (fun z45 e45 => ?_)
        have i45 := lc_in e45
        refine g_if_lt 49 51 (gd rfl) rfl rfl (fun c46 => ?_) (fun c46 => ?_)
        · skip
          have i46 := z_lt (-1) (-1) c46 i45 rfl
          have c46a := lc_lt e45 c46
          have i46a := lr_lt1 0 1022 c46a i32 i42x2 rfl
          have i46b := l_b e32 i46a
          have i46c := lr_lt2 1 1023 c46a i32 i42x2 rfl
          refine g_iconst (-1) 52 (gd rfl) rfl rfl ?_
          refine g_istore 54 (gd rfl) rfl (Nat.le_of_ble_eq_true rfl) ?_
          refine g_iload_n 55 (gd rfl) rfl rfl ?_
          refine g_istore 57 (gd rfl) rfl (Nat.le_of_ble_eq_true rfl) ?_
          refine g_iconst 0 58 (gd rfl) rfl rfl ?_
          refine g_istore 60 (gd rfl) rfl (Nat.le_of_ble_eq_true rfl) ?_
          have n60 : FXQ (gvD s) s3 := by exact p3d.1
          have n60a : (s3).2.2.1 49 1 = x3 ∧ ((s3).2.2.1 32 4).toInt = ((s3).2.2.1 32 0).toInt := by exact ⟨p3d.2, p3e⟩
          have n60b : WYI (gvD s) (x3).toNatClampNeg (x4).toInt (x2).toNatClampNeg (x2).toNatClampNeg ((Int32.ofInt 0)).toNatClampNeg ((Int32.ofInt (-1))).toInt := by have i20 := inv_F hI (z := s.2.2.1 32 1) 0 32 rfl rfl; unfold In at i20; have an := ndq_ga q_1 (show ((((s.2.2.1 32 1).toInt.toNat : Nat)) : Int) = (gvD s).2.2.2.2.2.2.1 from (by show _ = (s.2.2.1 32 1).toInt; omega)); have tn : (x3).toNatClampNeg < (s.2.2.1 32 1).toInt.toNat := (by show (x3).toInt.toNat < _; have h9 := q_3; exact (have a0 := in_u i46b; have a1 := in_u h3; have a2 := in_u h2; have a3 := in_u ((in_c 0 rfl)); have a4 := in_u ((in_c (-1) rfl)); have a5 := tx_i2l e32; have oc := oc_195_49_32; by omega)); have n32 : (s.2.2.1 32 1).toInt.toNat ≤ 32 := (by omega); have fx : FEX (gvD s) (x3).toNatClampNeg (s3.2.1 50) (s3.2.2.1 49 2) := (by have h9 := p3d.1.2; rw [p3d.2] at h9; exact h9); have x32 : (x2).toNatClampNeg < 32 := (by show (x2).toInt.toNat < 32; exact (have a0 := in_u i46b; have a1 := in_u h3; have a2 := in_u h2; have a3 := in_u ((in_c 0 rfl)); have a4 := in_u ((in_c (-1) rfl)); have a5 := tx_i2l e32; have oc := oc_195_49_32; by omega)); have lt : (s3.2.1 50 (x2).toNatClampNeg).toInt < FRC := (by have h7 := c27a; rw [← e22]; unfold FRC; have h6 := Int64.toInt_lt z22; have h5 : (Int64.ofInt 9223372036854775807).toInt = 9223372036854775807 := rfl; omega); have nb : bt (s3.2.2.1 49 2) (x2).toNatClampNeg = false := (by rw [← e7]; exact bt_f0 (bt_ask e11 e13 h2) c14); exact (show WYI _ _ _ _ _ 0 _ from wyi_0 (wy_lt (m := (z42x2).toInt) an tn n32 fx x32 nb lt (by rw [← e38]; exact fmd_a (w := z42x7) e42x2 e42x7 (by have h := c42x10a; have h5 : (Int64.ofInt 0).toInt = 0 := rfl; omega)) (by have h := c46a; rw [tx_i2l e32] at h; exact h)))
          have n60c : ((Int32.ofInt 0)).toInt ≤ (x4).toInt + 1 := by exact (have a0 := in_u i46b; have a1 := in_u h3; have a2 := in_u h2; have a3 := in_u ((in_c 0 rfl)); have a4 := in_u ((in_c (-1) rfl)); have a5 := tx_i2l e32; have oc := oc_195_49_32; by omega)
          exact gg_w (by first | exact Nat.le_of_ble_eq_true rfl | omega) (gg_f (gf_cons rfl (gf_cons rfl (gf_cons rfl (gf_cons rfl (gf_cons rfl (gf_cons rfl (gf_cons rfl (gf_cons rfl gf_nil)))))))) (ct60 4001 s3 (Int32.ofInt (-1)) x2 (Int32.ofInt 0) hI3 (fr_tr rfl fr_rf hF3) (in_w 0 2046 i46b rfl) (in_w (-1) 159 (in_c (-1) rfl) rfl) (in_w 0 31 h2 rfl) (in_w 0 4000 (in_c 0 rfl) rfl) n60 n60a n60b n60c (m_in 4001 (in_w 0 4000 (in_c 0 rfl) rfl) rfl)))
        · skip
          have i46 := z_ge 0 1 c46 i45 rfl
          have c46a := lc_ge e45 c46
          refine g_iconst (-1) 50 (gd rfl) rfl rfl ?_
          have n50 : FXQ (gvD s) s3 := by exact p3d.1
          have n50a : WYV (gvD s) (x2).toNatClampNeg (x3).toNatClampNeg (x4).toInt ((Int32.ofInt (-1))).toInt := by have i20 := inv_F hI (z := s.2.2.1 32 1) 0 32 rfl rfl; unfold In at i20; have an := ndq_ga q_1 (show ((((s.2.2.1 32 1).toInt.toNat : Nat)) : Int) = (gvD s).2.2.2.2.2.2.1 from (by show _ = (s.2.2.1 32 1).toInt; omega)); have tn : (x3).toNatClampNeg < (s.2.2.1 32 1).toInt.toNat := (by show (x3).toInt.toNat < _; have h9 := q_3; exact (have a0 := in_u h3; have a1 := in_u h2; have a2 := in_u h4; have a3 := tx_i2l e32; have oc := oc_195_49_32; by omega)); have n32 : (s.2.2.1 32 1).toInt.toNat ≤ 32 := (by omega); have fx : FEX (gvD s) (x3).toNatClampNeg (s3.2.1 50) (s3.2.2.1 49 2) := (by have h9 := p3d.1.2; rw [p3d.2] at h9; exact h9); have x32 : (x2).toNatClampNeg < 32 := (by show (x2).toInt.toNat < 32; exact (have a0 := in_u h3; have a1 := in_u h2; have a2 := in_u h4; have a3 := tx_i2l e32; have oc := oc_195_49_32; by omega)); have lt : (s3.2.1 50 (x2).toNatClampNeg).toInt < FRC := (by have h7 := c27a; rw [← e22]; unfold FRC; have h6 := Int64.toInt_lt z22; have h5 : (Int64.ofInt 9223372036854775807).toInt = 9223372036854775807 := rfl; omega); have nb : bt (s3.2.2.1 49 2) (x2).toNatClampNeg = false := (by rw [← e7]; exact bt_f0 (bt_ask e11 e13 h2) c14); exact wy_ge (m := (z42x2).toInt) an tn n32 fx x32 nb lt (by rw [← e38]; exact fmd_a (w := z42x7) e42x2 e42x7 (by have h := c42x10a; have h5 : (Int64.ofInt 0).toInt = 0 := rfl; omega)) (by have h := c46a; rw [tx_i2l e32] at h; exact h) rfl
          exact g_ireturn (gd rfl) rfl rfl (hP _ _ ⟨s3, hI3, (fr_tr rfl fr_rf hF3), (Int32.ofInt (-1)), rfl, rfl, in_w (-1) 159 (in_c (-1) rfl) rfl, n50, n50a⟩)
      · skip
        have i42x10 := z_lt (-1) (-1) c42x10 i42x9 rfl
        have c42x10a := lc_lt e42x9 c42x10
        have i42x10a := lr_lt1 (-9223372036854775808) (-1) c42x10a (l_rng z42x7) (l_c 0 rfl) rfl
        refine g_lload 15 (gd rfl) rfl rfl ?_
        refine g_lconst 0 16 (gd rfl) rfl rfl ?_
        refine g_lcmp 17 (gd rfl) rfl (fun z42x16 e42x16 => ?_)
        have i42x16 := lc_in e42x16
        refine g_if_eq 20 25 (gd rfl) rfl rfl (fun c42x17 => ?_) (fun c42x17 => ?_)
        · skip
          have i42x17 := z_eq 0 0 c42x17 i42x16 rfl
          have c42x17a := lc_eq e42x16 c42x17
          have i42x17a := lr_eq1 0 0 c42x17a i42x2 (l_c 0 rfl) rfl
          refine g_lload 27 (gd rfl) rfl rfl ?_
          refine g_lreturn (gd rfl) rfl (hp42 _ _ ?_)
          show GG _ _ _ _ _ _ _ _ [.long z42x2, .long z32] _ _ _
          refine g_lcmp 46 (gd rfl) rfl (fun z45 e45 => ?_)
          have i45 := lc_in e45
          refine g_if_lt 49 51 (gd rfl) rfl rfl (fun c46 => ?_) (fun c46 => ?_)
          · skip
            have i46 := z_lt (-1) (-1) c46 i45 rfl
            have c46a := lc_lt e45 c46
            exact ln_lt c46a i32 i42x17a rfl
          · skip
            have i46 := z_ge 0 1 c46 i45 rfl
            have c46a := lc_ge e45 c46
            refine g_iconst (-1) 50 (gd rfl) rfl rfl ?_
            have n50 : FXQ (gvD s) s3 := by exact p3d.1
            have n50a : WYV (gvD s) (x2).toNatClampNeg (x3).toNatClampNeg (x4).toInt ((Int32.ofInt (-1))).toInt := by have i20 := inv_F hI (z := s.2.2.1 32 1) 0 32 rfl rfl; unfold In at i20; have an := ndq_ga q_1 (show ((((s.2.2.1 32 1).toInt.toNat : Nat)) : Int) = (gvD s).2.2.2.2.2.2.1 from (by show _ = (s.2.2.1 32 1).toInt; omega)); have tn : (x3).toNatClampNeg < (s.2.2.1 32 1).toInt.toNat := (by show (x3).toInt.toNat < _; have h9 := q_3; exact (have a0 := in_u h3; have a1 := in_u h2; have a2 := in_u h4; have a3 := tx_i2l e32; have oc := oc_195_49_32; by omega)); have n32 : (s.2.2.1 32 1).toInt.toNat ≤ 32 := (by omega); have fx : FEX (gvD s) (x3).toNatClampNeg (s3.2.1 50) (s3.2.2.1 49 2) := (by have h9 := p3d.1.2; rw [p3d.2] at h9; exact h9); have x32 : (x2).toNatClampNeg < 32 := (by show (x2).toInt.toNat < 32; exact (have a0 := in_u h3; have a1 := in_u h2; have a2 := in_u h4; have a3 := tx_i2l e32; have oc := oc_195_49_32; by omega)); have lt : (s3.2.1 50 (x2).toNatClampNeg).toInt < FRC := (by have h7 := c27a; rw [← e22]; unfold FRC; have h6 := Int64.toInt_lt z22; have h5 : (Int64.ofInt 9223372036854775807).toInt = 9223372036854775807 := rfl; omega); have nb : bt (s3.2.2.1 49 2) (x2).toNatClampNeg = false := (by rw [← e7]; exact bt_f0 (bt_ask e11 e13 h2) c14); exact wy_ge (m := (z42x2).toInt) an tn n32 fx x32 nb lt (by rw [← e38]; exact fmd_0 e42x2 (by have h := c42x17a; have h5 : (Int64.ofInt 0).toInt = 0 := rfl; omega)) (by have h := c46a; rw [tx_i2l e32] at h; exact h) rfl
            exact g_ireturn (gd rfl) rfl rfl (hP _ _ ⟨s3, hI3, (fr_tr rfl fr_rf hF3), (Int32.ofInt (-1)), rfl, rfl, in_w (-1) 159 (in_c (-1) rfl) rfl, n50, n50a⟩)
        · skip
          have c42x17a := lc_ne e42x16 c42x17
          refine g_lload 22 (gd rfl) rfl rfl ?_
          refine g_lload_n 23 (gd rfl) rfl rfl ?_
          refine g_ladd 24 (gd rfl) rfl (fun z42x23 e42x23 => ?_)
          have i42x23 := l_add 1 2047 e42x23 i42x2 (l_c 1024 rfl) rfl
          refine g_lreturn (gd rfl) rfl (hp42 _ _ ?_)
          show GG _ _ _ _ _ _ _ _ [.long z42x23, .long z32] _ _ _
          refine g_lcmp 46 (gd rfl) rfl (fun z45 e45 => ?_)
          have i45 := lc_in e45
          refine g_if_lt 49 51 (gd rfl) rfl rfl (fun c46 => ?_) (fun c46 => ?_)
          · skip
            have i46 := z_lt (-1) (-1) c46 i45 rfl
            have c46a := lc_lt e45 c46
            have i46a := lr_lt1 0 2046 c46a i32 i42x23 rfl
            have i46b := l_b e32 i46a
            refine g_iconst (-1) 52 (gd rfl) rfl rfl ?_
            refine g_istore 54 (gd rfl) rfl (Nat.le_of_ble_eq_true rfl) ?_
            refine g_iload_n 55 (gd rfl) rfl rfl ?_
            refine g_istore 57 (gd rfl) rfl (Nat.le_of_ble_eq_true rfl) ?_
            refine g_iconst 0 58 (gd rfl) rfl rfl ?_
            refine g_istore 60 (gd rfl) rfl (Nat.le_of_ble_eq_true rfl) ?_
            have n60 : FXQ (gvD s) s3 := by exact p3d.1
            have n60a : (s3).2.2.1 49 1 = x3 ∧ ((s3).2.2.1 32 4).toInt = ((s3).2.2.1 32 0).toInt := by exact ⟨p3d.2, p3e⟩
            have n60b : WYI (gvD s) (x3).toNatClampNeg (x4).toInt (x2).toNatClampNeg (x2).toNatClampNeg ((Int32.ofInt 0)).toNatClampNeg ((Int32.ofInt (-1))).toInt := by have i20 := inv_F hI (z := s.2.2.1 32 1) 0 32 rfl rfl; unfold In at i20; have an := ndq_ga q_1 (show ((((s.2.2.1 32 1).toInt.toNat : Nat)) : Int) = (gvD s).2.2.2.2.2.2.1 from (by show _ = (s.2.2.1 32 1).toInt; omega)); have tn : (x3).toNatClampNeg < (s.2.2.1 32 1).toInt.toNat := (by show (x3).toInt.toNat < _; have h9 := q_3; exact (have a0 := in_u i46b; have a1 := in_u h3; have a2 := in_u h2; have a3 := in_u ((in_c 0 rfl)); have a4 := in_u ((in_c (-1) rfl)); have a5 := tx_i2l e32; have oc := oc_195_49_32; by omega)); have n32 : (s.2.2.1 32 1).toInt.toNat ≤ 32 := (by omega); have fx : FEX (gvD s) (x3).toNatClampNeg (s3.2.1 50) (s3.2.2.1 49 2) := (by have h9 := p3d.1.2; rw [p3d.2] at h9; exact h9); have x32 : (x2).toNatClampNeg < 32 := (by show (x2).toInt.toNat < 32; exact (have a0 := in_u i46b; have a1 := in_u h3; have a2 := in_u h2; have a3 := in_u ((in_c 0 rfl)); have a4 := in_u ((in_c (-1) rfl)); have a5 := tx_i2l e32; have oc := oc_195_49_32; by omega)); have lt : (s3.2.1 50 (x2).toNatClampNeg).toInt < FRC := (by have h7 := c27a; rw [← e22]; unfold FRC; have h6 := Int64.toInt_lt z22; have h5 : (Int64.ofInt 9223372036854775807).toInt = 9223372036854775807 := rfl; omega); have nb : bt (s3.2.2.1 49 2) (x2).toNatClampNeg = false := (by rw [← e7]; exact bt_f0 (bt_ask e11 e13 h2) c14); exact (show WYI _ _ _ _ _ 0 _ from wyi_0 (wy_lt (m := (z42x23).toInt) an tn n32 fx x32 nb lt (by rw [← e38]; exact fmd_c (w := z42x7) e42x2 e42x7 (by have h := c42x10a; have h5 : (Int64.ofInt 0).toInt = 0 := rfl; omega) (by have h := c42x17a; have h5 : (Int64.ofInt 0).toInt = 0 := rfl; omega) e42x23) (by have h := c46a; rw [tx_i2l e32] at h; exact h)))
            have n60c : ((Int32.ofInt 0)).toInt ≤ (x4).toInt + 1 := by exact (have a0 := in_u i46b; have a1 := in_u h3; have a2 := in_u h2; have a3 := in_u ((in_c 0 rfl)); have a4 := in_u ((in_c (-1) rfl)); have a5 := tx_i2l e32; have oc := oc_195_49_32; by omega)
            exact gg_w (by first | exact Nat.le_of_ble_eq_true rfl | omega) (gg_f (gf_cons rfl (gf_cons rfl (gf_cons rfl (gf_cons rfl (gf_cons rfl (gf_cons rfl (gf_cons rfl (gf_cons rfl gf_nil)))))))) (ct60 4001 s3 (Int32.ofInt (-1)) x2 (Int32.ofInt 0) hI3 (fr_tr rfl fr_rf hF3) (in_w 0 2046 i46b rfl) (in_w (-1) 159 (in_c (-1) rfl) rfl) (in_w 0 31 h2 rfl) (in_w 0 4000 (in_c 0 rfl) rfl) n60 n60a n60b n60c (m_in 4001 (in_w 0 4000 (in_c 0 rfl) rfl) rfl)))
          · skip
            have i46 := z_ge 0 1 c46 i45 rfl
            have c46a := lc_ge e45 c46
            have i46a := lr_le2 1 2147483647 c46a i42x23 i32 rfl
            have i46b := l_b e32 i46a
            refine g_iconst (-1) 50 (gd rfl) rfl rfl ?_
            have n50 : FXQ (gvD s) s3 := by exact p3d.1
            have n50a : WYV (gvD s) (x2).toNatClampNeg (x3).toNatClampNeg (x4).toInt ((Int32.ofInt (-1))).toInt := by have i20 := inv_F hI (z := s.2.2.1 32 1) 0 32 rfl rfl; unfold In at i20; have an := ndq_ga q_1 (show ((((s.2.2.1 32 1).toInt.toNat : Nat)) : Int) = (gvD s).2.2.2.2.2.2.1 from (by show _ = (s.2.2.1 32 1).toInt; omega)); have tn : (x3).toNatClampNeg < (s.2.2.1 32 1).toInt.toNat := (by show (x3).toInt.toNat < _; have h9 := q_3; exact (have a0 := in_u h3; have a1 := in_u h2; have a2 := in_u i46b; have a3 := tx_i2l e32; have oc := oc_195_49_32; by omega)); have n32 : (s.2.2.1 32 1).toInt.toNat ≤ 32 := (by omega); have fx : FEX (gvD s) (x3).toNatClampNeg (s3.2.1 50) (s3.2.2.1 49 2) := (by have h9 := p3d.1.2; rw [p3d.2] at h9; exact h9); have x32 : (x2).toNatClampNeg < 32 := (by show (x2).toInt.toNat < 32; exact (have a0 := in_u h3; have a1 := in_u h2; have a2 := in_u i46b; have a3 := tx_i2l e32; have oc := oc_195_49_32; by omega)); have lt : (s3.2.1 50 (x2).toNatClampNeg).toInt < FRC := (by have h7 := c27a; rw [← e22]; unfold FRC; have h6 := Int64.toInt_lt z22; have h5 : (Int64.ofInt 9223372036854775807).toInt = 9223372036854775807 := rfl; omega); have nb : bt (s3.2.2.1 49 2) (x2).toNatClampNeg = false := (by rw [← e7]; exact bt_f0 (bt_ask e11 e13 h2) c14); exact wy_ge (m := (z42x23).toInt) an tn n32 fx x32 nb lt (by rw [← e38]; exact fmd_c (w := z42x7) e42x2 e42x7 (by have h := c42x10a; have h5 : (Int64.ofInt 0).toInt = 0 := rfl; omega) (by have h := c42x17a; have h5 : (Int64.ofInt 0).toInt = 0 := rfl; omega) e42x23) (by have h := c46a; rw [tx_i2l e32] at h; exact h) rfl
            exact g_ireturn (gd rfl) rfl rfl (hP _ _ ⟨s3, hI3, (fr_tr rfl fr_rf hF3), (Int32.ofInt (-1)), rfl, rfl, in_w (-1) 159 (in_c (-1) rfl) rfl, n50, n50a⟩)

theorem oc_230_0 : (Int32.ofInt (-1)).toInt = (-1) ∧ (Int32.ofInt 0).toInt = 0 ∧ (Int32.ofInt 1).toInt = 1 := ⟨rfl, rfl, rfl⟩
/-- GraphHouse.way -/
theorem f_230_0 {Z : AmZ} {A : Nat → Nat} {s : GS} {ex : va_W} {d : Nat} {x1 : Int32} {x2 : Int32} {x3 : Int32} (hd : 7 ≤ d) (hI : Inv s) (q_0 : TQ s) (q_1 : TQD s) (q_2 : NDC s) (q_3 : FXC s) : GC Z d 230 [.ref (A 0), .int x1, .int x2, .int x3] (WW Z A s ++ ex) 3 18 (fun v u => ∃ t : GS, Inv t ∧ Fr fm_230_0 s t ∧ ∃ z : Int32, v = some (.int z) ∧ u = WW Z A t ++ ex ∧ In z (-1) 159 ∧ ((((0 ≤ x1.toInt ∧ x1.toInt < (shC s).2.2.2.2.2.2.1) ∧ (0 ≤ x2.toInt ∧ x2.toInt < (shC s).2.2.2.2.2.2.1)) ∧ 0 ≤ x3.toInt) ∧ WYV (shC s) x1.toNatClampNeg x2.toNatClampNeg x3.toInt (z).toInt) ∧ (FXQ (shC s) t)) (gEx Z A ex ([], [], [], []) s (¬ (((0 ≤ x1.toInt ∧ x1.toInt < (shC s).2.2.2.2.2.2.1) ∧ (0 ≤ x2.toInt ∧ x2.toInt < (shC s).2.2.2.2.2.2.1)) ∧ 0 ≤ x3.toInt)) (False)) := by
  intro post xp hP hX
  obtain ⟨u_0_2, e_0_2⟩ : ∃ w, w = s.2.2.1 0 2 := ⟨_, rfl⟩
  have ro_0_2 := inv_F hI (-1) 4000 rfl e_0_2
  obtain ⟨u_2_1, e_2_1⟩ : ∃ w, w = s.2.2.1 2 1 := ⟨_, rfl⟩
  have ro_2_1 := inv_F hI 0 32 rfl e_2_1
  obtain ⟨u_32_1, e_32_1⟩ : ∃ w, w = s.2.2.1 32 1 := ⟨_, rfl⟩
  have ro_32_1 := inv_F hI 0 32 rfl e_32_1
  refine g_enter2 (k := 230) (N := 900) (by first | exact dq1 hd rfl | exact dq0 hd rfl | exact dq2 hd rfl | exact dq3 hd rfl | omega) rfl (Nat.le_of_ble_eq_true rfl) ?_
  refine g_aload_n 1 (gd rfl) rfl rfl ?_
  refine g_callv (X := _) (As := []) (r := []) (b := A 0) (q := 0) 4 (gd rfl) rfl rfl rfl rfl rfl (ww_o rfl) (Nat.le_of_ble_eq_true rfl) (mc := 0) (ms := 0) (Nat.zero_le _) (Nat.zero_le _) (P := fun v u => _) ?_ (fun e u h => h) (fun v u h => h)
  intro po1 xx1 hp1 hx1
  refine g_enter2 (k := 259) (N := 300) (by first | exact dq1 hd rfl | exact dq0 hd rfl | exact dq2 hd rfl | exact dq3 hd rfl | omega) rfl (Nat.le_of_ble_eq_true rfl) ?_
  refine g_aload_n 1 (gd rfl) rfl rfl ?_
  refine g_getI 4 (gd rfl) rfl rfl rfl (fun z1x1 e1x1 => ?_)
  have q1x1 : u_0_2 = z1x1 := (e_0_2).trans e1x1.symm
  subst q1x1
  refine g_iconst (-1) 5 (gd rfl) rfl rfl ?_
  refine g_cmp_ne 8 18 (gd rfl) rfl rfl (fun c1x5 => ?_) (fun c1x5 => ?_)
  · skip
    have i1x5 := r_ne1 0 4000 c1x5 ro_0_2 (in_c (-1) rfl) rfl
    refine g_aload_n 19 (gd rfl) rfl rfl ?_
    refine g_getA (q2 := 32) 22 (gd rfl) rfl rfl rfl rfl ?_
    refine g_areturn (gd rfl) rfl (hp1 _ _ ?_)
    show GG _ _ _ _ _ _ _ _ [.ref (A 32)] _ _ _
    refine g_astore 6 (gd rfl) rfl (Nat.le_of_ble_eq_true rfl) ?_
    refine g_aload 8 (gd rfl) rfl rfl ?_
    refine g_iload_n 9 (gd rfl) rfl rfl ?_
    refine g_callv (X := _) (As := [.int x1]) (r := []) (b := A 32) (q := 32) 12 (gd rfl) rfl rfl rfl rfl rfl (ww_o rfl) (Nat.le_of_ble_eq_true rfl) (mc := 0) (ms := 0) (Nat.zero_le _) (Nat.zero_le _) (P := fun v u => _) ?_ (fun e u h => h) (fun v u h => h)
    intro po9 xx9 hp9 hx9
    refine g_enter2 (k := 94) (N := 300) (by first | exact dq1 hd rfl | exact dq0 hd rfl | exact dq2 hd rfl | exact dq3 hd rfl | omega) rfl (Nat.le_of_ble_eq_true rfl) ?_
    refine g_iload_n 1 (gd rfl) rfl rfl ?_
    refine g_if_lt 4 16 (gd rfl) rfl rfl (fun c9x1 => ?_) (fun c9x1 => ?_)
    · skip
      have i9x1 := z_lt (-2147483648) (-1) c9x1 (i_rng x1) rfl
      refine g_iconst 0 17 (gd rfl) rfl rfl ?_
      refine g_ireturn (gd rfl) rfl (nb01 (in_w 0 1 (in_c 0 rfl) rfl)) (hp9 _ _ ?_)
      show GG _ _ _ _ _ _ _ _ [.int (Int32.ofInt 0)] _ _ _
      refine g_if_eq 15 32 (gd rfl) rfl rfl (fun c12 => ?_) (fun c12 => ?_)
      · skip
        refine g_iconst 0 33 (gd rfl) rfl rfl ?_
        refine g_thr (E := am_IA) (y := yX11_allow) 36 (gd rfl) rfl rfl (Or.inl ⟨rfl, rfl, rfl⟩) (by first | exact dq1 hd rfl | exact dq0 hd rfl | exact dq2 hd rfl | exact dq3 hd rfl | omega) (Nat.le_of_ble_eq_true rfl) (Nat.le_of_ble_eq_true rfl) (Nat.le_of_ble_eq_true rfl) (fun c33 => ?_) (fun c33 => ?_)
        · skip
          exact zn_ne c33 (in_c 0 rfl) rfl
        · skip
          have n33 : ¬ (((0 ≤ x1.toInt ∧ x1.toInt < (shC s).2.2.2.2.2.2.1) ∧ (0 ≤ x2.toInt ∧ x2.toInt < (shC s).2.2.2.2.2.2.1)) ∧ 0 ≤ x3.toInt) := by first | (rw [shC_n (by rw [← e1x1]; exact c1x5)]; show ¬ (((0 ≤ x1.toInt ∧ x1.toInt < (s.2.2.1 2 1).toInt) ∧ (0 ≤ x2.toInt ∧ x2.toInt < (s.2.2.1 2 1).toInt)) ∧ 0 ≤ x3.toInt); rw [← e_2_1]; exact (have a0 := in_u ro_32_1; have a1 := in_u ro_2_1; have a2 := in_u i1x5; have a3 := in_u i9x1; have oc := oc_230_0; by omega)) | (rw [shC_d (by rw [← e1x1]; exact c1x5)]; show ¬ (((0 ≤ x1.toInt ∧ x1.toInt < (s.2.2.1 32 1).toInt) ∧ (0 ≤ x2.toInt ∧ x2.toInt < (s.2.2.1 32 1).toInt)) ∧ 0 ≤ x3.toInt); rw [← e_32_1]; exact (have a0 := in_u ro_32_1; have a1 := in_u ro_2_1; have a2 := in_u i1x5; have a3 := in_u i9x1; have oc := oc_230_0; by omega))
          exact (hX _ _ ⟨Or.inl ⟨rfl, n33⟩, s, hI, fr_rf, rfl⟩)
      · skip
        exact zn_ne c12 (in_c 0 rfl) rfl
    · skip
      have i9x1 := z_ge 0 2147483647 c9x1 (i_rng x1) rfl
      refine g_iload_n 5 (gd rfl) rfl rfl ?_
      refine g_aload_n 6 (gd rfl) rfl rfl ?_
      refine g_getI 9 (gd rfl) rfl rfl rfl (fun z9x6 e9x6 => ?_)
      have q9x6 : u_32_1 = z9x6 := (e_32_1).trans e9x6.symm
      subst q9x6
      refine g_cmp_ge 12 16 (gd rfl) rfl rfl (fun c9x9 => ?_) (fun c9x9 => ?_)
      · skip
        refine g_iconst 0 17 (gd rfl) rfl rfl ?_
        refine g_ireturn (gd rfl) rfl (nb01 (in_w 0 1 (in_c 0 rfl) rfl)) (hp9 _ _ ?_)
        show GG _ _ _ _ _ _ _ _ [.int (Int32.ofInt 0)] _ _ _
        refine g_if_eq 15 32 (gd rfl) rfl rfl (fun c12 => ?_) (fun c12 => ?_)
        · skip
          refine g_iconst 0 33 (gd rfl) rfl rfl ?_
          refine g_thr (E := am_IA) (y := yX11_allow) 36 (gd rfl) rfl rfl (Or.inl ⟨rfl, rfl, rfl⟩) (by first | exact dq1 hd rfl | exact dq0 hd rfl | exact dq2 hd rfl | exact dq3 hd rfl | omega) (Nat.le_of_ble_eq_true rfl) (Nat.le_of_ble_eq_true rfl) (Nat.le_of_ble_eq_true rfl) (fun c33 => ?_) (fun c33 => ?_)
          · skip
            exact zn_ne c33 (in_c 0 rfl) rfl
          · skip
            have n33 : ¬ (((0 ≤ x1.toInt ∧ x1.toInt < (shC s).2.2.2.2.2.2.1) ∧ (0 ≤ x2.toInt ∧ x2.toInt < (shC s).2.2.2.2.2.2.1)) ∧ 0 ≤ x3.toInt) := by first | (rw [shC_n (by rw [← e1x1]; exact c1x5)]; show ¬ (((0 ≤ x1.toInt ∧ x1.toInt < (s.2.2.1 2 1).toInt) ∧ (0 ≤ x2.toInt ∧ x2.toInt < (s.2.2.1 2 1).toInt)) ∧ 0 ≤ x3.toInt); rw [← e_2_1]; exact (have a0 := in_u ro_32_1; have a1 := in_u ro_2_1; have a2 := in_u i1x5; have a3 := in_u i9x1; have oc := oc_230_0; by omega)) | (rw [shC_d (by rw [← e1x1]; exact c1x5)]; show ¬ (((0 ≤ x1.toInt ∧ x1.toInt < (s.2.2.1 32 1).toInt) ∧ (0 ≤ x2.toInt ∧ x2.toInt < (s.2.2.1 32 1).toInt)) ∧ 0 ≤ x3.toInt); rw [← e_32_1]; exact (have a0 := in_u ro_32_1; have a1 := in_u ro_2_1; have a2 := in_u i1x5; have a3 := in_u i9x1; have oc := oc_230_0; by omega))
            exact (hX _ _ ⟨Or.inl ⟨rfl, n33⟩, s, hI, fr_rf, rfl⟩)
        · skip
          exact zn_ne c12 (in_c 0 rfl) rfl
      · skip
        have i9x9 := r_lt1 0 31 c9x9 i9x1 ro_32_1 rfl
        have i9x9a := r_lt2 1 32 c9x9 i9x1 ro_32_1 rfl
        refine g_iconst 1 13 (gd rfl) rfl rfl ?_
        refine g_goto 17 (gd rfl) rfl ?_
        refine g_ireturn (gd rfl) rfl (nb01 (in_w 0 1 (in_c 1 rfl) rfl)) (hp9 _ _ ?_)
        show GG _ _ _ _ _ _ _ _ [.int (Int32.ofInt 1)] _ _ _
        refine g_if_eq 15 32 (gd rfl) rfl rfl (fun c12 => ?_) (fun c12 => ?_)
        · skip
          exact zn_eq c12 (in_c 1 rfl) rfl
        · skip
          refine g_aload 17 (gd rfl) rfl rfl ?_
          refine g_iload_n 18 (gd rfl) rfl rfl ?_
          refine g_callv (X := _) (As := [.int x2]) (r := []) (b := A 32) (q := 32) 21 (gd rfl) rfl rfl rfl rfl rfl (ww_o rfl) (Nat.le_of_ble_eq_true rfl) (mc := 0) (ms := 0) (Nat.zero_le _) (Nat.zero_le _) (P := fun v u => _) ?_ (fun e u h => h) (fun v u h => h)
          intro po18 xx18 hp18 hx18
          refine g_enter2 (k := 94) (N := 300) (by first | exact dq1 hd rfl | exact dq0 hd rfl | exact dq2 hd rfl | exact dq3 hd rfl | omega) rfl (Nat.le_of_ble_eq_true rfl) ?_
          refine g_iload_n 1 (gd rfl) rfl rfl ?_
          refine g_if_lt 4 16 (gd rfl) rfl rfl (fun c18x1 => ?_) (fun c18x1 => ?_)
          · skip
            have i18x1 := z_lt (-2147483648) (-1) c18x1 (i_rng x2) rfl
            refine g_iconst 0 17 (gd rfl) rfl rfl ?_
            refine g_ireturn (gd rfl) rfl (nb01 (in_w 0 1 (in_c 0 rfl) rfl)) (hp18 _ _ ?_)
            show GG _ _ _ _ _ _ _ _ [.int (Int32.ofInt 0)] _ _ _
            refine g_if_eq 24 32 (gd rfl) rfl rfl (fun c21 => ?_) (fun c21 => ?_)
            · skip
              refine g_iconst 0 33 (gd rfl) rfl rfl ?_
              refine g_thr (E := am_IA) (y := yX11_allow) 36 (gd rfl) rfl rfl (Or.inl ⟨rfl, rfl, rfl⟩) (by first | exact dq1 hd rfl | exact dq0 hd rfl | exact dq2 hd rfl | exact dq3 hd rfl | omega) (Nat.le_of_ble_eq_true rfl) (Nat.le_of_ble_eq_true rfl) (Nat.le_of_ble_eq_true rfl) (fun c33 => ?_) (fun c33 => ?_)
              · skip
                exact zn_ne c33 (in_c 0 rfl) rfl
              · skip
                have n33 : ¬ (((0 ≤ x1.toInt ∧ x1.toInt < (shC s).2.2.2.2.2.2.1) ∧ (0 ≤ x2.toInt ∧ x2.toInt < (shC s).2.2.2.2.2.2.1)) ∧ 0 ≤ x3.toInt) := by first | (rw [shC_n (by rw [← e1x1]; exact c1x5)]; show ¬ (((0 ≤ x1.toInt ∧ x1.toInt < (s.2.2.1 2 1).toInt) ∧ (0 ≤ x2.toInt ∧ x2.toInt < (s.2.2.1 2 1).toInt)) ∧ 0 ≤ x3.toInt); rw [← e_2_1]; exact (have a0 := in_u i9x9; have a1 := in_u i9x9a; have a2 := in_u ro_2_1; have a3 := in_u i1x5; have a4 := in_u i18x1; have oc := oc_230_0; by omega)) | (rw [shC_d (by rw [← e1x1]; exact c1x5)]; show ¬ (((0 ≤ x1.toInt ∧ x1.toInt < (s.2.2.1 32 1).toInt) ∧ (0 ≤ x2.toInt ∧ x2.toInt < (s.2.2.1 32 1).toInt)) ∧ 0 ≤ x3.toInt); rw [← e_32_1]; exact (have a0 := in_u i9x9; have a1 := in_u i9x9a; have a2 := in_u ro_2_1; have a3 := in_u i1x5; have a4 := in_u i18x1; have oc := oc_230_0; by omega))
                exact (hX _ _ ⟨Or.inl ⟨rfl, n33⟩, s, hI, fr_rf, rfl⟩)
            · skip
              exact zn_ne c21 (in_c 0 rfl) rfl
          · skip
            have i18x1 := z_ge 0 2147483647 c18x1 (i_rng x2) rfl
            refine g_iload_n 5 (gd rfl) rfl rfl ?_
            refine g_aload_n 6 (gd rfl) rfl rfl ?_
            refine g_getI 9 (gd rfl) rfl rfl rfl (fun z18x6 e18x6 => ?_)
            have q18x6 : u_32_1 = z18x6 := (e_32_1).trans e18x6.symm
            subst q18x6
            refine g_cmp_ge 12 16 (gd rfl) rfl rfl (fun c18x9 => ?_) (fun c18x9 => ?_)
            · skip
              have i18x9 := r_le2 1 2147483647 c18x9 i9x9a i18x1 rfl
              refine g_iconst 0 17 (gd rfl) rfl rfl ?_
              refine g_ireturn (gd rfl) rfl (nb01 (in_w 0 1 (in_c 0 rfl) rfl)) (hp18 _ _ ?_)
              show GG _ _ _ _ _ _ _ _ [.int (Int32.ofInt 0)] _ _ _
              refine g_if_eq 24 32 (gd rfl) rfl rfl (fun c21 => ?_) (fun c21 => ?_)
              · skip
                refine g_iconst 0 33 (gd rfl) rfl rfl ?_
                refine g_thr (E := am_IA) (y := yX11_allow) 36 (gd rfl) rfl rfl (Or.inl ⟨rfl, rfl, rfl⟩) (by first | exact dq1 hd rfl | exact dq0 hd rfl | exact dq2 hd rfl | exact dq3 hd rfl | omega) (Nat.le_of_ble_eq_true rfl) (Nat.le_of_ble_eq_true rfl) (Nat.le_of_ble_eq_true rfl) (fun c33 => ?_) (fun c33 => ?_)
                · skip
                  exact zn_ne c33 (in_c 0 rfl) rfl
                · skip
                  have n33 : ¬ (((0 ≤ x1.toInt ∧ x1.toInt < (shC s).2.2.2.2.2.2.1) ∧ (0 ≤ x2.toInt ∧ x2.toInt < (shC s).2.2.2.2.2.2.1)) ∧ 0 ≤ x3.toInt) := by first | (rw [shC_n (by rw [← e1x1]; exact c1x5)]; show ¬ (((0 ≤ x1.toInt ∧ x1.toInt < (s.2.2.1 2 1).toInt) ∧ (0 ≤ x2.toInt ∧ x2.toInt < (s.2.2.1 2 1).toInt)) ∧ 0 ≤ x3.toInt); rw [← e_2_1]; exact (have a0 := in_u i9x9; have a1 := in_u i9x9a; have a2 := in_u ro_2_1; have a3 := in_u i1x5; have a4 := in_u i18x9; have oc := oc_230_0; by omega)) | (rw [shC_d (by rw [← e1x1]; exact c1x5)]; show ¬ (((0 ≤ x1.toInt ∧ x1.toInt < (s.2.2.1 32 1).toInt) ∧ (0 ≤ x2.toInt ∧ x2.toInt < (s.2.2.1 32 1).toInt)) ∧ 0 ≤ x3.toInt); rw [← e_32_1]; exact (have a0 := in_u i9x9; have a1 := in_u i9x9a; have a2 := in_u ro_2_1; have a3 := in_u i1x5; have a4 := in_u i18x9; have oc := oc_230_0; by omega))
                  exact (hX _ _ ⟨Or.inl ⟨rfl, n33⟩, s, hI, fr_rf, rfl⟩)
              · skip
                exact zn_ne c21 (in_c 0 rfl) rfl
            · skip
              have i18x9 := r_lt1 0 31 c18x9 i18x1 i9x9a rfl
              refine g_iconst 1 13 (gd rfl) rfl rfl ?_
              refine g_goto 17 (gd rfl) rfl ?_
              refine g_ireturn (gd rfl) rfl (nb01 (in_w 0 1 (in_c 1 rfl) rfl)) (hp18 _ _ ?_)
              show GG _ _ _ _ _ _ _ _ [.int (Int32.ofInt 1)] _ _ _
              refine g_if_eq 24 32 (gd rfl) rfl rfl (fun c21 => ?_) (fun c21 => ?_)
              · skip
                exact zn_eq c21 (in_c 1 rfl) rfl
              · skip
                refine g_iload_n 25 (gd rfl) rfl rfl ?_
                refine g_if_lt 28 32 (gd rfl) rfl rfl (fun c25 => ?_) (fun c25 => ?_)
                · skip
                  have i25 := z_lt (-2147483648) (-1) c25 (i_rng x3) rfl
                  refine g_iconst 0 33 (gd rfl) rfl rfl ?_
                  refine g_thr (E := am_IA) (y := yX11_allow) 36 (gd rfl) rfl rfl (Or.inl ⟨rfl, rfl, rfl⟩) (by first | exact dq1 hd rfl | exact dq0 hd rfl | exact dq2 hd rfl | exact dq3 hd rfl | omega) (Nat.le_of_ble_eq_true rfl) (Nat.le_of_ble_eq_true rfl) (Nat.le_of_ble_eq_true rfl) (fun c33 => ?_) (fun c33 => ?_)
                  · skip
                    exact zn_ne c33 (in_c 0 rfl) rfl
                  · skip
                    have n33 : ¬ (((0 ≤ x1.toInt ∧ x1.toInt < (shC s).2.2.2.2.2.2.1) ∧ (0 ≤ x2.toInt ∧ x2.toInt < (shC s).2.2.2.2.2.2.1)) ∧ 0 ≤ x3.toInt) := by first | (rw [shC_n (by rw [← e1x1]; exact c1x5)]; show ¬ (((0 ≤ x1.toInt ∧ x1.toInt < (s.2.2.1 2 1).toInt) ∧ (0 ≤ x2.toInt ∧ x2.toInt < (s.2.2.1 2 1).toInt)) ∧ 0 ≤ x3.toInt); rw [← e_2_1]; exact (have a0 := in_u i18x9; have a1 := in_u i9x9; have a2 := in_u i9x9a; have a3 := in_u ro_2_1; have a4 := in_u i1x5; have a5 := in_u i25; have oc := oc_230_0; by omega)) | (rw [shC_d (by rw [← e1x1]; exact c1x5)]; show ¬ (((0 ≤ x1.toInt ∧ x1.toInt < (s.2.2.1 32 1).toInt) ∧ (0 ≤ x2.toInt ∧ x2.toInt < (s.2.2.1 32 1).toInt)) ∧ 0 ≤ x3.toInt); rw [← e_32_1]; exact (have a0 := in_u i18x9; have a1 := in_u i9x9; have a2 := in_u i9x9a; have a3 := in_u ro_2_1; have a4 := in_u i1x5; have a5 := in_u i25; have oc := oc_230_0; by omega))
                    exact (hX _ _ ⟨Or.inl ⟨rfl, n33⟩, s, hI, fr_rf, rfl⟩)
                · skip
                  have i25 := z_ge 0 2147483647 c25 (i_rng x3) rfl
                  refine g_iconst 1 29 (gd rfl) rfl rfl ?_
                  refine g_goto 33 (gd rfl) rfl ?_
                  refine g_thr (E := am_IA) (y := yX11_allow) 36 (gd rfl) rfl rfl (Or.inl ⟨rfl, rfl, rfl⟩) (by first | exact dq1 hd rfl | exact dq0 hd rfl | exact dq2 hd rfl | exact dq3 hd rfl | omega) (Nat.le_of_ble_eq_true rfl) (Nat.le_of_ble_eq_true rfl) (Nat.le_of_ble_eq_true rfl) (fun c33 => ?_) (fun c33 => ?_)
                  · skip
                    refine g_aload_n 37 (gd rfl) rfl rfl ?_
                    refine g_getA (q2 := 49) 40 (gd rfl) rfl rfl rfl rfl ?_
                    refine g_aload 42 (gd rfl) rfl rfl ?_
                    refine g_iload_n 43 (gd rfl) rfl rfl ?_
                    refine g_iload_n 44 (gd rfl) rfl rfl ?_
                    refine g_iload_n 45 (gd rfl) rfl rfl ?_
                    have p45 : TQD s := by first | exact q_0 | exact q_1
                    have p45a : NDQ (gvD s) := by first | (rw [← shC_n (by rw [← e1x1]; exact c1x5)]; exact q_2) | (rw [← shC_d (by rw [← e1x1]; exact c1x5)]; exact q_2)
                    have p45b : FXB (gvD s) s := by first | (rw [← shC_n (by rw [← e1x1]; exact c1x5)]; exact q_3) | (rw [← shC_d (by rw [← e1x1]; exact c1x5)]; exact q_3)
                    have p45c : (x2).toInt < (s.2.2.1 32 1).toInt := by first | (rw [← e_2_1]; exact (have a0 := in_u i18x9; have a1 := in_u i9x9; have a2 := in_u i9x9a; have a3 := in_u ro_2_1; have a4 := in_u i1x5; have a5 := in_u i25; have oc := oc_230_0; by omega)) | (rw [← e_32_1]; exact (have a0 := in_u i18x9; have a1 := in_u i9x9; have a2 := in_u i9x9a; have a3 := in_u ro_2_1; have a4 := in_u i1x5; have a5 := in_u i25; have oc := oc_230_0; by omega))
                    refine g_callv (X := _) (As := [.ref (A 32), .int x1, .int x2, .int x3]) (r := []) (b := A 49) (q := 49) 48 (gd rfl) rfl rfl rfl rfl rfl (ww_o rfl) (Nat.le_of_ble_eq_true rfl) (Nat.zero_le _) (Nat.zero_le _) (f_195_49_32 (by first | exact dq1 hd rfl | exact dq0 hd rfl | exact dq2 hd rfl | exact dq3 hd rfl | omega) hI (in_w 0 31 i9x9 rfl) (in_w 0 31 i18x9 rfl) (in_w 0 2147483647 i25 rfl) p45 p45a p45b p45c) (fun e u h => h) (fun v u h => ?_)
                    obtain ⟨s45, hI45, hF45, z45, rfl, rfl, i45, p45d, p45e⟩ := h
                    show GG _ _ _ _ _ _ _ _ [.int z45] _ _ _
                    have n48 : (((0 ≤ x1.toInt ∧ x1.toInt < (shC s).2.2.2.2.2.2.1) ∧ (0 ≤ x2.toInt ∧ x2.toInt < (shC s).2.2.2.2.2.2.1)) ∧ 0 ≤ x3.toInt) ∧ WYV (shC s) x1.toNatClampNeg x2.toNatClampNeg x3.toInt (z45).toInt := by first | (rw [shC_n (by rw [← e1x1]; exact c1x5)]; exact ⟨⟨⟨⟨by exact (have a0 := in_u i18x9; have a1 := in_u i9x9; have a2 := in_u i9x9a; have a3 := in_u ro_2_1; have a4 := in_u i1x5; have a5 := in_u i25; have oc := oc_230_0; by omega), by show x1.toInt < (s.2.2.1 2 1).toInt; rw [← e_2_1]; exact (have a0 := in_u i18x9; have a1 := in_u i9x9; have a2 := in_u i9x9a; have a3 := in_u ro_2_1; have a4 := in_u i1x5; have a5 := in_u i25; have oc := oc_230_0; by omega)⟩, ⟨by exact (have a0 := in_u i18x9; have a1 := in_u i9x9; have a2 := in_u i9x9a; have a3 := in_u ro_2_1; have a4 := in_u i1x5; have a5 := in_u i25; have oc := oc_230_0; by omega), by show x2.toInt < (s.2.2.1 2 1).toInt; rw [← e_2_1]; exact (have a0 := in_u i18x9; have a1 := in_u i9x9; have a2 := in_u i9x9a; have a3 := in_u ro_2_1; have a4 := in_u i1x5; have a5 := in_u i25; have oc := oc_230_0; by omega)⟩⟩, by exact (have a0 := in_u i18x9; have a1 := in_u i9x9; have a2 := in_u i9x9a; have a3 := in_u ro_2_1; have a4 := in_u i1x5; have a5 := in_u i25; have oc := oc_230_0; by omega)⟩, p45e⟩) | (rw [shC_d (by rw [← e1x1]; exact c1x5)]; exact ⟨⟨⟨⟨by exact (have a0 := in_u i18x9; have a1 := in_u i9x9; have a2 := in_u i9x9a; have a3 := in_u ro_2_1; have a4 := in_u i1x5; have a5 := in_u i25; have oc := oc_230_0; by omega), by show x1.toInt < (s.2.2.1 32 1).toInt; rw [← e_32_1]; exact (have a0 := in_u i18x9; have a1 := in_u i9x9; have a2 := in_u i9x9a; have a3 := in_u ro_2_1; have a4 := in_u i1x5; have a5 := in_u i25; have oc := oc_230_0; by omega)⟩, ⟨by exact (have a0 := in_u i18x9; have a1 := in_u i9x9; have a2 := in_u i9x9a; have a3 := in_u ro_2_1; have a4 := in_u i1x5; have a5 := in_u i25; have oc := oc_230_0; by omega), by show x2.toInt < (s.2.2.1 32 1).toInt; rw [← e_32_1]; exact (have a0 := in_u i18x9; have a1 := in_u i9x9; have a2 := in_u i9x9a; have a3 := in_u ro_2_1; have a4 := in_u i1x5; have a5 := in_u i25; have oc := oc_230_0; by omega)⟩⟩, by exact (have a0 := in_u i18x9; have a1 := in_u i9x9; have a2 := in_u i9x9a; have a3 := in_u ro_2_1; have a4 := in_u i1x5; have a5 := in_u i25; have oc := oc_230_0; by omega)⟩, p45e⟩)
                    have n48a : FXQ (shC s) s45 := by first | (rw [shC_n (by rw [← e1x1]; exact c1x5)]; exact p45d) | (rw [shC_d (by rw [← e1x1]; exact c1x5)]; exact p45d)
                    exact g_ireturn (gd rfl) rfl rfl (hP _ _ ⟨s45, hI45, (fr_tr rfl fr_rf hF45), z45, rfl, rfl, in_w (-1) 159 i45 rfl, n48, n48a⟩)
                  · skip
                    exact zn_eq c33 (in_c 1 rfl) rfl
  · skip
    have i1x5 := r_eq1 (-1) (-1) c1x5 ro_0_2 (in_c (-1) rfl) rfl
    refine g_aload_n 9 (gd rfl) rfl rfl ?_
    refine g_getA (q2 := 1) 12 (gd rfl) rfl rfl rfl rfl ?_
    refine g_getA (q2 := 2) 15 (gd rfl) rfl rfl rfl rfl ?_
    refine g_goto 22 (gd rfl) rfl ?_
    refine g_areturn (gd rfl) rfl (hp1 _ _ ?_)
    show GG _ _ _ _ _ _ _ _ [.ref (A 2)] _ _ _
    refine g_astore 6 (gd rfl) rfl (Nat.le_of_ble_eq_true rfl) ?_
    refine g_aload 8 (gd rfl) rfl rfl ?_
    refine g_iload_n 9 (gd rfl) rfl rfl ?_
    refine g_callv (X := _) (As := [.int x1]) (r := []) (b := A 2) (q := 2) 12 (gd rfl) rfl rfl rfl rfl rfl (ww_o rfl) (Nat.le_of_ble_eq_true rfl) (mc := 0) (ms := 0) (Nat.zero_le _) (Nat.zero_le _) (P := fun v u => _) ?_ (fun e u h => h) (fun v u h => h)
    intro po9 xx9 hp9 hx9
    refine g_enter2 (k := 94) (N := 300) (by first | exact dq1 hd rfl | exact dq0 hd rfl | exact dq2 hd rfl | exact dq3 hd rfl | omega) rfl (Nat.le_of_ble_eq_true rfl) ?_
    refine g_iload_n 1 (gd rfl) rfl rfl ?_
    refine g_if_lt 4 16 (gd rfl) rfl rfl (fun c9x1 => ?_) (fun c9x1 => ?_)
    · skip
      have i9x1 := z_lt (-2147483648) (-1) c9x1 (i_rng x1) rfl
      refine g_iconst 0 17 (gd rfl) rfl rfl ?_
      refine g_ireturn (gd rfl) rfl (nb01 (in_w 0 1 (in_c 0 rfl) rfl)) (hp9 _ _ ?_)
      show GG _ _ _ _ _ _ _ _ [.int (Int32.ofInt 0)] _ _ _
      refine g_if_eq 15 32 (gd rfl) rfl rfl (fun c12 => ?_) (fun c12 => ?_)
      · skip
        refine g_iconst 0 33 (gd rfl) rfl rfl ?_
        refine g_thr (E := am_IA) (y := yX11_allow) 36 (gd rfl) rfl rfl (Or.inl ⟨rfl, rfl, rfl⟩) (by first | exact dq1 hd rfl | exact dq0 hd rfl | exact dq2 hd rfl | exact dq3 hd rfl | omega) (Nat.le_of_ble_eq_true rfl) (Nat.le_of_ble_eq_true rfl) (Nat.le_of_ble_eq_true rfl) (fun c33 => ?_) (fun c33 => ?_)
        · skip
          exact zn_ne c33 (in_c 0 rfl) rfl
        · skip
          have n33 : ¬ (((0 ≤ x1.toInt ∧ x1.toInt < (shC s).2.2.2.2.2.2.1) ∧ (0 ≤ x2.toInt ∧ x2.toInt < (shC s).2.2.2.2.2.2.1)) ∧ 0 ≤ x3.toInt) := by first | (rw [shC_n (by rw [← e1x1]; exact c1x5)]; show ¬ (((0 ≤ x1.toInt ∧ x1.toInt < (s.2.2.1 2 1).toInt) ∧ (0 ≤ x2.toInt ∧ x2.toInt < (s.2.2.1 2 1).toInt)) ∧ 0 ≤ x3.toInt); rw [← e_2_1]; exact (have a0 := in_u ro_32_1; have a1 := in_u ro_2_1; have a2 := in_u i1x5; have a3 := in_u i9x1; have oc := oc_230_0; by omega)) | (rw [shC_d (by rw [← e1x1]; exact c1x5)]; show ¬ (((0 ≤ x1.toInt ∧ x1.toInt < (s.2.2.1 32 1).toInt) ∧ (0 ≤ x2.toInt ∧ x2.toInt < (s.2.2.1 32 1).toInt)) ∧ 0 ≤ x3.toInt); rw [← e_32_1]; exact (have a0 := in_u ro_32_1; have a1 := in_u ro_2_1; have a2 := in_u i1x5; have a3 := in_u i9x1; have oc := oc_230_0; by omega))
          exact (hX _ _ ⟨Or.inl ⟨rfl, n33⟩, s, hI, fr_rf, rfl⟩)
      · skip
        exact zn_ne c12 (in_c 0 rfl) rfl
    · skip
      have i9x1 := z_ge 0 2147483647 c9x1 (i_rng x1) rfl
      refine g_iload_n 5 (gd rfl) rfl rfl ?_
      refine g_aload_n 6 (gd rfl) rfl rfl ?_
      refine g_getI 9 (gd rfl) rfl rfl rfl (fun z9x6 e9x6 => ?_)
      have q9x6 : u_2_1 = z9x6 := (e_2_1).trans e9x6.symm
      subst q9x6
      refine g_cmp_ge 12 16 (gd rfl) rfl rfl (fun c9x9 => ?_) (fun c9x9 => ?_)
      · skip
        refine g_iconst 0 17 (gd rfl) rfl rfl ?_
        refine g_ireturn (gd rfl) rfl (nb01 (in_w 0 1 (in_c 0 rfl) rfl)) (hp9 _ _ ?_)
        show GG _ _ _ _ _ _ _ _ [.int (Int32.ofInt 0)] _ _ _
        refine g_if_eq 15 32 (gd rfl) rfl rfl (fun c12 => ?_) (fun c12 => ?_)
        · skip
          refine g_iconst 0 33 (gd rfl) rfl rfl ?_
          refine g_thr (E := am_IA) (y := yX11_allow) 36 (gd rfl) rfl rfl (Or.inl ⟨rfl, rfl, rfl⟩) (by first | exact dq1 hd rfl | exact dq0 hd rfl | exact dq2 hd rfl | exact dq3 hd rfl | omega) (Nat.le_of_ble_eq_true rfl) (Nat.le_of_ble_eq_true rfl) (Nat.le_of_ble_eq_true rfl) (fun c33 => ?_) (fun c33 => ?_)
          · skip
            exact zn_ne c33 (in_c 0 rfl) rfl
          · skip
            have n33 : ¬ (((0 ≤ x1.toInt ∧ x1.toInt < (shC s).2.2.2.2.2.2.1) ∧ (0 ≤ x2.toInt ∧ x2.toInt < (shC s).2.2.2.2.2.2.1)) ∧ 0 ≤ x3.toInt) := by first | (rw [shC_n (by rw [← e1x1]; exact c1x5)]; show ¬ (((0 ≤ x1.toInt ∧ x1.toInt < (s.2.2.1 2 1).toInt) ∧ (0 ≤ x2.toInt ∧ x2.toInt < (s.2.2.1 2 1).toInt)) ∧ 0 ≤ x3.toInt); rw [← e_2_1]; exact (have a0 := in_u ro_32_1; have a1 := in_u ro_2_1; have a2 := in_u i1x5; have a3 := in_u i9x1; have oc := oc_230_0; by omega)) | (rw [shC_d (by rw [← e1x1]; exact c1x5)]; show ¬ (((0 ≤ x1.toInt ∧ x1.toInt < (s.2.2.1 32 1).toInt) ∧ (0 ≤ x2.toInt ∧ x2.toInt < (s.2.2.1 32 1).toInt)) ∧ 0 ≤ x3.toInt); rw [← e_32_1]; exact (have a0 := in_u ro_32_1; have a1 := in_u ro_2_1; have a2 := in_u i1x5; have a3 := in_u i9x1; have oc := oc_230_0; by omega))
            exact (hX _ _ ⟨Or.inl ⟨rfl, n33⟩, s, hI, fr_rf, rfl⟩)
        · skip
          exact zn_ne c12 (in_c 0 rfl) rfl
      · skip
        have i9x9 := r_lt1 0 31 c9x9 i9x1 ro_2_1 rfl
        have i9x9a := r_lt2 1 32 c9x9 i9x1 ro_2_1 rfl
        refine g_iconst 1 13 (gd rfl) rfl rfl ?_
        refine g_goto 17 (gd rfl) rfl ?_
        refine g_ireturn (gd rfl) rfl (nb01 (in_w 0 1 (in_c 1 rfl) rfl)) (hp9 _ _ ?_)
        show GG _ _ _ _ _ _ _ _ [.int (Int32.ofInt 1)] _ _ _
        refine g_if_eq 15 32 (gd rfl) rfl rfl (fun c12 => ?_) (fun c12 => ?_)
        · skip
          exact zn_eq c12 (in_c 1 rfl) rfl
        · skip
          refine g_aload 17 (gd rfl) rfl rfl ?_
          refine g_iload_n 18 (gd rfl) rfl rfl ?_
          refine g_callv (X := _) (As := [.int x2]) (r := []) (b := A 2) (q := 2) 21 (gd rfl) rfl rfl rfl rfl rfl (ww_o rfl) (Nat.le_of_ble_eq_true rfl) (mc := 0) (ms := 0) (Nat.zero_le _) (Nat.zero_le _) (P := fun v u => _) ?_ (fun e u h => h) (fun v u h => h)
          intro po18 xx18 hp18 hx18
          refine g_enter2 (k := 94) (N := 300) (by first | exact dq1 hd rfl | exact dq0 hd rfl | exact dq2 hd rfl | exact dq3 hd rfl | omega) rfl (Nat.le_of_ble_eq_true rfl) ?_
          refine g_iload_n 1 (gd rfl) rfl rfl ?_
          refine g_if_lt 4 16 (gd rfl) rfl rfl (fun c18x1 => ?_) (fun c18x1 => ?_)
          · skip
            have i18x1 := z_lt (-2147483648) (-1) c18x1 (i_rng x2) rfl
            refine g_iconst 0 17 (gd rfl) rfl rfl ?_
            refine g_ireturn (gd rfl) rfl (nb01 (in_w 0 1 (in_c 0 rfl) rfl)) (hp18 _ _ ?_)
            show GG _ _ _ _ _ _ _ _ [.int (Int32.ofInt 0)] _ _ _
            refine g_if_eq 24 32 (gd rfl) rfl rfl (fun c21 => ?_) (fun c21 => ?_)
            · skip
              refine g_iconst 0 33 (gd rfl) rfl rfl ?_
              refine g_thr (E := am_IA) (y := yX11_allow) 36 (gd rfl) rfl rfl (Or.inl ⟨rfl, rfl, rfl⟩) (by first | exact dq1 hd rfl | exact dq0 hd rfl | exact dq2 hd rfl | exact dq3 hd rfl | omega) (Nat.le_of_ble_eq_true rfl) (Nat.le_of_ble_eq_true rfl) (Nat.le_of_ble_eq_true rfl) (fun c33 => ?_) (fun c33 => ?_)
              · skip
                exact zn_ne c33 (in_c 0 rfl) rfl
              · skip
                have n33 : ¬ (((0 ≤ x1.toInt ∧ x1.toInt < (shC s).2.2.2.2.2.2.1) ∧ (0 ≤ x2.toInt ∧ x2.toInt < (shC s).2.2.2.2.2.2.1)) ∧ 0 ≤ x3.toInt) := by first | (rw [shC_n (by rw [← e1x1]; exact c1x5)]; show ¬ (((0 ≤ x1.toInt ∧ x1.toInt < (s.2.2.1 2 1).toInt) ∧ (0 ≤ x2.toInt ∧ x2.toInt < (s.2.2.1 2 1).toInt)) ∧ 0 ≤ x3.toInt); rw [← e_2_1]; exact (have a0 := in_u i9x9; have a1 := in_u ro_32_1; have a2 := in_u i9x9a; have a3 := in_u i1x5; have a4 := in_u i18x1; have oc := oc_230_0; by omega)) | (rw [shC_d (by rw [← e1x1]; exact c1x5)]; show ¬ (((0 ≤ x1.toInt ∧ x1.toInt < (s.2.2.1 32 1).toInt) ∧ (0 ≤ x2.toInt ∧ x2.toInt < (s.2.2.1 32 1).toInt)) ∧ 0 ≤ x3.toInt); rw [← e_32_1]; exact (have a0 := in_u i9x9; have a1 := in_u ro_32_1; have a2 := in_u i9x9a; have a3 := in_u i1x5; have a4 := in_u i18x1; have oc := oc_230_0; by omega))
                exact (hX _ _ ⟨Or.inl ⟨rfl, n33⟩, s, hI, fr_rf, rfl⟩)
            · skip
              exact zn_ne c21 (in_c 0 rfl) rfl
          · skip
            have i18x1 := z_ge 0 2147483647 c18x1 (i_rng x2) rfl
            refine g_iload_n 5 (gd rfl) rfl rfl ?_
            refine g_aload_n 6 (gd rfl) rfl rfl ?_
            refine g_getI 9 (gd rfl) rfl rfl rfl (fun z18x6 e18x6 => ?_)
            have q18x6 : u_2_1 = z18x6 := (e_2_1).trans e18x6.symm
            subst q18x6
            refine g_cmp_ge 12 16 (gd rfl) rfl rfl (fun c18x9 => ?_) (fun c18x9 => ?_)
            · skip
              have i18x9 := r_le2 1 2147483647 c18x9 i9x9a i18x1 rfl
              refine g_iconst 0 17 (gd rfl) rfl rfl ?_
              refine g_ireturn (gd rfl) rfl (nb01 (in_w 0 1 (in_c 0 rfl) rfl)) (hp18 _ _ ?_)
              show GG _ _ _ _ _ _ _ _ [.int (Int32.ofInt 0)] _ _ _
              refine g_if_eq 24 32 (gd rfl) rfl rfl (fun c21 => ?_) (fun c21 => ?_)
              · skip
                refine g_iconst 0 33 (gd rfl) rfl rfl ?_
                refine g_thr (E := am_IA) (y := yX11_allow) 36 (gd rfl) rfl rfl (Or.inl ⟨rfl, rfl, rfl⟩) (by first | exact dq1 hd rfl | exact dq0 hd rfl | exact dq2 hd rfl | exact dq3 hd rfl | omega) (Nat.le_of_ble_eq_true rfl) (Nat.le_of_ble_eq_true rfl) (Nat.le_of_ble_eq_true rfl) (fun c33 => ?_) (fun c33 => ?_)
                · skip
                  exact zn_ne c33 (in_c 0 rfl) rfl
                · skip
                  have n33 : ¬ (((0 ≤ x1.toInt ∧ x1.toInt < (shC s).2.2.2.2.2.2.1) ∧ (0 ≤ x2.toInt ∧ x2.toInt < (shC s).2.2.2.2.2.2.1)) ∧ 0 ≤ x3.toInt) := by first | (rw [shC_n (by rw [← e1x1]; exact c1x5)]; show ¬ (((0 ≤ x1.toInt ∧ x1.toInt < (s.2.2.1 2 1).toInt) ∧ (0 ≤ x2.toInt ∧ x2.toInt < (s.2.2.1 2 1).toInt)) ∧ 0 ≤ x3.toInt); rw [← e_2_1]; exact (have a0 := in_u i9x9; have a1 := in_u ro_32_1; have a2 := in_u i9x9a; have a3 := in_u i1x5; have a4 := in_u i18x9; have oc := oc_230_0; by omega)) | (rw [shC_d (by rw [← e1x1]; exact c1x5)]; show ¬ (((0 ≤ x1.toInt ∧ x1.toInt < (s.2.2.1 32 1).toInt) ∧ (0 ≤ x2.toInt ∧ x2.toInt < (s.2.2.1 32 1).toInt)) ∧ 0 ≤ x3.toInt); rw [← e_32_1]; exact (have a0 := in_u i9x9; have a1 := in_u ro_32_1; have a2 := in_u i9x9a; have a3 := in_u i1x5; have a4 := in_u i18x9; have oc := oc_230_0; by omega))
                  exact (hX _ _ ⟨Or.inl ⟨rfl, n33⟩, s, hI, fr_rf, rfl⟩)
              · skip
                exact zn_ne c21 (in_c 0 rfl) rfl
            · skip
              have i18x9 := r_lt1 0 31 c18x9 i18x1 i9x9a rfl
              refine g_iconst 1 13 (gd rfl) rfl rfl ?_
              refine g_goto 17 (gd rfl) rfl ?_
              refine g_ireturn (gd rfl) rfl (nb01 (in_w 0 1 (in_c 1 rfl) rfl)) (hp18 _ _ ?_)
              show GG _ _ _ _ _ _ _ _ [.int (Int32.ofInt 1)] _ _ _
              refine g_if_eq 24 32 (gd rfl) rfl rfl (fun c21 => ?_) (fun c21 => ?_)
              · skip
                exact zn_eq c21 (in_c 1 rfl) rfl
              · skip
                refine g_iload_n 25 (gd rfl) rfl rfl ?_
                refine g_if_lt 28 32 (gd rfl) rfl rfl (fun c25 => ?_) (fun c25 => ?_)
                · skip
                  have i25 := z_lt (-2147483648) (-1) c25 (i_rng x3) rfl
                  refine g_iconst 0 33 (gd rfl) rfl rfl ?_
                  refine g_thr (E := am_IA) (y := yX11_allow) 36 (gd rfl) rfl rfl (Or.inl ⟨rfl, rfl, rfl⟩) (by first | exact dq1 hd rfl | exact dq0 hd rfl | exact dq2 hd rfl | exact dq3 hd rfl | omega) (Nat.le_of_ble_eq_true rfl) (Nat.le_of_ble_eq_true rfl) (Nat.le_of_ble_eq_true rfl) (fun c33 => ?_) (fun c33 => ?_)
                  · skip
                    exact zn_ne c33 (in_c 0 rfl) rfl
                  · skip
                    have n33 : ¬ (((0 ≤ x1.toInt ∧ x1.toInt < (shC s).2.2.2.2.2.2.1) ∧ (0 ≤ x2.toInt ∧ x2.toInt < (shC s).2.2.2.2.2.2.1)) ∧ 0 ≤ x3.toInt) := by first | (rw [shC_n (by rw [← e1x1]; exact c1x5)]; show ¬ (((0 ≤ x1.toInt ∧ x1.toInt < (s.2.2.1 2 1).toInt) ∧ (0 ≤ x2.toInt ∧ x2.toInt < (s.2.2.1 2 1).toInt)) ∧ 0 ≤ x3.toInt); rw [← e_2_1]; exact (have a0 := in_u i18x9; have a1 := in_u i9x9; have a2 := in_u ro_32_1; have a3 := in_u i9x9a; have a4 := in_u i1x5; have a5 := in_u i25; have oc := oc_230_0; by omega)) | (rw [shC_d (by rw [← e1x1]; exact c1x5)]; show ¬ (((0 ≤ x1.toInt ∧ x1.toInt < (s.2.2.1 32 1).toInt) ∧ (0 ≤ x2.toInt ∧ x2.toInt < (s.2.2.1 32 1).toInt)) ∧ 0 ≤ x3.toInt); rw [← e_32_1]; exact (have a0 := in_u i18x9; have a1 := in_u i9x9; have a2 := in_u ro_32_1; have a3 := in_u i9x9a; have a4 := in_u i1x5; have a5 := in_u i25; have oc := oc_230_0; by omega))
                    exact (hX _ _ ⟨Or.inl ⟨rfl, n33⟩, s, hI, fr_rf, rfl⟩)
                · skip
                  have i25 := z_ge 0 2147483647 c25 (i_rng x3) rfl
                  refine g_iconst 1 29 (gd rfl) rfl rfl ?_
                  refine g_goto 33 (gd rfl) rfl ?_
                  refine g_thr (E := am_IA) (y := yX11_allow) 36 (gd rfl) rfl rfl (Or.inl ⟨rfl, rfl, rfl⟩) (by first | exact dq1 hd rfl | exact dq0 hd rfl | exact dq2 hd rfl | exact dq3 hd rfl | omega) (Nat.le_of_ble_eq_true rfl) (Nat.le_of_ble_eq_true rfl) (Nat.le_of_ble_eq_true rfl) (fun c33 => ?_) (fun c33 => ?_)
                  · skip
                    refine g_aload_n 37 (gd rfl) rfl rfl ?_
                    refine g_getA (q2 := 49) 40 (gd rfl) rfl rfl rfl rfl ?_
                    refine g_aload 42 (gd rfl) rfl rfl ?_
                    refine g_iload_n 43 (gd rfl) rfl rfl ?_
                    refine g_iload_n 44 (gd rfl) rfl rfl ?_
                    refine g_iload_n 45 (gd rfl) rfl rfl ?_
                    have p45 : TQ s := by first | exact q_0 | exact q_1
                    have p45a : NDQ (gvC s) := by first | (rw [← shC_n (by rw [← e1x1]; exact c1x5)]; exact q_2) | (rw [← shC_d (by rw [← e1x1]; exact c1x5)]; exact q_2)
                    have p45b : FXB (gvC s) s := by first | (rw [← shC_n (by rw [← e1x1]; exact c1x5)]; exact q_3) | (rw [← shC_d (by rw [← e1x1]; exact c1x5)]; exact q_3)
                    have p45c : (x2).toInt < (s.2.2.1 2 1).toInt := by first | (rw [← e_2_1]; exact (have a0 := in_u i18x9; have a1 := in_u i9x9; have a2 := in_u ro_32_1; have a3 := in_u i9x9a; have a4 := in_u i1x5; have a5 := in_u i25; have oc := oc_230_0; by omega)) | (rw [← e_32_1]; exact (have a0 := in_u i18x9; have a1 := in_u i9x9; have a2 := in_u ro_32_1; have a3 := in_u i9x9a; have a4 := in_u i1x5; have a5 := in_u i25; have oc := oc_230_0; by omega))
                    refine g_callv (X := _) (As := [.ref (A 2), .int x1, .int x2, .int x3]) (r := []) (b := A 49) (q := 49) 48 (gd rfl) rfl rfl rfl rfl rfl (ww_o rfl) (Nat.le_of_ble_eq_true rfl) (Nat.zero_le _) (Nat.zero_le _) (f_195_49_2 (by first | exact dq1 hd rfl | exact dq0 hd rfl | exact dq2 hd rfl | exact dq3 hd rfl | omega) hI (in_w 0 31 i9x9 rfl) (in_w 0 31 i18x9 rfl) (in_w 0 2147483647 i25 rfl) p45 p45a p45b p45c) (fun e u h => h) (fun v u h => ?_)
                    obtain ⟨s45, hI45, hF45, z45, rfl, rfl, i45, p45d, p45e⟩ := h
                    show GG _ _ _ _ _ _ _ _ [.int z45] _ _ _
                    have n48 : (((0 ≤ x1.toInt ∧ x1.toInt < (shC s).2.2.2.2.2.2.1) ∧ (0 ≤ x2.toInt ∧ x2.toInt < (shC s).2.2.2.2.2.2.1)) ∧ 0 ≤ x3.toInt) ∧ WYV (shC s) x1.toNatClampNeg x2.toNatClampNeg x3.toInt (z45).toInt := by first | (rw [shC_n (by rw [← e1x1]; exact c1x5)]; exact ⟨⟨⟨⟨by exact (have a0 := in_u i18x9; have a1 := in_u i9x9; have a2 := in_u ro_32_1; have a3 := in_u i9x9a; have a4 := in_u i1x5; have a5 := in_u i25; have oc := oc_230_0; by omega), by show x1.toInt < (s.2.2.1 2 1).toInt; rw [← e_2_1]; exact (have a0 := in_u i18x9; have a1 := in_u i9x9; have a2 := in_u ro_32_1; have a3 := in_u i9x9a; have a4 := in_u i1x5; have a5 := in_u i25; have oc := oc_230_0; by omega)⟩, ⟨by exact (have a0 := in_u i18x9; have a1 := in_u i9x9; have a2 := in_u ro_32_1; have a3 := in_u i9x9a; have a4 := in_u i1x5; have a5 := in_u i25; have oc := oc_230_0; by omega), by show x2.toInt < (s.2.2.1 2 1).toInt; rw [← e_2_1]; exact (have a0 := in_u i18x9; have a1 := in_u i9x9; have a2 := in_u ro_32_1; have a3 := in_u i9x9a; have a4 := in_u i1x5; have a5 := in_u i25; have oc := oc_230_0; by omega)⟩⟩, by exact (have a0 := in_u i18x9; have a1 := in_u i9x9; have a2 := in_u ro_32_1; have a3 := in_u i9x9a; have a4 := in_u i1x5; have a5 := in_u i25; have oc := oc_230_0; by omega)⟩, p45e⟩) | (rw [shC_d (by rw [← e1x1]; exact c1x5)]; exact ⟨⟨⟨⟨by exact (have a0 := in_u i18x9; have a1 := in_u i9x9; have a2 := in_u ro_32_1; have a3 := in_u i9x9a; have a4 := in_u i1x5; have a5 := in_u i25; have oc := oc_230_0; by omega), by show x1.toInt < (s.2.2.1 32 1).toInt; rw [← e_32_1]; exact (have a0 := in_u i18x9; have a1 := in_u i9x9; have a2 := in_u ro_32_1; have a3 := in_u i9x9a; have a4 := in_u i1x5; have a5 := in_u i25; have oc := oc_230_0; by omega)⟩, ⟨by exact (have a0 := in_u i18x9; have a1 := in_u i9x9; have a2 := in_u ro_32_1; have a3 := in_u i9x9a; have a4 := in_u i1x5; have a5 := in_u i25; have oc := oc_230_0; by omega), by show x2.toInt < (s.2.2.1 32 1).toInt; rw [← e_32_1]; exact (have a0 := in_u i18x9; have a1 := in_u i9x9; have a2 := in_u ro_32_1; have a3 := in_u i9x9a; have a4 := in_u i1x5; have a5 := in_u i25; have oc := oc_230_0; by omega)⟩⟩, by exact (have a0 := in_u i18x9; have a1 := in_u i9x9; have a2 := in_u ro_32_1; have a3 := in_u i9x9a; have a4 := in_u i1x5; have a5 := in_u i25; have oc := oc_230_0; by omega)⟩, p45e⟩)
                    have n48a : FXQ (shC s) s45 := by first | (rw [shC_n (by rw [← e1x1]; exact c1x5)]; exact p45d) | (rw [shC_d (by rw [← e1x1]; exact c1x5)]; exact p45d)
                    exact g_ireturn (gd rfl) rfl rfl (hP _ _ ⟨s45, hI45, (fr_tr rfl fr_rf hF45), z45, rfl, rfl, in_w (-1) 159 i45 rfl, n48, n48a⟩)
                  · skip
                    exact zn_eq c33 (in_c 1 rfl) rfl
end
section
/-! FUNCTIONAL CONTRACTS, by fgen.py -/
theorem oc_313_109 : (Int32.ofInt (-1)).toInt = (-1) ∧ (Int32.ofInt 0).toInt = 0 ∧ (Int32.ofInt 1).toInt = 1 ∧ (Int32.ofInt 160).toInt = 160 ∧ (Int32.ofInt 1000).toInt = 1000 ∧ (Int64.ofInt 9000000000000000).toInt = 9000000000000000 := ⟨rfl, rfl, rfl, rfl, rfl, rfl⟩
/-- GraphHouseModel.fewest -/
theorem f_313 {Z : AmZ} {A : Nat → Nat} {s : GS} {ex : va_W} {d : Nat} {X : AmX} {x1 : Int32} {x2 : Int32} (hd : 3 ≤ d) (hI : Inv s) (h1 : In x1 0 31) (q_0 : FWP s (x1).toNatClampNeg (x2)) : GC Z d 313 [.ref (A 109), .int x1, .int x2] (WW Z A s ++ ex) 0 0 (fun v u => ∃ t : GS, Inv t ∧ Fr fm_313 s t ∧ v = none ∧ u = WW Z A t ++ ex ∧ (WFN t (x1).toNatClampNeg (x2)) ∧ (∃ r : Nat, nmx t ≤ (r : Int) ∧ FQ t (x1).toNatClampNeg (x2) ((t).1 131) r)) X := by
  intro post xp hP hX
  obtain ⟨u_109_19, e_109_19⟩ : ∃ w, w = s.2.2.1 109 19 := ⟨_, rfl⟩
  have ro_109_19 := inv_F hI 0 160 rfl e_109_19
  obtain ⟨u_109_20, e_109_20⟩ : ∃ w, w = s.2.2.1 109 20 := ⟨_, rfl⟩
  have ro_109_20 := inv_F hI 0 32 rfl e_109_20
  have ct36 : ∀ (k36 : Nat) (sc36 : GS) (y36_3 : Int32), Inv sc36 → Fr fm_313 s sc36 → (In y36_3 0 32) → (FQ s (x1).toNatClampNeg (x2) (sc36.1 131) (y36_3).toNatClampNeg) → 32 - (y36_3).toInt < (k36 : Int) → GG Z (d - 1) 313 post (gx xp) (1 + k36 * 363601) 36 (fun j => xlook j [(0, .ref (A 109)), (1, .int x1), (2, .int x2), (3, .int y36_3)]) [] (WW Z A sc36 ++ ex) 0 0 := by
    intro k36
    induction k36 with
    | zero => intro sc36 y36_3 hIc36 hFc36 j36_3 g36_0 mm36; exact m_no mm36 j36_3 rfl
    | succ k36 ih36 =>
      intro sc36 y36_3 hIc36 hFc36 j36_3 g36_0 mm36
      refine gg_w (M := 1 + k36 * 363601 + 363601) gws ?_
      have ct50 : ∀ (k50 : Nat) (sc50 : GS) (y50_4 : Int32), Inv sc50 → Fr fm_313 s sc50 → (In y36_3 0 31) → (In y50_4 0 400) → ((u_109_19).toInt ≤ (y50_4).toInt) → ((y50_4).toInt ≤ (u_109_19).toInt + 160) → (FQI s (x1).toNatClampNeg (x2) (sc50.1 131) (y36_3).toNatClampNeg ((y50_4).toInt - u_109_19.toInt).toNat) → 400 - (y50_4).toInt < (k50 : Int) → GG Z (d - 1) 313 post (gx xp) (1 + k36 * 363601 + 1 + k50 * 900) 50 (fun j => xlook j [(0, .ref (A 109)), (1, .int x1), (2, .int x2), (3, .int y36_3), (4, .int y50_4)]) [] (WW Z A sc50 ++ ex) 0 0 := by
        intro k50
        induction k50 with
        | zero => intro sc50 y50_4 hIc50 hFc50 j50_3 j50_4 n50_0 n50_1 g50_0 mm50; exact m_no mm50 j50_4 rfl
        | succ k50 ih50 =>
          intro sc50 y50_4 hIc50 hFc50 j50_3 j50_4 n50_0 n50_1 g50_0 mm50
          refine gg_w (M := 1 + k36 * 363601 + 1 + k50 * 900 + 900) gws ?_
          refine g_iload 52 (gd rfl) rfl rfl ?_
          refine g_aload_n 53 (gd rfl) rfl rfl ?_
          refine g_getI 56 (gd rfl) rfl rfl rfl (fun z53 e53 => ?_)
          have q53 : u_109_19 = z53 := (fr_F e_109_19 hFc50 rfl).trans e53.symm
          subst q53
          refine g_sipush 160 59 (gd rfl) rfl rfl ?_
          refine g_iadd 60 (gd rfl) rfl (fun z59 e59 => ?_)
          have i59 := in_add 160 320 e59 ro_109_19 (in_c 160 rfl) rfl rfl
          refine g_cmp_ge 63 225 (gd rfl) rfl rfl (fun c60 => ?_) (fun c60 => ?_)
          · skip
            have i60 := r_le2 160 400 c60 i59 j50_4 rfl
            refine g_iinc 228 (gd rfl) rfl rfl (Nat.le_of_ble_eq_true rfl) (fun z225 e225 => ?_)
            have i225 := in_add 1 32 e225 j50_3 (in_c 1 rfl) rfl rfl
            refine g_goto 36 (gd rfl) rfl ?_
            have n36 : FQ s (x1).toNatClampNeg (x2) (sc50.1 131) (z225).toNatClampNeg := by rw [show (z225).toNatClampNeg = y36_3.toNatClampNeg + 1 from (by show z225.toInt.toNat = y36_3.toInt.toNat + 1; exact (have a0 := in_u j50_3; have a1 := in_u h1; have a2 := in_u ro_109_20; have a3 := in_u ro_109_19; have a4 := in_u i60; have a5 := in_u i225; have a6 := t_add e225 j50_3 (in_c 1 rfl) rfl; have a7 := in_u ((in_c 1 rfl)); have a8 := in_u i59; have a9 := t_add e59 ro_109_19 (in_c 160 rfl) rfl; have a10 := in_u ((in_c 160 rfl)); have oc := oc_313_109; by omega))]; exact fq_r (by have h := g50_0; rw [show ((y50_4).toInt - u_109_19.toInt).toNat = 160 from (by exact (have a0 := in_u j50_3; have a1 := in_u h1; have a2 := in_u ro_109_20; have a3 := in_u ro_109_19; have a4 := in_u i60; have a5 := in_u i225; have a6 := t_add e225 j50_3 (in_c 1 rfl) rfl; have a7 := in_u ((in_c 1 rfl)); have a8 := in_u i59; have a9 := t_add e59 ro_109_19 (in_c 160 rfl) rfl; have a10 := in_u ((in_c 160 rfl)); have oc := oc_313_109; by omega))] at h; exact h)
            exact gg_w (by first | exact Nat.le_add_right _ _ | exact gw2 | exact gw3 | exact gwe rfl | exact gwf rfl | exact gwg rfl | exact gwh rfl | omega) (gg_f (gf_cons rfl (gf_cons rfl (gf_cons rfl (gf_cons rfl gf_nil)))) (ih36 sc50 z225 hIc50 hFc50 (in_w 0 32 i225 rfl) n36 (m_up mm36 (t_add e225 j50_3 (in_c 1 rfl) rfl) (in_w 1 1 (in_c 1 rfl) rfl))))
          · skip
            have i60 := r_lt1 0 319 c60 j50_4 i59 rfl
            refine g_aload_n 64 (gd rfl) rfl rfl ?_
            refine g_getA (q2 := 112) 67 (gd rfl) rfl rfl rfl rfl ?_
            refine g_iload 69 (gd rfl) rfl rfl ?_
            refine g_baload 70 (gd rfl) rfl (n := 480) rfl (in_ix i60 rfl) (fun z69 e69 => ?_)
            have i69 := inv_I hIc50 (n := 480) (t := 3) 0 1 rfl (in_ix i60 rfl) rfl e69
            refine g_if_eq 73 219 (gd rfl) rfl rfl (fun c70 => ?_) (fun c70 => ?_)
            · skip
              have i70 := z_eq 0 0 c70 i69 rfl
              refine g_iinc 222 (gd rfl) rfl rfl (Nat.le_of_ble_eq_true rfl) (fun z219 e219 => ?_)
              have i219 := in_add 1 320 e219 i60 (in_c 1 rfl) rfl rfl
              refine g_goto 50 (gd rfl) rfl ?_
              have n50 : (u_109_19).toInt ≤ (z219).toInt := by exact (have a0 := in_u j50_3; have a1 := in_u h1; have a2 := in_u ro_109_20; have a3 := in_u ro_109_19; have a4 := in_u i60; have a5 := in_u i219; have a6 := t_add e219 i60 (in_c 1 rfl) rfl; have a7 := in_u ((in_c 1 rfl)); have a8 := in_u i59; have a9 := t_add e59 ro_109_19 (in_c 160 rfl) rfl; have a10 := in_u ((in_c 160 rfl)); have oc := oc_313_109; by omega)
              have n50a : (z219).toInt ≤ (u_109_19).toInt + 160 := by exact (have a0 := in_u j50_3; have a1 := in_u h1; have a2 := in_u ro_109_20; have a3 := in_u ro_109_19; have a4 := in_u i60; have a5 := in_u i219; have a6 := t_add e219 i60 (in_c 1 rfl) rfl; have a7 := in_u ((in_c 1 rfl)); have a8 := in_u i59; have a9 := t_add e59 ro_109_19 (in_c 160 rfl) rfl; have a10 := in_u ((in_c 160 rfl)); have oc := oc_313_109; by omega)
              have n50b : FQI s (x1).toNatClampNeg (x2) (sc50.1 131) (y36_3).toNatClampNeg ((z219).toInt - u_109_19.toInt).toNat := by rw [show ((z219).toInt - u_109_19.toInt).toNat = ((y50_4).toInt - u_109_19.toInt).toNat + 1 from (by exact (have a0 := in_u j50_3; have a1 := in_u h1; have a2 := in_u ro_109_20; have a3 := in_u ro_109_19; have a4 := in_u i60; have a5 := in_u i219; have a6 := t_add e219 i60 (in_c 1 rfl) rfl; have a7 := in_u ((in_c 1 rfl)); have a8 := in_u i59; have a9 := t_add e59 ro_109_19 (in_c 160 rfl) rfl; have a10 := in_u ((in_c 160 rfl)); have oc := oc_313_109; by omega))]; exact fqi_no g50_0 (fun t1 t2 t3 t4 t5 => by exfalso; rw [(ix_k (y := y50_4) e_109_19 (by exact (have a0 := in_u j50_3; have a1 := in_u h1; have a2 := in_u ro_109_20; have a3 := in_u ro_109_19; have a4 := in_u i60; have a5 := in_u i219; have a6 := t_add e219 i60 (in_c 1 rfl) rfl; have a7 := in_u ((in_c 1 rfl)); have a8 := in_u i59; have a9 := t_add e59 ro_109_19 (in_c 160 rfl) rfl; have a10 := in_u ((in_c 160 rfl)); have oc := oc_313_109; by omega)) (by exact (have a0 := in_u j50_3; have a1 := in_u h1; have a2 := in_u ro_109_20; have a3 := in_u ro_109_19; have a4 := in_u i60; have a5 := in_u i219; have a6 := t_add e219 i60 (in_c 1 rfl) rfl; have a7 := in_u ((in_c 1 rfl)); have a8 := in_u i59; have a9 := t_add e59 ro_109_19 (in_c 160 rfl) rfl; have a10 := in_u ((in_c 160 rfl)); have oc := oc_313_109; by omega))), ← hFc50.1 112 rfl, ← e69] at t1; exact t1 c70)
              exact gg_w (by first | exact Nat.le_add_right _ _ | exact gw2 | exact gw3 | exact gwe rfl | exact gwf rfl | exact gwg rfl | exact gwh rfl | omega) (gg_f (gf_cons rfl (gf_cons rfl (gf_cons rfl (gf_cons rfl (gf_cons rfl gf_nil))))) (ih50 sc50 z219 hIc50 hFc50 (in_w 0 31 j50_3 rfl) (in_w 0 400 i219 rfl) n50 n50a n50b (m_up mm50 (t_add e219 i60 (in_c 1 rfl) rfl) (in_w 1 1 (in_c 1 rfl) rfl))))
            · skip
              have i70 := z_ne 1 1 c70 i69 rfl
              refine g_iload_n 74 (gd rfl) rfl rfl ?_
              refine g_aload_n 75 (gd rfl) rfl rfl ?_
              refine g_getA (q2 := 113) 78 (gd rfl) rfl rfl rfl rfl ?_
              refine g_iload 80 (gd rfl) rfl rfl ?_
              refine g_iaload 81 (gd rfl) rfl (n := 480) rfl (in_ix i60 rfl) (fun z80 e80 => ?_)
              have i80 := inv_I hIc50 (n := 480) (t := 0) 0 31 rfl (in_ix i60 rfl) rfl e80
              refine g_calls (As := [.int x2, .int z80]) (r := []) 84 (gd rfl) rfl rfl rfl rfl rfl (Nat.le_of_ble_eq_true rfl) (mc := 0) (ms := 0) (Nat.zero_le _) (Nat.zero_le _) (P := fun v u => _) ?_ (fun v u h => h)
              intro po81 xx81 hp81 hx81
              refine g_enter2 (k := 311) (N := 300) (by first | exact dq1 hd rfl | exact dq0 hd rfl | exact dq2 hd rfl | exact dq3 hd rfl | omega) rfl (Nat.le_of_ble_eq_true rfl) ?_
              refine g_iload_n 1 (gd rfl) rfl rfl ?_
              refine g_iload_n 2 (gd rfl) rfl rfl ?_
              refine g_ishr 3 (gd rfl) rfl (fun z81x2 e81x2 => ?_)
              refine g_iconst 1 4 (gd rfl) rfl rfl ?_
              refine g_iand 5 (gd rfl) rfl (fun z81x4 e81x4 => ?_)
              have i81x4 := in_and2 e81x4 (in_c 1 rfl) rfl
              refine g_iconst 1 6 (gd rfl) rfl rfl ?_
              refine g_cmp_ne 9 13 (gd rfl) rfl rfl (fun c81x6 => ?_) (fun c81x6 => ?_)
              · skip
                have i81x6 := r_ne1 0 0 c81x6 i81x4 (in_c 1 rfl) rfl
                refine g_iconst 0 14 (gd rfl) rfl rfl ?_
                refine g_ireturn (gd rfl) rfl (nb01 (in_w 0 1 (in_c 0 rfl) rfl)) (hp81 _ _ ?_)
                show GG _ _ _ _ _ _ _ _ [.int (Int32.ofInt 0)] _ _ _
                refine g_if_eq 87 219 (gd rfl) rfl rfl (fun c84 => ?_) (fun c84 => ?_)
                · skip
                  refine g_iinc 222 (gd rfl) rfl rfl (Nat.le_of_ble_eq_true rfl) (fun z219 e219 => ?_)
                  have i219 := in_add 1 320 e219 i60 (in_c 1 rfl) rfl rfl
                  refine g_goto 50 (gd rfl) rfl ?_
                  have n50 : (u_109_19).toInt ≤ (z219).toInt := by exact (have a0 := in_u j50_3; have a1 := in_u h1; have a2 := in_u ro_109_20; have a3 := in_u ro_109_19; have a4 := in_u i60; have a5 := in_u i219; have a6 := t_add e219 i60 (in_c 1 rfl) rfl; have a7 := in_u ((in_c 1 rfl)); have a8 := in_u i59; have a9 := t_add e59 ro_109_19 (in_c 160 rfl) rfl; have a10 := in_u ((in_c 160 rfl)); have oc := oc_313_109; by omega)
                  have n50a : (z219).toInt ≤ (u_109_19).toInt + 160 := by exact (have a0 := in_u j50_3; have a1 := in_u h1; have a2 := in_u ro_109_20; have a3 := in_u ro_109_19; have a4 := in_u i60; have a5 := in_u i219; have a6 := t_add e219 i60 (in_c 1 rfl) rfl; have a7 := in_u ((in_c 1 rfl)); have a8 := in_u i59; have a9 := t_add e59 ro_109_19 (in_c 160 rfl) rfl; have a10 := in_u ((in_c 160 rfl)); have oc := oc_313_109; by omega)
                  have n50b : FQI s (x1).toNatClampNeg (x2) (sc50.1 131) (y36_3).toNatClampNeg ((z219).toInt - u_109_19.toInt).toNat := by rw [show ((z219).toInt - u_109_19.toInt).toNat = ((y50_4).toInt - u_109_19.toInt).toNat + 1 from (by exact (have a0 := in_u j50_3; have a1 := in_u h1; have a2 := in_u ro_109_20; have a3 := in_u ro_109_19; have a4 := in_u i60; have a5 := in_u i219; have a6 := t_add e219 i60 (in_c 1 rfl) rfl; have a7 := in_u ((in_c 1 rfl)); have a8 := in_u i59; have a9 := t_add e59 ro_109_19 (in_c 160 rfl) rfl; have a10 := in_u ((in_c 160 rfl)); have oc := oc_313_109; by omega))]; exact fqi_no g50_0 (fun t1 t2 t3 t4 t5 => by exfalso; have hb := bt_no e81x2 e81x4 i80 c81x6; rw [(ix_k (y := y50_4) e_109_19 (by exact (have a0 := in_u j50_3; have a1 := in_u h1; have a2 := in_u ro_109_20; have a3 := in_u ro_109_19; have a4 := in_u i60; have a5 := in_u i219; have a6 := t_add e219 i60 (in_c 1 rfl) rfl; have a7 := in_u ((in_c 1 rfl)); have a8 := in_u i59; have a9 := t_add e59 ro_109_19 (in_c 160 rfl) rfl; have a10 := in_u ((in_c 160 rfl)); have oc := oc_313_109; by omega)) (by exact (have a0 := in_u j50_3; have a1 := in_u h1; have a2 := in_u ro_109_20; have a3 := in_u ro_109_19; have a4 := in_u i60; have a5 := in_u i219; have a6 := t_add e219 i60 (in_c 1 rfl) rfl; have a7 := in_u ((in_c 1 rfl)); have a8 := in_u i59; have a9 := t_add e59 ro_109_19 (in_c 160 rfl) rfl; have a10 := in_u ((in_c 160 rfl)); have oc := oc_313_109; by omega))), ← hFc50.1 113 rfl, ← e80, hb] at t2; cases t2)
                  exact gg_w (by first | exact Nat.le_add_right _ _ | exact gw2 | exact gw3 | exact gwe rfl | exact gwf rfl | exact gwg rfl | exact gwh rfl | omega) (gg_f (gf_cons rfl (gf_cons rfl (gf_cons rfl (gf_cons rfl (gf_cons rfl gf_nil))))) (ih50 sc50 z219 hIc50 hFc50 (in_w 0 31 j50_3 rfl) (in_w 0 400 i219 rfl) n50 n50a n50b (m_up mm50 (t_add e219 i60 (in_c 1 rfl) rfl) (in_w 1 1 (in_c 1 rfl) rfl))))
                · skip
                  exact zn_ne c84 (in_c 0 rfl) rfl
              · skip
                have i81x6 := r_eq1 1 1 c81x6 i81x4 (in_c 1 rfl) rfl
                refine g_iconst 1 10 (gd rfl) rfl rfl ?_
                refine g_goto 14 (gd rfl) rfl ?_
                refine g_ireturn (gd rfl) rfl (nb01 (in_w 0 1 (in_c 1 rfl) rfl)) (hp81 _ _ ?_)
                show GG _ _ _ _ _ _ _ _ [.int (Int32.ofInt 1)] _ _ _
                refine g_if_eq 87 219 (gd rfl) rfl rfl (fun c84 => ?_) (fun c84 => ?_)
                · skip
                  exact zn_eq c84 (in_c 1 rfl) rfl
                · skip
                  refine g_iload_n 88 (gd rfl) rfl rfl ?_
                  refine g_aload_n 89 (gd rfl) rfl rfl ?_
                  refine g_getA (q2 := 114) 92 (gd rfl) rfl rfl rfl rfl ?_
                  refine g_iload 94 (gd rfl) rfl rfl ?_
                  refine g_iaload 95 (gd rfl) rfl (n := 480) rfl (in_ix i60 rfl) (fun z94 e94 => ?_)
                  have i94 := inv_I hIc50 (n := 480) (t := 0) 0 31 rfl (in_ix i60 rfl) rfl e94
                  refine g_calls (As := [.int x2, .int z94]) (r := []) 98 (gd rfl) rfl rfl rfl rfl rfl (Nat.le_of_ble_eq_true rfl) (mc := 0) (ms := 0) (Nat.zero_le _) (Nat.zero_le _) (P := fun v u => _) ?_ (fun v u h => h)
                  intro po95 xx95 hp95 hx95
                  refine g_enter2 (k := 311) (N := 300) (by first | exact dq1 hd rfl | exact dq0 hd rfl | exact dq2 hd rfl | exact dq3 hd rfl | omega) rfl (Nat.le_of_ble_eq_true rfl) ?_
                  refine g_iload_n 1 (gd rfl) rfl rfl ?_
                  refine g_iload_n 2 (gd rfl) rfl rfl ?_
                  refine g_ishr 3 (gd rfl) rfl (fun z95x2 e95x2 => ?_)
                  refine g_iconst 1 4 (gd rfl) rfl rfl ?_
                  refine g_iand 5 (gd rfl) rfl (fun z95x4 e95x4 => ?_)
                  have i95x4 := in_and2 e95x4 (in_c 1 rfl) rfl
                  refine g_iconst 1 6 (gd rfl) rfl rfl ?_
                  refine g_cmp_ne 9 13 (gd rfl) rfl rfl (fun c95x6 => ?_) (fun c95x6 => ?_)
                  · skip
                    have i95x6 := r_ne1 0 0 c95x6 i95x4 (in_c 1 rfl) rfl
                    refine g_iconst 0 14 (gd rfl) rfl rfl ?_
                    refine g_ireturn (gd rfl) rfl (nb01 (in_w 0 1 (in_c 0 rfl) rfl)) (hp95 _ _ ?_)
                    show GG _ _ _ _ _ _ _ _ [.int (Int32.ofInt 0)] _ _ _
                    refine g_if_eq 101 219 (gd rfl) rfl rfl (fun c98 => ?_) (fun c98 => ?_)
                    · skip
                      refine g_iinc 222 (gd rfl) rfl rfl (Nat.le_of_ble_eq_true rfl) (fun z219 e219 => ?_)
                      have i219 := in_add 1 320 e219 i60 (in_c 1 rfl) rfl rfl
                      refine g_goto 50 (gd rfl) rfl ?_
                      have n50 : (u_109_19).toInt ≤ (z219).toInt := by exact (have a0 := in_u j50_3; have a1 := in_u h1; have a2 := in_u ro_109_20; have a3 := in_u ro_109_19; have a4 := in_u i60; have a5 := in_u i219; have a6 := t_add e219 i60 (in_c 1 rfl) rfl; have a7 := in_u ((in_c 1 rfl)); have a8 := in_u i59; have a9 := t_add e59 ro_109_19 (in_c 160 rfl) rfl; have a10 := in_u ((in_c 160 rfl)); have oc := oc_313_109; by omega)
                      have n50a : (z219).toInt ≤ (u_109_19).toInt + 160 := by exact (have a0 := in_u j50_3; have a1 := in_u h1; have a2 := in_u ro_109_20; have a3 := in_u ro_109_19; have a4 := in_u i60; have a5 := in_u i219; have a6 := t_add e219 i60 (in_c 1 rfl) rfl; have a7 := in_u ((in_c 1 rfl)); have a8 := in_u i59; have a9 := t_add e59 ro_109_19 (in_c 160 rfl) rfl; have a10 := in_u ((in_c 160 rfl)); have oc := oc_313_109; by omega)
                      have n50b : FQI s (x1).toNatClampNeg (x2) (sc50.1 131) (y36_3).toNatClampNeg ((z219).toInt - u_109_19.toInt).toNat := by rw [show ((z219).toInt - u_109_19.toInt).toNat = ((y50_4).toInt - u_109_19.toInt).toNat + 1 from (by exact (have a0 := in_u j50_3; have a1 := in_u h1; have a2 := in_u ro_109_20; have a3 := in_u ro_109_19; have a4 := in_u i60; have a5 := in_u i219; have a6 := t_add e219 i60 (in_c 1 rfl) rfl; have a7 := in_u ((in_c 1 rfl)); have a8 := in_u i59; have a9 := t_add e59 ro_109_19 (in_c 160 rfl) rfl; have a10 := in_u ((in_c 160 rfl)); have oc := oc_313_109; by omega))]; exact fqi_no g50_0 (fun t1 t2 t3 t4 t5 => by exfalso; have hb := bt_no e95x2 e95x4 i94 c95x6; rw [(ix_k (y := y50_4) e_109_19 (by exact (have a0 := in_u j50_3; have a1 := in_u h1; have a2 := in_u ro_109_20; have a3 := in_u ro_109_19; have a4 := in_u i60; have a5 := in_u i219; have a6 := t_add e219 i60 (in_c 1 rfl) rfl; have a7 := in_u ((in_c 1 rfl)); have a8 := in_u i59; have a9 := t_add e59 ro_109_19 (in_c 160 rfl) rfl; have a10 := in_u ((in_c 160 rfl)); have oc := oc_313_109; by omega)) (by exact (have a0 := in_u j50_3; have a1 := in_u h1; have a2 := in_u ro_109_20; have a3 := in_u ro_109_19; have a4 := in_u i60; have a5 := in_u i219; have a6 := t_add e219 i60 (in_c 1 rfl) rfl; have a7 := in_u ((in_c 1 rfl)); have a8 := in_u i59; have a9 := t_add e59 ro_109_19 (in_c 160 rfl) rfl; have a10 := in_u ((in_c 160 rfl)); have oc := oc_313_109; by omega))), ← hFc50.1 114 rfl, ← e94, hb] at t3; cases t3)
                      exact gg_w (by first | exact Nat.le_add_right _ _ | exact gw2 | exact gw3 | exact gwe rfl | exact gwf rfl | exact gwg rfl | exact gwh rfl | omega) (gg_f (gf_cons rfl (gf_cons rfl (gf_cons rfl (gf_cons rfl (gf_cons rfl gf_nil))))) (ih50 sc50 z219 hIc50 hFc50 (in_w 0 31 j50_3 rfl) (in_w 0 400 i219 rfl) n50 n50a n50b (m_up mm50 (t_add e219 i60 (in_c 1 rfl) rfl) (in_w 1 1 (in_c 1 rfl) rfl))))
                    · skip
                      exact zn_ne c98 (in_c 0 rfl) rfl
                  · skip
                    have i95x6 := r_eq1 1 1 c95x6 i95x4 (in_c 1 rfl) rfl
                    refine g_iconst 1 10 (gd rfl) rfl rfl ?_
                    refine g_goto 14 (gd rfl) rfl ?_
                    refine g_ireturn (gd rfl) rfl (nb01 (in_w 0 1 (in_c 1 rfl) rfl)) (hp95 _ _ ?_)
                    show GG _ _ _ _ _ _ _ _ [.int (Int32.ofInt 1)] _ _ _
                    refine g_if_eq 101 219 (gd rfl) rfl rfl (fun c98 => ?_) (fun c98 => ?_)
                    · skip
                      exact zn_eq c98 (in_c 1 rfl) rfl
                    · skip
                      refine g_aload_n 102 (gd rfl) rfl rfl ?_
                      refine g_getA (q2 := 130) 105 (gd rfl) rfl rfl rfl rfl ?_
                      refine g_aload_n 106 (gd rfl) rfl rfl ?_
                      refine g_getA (q2 := 114) 109 (gd rfl) rfl rfl rfl rfl ?_
                      refine g_iload 111 (gd rfl) rfl rfl ?_
                      refine g_iaload 112 (gd rfl) rfl (n := 480) rfl (in_ix i60 rfl) (fun z111 e111 => ?_)
                      have q111 : z94 = z111 := (e94).trans e111.symm
                      subst q111
                      refine g_laload 113 (gd rfl) rfl (n := 32) rfl (in_ix i94 rfl) (fun z112 e112 => ?_)
                      refine g_ldc2_w 9000000000000000 116 (gd rfl) rfl rfl ?_
                      refine g_lcmp 117 (gd rfl) rfl (fun z116 e116 => ?_)
                      have i116 := lc_in e116
                      refine g_if_ge 120 219 (gd rfl) rfl rfl (fun c117 => ?_) (fun c117 => ?_)
                      · skip
                        have i117 := z_ge 0 1 c117 i116 rfl
                        have c117a := lc_ge e116 c117
                        have i117a := lr_le2 9000000000000000 9223372036854775807 c117a (l_c 9000000000000000 rfl) (l_rng z112) rfl
                        refine g_iinc 222 (gd rfl) rfl rfl (Nat.le_of_ble_eq_true rfl) (fun z219 e219 => ?_)
                        have i219 := in_add 1 320 e219 i60 (in_c 1 rfl) rfl rfl
                        refine g_goto 50 (gd rfl) rfl ?_
                        have n50 : (u_109_19).toInt ≤ (z219).toInt := by exact (have a0 := in_u j50_3; have a1 := in_u h1; have a2 := in_u ro_109_20; have a3 := in_u ro_109_19; have a4 := in_u i60; have a5 := in_u i219; have a6 := t_add e219 i60 (in_c 1 rfl) rfl; have a7 := in_u ((in_c 1 rfl)); have a8 := in_u i59; have a9 := t_add e59 ro_109_19 (in_c 160 rfl) rfl; have a10 := in_u ((in_c 160 rfl)); have oc := oc_313_109; by omega)
                        have n50a : (z219).toInt ≤ (u_109_19).toInt + 160 := by exact (have a0 := in_u j50_3; have a1 := in_u h1; have a2 := in_u ro_109_20; have a3 := in_u ro_109_19; have a4 := in_u i60; have a5 := in_u i219; have a6 := t_add e219 i60 (in_c 1 rfl) rfl; have a7 := in_u ((in_c 1 rfl)); have a8 := in_u i59; have a9 := t_add e59 ro_109_19 (in_c 160 rfl) rfl; have a10 := in_u ((in_c 160 rfl)); have oc := oc_313_109; by omega)
                        have n50b : FQI s (x1).toNatClampNeg (x2) (sc50.1 131) (y36_3).toNatClampNeg ((z219).toInt - u_109_19.toInt).toNat := by rw [show ((z219).toInt - u_109_19.toInt).toNat = ((y50_4).toInt - u_109_19.toInt).toNat + 1 from (by exact (have a0 := in_u j50_3; have a1 := in_u h1; have a2 := in_u ro_109_20; have a3 := in_u ro_109_19; have a4 := in_u i60; have a5 := in_u i219; have a6 := t_add e219 i60 (in_c 1 rfl) rfl; have a7 := in_u ((in_c 1 rfl)); have a8 := in_u i59; have a9 := t_add e59 ro_109_19 (in_c 160 rfl) rfl; have a10 := in_u ((in_c 160 rfl)); have oc := oc_313_109; by omega))]; exact fqi_no g50_0 (fun t1 t2 t3 t4 t5 => by exfalso; rw [(ix_k (y := y50_4) e_109_19 (by exact (have a0 := in_u j50_3; have a1 := in_u h1; have a2 := in_u ro_109_20; have a3 := in_u ro_109_19; have a4 := in_u i60; have a5 := in_u i219; have a6 := t_add e219 i60 (in_c 1 rfl) rfl; have a7 := in_u ((in_c 1 rfl)); have a8 := in_u i59; have a9 := t_add e59 ro_109_19 (in_c 160 rfl) rfl; have a10 := in_u ((in_c 160 rfl)); have oc := oc_313_109; by omega)) (by exact (have a0 := in_u j50_3; have a1 := in_u h1; have a2 := in_u ro_109_20; have a3 := in_u ro_109_19; have a4 := in_u i60; have a5 := in_u i219; have a6 := t_add e219 i60 (in_c 1 rfl) rfl; have a7 := in_u ((in_c 1 rfl)); have a8 := in_u i59; have a9 := t_add e59 ro_109_19 (in_c 160 rfl) rfl; have a10 := in_u ((in_c 160 rfl)); have oc := oc_313_109; by omega))), ← hFc50.1 114 rfl, ← e94, ← hFc50.2.1 130 rfl, ← e112] at t4; have h := i117a.1; omega)
                        exact gg_w (by first | exact Nat.le_add_right _ _ | exact gw2 | exact gw3 | exact gwe rfl | exact gwf rfl | exact gwg rfl | exact gwh rfl | omega) (gg_f (gf_cons rfl (gf_cons rfl (gf_cons rfl (gf_cons rfl (gf_cons rfl gf_nil))))) (ih50 sc50 z219 hIc50 hFc50 (in_w 0 31 j50_3 rfl) (in_w 0 400 i219 rfl) n50 n50a n50b (m_up mm50 (t_add e219 i60 (in_c 1 rfl) rfl) (in_w 1 1 (in_c 1 rfl) rfl))))
                      · skip
                        have i117 := z_lt (-1) (-1) c117 i116 rfl
                        have c117a := lc_lt e116 c117
                        have i117a := lr_lt1 (-9223372036854775808) 8999999999999999 c117a (l_rng z112) (l_c 9000000000000000 rfl) rfl
                        refine g_aload_n 121 (gd rfl) rfl rfl ?_
                        refine g_getA (q2 := 130) 124 (gd rfl) rfl rfl rfl rfl ?_
                        refine g_aload_n 125 (gd rfl) rfl rfl ?_
                        refine g_getA (q2 := 113) 128 (gd rfl) rfl rfl rfl rfl ?_
                        refine g_iload 130 (gd rfl) rfl rfl ?_
                        refine g_iaload 131 (gd rfl) rfl (n := 480) rfl (in_ix i60 rfl) (fun z130 e130 => ?_)
                        have q130 : z80 = z130 := (e80).trans e130.symm
                        subst q130
                        refine g_laload 132 (gd rfl) rfl (n := 32) rfl (in_ix i80 rfl) (fun z131 e131 => ?_)
                        refine g_aload_n 133 (gd rfl) rfl rfl ?_
                        refine g_getA (q2 := 130) 136 (gd rfl) rfl rfl rfl rfl ?_
                        refine g_aload_n 137 (gd rfl) rfl rfl ?_
                        refine g_getA (q2 := 114) 140 (gd rfl) rfl rfl rfl rfl ?_
                        refine g_iload 142 (gd rfl) rfl rfl ?_
                        refine g_iaload 143 (gd rfl) rfl (n := 480) rfl (in_ix i60 rfl) (fun z142 e142 => ?_)
                        have q142 : z94 = z142 := (e94).trans e142.symm
                        subst q142
                        refine g_laload 144 (gd rfl) rfl (n := 32) rfl (in_ix i94 rfl) (fun z143 e143 => ?_)
                        refine g_aload_n 145 (gd rfl) rfl rfl ?_
                        refine g_getA (q2 := 115) 148 (gd rfl) rfl rfl rfl rfl ?_
                        refine g_iload 150 (gd rfl) rfl rfl ?_
                        refine g_iaload 151 (gd rfl) rfl (n := 480) rfl (in_ix i60 rfl) (fun z150 e150 => ?_)
                        have i150 := inv_I hIc50 (n := 480) (t := 0) (-1000000) 1000000 rfl (in_ix i60 rfl) rfl e150
                        refine g_i2l 152 (gd rfl) rfl (fun z151 e151 => ?_)
                        have i151 := l_i e151 i150
                        refine g_ladd 153 (gd rfl) rfl (fun z152 e152 => ?_)
                        refine g_lcmp 154 (gd rfl) rfl (fun z153 e153 => ?_)
                        have i153 := lc_in e153
                        refine g_if_ne 157 219 (gd rfl) rfl rfl (fun c154 => ?_) (fun c154 => ?_)
                        · skip
                          have c154a := lc_ne e153 c154
                          refine g_iinc 222 (gd rfl) rfl rfl (Nat.le_of_ble_eq_true rfl) (fun z219 e219 => ?_)
                          have i219 := in_add 1 320 e219 i60 (in_c 1 rfl) rfl rfl
                          refine g_goto 50 (gd rfl) rfl ?_
                          have n50 : (u_109_19).toInt ≤ (z219).toInt := by exact (have a0 := in_u j50_3; have a1 := in_u h1; have a2 := in_u ro_109_20; have a3 := in_u ro_109_19; have a4 := in_u i60; have a5 := in_u i219; have a6 := t_add e219 i60 (in_c 1 rfl) rfl; have a7 := in_u ((in_c 1 rfl)); have a8 := tx_i2l e151; have a9 := in_u i150; have a10 := in_u i59; have a11 := t_add e59 ro_109_19 (in_c 160 rfl) rfl; have a12 := in_u ((in_c 160 rfl)); have oc := oc_313_109; by omega)
                          have n50a : (z219).toInt ≤ (u_109_19).toInt + 160 := by exact (have a0 := in_u j50_3; have a1 := in_u h1; have a2 := in_u ro_109_20; have a3 := in_u ro_109_19; have a4 := in_u i60; have a5 := in_u i219; have a6 := t_add e219 i60 (in_c 1 rfl) rfl; have a7 := in_u ((in_c 1 rfl)); have a8 := tx_i2l e151; have a9 := in_u i150; have a10 := in_u i59; have a11 := t_add e59 ro_109_19 (in_c 160 rfl) rfl; have a12 := in_u ((in_c 160 rfl)); have oc := oc_313_109; by omega)
                          have n50b : FQI s (x1).toNatClampNeg (x2) (sc50.1 131) (y36_3).toNatClampNeg ((z219).toInt - u_109_19.toInt).toNat := by rw [show ((z219).toInt - u_109_19.toInt).toNat = ((y50_4).toInt - u_109_19.toInt).toNat + 1 from (by exact (have a0 := in_u j50_3; have a1 := in_u h1; have a2 := in_u ro_109_20; have a3 := in_u ro_109_19; have a4 := in_u i60; have a5 := in_u i219; have a6 := t_add e219 i60 (in_c 1 rfl) rfl; have a7 := in_u ((in_c 1 rfl)); have a8 := tx_i2l e151; have a9 := in_u i150; have a10 := in_u i59; have a11 := t_add e59 ro_109_19 (in_c 160 rfl) rfl; have a12 := in_u ((in_c 160 rfl)); have oc := oc_313_109; by omega))]; exact fqi_no g50_0 (fun t1 t2 t3 t4 t5 => by exfalso; have hbd := (q_0.2.1 z94.toNatClampNeg (bt_yes e95x2 e95x4 i94 c95x6)).2.2; rw [← hFc50.2.1 130 rfl, ← e143] at hbd; have hz152 : z152.toInt = z143.toInt + z150.toInt := (by have hw := i150; unfold In at hw; rw [ladd_t e152 (by rw [tx_i2l e151]; omega) (by rw [tx_i2l e151]; omega), tx_i2l e151]); rw [(ix_k (y := y50_4) e_109_19 (by exact (have a0 := in_u j50_3; have a1 := in_u h1; have a2 := in_u ro_109_20; have a3 := in_u ro_109_19; have a4 := in_u i60; have a5 := in_u i219; have a6 := t_add e219 i60 (in_c 1 rfl) rfl; have a7 := in_u ((in_c 1 rfl)); have a8 := tx_i2l e151; have a9 := in_u i150; have a10 := in_u i59; have a11 := t_add e59 ro_109_19 (in_c 160 rfl) rfl; have a12 := in_u ((in_c 160 rfl)); have oc := oc_313_109; by omega)) (by exact (have a0 := in_u j50_3; have a1 := in_u h1; have a2 := in_u ro_109_20; have a3 := in_u ro_109_19; have a4 := in_u i60; have a5 := in_u i219; have a6 := t_add e219 i60 (in_c 1 rfl) rfl; have a7 := in_u ((in_c 1 rfl)); have a8 := tx_i2l e151; have a9 := in_u i150; have a10 := in_u i59; have a11 := t_add e59 ro_109_19 (in_c 160 rfl) rfl; have a12 := in_u ((in_c 160 rfl)); have oc := oc_313_109; by omega))), ← hFc50.1 113 rfl, ← e80, ← hFc50.1 114 rfl, ← e94, ← hFc50.1 115 rfl, ← e150, ← hFc50.2.1 130 rfl] at t5; rw [← e131, ← e143] at t5; have h := c154a; omega)
                          exact gg_w (by first | exact Nat.le_add_right _ _ | exact gw2 | exact gw3 | exact gwe rfl | exact gwf rfl | exact gwg rfl | exact gwh rfl | omega) (gg_f (gf_cons rfl (gf_cons rfl (gf_cons rfl (gf_cons rfl (gf_cons rfl gf_nil))))) (ih50 sc50 z219 hIc50 hFc50 (in_w 0 31 j50_3 rfl) (in_w 0 400 i219 rfl) n50 n50a n50b (m_up mm50 (t_add e219 i60 (in_c 1 rfl) rfl) (in_w 1 1 (in_c 1 rfl) rfl))))
                        · skip
                          have i154 := z_eq 0 0 c154 i153 rfl
                          have c154a := lc_eq e153 c154
                          refine g_aload_n 158 (gd rfl) rfl rfl ?_
                          refine g_getA (q2 := 131) 161 (gd rfl) rfl rfl rfl rfl ?_
                          refine g_aload_n 162 (gd rfl) rfl rfl ?_
                          refine g_getA (q2 := 114) 165 (gd rfl) rfl rfl rfl rfl ?_
                          refine g_iload 167 (gd rfl) rfl rfl ?_
                          refine g_iaload 168 (gd rfl) rfl (n := 480) rfl (in_ix i60 rfl) (fun z167 e167 => ?_)
                          have q167 : z94 = z167 := (e94).trans e167.symm
                          subst q167
                          refine g_iaload 169 (gd rfl) rfl (n := 32) rfl (in_ix i94 rfl) (fun z168 e168 => ?_)
                          refine g_iconst 1 170 (gd rfl) rfl rfl ?_
                          refine g_iadd 171 (gd rfl) rfl (fun z170 e170 => ?_)
                          refine g_istore 173 (gd rfl) rfl (Nat.le_of_ble_eq_true rfl) ?_
                          refine g_aload_n 174 (gd rfl) rfl rfl ?_
                          refine g_getA (q2 := 131) 177 (gd rfl) rfl rfl rfl rfl ?_
                          refine g_aload_n 178 (gd rfl) rfl rfl ?_
                          refine g_getA (q2 := 113) 181 (gd rfl) rfl rfl rfl rfl ?_
                          refine g_iload 183 (gd rfl) rfl rfl ?_
                          refine g_iaload 184 (gd rfl) rfl (n := 480) rfl (in_ix i60 rfl) (fun z183 e183 => ?_)
                          have q183 : z80 = z183 := (e80).trans e183.symm
                          subst q183
                          refine g_iload 186 (gd rfl) rfl rfl ?_
                          refine g_aload_n 187 (gd rfl) rfl rfl ?_
                          refine g_getA (q2 := 131) 190 (gd rfl) rfl rfl rfl rfl ?_
                          refine g_aload_n 191 (gd rfl) rfl rfl ?_
                          refine g_getA (q2 := 113) 194 (gd rfl) rfl rfl rfl rfl ?_
                          refine g_iload 196 (gd rfl) rfl rfl ?_
                          refine g_iaload 197 (gd rfl) rfl (n := 480) rfl (in_ix i60 rfl) (fun z196 e196 => ?_)
                          have q196 : z80 = z196 := (e80).trans e196.symm
                          subst q196
                          refine g_iaload 198 (gd rfl) rfl (n := 32) rfl (in_ix i80 rfl) (fun z197 e197 => ?_)
                          refine g_cmp_ge 201 206 (gd rfl) rfl rfl (fun c198 => ?_) (fun c198 => ?_)
                          · skip
                            refine g_aload_n 207 (gd rfl) rfl rfl ?_
                            refine g_getA (q2 := 131) 210 (gd rfl) rfl rfl rfl rfl ?_
                            refine g_aload_n 211 (gd rfl) rfl rfl ?_
                            refine g_getA (q2 := 113) 214 (gd rfl) rfl rfl rfl rfl ?_
                            refine g_iload 216 (gd rfl) rfl rfl ?_
                            refine g_iaload 217 (gd rfl) rfl (n := 480) rfl (in_ix i60 rfl) (fun z216 e216 => ?_)
                            have q216 : z80 = z216 := (e80).trans e216.symm
                            subst q216
                            refine g_iaload 218 (gd rfl) rfl (n := 32) rfl (in_ix i80 rfl) (fun z217 e217 => ?_)
                            have q217 : z197 = z217 := (e197).trans e217.symm
                            subst q217
                            refine g_iastore 219 (gd rfl) rfl (n := 32) rfl (in_ix i80 rfl) ?_
                            have hI218 := inv_sI (q := 131) (j := z80.toNatClampNeg) hIc50 rfl (in_w (-2147483648) 2147483647 (i_rng z197) rfl)
                            refine g_iinc 222 (gd rfl) rfl rfl (Nat.le_of_ble_eq_true rfl) (fun z219 e219 => ?_)
                            have i219 := in_add 1 320 e219 i60 (in_c 1 rfl) rfl rfl
                            refine g_goto 50 (gd rfl) rfl ?_
                            have n50 : (u_109_19).toInt ≤ (z219).toInt := by exact (have a0 := in_u j50_3; have a1 := in_u h1; have a2 := in_u ro_109_20; have a3 := in_u ro_109_19; have a4 := in_u i60; have a5 := in_u i219; have a6 := t_add e219 i60 (in_c 1 rfl) rfl; have a7 := in_u ((in_c 1 rfl)); have a8 := tx_i2l e151; have a9 := in_u i150; have a10 := in_u i59; have a11 := t_add e59 ro_109_19 (in_c 160 rfl) rfl; have a12 := in_u ((in_c 160 rfl)); have oc := oc_313_109; by omega)
                            have n50a : (z219).toInt ≤ (u_109_19).toInt + 160 := by exact (have a0 := in_u j50_3; have a1 := in_u h1; have a2 := in_u ro_109_20; have a3 := in_u ro_109_19; have a4 := in_u i60; have a5 := in_u i219; have a6 := t_add e219 i60 (in_c 1 rfl) rfl; have a7 := in_u ((in_c 1 rfl)); have a8 := tx_i2l e151; have a9 := in_u i150; have a10 := in_u i59; have a11 := t_add e59 ro_109_19 (in_c 160 rfl) rfl; have a12 := in_u ((in_c 160 rfl)); have oc := oc_313_109; by omega)
                            have n50b : FQI s (x1).toNatClampNeg (x2) ((sI sc50 131 z80.toNatClampNeg z197).1 131) (y36_3).toNatClampNeg ((z219).toInt - u_109_19.toInt).toNat := by have hn94 : z94.toInt < nmx s := (by have hk := q_0.2.1 z94.toNatClampNeg (bt_yes e95x2 e95x4 i94 c95x6); have hk1 := hk.1; have r94 := i94; unfold In at r94; have e94n : z94.toNatClampNeg = z94.toInt.toNat := rfl; omega); have hbd := (q_0.2.1 z94.toNatClampNeg (bt_yes e95x2 e95x4 i94 c95x6)).2.2; rw [← hFc50.2.1 130 rfl, ← e143] at hbd; have hz152 : z152.toInt = z143.toInt + z150.toInt := (by have hw := i150; unfold In at hw; rw [ladd_t e152 (by rw [tx_i2l e151]; omega) (by rw [tx_i2l e151]; omega), tx_i2l e151]); have hfq := g50_0.1.1 z94.toNatClampNeg (nat_jn i94 hn94).1 (nat_jn i94 hn94).2; rw [← e168] at hfq; rw [show ((z219).toInt - u_109_19.toInt).toNat = ((y50_4).toInt - u_109_19.toInt).toNat + 1 from (by exact (have a0 := in_u j50_3; have a1 := in_u h1; have a2 := in_u ro_109_20; have a3 := in_u ro_109_19; have a4 := in_u i60; have a5 := in_u i219; have a6 := t_add e219 i60 (in_c 1 rfl) rfl; have a7 := in_u ((in_c 1 rfl)); have a8 := tx_i2l e151; have a9 := in_u i150; have a10 := in_u i59; have a11 := t_add e59 ro_109_19 (in_c 160 rfl) rfl; have a12 := in_u ((in_c 160 rfl)); have oc := oc_313_109; by omega)), sI_q]; exact fqi_st hI g50_0 (by exact (have a0 := in_u j50_3; have a1 := in_u h1; have a2 := in_u ro_109_20; have a3 := in_u ro_109_19; have a4 := in_u i60; have a5 := in_u i219; have a6 := t_add e219 i60 (in_c 1 rfl) rfl; have a7 := in_u ((in_c 1 rfl)); have a8 := tx_i2l e151; have a9 := in_u i150; have a10 := in_u i59; have a11 := t_add e59 ro_109_19 (in_c 160 rfl) rfl; have a12 := in_u ((in_c 160 rfl)); have oc := oc_313_109; by omega)) (by rw [(ix_k (y := y50_4) e_109_19 (by exact (have a0 := in_u j50_3; have a1 := in_u h1; have a2 := in_u ro_109_20; have a3 := in_u ro_109_19; have a4 := in_u i60; have a5 := in_u i219; have a6 := t_add e219 i60 (in_c 1 rfl) rfl; have a7 := in_u ((in_c 1 rfl)); have a8 := tx_i2l e151; have a9 := in_u i150; have a10 := in_u i59; have a11 := t_add e59 ro_109_19 (in_c 160 rfl) rfl; have a12 := in_u ((in_c 160 rfl)); have oc := oc_313_109; by omega)) (by exact (have a0 := in_u j50_3; have a1 := in_u h1; have a2 := in_u ro_109_20; have a3 := in_u ro_109_19; have a4 := in_u i60; have a5 := in_u i219; have a6 := t_add e219 i60 (in_c 1 rfl) rfl; have a7 := in_u ((in_c 1 rfl)); have a8 := tx_i2l e151; have a9 := in_u i150; have a10 := in_u i59; have a11 := t_add e59 ro_109_19 (in_c 160 rfl) rfl; have a12 := in_u ((in_c 160 rfl)); have oc := oc_313_109; by omega))), ← hFc50.1 112 rfl, ← e69]; exact c70) (by rw [(ix_k (y := y50_4) e_109_19 (by exact (have a0 := in_u j50_3; have a1 := in_u h1; have a2 := in_u ro_109_20; have a3 := in_u ro_109_19; have a4 := in_u i60; have a5 := in_u i219; have a6 := t_add e219 i60 (in_c 1 rfl) rfl; have a7 := in_u ((in_c 1 rfl)); have a8 := tx_i2l e151; have a9 := in_u i150; have a10 := in_u i59; have a11 := t_add e59 ro_109_19 (in_c 160 rfl) rfl; have a12 := in_u ((in_c 160 rfl)); have oc := oc_313_109; by omega)) (by exact (have a0 := in_u j50_3; have a1 := in_u h1; have a2 := in_u ro_109_20; have a3 := in_u ro_109_19; have a4 := in_u i60; have a5 := in_u i219; have a6 := t_add e219 i60 (in_c 1 rfl) rfl; have a7 := in_u ((in_c 1 rfl)); have a8 := tx_i2l e151; have a9 := in_u i150; have a10 := in_u i59; have a11 := t_add e59 ro_109_19 (in_c 160 rfl) rfl; have a12 := in_u ((in_c 160 rfl)); have oc := oc_313_109; by omega))), ← hFc50.1 113 rfl]; exact e80) (by rw [(ix_k (y := y50_4) e_109_19 (by exact (have a0 := in_u j50_3; have a1 := in_u h1; have a2 := in_u ro_109_20; have a3 := in_u ro_109_19; have a4 := in_u i60; have a5 := in_u i219; have a6 := t_add e219 i60 (in_c 1 rfl) rfl; have a7 := in_u ((in_c 1 rfl)); have a8 := tx_i2l e151; have a9 := in_u i150; have a10 := in_u i59; have a11 := t_add e59 ro_109_19 (in_c 160 rfl) rfl; have a12 := in_u ((in_c 160 rfl)); have oc := oc_313_109; by omega)) (by exact (have a0 := in_u j50_3; have a1 := in_u h1; have a2 := in_u ro_109_20; have a3 := in_u ro_109_19; have a4 := in_u i60; have a5 := in_u i219; have a6 := t_add e219 i60 (in_c 1 rfl) rfl; have a7 := in_u ((in_c 1 rfl)); have a8 := tx_i2l e151; have a9 := in_u i150; have a10 := in_u i59; have a11 := t_add e59 ro_109_19 (in_c 160 rfl) rfl; have a12 := in_u ((in_c 160 rfl)); have oc := oc_313_109; by omega))), ← hFc50.1 114 rfl]; exact e94) (bt_yes e81x2 e81x4 i80 c81x6) (bt_yes e95x2 e95x4 i94 c95x6) (by rw [← hFc50.2.1 130 rfl, ← e112]; have h := i117a.2; omega) (by rw [← hFc50.2.1 130 rfl, ← e131, ← e143, (ix_k (y := y50_4) e_109_19 (by exact (have a0 := in_u j50_3; have a1 := in_u h1; have a2 := in_u ro_109_20; have a3 := in_u ro_109_19; have a4 := in_u i60; have a5 := in_u i219; have a6 := t_add e219 i60 (in_c 1 rfl) rfl; have a7 := in_u ((in_c 1 rfl)); have a8 := tx_i2l e151; have a9 := in_u i150; have a10 := in_u i59; have a11 := t_add e59 ro_109_19 (in_c 160 rfl) rfl; have a12 := in_u ((in_c 160 rfl)); have oc := oc_313_109; by omega)) (by exact (have a0 := in_u j50_3; have a1 := in_u h1; have a2 := in_u ro_109_20; have a3 := in_u ro_109_19; have a4 := in_u i60; have a5 := in_u i219; have a6 := t_add e219 i60 (in_c 1 rfl) rfl; have a7 := in_u ((in_c 1 rfl)); have a8 := tx_i2l e151; have a9 := in_u i150; have a10 := in_u i59; have a11 := t_add e59 ro_109_19 (in_c 160 rfl) rfl; have a12 := in_u ((in_c 160 rfl)); have oc := oc_313_109; by omega))), ← hFc50.1 115 rfl, ← e150]; have h := c154a; omega) (by rw [← e168]; exact t_add (a := 0) (b := 1000) e170 ⟨hfq.1, hfq.2⟩ (in_c 1 rfl) rfl) (Or.inr ⟨by rw [← e197]; have h := c198; omega, e197⟩)
                            exact gg_w (by first | exact Nat.le_add_right _ _ | exact gw2 | exact gw3 | exact gwe rfl | exact gwf rfl | exact gwg rfl | exact gwh rfl | omega) (gg_f (gf_cons rfl (gf_cons rfl (gf_cons rfl (gf_cons rfl (gf_cons rfl gf_nil))))) (ih50 (sI sc50 131 z80.toNatClampNeg z197) z219 hI218 (fr_sI rfl hFc50) (in_w 0 31 j50_3 rfl) (in_w 0 400 i219 rfl) n50 n50a n50b (m_up mm50 (t_add e219 i60 (in_c 1 rfl) rfl) (in_w 1 1 (in_c 1 rfl) rfl))))
                          · skip
                            have i198 := r_lt1 (-2147483648) 2147483646 c198 (i_rng z170) (i_rng z197) rfl
                            have i198a := r_lt2 (-2147483647) 2147483647 c198 (i_rng z170) (i_rng z197) rfl
                            refine g_iload 203 (gd rfl) rfl rfl ?_
                            refine g_goto 218 (gd rfl) rfl ?_
                            refine g_iastore 219 (gd rfl) rfl (n := 32) rfl (in_ix i80 rfl) ?_
                            have hI218 := inv_sI (q := 131) (j := z80.toNatClampNeg) hIc50 rfl (in_w (-2147483648) 2147483647 i198 rfl)
                            refine g_iinc 222 (gd rfl) rfl rfl (Nat.le_of_ble_eq_true rfl) (fun z219 e219 => ?_)
                            have i219 := in_add 1 320 e219 i60 (in_c 1 rfl) rfl rfl
                            refine g_goto 50 (gd rfl) rfl ?_
                            have n50 : (u_109_19).toInt ≤ (z219).toInt := by exact (have a0 := in_u j50_3; have a1 := in_u h1; have a2 := in_u ro_109_20; have a3 := in_u ro_109_19; have a4 := in_u i60; have a5 := in_u i198; have a6 := in_u i219; have a7 := t_add e219 i60 (in_c 1 rfl) rfl; have a8 := in_u ((in_c 1 rfl)); have a9 := tx_i2l e151; have a10 := in_u i150; have a11 := in_u i59; have a12 := t_add e59 ro_109_19 (in_c 160 rfl) rfl; have a13 := in_u ((in_c 160 rfl)); have oc := oc_313_109; by omega)
                            have n50a : (z219).toInt ≤ (u_109_19).toInt + 160 := by exact (have a0 := in_u j50_3; have a1 := in_u h1; have a2 := in_u ro_109_20; have a3 := in_u ro_109_19; have a4 := in_u i60; have a5 := in_u i198; have a6 := in_u i219; have a7 := t_add e219 i60 (in_c 1 rfl) rfl; have a8 := in_u ((in_c 1 rfl)); have a9 := tx_i2l e151; have a10 := in_u i150; have a11 := in_u i59; have a12 := t_add e59 ro_109_19 (in_c 160 rfl) rfl; have a13 := in_u ((in_c 160 rfl)); have oc := oc_313_109; by omega)
                            have n50b : FQI s (x1).toNatClampNeg (x2) ((sI sc50 131 z80.toNatClampNeg z170).1 131) (y36_3).toNatClampNeg ((z219).toInt - u_109_19.toInt).toNat := by have hn94 : z94.toInt < nmx s := (by have hk := q_0.2.1 z94.toNatClampNeg (bt_yes e95x2 e95x4 i94 c95x6); have hk1 := hk.1; have r94 := i94; unfold In at r94; have e94n : z94.toNatClampNeg = z94.toInt.toNat := rfl; omega); have hbd := (q_0.2.1 z94.toNatClampNeg (bt_yes e95x2 e95x4 i94 c95x6)).2.2; rw [← hFc50.2.1 130 rfl, ← e143] at hbd; have hz152 : z152.toInt = z143.toInt + z150.toInt := (by have hw := i150; unfold In at hw; rw [ladd_t e152 (by rw [tx_i2l e151]; omega) (by rw [tx_i2l e151]; omega), tx_i2l e151]); have hfq := g50_0.1.1 z94.toNatClampNeg (nat_jn i94 hn94).1 (nat_jn i94 hn94).2; rw [← e168] at hfq; rw [show ((z219).toInt - u_109_19.toInt).toNat = ((y50_4).toInt - u_109_19.toInt).toNat + 1 from (by exact (have a0 := in_u j50_3; have a1 := in_u h1; have a2 := in_u ro_109_20; have a3 := in_u ro_109_19; have a4 := in_u i60; have a5 := in_u i198; have a6 := in_u i219; have a7 := t_add e219 i60 (in_c 1 rfl) rfl; have a8 := in_u ((in_c 1 rfl)); have a9 := tx_i2l e151; have a10 := in_u i150; have a11 := in_u i59; have a12 := t_add e59 ro_109_19 (in_c 160 rfl) rfl; have a13 := in_u ((in_c 160 rfl)); have oc := oc_313_109; by omega)), sI_q]; exact fqi_st hI g50_0 (by exact (have a0 := in_u j50_3; have a1 := in_u h1; have a2 := in_u ro_109_20; have a3 := in_u ro_109_19; have a4 := in_u i60; have a5 := in_u i198; have a6 := in_u i219; have a7 := t_add e219 i60 (in_c 1 rfl) rfl; have a8 := in_u ((in_c 1 rfl)); have a9 := tx_i2l e151; have a10 := in_u i150; have a11 := in_u i59; have a12 := t_add e59 ro_109_19 (in_c 160 rfl) rfl; have a13 := in_u ((in_c 160 rfl)); have oc := oc_313_109; by omega)) (by rw [(ix_k (y := y50_4) e_109_19 (by exact (have a0 := in_u j50_3; have a1 := in_u h1; have a2 := in_u ro_109_20; have a3 := in_u ro_109_19; have a4 := in_u i60; have a5 := in_u i198; have a6 := in_u i219; have a7 := t_add e219 i60 (in_c 1 rfl) rfl; have a8 := in_u ((in_c 1 rfl)); have a9 := tx_i2l e151; have a10 := in_u i150; have a11 := in_u i59; have a12 := t_add e59 ro_109_19 (in_c 160 rfl) rfl; have a13 := in_u ((in_c 160 rfl)); have oc := oc_313_109; by omega)) (by exact (have a0 := in_u j50_3; have a1 := in_u h1; have a2 := in_u ro_109_20; have a3 := in_u ro_109_19; have a4 := in_u i60; have a5 := in_u i198; have a6 := in_u i219; have a7 := t_add e219 i60 (in_c 1 rfl) rfl; have a8 := in_u ((in_c 1 rfl)); have a9 := tx_i2l e151; have a10 := in_u i150; have a11 := in_u i59; have a12 := t_add e59 ro_109_19 (in_c 160 rfl) rfl; have a13 := in_u ((in_c 160 rfl)); have oc := oc_313_109; by omega))), ← hFc50.1 112 rfl, ← e69]; exact c70) (by rw [(ix_k (y := y50_4) e_109_19 (by exact (have a0 := in_u j50_3; have a1 := in_u h1; have a2 := in_u ro_109_20; have a3 := in_u ro_109_19; have a4 := in_u i60; have a5 := in_u i198; have a6 := in_u i219; have a7 := t_add e219 i60 (in_c 1 rfl) rfl; have a8 := in_u ((in_c 1 rfl)); have a9 := tx_i2l e151; have a10 := in_u i150; have a11 := in_u i59; have a12 := t_add e59 ro_109_19 (in_c 160 rfl) rfl; have a13 := in_u ((in_c 160 rfl)); have oc := oc_313_109; by omega)) (by exact (have a0 := in_u j50_3; have a1 := in_u h1; have a2 := in_u ro_109_20; have a3 := in_u ro_109_19; have a4 := in_u i60; have a5 := in_u i198; have a6 := in_u i219; have a7 := t_add e219 i60 (in_c 1 rfl) rfl; have a8 := in_u ((in_c 1 rfl)); have a9 := tx_i2l e151; have a10 := in_u i150; have a11 := in_u i59; have a12 := t_add e59 ro_109_19 (in_c 160 rfl) rfl; have a13 := in_u ((in_c 160 rfl)); have oc := oc_313_109; by omega))), ← hFc50.1 113 rfl]; exact e80) (by rw [(ix_k (y := y50_4) e_109_19 (by exact (have a0 := in_u j50_3; have a1 := in_u h1; have a2 := in_u ro_109_20; have a3 := in_u ro_109_19; have a4 := in_u i60; have a5 := in_u i198; have a6 := in_u i219; have a7 := t_add e219 i60 (in_c 1 rfl) rfl; have a8 := in_u ((in_c 1 rfl)); have a9 := tx_i2l e151; have a10 := in_u i150; have a11 := in_u i59; have a12 := t_add e59 ro_109_19 (in_c 160 rfl) rfl; have a13 := in_u ((in_c 160 rfl)); have oc := oc_313_109; by omega)) (by exact (have a0 := in_u j50_3; have a1 := in_u h1; have a2 := in_u ro_109_20; have a3 := in_u ro_109_19; have a4 := in_u i60; have a5 := in_u i198; have a6 := in_u i219; have a7 := t_add e219 i60 (in_c 1 rfl) rfl; have a8 := in_u ((in_c 1 rfl)); have a9 := tx_i2l e151; have a10 := in_u i150; have a11 := in_u i59; have a12 := t_add e59 ro_109_19 (in_c 160 rfl) rfl; have a13 := in_u ((in_c 160 rfl)); have oc := oc_313_109; by omega))), ← hFc50.1 114 rfl]; exact e94) (bt_yes e81x2 e81x4 i80 c81x6) (bt_yes e95x2 e95x4 i94 c95x6) (by rw [← hFc50.2.1 130 rfl, ← e112]; have h := i117a.2; omega) (by rw [← hFc50.2.1 130 rfl, ← e131, ← e143, (ix_k (y := y50_4) e_109_19 (by exact (have a0 := in_u j50_3; have a1 := in_u h1; have a2 := in_u ro_109_20; have a3 := in_u ro_109_19; have a4 := in_u i60; have a5 := in_u i198; have a6 := in_u i219; have a7 := t_add e219 i60 (in_c 1 rfl) rfl; have a8 := in_u ((in_c 1 rfl)); have a9 := tx_i2l e151; have a10 := in_u i150; have a11 := in_u i59; have a12 := t_add e59 ro_109_19 (in_c 160 rfl) rfl; have a13 := in_u ((in_c 160 rfl)); have oc := oc_313_109; by omega)) (by exact (have a0 := in_u j50_3; have a1 := in_u h1; have a2 := in_u ro_109_20; have a3 := in_u ro_109_19; have a4 := in_u i60; have a5 := in_u i198; have a6 := in_u i219; have a7 := t_add e219 i60 (in_c 1 rfl) rfl; have a8 := in_u ((in_c 1 rfl)); have a9 := tx_i2l e151; have a10 := in_u i150; have a11 := in_u i59; have a12 := t_add e59 ro_109_19 (in_c 160 rfl) rfl; have a13 := in_u ((in_c 160 rfl)); have oc := oc_313_109; by omega))), ← hFc50.1 115 rfl, ← e150]; have h := c154a; omega) (by rw [← e168]; exact t_add (a := 0) (b := 1000) e170 ⟨hfq.1, hfq.2⟩ (in_c 1 rfl) rfl) (Or.inl ⟨by rw [← e197]; have h := c198; omega, rfl⟩)
                            exact gg_w (by first | exact Nat.le_add_right _ _ | exact gw2 | exact gw3 | exact gwe rfl | exact gwf rfl | exact gwg rfl | exact gwh rfl | omega) (gg_f (gf_cons rfl (gf_cons rfl (gf_cons rfl (gf_cons rfl (gf_cons rfl gf_nil))))) (ih50 (sI sc50 131 z80.toNatClampNeg z170) z219 hI218 (fr_sI rfl hFc50) (in_w 0 31 j50_3 rfl) (in_w 0 400 i219 rfl) n50 n50a n50b (m_up mm50 (t_add e219 i60 (in_c 1 rfl) rfl) (in_w 1 1 (in_c 1 rfl) rfl))))
      refine g_iload_n 37 (gd rfl) rfl rfl ?_
      refine g_aload_n 38 (gd rfl) rfl rfl ?_
      refine g_getI 41 (gd rfl) rfl rfl rfl (fun z38 e38 => ?_)
      have q38 : u_109_20 = z38 := (fr_F e_109_20 hFc36 rfl).trans e38.symm
      subst q38
      refine g_cmp_ge 44 231 (gd rfl) rfl rfl (fun c41 => ?_) (fun c41 => ?_)
      · skip
        have n231 : WFN sc36 (x1).toNatClampNeg (x2) := by exact wfn_i (by unfold nmx; rw [← e_109_20]; exact (have a0 := in_u h1; have a1 := in_u ro_109_20; have a2 := in_u ro_109_19; have a3 := in_u j36_3; have oc := oc_313_109; by omega)) (hFc36.1 112 rfl) (hFc36.1 113 rfl) (hFc36.1 114 rfl) (hFc36.1 115 rfl) (hFc36.2.1 130 rfl) (hFc36.2.2.1 109 19 rfl) (hFc36.2.2.1 109 20 rfl) q_0 g36_0 (by unfold nmx; rw [← e_109_20]; show _ ≤ ((y36_3.toInt.toNat : Nat) : Int); exact (have a0 := in_u h1; have a1 := in_u ro_109_20; have a2 := in_u ro_109_19; have a3 := in_u j36_3; have oc := oc_313_109; by omega))
        have n231a : ∃ r : Nat, nmx sc36 ≤ (r : Int) ∧ FQ sc36 (x1).toNatClampNeg (x2) ((sc36).1 131) r := by exact ⟨(y36_3).toNatClampNeg, by unfold nmx; rw [hFc36.2.2.1 109 20 rfl, ← e_109_20]; show _ ≤ ((y36_3.toInt.toNat : Nat) : Int); exact (have a0 := in_u h1; have a1 := in_u ro_109_20; have a2 := in_u ro_109_19; have a3 := in_u j36_3; have oc := oc_313_109; by omega), fq_cg (hFc36.1 112 rfl) (hFc36.1 113 rfl) (hFc36.1 114 rfl) (hFc36.1 115 rfl) (hFc36.2.1 130 rfl) (hFc36.2.2.1 109 19 rfl) (hFc36.2.2.1 109 20 rfl) g36_0⟩
        exact g_return (gd rfl) rfl (hP _ _ ⟨sc36, hIc36, hFc36, rfl, rfl, n231, n231a⟩)
      · skip
        have i41 := r_lt1 0 31 c41 j36_3 ro_109_20 rfl
        have i41a := r_lt2 1 32 c41 j36_3 ro_109_20 rfl
        refine g_aload_n 45 (gd rfl) rfl rfl ?_
        refine g_getI 48 (gd rfl) rfl rfl rfl (fun z45 e45 => ?_)
        have q45 : u_109_19 = z45 := (fr_F e_109_19 hFc36 rfl).trans e45.symm
        subst q45
        refine g_istore 50 (gd rfl) rfl (Nat.le_of_ble_eq_true rfl) ?_
        have n50 : (u_109_19).toInt ≤ (u_109_19).toInt := by exact (have a0 := in_u h1; have a1 := in_u i41a; have a2 := in_u ro_109_19; have a3 := in_u i41; have oc := oc_313_109; by omega)
        have n50a : (u_109_19).toInt ≤ (u_109_19).toInt + 160 := by exact (have a0 := in_u h1; have a1 := in_u i41a; have a2 := in_u ro_109_19; have a3 := in_u i41; have oc := oc_313_109; by omega)
        have n50b : FQI s (x1).toNatClampNeg (x2) (sc36.1 131) (y36_3).toNatClampNeg ((u_109_19).toInt - u_109_19.toInt).toNat := by rw [show (u_109_19.toInt - u_109_19.toInt).toNat = 0 from (by omega)]; exact fqi_0 g36_0
        exact gg_w (by first | exact Nat.le_add_right _ _ | exact gw2 | exact gw3 | exact gwe rfl | exact gwf rfl | exact gwg rfl | exact gwh rfl | omega) (gg_f (gf_cons rfl (gf_cons rfl (gf_cons rfl (gf_cons rfl (gf_cons rfl gf_nil))))) (ct50 401 sc36 u_109_19 hIc36 hFc36 (in_w 0 31 i41 rfl) (in_w 0 400 ro_109_19 rfl) n50 n50a n50b (m_in 401 (in_w 0 400 ro_109_19 rfl) rfl)))
  have ct2 : ∀ (k2 : Nat) (sc2 : GS) (y2_3 : Int32), Inv sc2 → Fr fm_313 s sc2 → (In y2_3 0 32) → (∀ k : Nat, (k : Int) < (y2_3).toInt → (sc2.1 131 k).toInt = if k = (x1).toNatClampNeg then 0 else 1000) → 32 - (y2_3).toInt < (k2 : Int) → GG Z (d - 1) 313 post (gx xp) (11998835 + k2 * 900) 2 (fun j => xlook j [(0, .ref (A 109)), (1, .int x1), (2, .int x2), (3, .int y2_3)]) [] (WW Z A sc2 ++ ex) 0 0 := by
    intro k2
    induction k2 with
    | zero => intro sc2 y2_3 hIc2 hFc2 j2_3 g2_0 mm2; exact m_no mm2 j2_3 rfl
    | succ k2 ih2 =>
      intro sc2 y2_3 hIc2 hFc2 j2_3 g2_0 mm2
      refine gg_w (M := 11998835 + k2 * 900 + 900) gws ?_
      refine g_iload_n 3 (gd rfl) rfl rfl ?_
      refine g_aload_n 4 (gd rfl) rfl rfl ?_
      refine g_getI 7 (gd rfl) rfl rfl rfl (fun z4 e4 => ?_)
      have q4 : u_109_20 = z4 := (fr_F e_109_20 hFc2 rfl).trans e4.symm
      subst q4
      refine g_cmp_ge 10 34 (gd rfl) rfl rfl (fun c7 => ?_) (fun c7 => ?_)
      · skip
        refine g_iconst 0 35 (gd rfl) rfl rfl ?_
        refine g_istore_n 36 (gd rfl) rfl (Nat.le_of_ble_eq_true rfl) ?_
        have n36 : FQ s (x1).toNatClampNeg (x2) (sc2.1 131) ((Int32.ofInt 0)).toNatClampNeg := by exact fq_0 (fun v hv => g2_0 v (by unfold nmx at hv; rw [← e_109_20] at hv; exact (have a0 := in_u h1; have a1 := in_u ro_109_20; have a2 := in_u ro_109_19; have a3 := in_u j2_3; have a4 := in_u ((in_c 0 rfl)); have oc := oc_313_109; by omega)))
        exact gg_w (by first | exact Nat.le_add_right _ _ | exact gw2 | exact gw3 | exact gwe rfl | exact gwf rfl | exact gwg rfl | exact gwh rfl | omega) (gg_f (gf_cons rfl (gf_cons rfl (gf_cons rfl (gf_cons rfl gf_nil)))) (ct36 33 sc2 (Int32.ofInt 0) hIc2 hFc2 (in_w 0 32 (in_c 0 rfl) rfl) n36 (m_in 33 (in_w 0 32 (in_c 0 rfl) rfl) rfl)))
      · skip
        have i7 := r_lt1 0 31 c7 j2_3 ro_109_20 rfl
        have i7a := r_lt2 1 32 c7 j2_3 ro_109_20 rfl
        refine g_aload_n 11 (gd rfl) rfl rfl ?_
        refine g_getA (q2 := 131) 14 (gd rfl) rfl rfl rfl rfl ?_
        refine g_iload_n 15 (gd rfl) rfl rfl ?_
        refine g_iload_n 16 (gd rfl) rfl rfl ?_
        refine g_iload_n 17 (gd rfl) rfl rfl ?_
        refine g_cmp_ne 20 24 (gd rfl) rfl rfl (fun c17 => ?_) (fun c17 => ?_)
        · skip
          refine g_sipush 1000 27 (gd rfl) rfl rfl ?_
          refine g_iastore 28 (gd rfl) rfl (n := 32) rfl (in_ix i7 rfl) ?_
          have hI27 := inv_sI (q := 131) (j := y2_3.toNatClampNeg) hIc2 rfl (in_w (-2147483648) 2147483647 (in_c 1000 rfl) rfl)
          refine g_iinc 31 (gd rfl) rfl rfl (Nat.le_of_ble_eq_true rfl) (fun z28 e28 => ?_)
          have i28 := in_add 1 32 e28 i7 (in_c 1 rfl) rfl rfl
          refine g_goto 2 (gd rfl) rfl ?_
          have n2 : ∀ k : Nat, (k : Int) < (z28).toInt → ((sI sc2 131 y2_3.toNatClampNeg (Int32.ofInt 1000)).1 131 k).toInt = if k = (x1).toNatClampNeg then 0 else 1000 := by (intro k hk; have e3 : y2_3.toNatClampNeg = y2_3.toInt.toNat := rfl; have e1 : x1.toNatClampNeg = x1.toInt.toNat := rfl; have hc := c17; rw [sI_q]; by_cases c : k = y2_3.toNatClampNeg; (rw [c, up_e]; first | (rw [if_neg (by exact (have a0 := in_u h1; have a1 := in_u i7a; have a2 := in_u ro_109_19; have a3 := in_u i7; have a4 := in_u i28; have a5 := t_add e28 i7 (in_c 1 rfl) rfl; have a6 := in_u ((in_c 1 rfl)); have oc := oc_313_109; by omega))]; rfl) | (rw [if_pos (by exact (have a0 := in_u h1; have a1 := in_u i7a; have a2 := in_u ro_109_19; have a3 := in_u i7; have a4 := in_u i28; have a5 := t_add e28 i7 (in_c 1 rfl) rfl; have a6 := in_u ((in_c 1 rfl)); have oc := oc_313_109; by omega))]; rfl)); (rw [up_n c]; exact g2_0 k (by exact (have a0 := in_u h1; have a1 := in_u i7a; have a2 := in_u ro_109_19; have a3 := in_u i7; have a4 := in_u i28; have a5 := t_add e28 i7 (in_c 1 rfl) rfl; have a6 := in_u ((in_c 1 rfl)); have oc := oc_313_109; by omega))))
          exact gg_w (by first | exact Nat.le_add_right _ _ | exact gw2 | exact gw3 | exact gwe rfl | exact gwf rfl | exact gwg rfl | exact gwh rfl | omega) (gg_f (gf_cons rfl (gf_cons rfl (gf_cons rfl (gf_cons rfl gf_nil)))) (ih2 (sI sc2 131 y2_3.toNatClampNeg (Int32.ofInt 1000)) z28 hI27 (fr_sI rfl hFc2) (in_w 0 32 i28 rfl) n2 (m_up mm2 (t_add e28 i7 (in_c 1 rfl) rfl) (in_w 1 1 (in_c 1 rfl) rfl))))
        · skip
          refine g_iconst 0 21 (gd rfl) rfl rfl ?_
          refine g_goto 27 (gd rfl) rfl ?_
          refine g_iastore 28 (gd rfl) rfl (n := 32) rfl (in_ix i7 rfl) ?_
          have hI27 := inv_sI (q := 131) (j := y2_3.toNatClampNeg) hIc2 rfl (in_w (-2147483648) 2147483647 (in_c 0 rfl) rfl)
          refine g_iinc 31 (gd rfl) rfl rfl (Nat.le_of_ble_eq_true rfl) (fun z28 e28 => ?_)
          have i28 := in_add 1 32 e28 i7 (in_c 1 rfl) rfl rfl
          refine g_goto 2 (gd rfl) rfl ?_
          have n2 : ∀ k : Nat, (k : Int) < (z28).toInt → ((sI sc2 131 y2_3.toNatClampNeg (Int32.ofInt 0)).1 131 k).toInt = if k = (x1).toNatClampNeg then 0 else 1000 := by (intro k hk; have e3 : y2_3.toNatClampNeg = y2_3.toInt.toNat := rfl; have e1 : x1.toNatClampNeg = x1.toInt.toNat := rfl; have hc := c17; rw [sI_q]; by_cases c : k = y2_3.toNatClampNeg; (rw [c, up_e]; first | (rw [if_neg (by exact (have a0 := in_u h1; have a1 := in_u i7a; have a2 := in_u ro_109_19; have a3 := in_u i7; have a4 := in_u i28; have a5 := t_add e28 i7 (in_c 1 rfl) rfl; have a6 := in_u ((in_c 1 rfl)); have oc := oc_313_109; by omega))]; rfl) | (rw [if_pos (by exact (have a0 := in_u h1; have a1 := in_u i7a; have a2 := in_u ro_109_19; have a3 := in_u i7; have a4 := in_u i28; have a5 := t_add e28 i7 (in_c 1 rfl) rfl; have a6 := in_u ((in_c 1 rfl)); have oc := oc_313_109; by omega))]; rfl)); (rw [up_n c]; exact g2_0 k (by exact (have a0 := in_u h1; have a1 := in_u i7a; have a2 := in_u ro_109_19; have a3 := in_u i7; have a4 := in_u i28; have a5 := t_add e28 i7 (in_c 1 rfl) rfl; have a6 := in_u ((in_c 1 rfl)); have oc := oc_313_109; by omega))))
          exact gg_w (by first | exact Nat.le_add_right _ _ | exact gw2 | exact gw3 | exact gwe rfl | exact gwf rfl | exact gwg rfl | exact gwh rfl | omega) (gg_f (gf_cons rfl (gf_cons rfl (gf_cons rfl (gf_cons rfl gf_nil)))) (ih2 (sI sc2 131 y2_3.toNatClampNeg (Int32.ofInt 0)) z28 hI27 (fr_sI rfl hFc2) (in_w 0 32 i28 rfl) n2 (m_up mm2 (t_add e28 i7 (in_c 1 rfl) rfl) (in_w 1 1 (in_c 1 rfl) rfl))))
  refine g_enter2 (k := 313) (N := 12029435) (by first | exact dq1 hd rfl | exact dq0 hd rfl | exact dq2 hd rfl | exact dq3 hd rfl | omega) rfl (Nat.le_of_ble_eq_true rfl) ?_
  refine g_iconst 0 1 (gd rfl) rfl rfl ?_
  refine g_istore_n 2 (gd rfl) rfl (Nat.le_of_ble_eq_true rfl) ?_
  have n2 : ∀ k : Nat, (k : Int) < ((Int32.ofInt 0)).toInt → (s.1 131 k).toInt = if k = (x1).toNatClampNeg then 0 else 1000 := by (intro k hk; exfalso; have h0 : (Int32.ofInt 0).toInt = 0 := rfl; omega)
  exact gg_w (by first | exact Nat.le_of_ble_eq_true rfl | omega) (gg_f (gf_cons rfl (gf_cons rfl (gf_cons rfl (gf_cons rfl gf_nil)))) (ct2 33 s (Int32.ofInt 0) hI fr_rf (in_w 0 32 (in_c 0 rfl) rfl) n2 (m_in 33 (in_w 0 32 (in_c 0 rfl) rfl) rfl)))

theorem oc_312_109 : (Int32.ofInt (-1)).toInt = (-1) ∧ (Int32.ofInt 0).toInt = 0 ∧ (Int32.ofInt 1).toInt = 1 ∧ (Int32.ofInt 160).toInt = 160 ∧ (Int64.ofInt 0).toInt = 0 ∧ (Int64.ofInt 9000000000000000).toInt = 9000000000000000 := ⟨rfl, rfl, rfl, rfl, rfl, rfl⟩
set_option maxHeartbeats 4000000 in
/-- GraphHouseModel.toGoal -/
theorem f_312 {Z : AmZ} {A : Nat → Nat} {s : GS} {ex : va_W} {d : Nat} {X : AmX} {x1 : Int32} {x2 : Int32} (hd : 4 ≤ d) (hI : Inv s) (h1 : In x1 0 31) (q_0 : BTS s (x1).toNatClampNeg (x2)) : GC Z d 312 [.ref (A 109), .int x1, .int x2] (WW Z A s ++ ex) 0 0 (fun v u => ∃ t : GS, Inv t ∧ Fr fm_312 s t ∧ ∃ z : Int32, v = some (.int z) ∧ u = WW Z A t ++ ex ∧ In z 0 1 ∧ ((z).toInt ≠ 0 → WFN t (x1).toNatClampNeg (x2)) ∧ ((z).toInt ≠ 0 → ∀ v : Nat, bt (x2) v = true → ((((t).2.1 130) v).toInt < 9000000000000000 ∧ LEA (TAR s (x2)) (wZ s) v (x1).toNatClampNeg (((t).2.1 130) v).toInt) ∨ (¬ (((t).2.1 130) v).toInt < 9000000000000000 ∧ ∀ (k : Nat) (x : Int), ¬ wkc (TAR s (x2)) (wZ s) k v (x1).toNatClampNeg x)) ∧ ((z).toInt = 0 → ∃ v : Nat, bt (x2) v = true ∧ UNB (TAR s (x2)) (wZ s) v (x1).toNatClampNeg) ∧ ((z).toInt ≠ 0 → ∃ r : Nat, nmx t ≤ (r : Int) ∧ FQ t (x1).toNatClampNeg (x2) ((t).1 131) r)) X := by
  intro post xp hP hX
  obtain ⟨u_109_19, e_109_19⟩ : ∃ w, w = s.2.2.1 109 19 := ⟨_, rfl⟩
  have ro_109_19 := inv_F hI 0 160 rfl e_109_19
  obtain ⟨u_109_20, e_109_20⟩ : ∃ w, w = s.2.2.1 109 20 := ⟨_, rfl⟩
  have ro_109_20 := inv_F hI 0 32 rfl e_109_20
  have ct234 : ∀ (sc234 : GS) (y234_3 : Int32) (y234_4 : Int32), Inv sc234 → Fr fm_312 s sc234 → (In y234_3 0 1) → (In y234_4 0 33) → ((y234_3).toInt = 0 → TGI s (x1).toNatClampNeg (x2) 10000000000 sc234 ∧ TCL s (x2) sc234 160) → (TG1 s (x1).toNatClampNeg x2 ((sc234).2.1 130) ∧ TG2 s (x1).toNatClampNeg x2 0 ((sc234).2.1 130) ∧ ((y234_3).toInt ≠ 0 → ∃ r : Nat, (s.2.2.1 109 20).toInt.toNat < r ∧ TG3 s (x1).toNatClampNeg x2 r ((sc234).2.1 130))) → GG Z (d - 1) 312 post (gx xp) (901) 234 (fun j => xlook j [(0, .ref (A 109)), (1, .int x1), (2, .int x2), (3, .int y234_3), (4, .int y234_4)]) [] (WW Z A sc234 ++ ex) 0 0 := by
    intro sc234 y234_3 y234_4 hIc234 hFc234 j234_3 j234_4 g234_0 g234_1
    refine g_iload_n 235 (gd rfl) rfl rfl ?_
    refine g_if_eq 238 240 (gd rfl) rfl rfl (fun c235 => ?_) (fun c235 => ?_)
    · skip
      have i235 := z_eq 0 0 c235 j234_3 rfl
      refine g_aload_n 241 (gd rfl) rfl rfl ?_
      refine g_iload_n 242 (gd rfl) rfl rfl ?_
      refine g_iload_n 243 (gd rfl) rfl rfl ?_
      have p243 : FWP sc234 (x1).toNatClampNeg (x2) := by exact fwp_i hI (hFc234.1 112 rfl) (hFc234.1 113 rfl) (hFc234.1 114 rfl) (hFc234.1 115 rfl) (hFc234.2.2.1 109 19 rfl) (hFc234.2.2.1 109 20 rfl) q_0 (g234_0 c235).1 (by omega) (g234_0 c235).2
      refine g_callv (X := _) (As := [.int x1, .int x2]) (r := []) (b := A 109) (q := 109) 246 (gd rfl) rfl rfl rfl rfl rfl (ww_o rfl) (Nat.le_of_ble_eq_true rfl) (Nat.zero_le _) (Nat.zero_le _) (f_313 (by first | exact dq1 hd rfl | exact dq0 hd rfl | exact dq2 hd rfl | exact dq3 hd rfl | omega) hIc234 (in_w 0 31 h1 rfl) p243) (fun e u h => h) (fun v u h => ?_)
      obtain ⟨s243, hI243, hF243, rfl, rfl, p243a, p243b⟩ := h
      show GG _ _ _ _ _ _ _ _ [] _ _ _
      refine g_iconst 1 247 (gd rfl) rfl rfl ?_
      have n247 : ((Int32.ofInt 1)).toInt ≠ 0 → WFN s243 (x1).toNatClampNeg (x2) := by exact fun _ => p243a
      have n247a : ((Int32.ofInt 1)).toInt ≠ 0 → ∀ v : Nat, bt (x2) v = true → ((((s243).2.1 130) v).toInt < 9000000000000000 ∧ LEA (TAR s (x2)) (wZ s) v (x1).toNatClampNeg (((s243).2.1 130) v).toInt) ∨ (¬ (((s243).2.1 130) v).toInt < 9000000000000000 ∧ ∀ (k : Nat) (x : Int), ¬ wkc (TAR s (x2)) (wZ s) k v (x1).toNatClampNeg x) := by intro _; rw [hF243.2.1 130 rfl]; exact tg_lea hI q_0.1 (fun v hv hf => by obtain ⟨-, τ, T, -, h8⟩ := (g234_0 c235).1; have h7 := (h8 v (bt_lt hv) (q_0.2.1 v hv) hf).1.2; exact (have a0 := in_u h1; have a1 := in_u ro_109_20; have a2 := in_u ro_109_19; have a3 := in_u j234_4; have a4 := in_u i235; have oc := oc_312_109; by omega)) g234_1.1 g234_1.2.1 (g234_0 c235).2
      have n247b : ((Int32.ofInt 1)).toInt = 0 → ∃ v : Nat, bt (x2) v = true ∧ UNB (TAR s (x2)) (wZ s) v (x1).toNatClampNeg := by exact fun hz => absurd hz (by decide)
      have n247c : ((Int32.ofInt 1)).toInt ≠ 0 → ∃ r : Nat, nmx s243 ≤ (r : Int) ∧ FQ s243 (x1).toNatClampNeg (x2) ((s243).1 131) r := by exact fun _ => p243b
      exact g_ireturn (gd rfl) rfl (nb01 (in_w 0 1 (in_c 1 rfl) rfl)) (hP _ _ ⟨s243, hI243, (fr_tr rfl hFc234 hF243), (Int32.ofInt 1), rfl, rfl, in_w 0 1 (in_c 1 rfl) rfl, n247, n247a, n247b, n247c⟩)
    · skip
      have i235 := z_ne 1 1 c235 j234_3 rfl
      refine g_iconst 0 239 (gd rfl) rfl rfl ?_
      have n239 : ((Int32.ofInt 0)).toInt ≠ 0 → WFN sc234 (x1).toNatClampNeg (x2) := by exact fun hz => absurd (by decide) hz
      have n239a : ((Int32.ofInt 0)).toInt ≠ 0 → ∀ v : Nat, bt (x2) v = true → ((((sc234).2.1 130) v).toInt < 9000000000000000 ∧ LEA (TAR s (x2)) (wZ s) v (x1).toNatClampNeg (((sc234).2.1 130) v).toInt) ∨ (¬ (((sc234).2.1 130) v).toInt < 9000000000000000 ∧ ∀ (k : Nat) (x : Int), ¬ wkc (TAR s (x2)) (wZ s) k v (x1).toNatClampNeg x) := by exact fun hz => absurd (by decide) hz
      have n239b : ((Int32.ofInt 0)).toInt = 0 → ∃ v : Nat, bt (x2) v = true ∧ UNB (TAR s (x2)) (wZ s) v (x1).toNatClampNeg := by intro _; obtain ⟨r, r1, r2⟩ := g234_1.2.2 c235; exact tg_unb (n := (s.2.2.1 109 20).toInt.toNat) (fun v hv => by have h8 := q_0.2.1 v hv; unfold nmx at h8; omega) q_0.1 r1 g234_1.1 r2
      have n239c : ((Int32.ofInt 0)).toInt ≠ 0 → ∃ r : Nat, nmx sc234 ≤ (r : Int) ∧ FQ sc234 (x1).toNatClampNeg (x2) ((sc234).1 131) r := by exact fun hz => absurd (by decide) hz
      exact g_ireturn (gd rfl) rfl (nb01 (in_w 0 1 (in_c 0 rfl) rfl)) (hP _ _ ⟨sc234, hIc234, hFc234, (Int32.ofInt 0), rfl, rfl, in_w 0 1 (in_c 0 rfl) rfl, n239, n239a, n239b, n239c⟩)
  have ct44 : ∀ (k44 : Nat) (sc44 : GS) (y44_3 : Int32) (y44_4 : Int32), Inv sc44 → Fr fm_312 s sc44 → (In y44_3 0 1) → (In y44_4 0 33) → (TGI s (x1).toNatClampNeg (x2) (160000000 * (y44_4).toInt) sc44) → ((y44_3).toInt = 0 → TCL s (x2) sc44 160) → (TG1 s (x1).toNatClampNeg x2 ((sc44).2.1 130) ∧ TG2 s (x1).toNatClampNeg x2 (y44_4).toNatClampNeg ((sc44).2.1 130) ∧ ((y44_3).toInt ≠ 0 → TG3 s (x1).toNatClampNeg x2 (y44_4).toNatClampNeg ((sc44).2.1 130))) → 33 - (y44_4).toInt < (k44 : Int) → GG Z (d - 1) 312 post (gx xp) (902 + k44 * 812251) 44 (fun j => xlook j [(0, .ref (A 109)), (1, .int x1), (2, .int x2), (3, .int y44_3), (4, .int y44_4)]) [] (WW Z A sc44 ++ ex) 0 0 := by
    intro k44
    induction k44 with
    | zero => intro sc44 y44_3 y44_4 hIc44 hFc44 j44_3 j44_4 g44_0 g44_1 g44_2 mm44; exact m_no mm44 j44_4 rfl
    | succ k44 ih44 =>
      intro sc44 y44_3 y44_4 hIc44 hFc44 j44_3 j44_4 g44_0 g44_1 g44_2 mm44
      refine gg_w (M := 902 + k44 * 812251 + 812251) gws ?_
      have ct65 : ∀ (k65 : Nat) (sc65 : GS) (y65_3 : Int32) (y65_5 : Int32), Inv sc65 → Fr fm_312 s sc65 → (In y65_3 0 1) → (In y44_4 0 32) → (In y65_5 0 448) → ((u_109_19).toInt ≤ (y65_5).toInt) → ((y65_5).toInt ≤ (u_109_19).toInt + 160) → (TGI s (x1).toNatClampNeg (x2) (160000000 * (y44_4).toInt + 1000000 * ((y65_5).toInt - u_109_19.toInt)) sc65) → ((y65_3).toInt = 0 → TCL s (x2) sc65 ((y65_5).toInt - u_109_19.toInt).toNat) → (TGP s (x1).toNatClampNeg x2 (sc44.2.1 130) ((sc65).2.1 130) ((y65_5).toInt - u_109_19.toInt).toNat (y65_3).toInt) → 448 - (y65_5).toInt < (k65 : Int) → GG Z (d - 1) 312 post (gx xp) (902 + k44 * 812251 + 1 + k65 * 1801) 65 (fun j => xlook j [(0, .ref (A 109)), (1, .int x1), (2, .int x2), (3, .int y65_3), (4, .int y44_4), (5, .int y65_5)]) [] (WW Z A sc65 ++ ex) 0 0 := by
        intro k65
        induction k65 with
        | zero => intro sc65 y65_3 y65_5 hIc65 hFc65 j65_3 j65_4 j65_5 n65_0 n65_1 g65_0 g65_1 g65_2 mm65; exact m_no mm65 j65_5 rfl
        | succ k65 ih65 =>
          intro sc65 y65_3 y65_5 hIc65 hFc65 j65_3 j65_4 j65_5 n65_0 n65_1 g65_0 g65_1 g65_2 mm65
          refine gg_w (M := 902 + k44 * 812251 + 1 + k65 * 1801 + 1801) gws ?_
          have ct222 : ∀ (sc222 : GS) (y222_3 : Int32), Inv sc222 → Fr fm_312 s sc222 → (In y222_3 0 1) → (In y65_5 0 400) → ((u_109_19).toInt ≤ (y65_5).toInt) → ((y65_5).toInt < (u_109_19).toInt + 160) → (TGI s (x1).toNatClampNeg (x2) ((160000000 * (y44_4).toInt + 1000000 * ((y65_5).toInt - u_109_19.toInt)) + 1000000) sc222) → ((y222_3).toInt = 0 → TCL s (x2) sc222 (((y65_5).toInt - u_109_19.toInt).toNat + 1)) → (TGP s (x1).toNatClampNeg x2 (sc44.2.1 130) ((sc222).2.1 130) (((y65_5).toInt - u_109_19.toInt).toNat + 1) (y222_3).toInt) → GG Z (d - 1) 312 post (gx xp) (902 + k44 * 812251 + 1 + k65 * 1801 + 901) 222 (fun j => xlook j [(0, .ref (A 109)), (1, .int x1), (2, .int x2), (3, .int y222_3), (4, .int y44_4), (5, .int y65_5)]) [] (WW Z A sc222 ++ ex) 0 0 := by
            intro sc222 y222_3 hIc222 hFc222 j222_3 j222_5 n222_0 n222_1 g222_0 g222_1 g222_2
            refine g_iinc 225 (gd rfl) rfl rfl (Nat.le_of_ble_eq_true rfl) (fun z222 e222 => ?_)
            have i222 := in_add 1 401 e222 j222_5 (in_c 1 rfl) rfl rfl
            refine g_goto 65 (gd rfl) rfl ?_
            have n65 : (u_109_19).toInt ≤ (z222).toInt := by exact (have a0 := in_u j222_5; have a1 := in_u j65_4; have a2 := in_u h1; have a3 := in_u ro_109_20; have a4 := in_u ro_109_19; have a5 := in_u j222_3; have a6 := in_u i222; have a7 := t_add e222 j222_5 (in_c 1 rfl) rfl; have a8 := in_u ((in_c 1 rfl)); have oc := oc_312_109; by omega)
            have n65a : (z222).toInt ≤ (u_109_19).toInt + 160 := by exact (have a0 := in_u j222_5; have a1 := in_u j65_4; have a2 := in_u h1; have a3 := in_u ro_109_20; have a4 := in_u ro_109_19; have a5 := in_u j222_3; have a6 := in_u i222; have a7 := t_add e222 j222_5 (in_c 1 rfl) rfl; have a8 := in_u ((in_c 1 rfl)); have oc := oc_312_109; by omega)
            have n65b : TGI s (x1).toNatClampNeg (x2) (160000000 * (y44_4).toInt + 1000000 * ((z222).toInt - u_109_19.toInt)) sc222 := by exact tgi_w g222_0 (by exact (have a0 := in_u j222_5; have a1 := in_u j65_4; have a2 := in_u h1; have a3 := in_u ro_109_20; have a4 := in_u ro_109_19; have a5 := in_u j222_3; have a6 := in_u i222; have a7 := t_add e222 j222_5 (in_c 1 rfl) rfl; have a8 := in_u ((in_c 1 rfl)); have oc := oc_312_109; by omega))
            have n65c : (y222_3).toInt = 0 → TCL s (x2) sc222 ((z222).toInt - u_109_19.toInt).toNat := by (intro hz; rw [show (z222.toInt - u_109_19.toInt).toNat = (y65_5.toInt - u_109_19.toInt).toNat + 1 from (by exact (have a0 := in_u j222_5; have a1 := in_u j65_4; have a2 := in_u h1; have a3 := in_u ro_109_20; have a4 := in_u ro_109_19; have a5 := in_u j222_3; have a6 := in_u i222; have a7 := t_add e222 j222_5 (in_c 1 rfl) rfl; have a8 := in_u ((in_c 1 rfl)); have oc := oc_312_109; by omega))]; exact g222_1 hz)
            have n65d : TGP s (x1).toNatClampNeg x2 (sc44.2.1 130) ((sc222).2.1 130) ((z222).toInt - u_109_19.toInt).toNat (y222_3).toInt := by rw [show (z222.toInt - u_109_19.toInt).toNat = (y65_5.toInt - u_109_19.toInt).toNat + 1 from (by exact (have a0 := in_u j222_5; have a1 := in_u j65_4; have a2 := in_u h1; have a3 := in_u ro_109_20; have a4 := in_u ro_109_19; have a5 := in_u j222_3; have a6 := in_u i222; have a7 := t_add e222 j222_5 (in_c 1 rfl) rfl; have a8 := in_u ((in_c 1 rfl)); have oc := oc_312_109; by omega))]; exact g222_2
            exact gg_w (by first | exact Nat.le_add_right _ _ | exact gw2 | exact gw3 | exact gwe rfl | exact gwf rfl | exact gwg rfl | exact gwh rfl | omega) (gg_f (gf_cons rfl (gf_cons rfl (gf_cons rfl (gf_cons rfl (gf_cons rfl (gf_cons rfl gf_nil)))))) (ih65 sc222 y222_3 z222 hIc222 hFc222 (in_w 0 1 j222_3 rfl) (in_w 0 32 j65_4 rfl) (in_w 0 448 i222 rfl) n65 n65a n65b n65c n65d (m_up mm65 (t_add e222 j222_5 (in_c 1 rfl) rfl) (in_w 1 1 (in_c 1 rfl) rfl))))
          refine g_iload 67 (gd rfl) rfl rfl ?_
          refine g_aload_n 68 (gd rfl) rfl rfl ?_
          refine g_getI 71 (gd rfl) rfl rfl rfl (fun z68 e68 => ?_)
          have q68 : u_109_19 = z68 := (fr_F e_109_19 hFc65 rfl).trans e68.symm
          subst q68
          refine g_sipush 160 74 (gd rfl) rfl rfl ?_
          refine g_iadd 75 (gd rfl) rfl (fun z74 e74 => ?_)
          have i74 := in_add 160 320 e74 ro_109_19 (in_c 160 rfl) rfl rfl
          refine g_cmp_ge 78 228 (gd rfl) rfl rfl (fun c75 => ?_) (fun c75 => ?_)
          · skip
            have i75 := r_le2 160 448 c75 i74 j65_5 rfl
            refine g_iinc 231 (gd rfl) rfl rfl (Nat.le_of_ble_eq_true rfl) (fun z228 e228 => ?_)
            have i228 := in_add 1 33 e228 j65_4 (in_c 1 rfl) rfl rfl
            refine g_goto 44 (gd rfl) rfl ?_
            have n44 : TGI s (x1).toNatClampNeg (x2) (160000000 * (z228).toInt) sc65 := by exact tgi_w g65_0 (by exact (have a0 := in_u j65_4; have a1 := in_u h1; have a2 := in_u ro_109_20; have a3 := in_u ro_109_19; have a4 := in_u i75; have a5 := in_u j65_3; have a6 := in_u i228; have a7 := t_add e228 j65_4 (in_c 1 rfl) rfl; have a8 := in_u ((in_c 1 rfl)); have a9 := in_u i74; have a10 := t_add e74 ro_109_19 (in_c 160 rfl) rfl; have a11 := in_u ((in_c 160 rfl)); have oc := oc_312_109; by omega))
            have n44a : (y65_3).toInt = 0 → TCL s (x2) sc65 160 := by (intro hz; have hc := g65_1 hz; rw [show (y65_5.toInt - u_109_19.toInt).toNat = 160 from (by exact (have a0 := in_u j65_4; have a1 := in_u h1; have a2 := in_u ro_109_20; have a3 := in_u ro_109_19; have a4 := in_u i75; have a5 := in_u j65_3; have a6 := in_u i228; have a7 := t_add e228 j65_4 (in_c 1 rfl) rfl; have a8 := in_u ((in_c 1 rfl)); have a9 := in_u i74; have a10 := t_add e74 ro_109_19 (in_c 160 rfl) rfl; have a11 := in_u ((in_c 160 rfl)); have oc := oc_312_109; by omega))] at hc; exact hc)
            have n44b : TG1 s (x1).toNatClampNeg x2 ((sc65).2.1 130) ∧ TG2 s (x1).toNatClampNeg x2 (z228).toNatClampNeg ((sc65).2.1 130) ∧ ((y65_3).toInt ≠ 0 → TG3 s (x1).toNatClampNeg x2 (z228).toNatClampNeg ((sc65).2.1 130)) := by have h9 := g65_2; rw [show (y65_5.toInt - u_109_19.toInt).toNat = 160 from (by exact (have a0 := in_u j65_4; have a1 := in_u h1; have a2 := in_u ro_109_20; have a3 := in_u ro_109_19; have a4 := in_u i75; have a5 := in_u j65_3; have a6 := in_u i228; have a7 := t_add e228 j65_4 (in_c 1 rfl) rfl; have a8 := in_u ((in_c 1 rfl)); have a9 := in_u i74; have a10 := t_add e74 ro_109_19 (in_c 160 rfl) rfl; have a11 := in_u ((in_c 160 rfl)); have oc := oc_312_109; by omega))] at h9; rw [(show (z228).toNatClampNeg = (y44_4).toNatClampNeg + 1 from (by show (z228).toInt.toNat = (y44_4).toInt.toNat + 1; exact (have a0 := in_u j65_4; have a1 := in_u h1; have a2 := in_u ro_109_20; have a3 := in_u ro_109_19; have a4 := in_u i75; have a5 := in_u j65_3; have a6 := in_u i228; have a7 := t_add e228 j65_4 (in_c 1 rfl) rfl; have a8 := in_u ((in_c 1 rfl)); have a9 := in_u i74; have a10 := t_add e74 ro_109_19 (in_c 160 rfl) rfl; have a11 := in_u ((in_c 160 rfl)); have oc := oc_312_109; by omega)))]; exact ⟨h9.2.1, tg2_s hI (fun v hv hf => by obtain ⟨-, τ, T, -, h8⟩ := g44_0; have h7 := (h8 v (bt_lt hv) (q_0.2.1 v hv) hf).1.2; exact (have a0 := in_u j65_4; have a1 := in_u h1; have a2 := in_u ro_109_20; have a3 := in_u ro_109_19; have a4 := in_u i75; have a5 := in_u j65_3; have a6 := in_u i228; have a7 := t_add e228 j65_4 (in_c 1 rfl) rfl; have a8 := in_u ((in_c 1 rfl)); have a9 := in_u i74; have a10 := t_add e74 ro_109_19 (in_c 160 rfl) rfl; have a11 := in_u ((in_c 160 rfl)); have oc := oc_312_109; by omega)) g44_2.2.1 h9, fun hm => tg3_s g44_2.2.1 h9 hm⟩
            exact gg_w (by first | exact Nat.le_add_right _ _ | exact gw2 | exact gw3 | exact gwe rfl | exact gwf rfl | exact gwg rfl | exact gwh rfl | omega) (gg_f (gf_cons rfl (gf_cons rfl (gf_cons rfl (gf_cons rfl (gf_cons rfl gf_nil))))) (ih44 sc65 y65_3 z228 hIc65 hFc65 (in_w 0 1 j65_3 rfl) (in_w 0 33 i228 rfl) n44 n44a n44b (m_up mm44 (t_add e228 j65_4 (in_c 1 rfl) rfl) (in_w 1 1 (in_c 1 rfl) rfl))))
          · skip
            have i75 := r_lt1 0 319 c75 j65_5 i74 rfl
            refine g_aload_n 79 (gd rfl) rfl rfl ?_
            refine g_getA (q2 := 112) 82 (gd rfl) rfl rfl rfl rfl ?_
            refine g_iload 84 (gd rfl) rfl rfl ?_
            refine g_baload 85 (gd rfl) rfl (n := 480) rfl (in_ix i75 rfl) (fun z84 e84 => ?_)
            have i84 := inv_I hIc65 (n := 480) (t := 3) 0 1 rfl (in_ix i75 rfl) rfl e84
            refine g_if_eq 88 222 (gd rfl) rfl rfl (fun c85 => ?_) (fun c85 => ?_)
            · skip
              have i85 := z_eq 0 0 c85 i84 rfl
              have n222 : (u_109_19).toInt ≤ (y65_5).toInt := by first | exact n65_0 | (exact (have a0 := in_u j65_4; have a1 := in_u h1; have a2 := in_u ro_109_20; have a3 := in_u ro_109_19; have a4 := in_u i75; have a5 := in_u j65_3; have a6 := in_u i74; have a7 := t_add e74 ro_109_19 (in_c 160 rfl) rfl; have a8 := in_u ((in_c 160 rfl)); have oc := oc_312_109; by omega))
              have n222a : (y65_5).toInt < (u_109_19).toInt + 160 := by exact (have a0 := in_u j65_4; have a1 := in_u h1; have a2 := in_u ro_109_20; have a3 := in_u ro_109_19; have a4 := in_u i75; have a5 := in_u j65_3; have a6 := in_u i74; have a7 := t_add e74 ro_109_19 (in_c 160 rfl) rfl; have a8 := in_u ((in_c 160 rfl)); have oc := oc_312_109; by omega)
              have n222b : TGI s (x1).toNatClampNeg (x2) ((160000000 * (y44_4).toInt + 1000000 * ((y65_5).toInt - u_109_19.toInt)) + 1000000) sc65 := by exact tgi_w g65_0 (by exact (have a0 := in_u j65_4; have a1 := in_u h1; have a2 := in_u ro_109_20; have a3 := in_u ro_109_19; have a4 := in_u i75; have a5 := in_u j65_3; have a6 := in_u i74; have a7 := t_add e74 ro_109_19 (in_c 160 rfl) rfl; have a8 := in_u ((in_c 160 rfl)); have oc := oc_312_109; by omega))
              have n222c : (y65_3).toInt = 0 → TCL s (x2) sc65 (((y65_5).toInt - u_109_19.toInt).toNat + 1) := by (intro hz; exact tcl_s (g65_1 hz) (fun t1 t2 t3 t4 => by exfalso; rw [(ix_k (y := y65_5) e_109_19 (by exact (have a0 := in_u j65_4; have a1 := in_u h1; have a2 := in_u ro_109_20; have a3 := in_u ro_109_19; have a4 := in_u i75; have a5 := in_u j65_3; have a6 := in_u i74; have a7 := t_add e74 ro_109_19 (in_c 160 rfl) rfl; have a8 := in_u ((in_c 160 rfl)); have oc := oc_312_109; by omega)) (by exact (have a0 := in_u j65_4; have a1 := in_u h1; have a2 := in_u ro_109_20; have a3 := in_u ro_109_19; have a4 := in_u i75; have a5 := in_u j65_3; have a6 := in_u i74; have a7 := t_add e74 ro_109_19 (in_c 160 rfl) rfl; have a8 := in_u ((in_c 160 rfl)); have oc := oc_312_109; by omega))), ← hFc65.1 112 rfl, ← e84] at t1; exact t1 c85))
              have n222d : TGP s (x1).toNatClampNeg x2 (sc44.2.1 130) ((sc65).2.1 130) (((y65_5).toInt - u_109_19.toInt).toNat + 1) (y65_3).toInt := by exact tgp_n g65_2 (fun u v hp hf => by exfalso; have t1 := hp.2.1; rw [(ix_k (y := y65_5) e_109_19 (by exact (have a0 := in_u j65_4; have a1 := in_u h1; have a2 := in_u ro_109_20; have a3 := in_u ro_109_19; have a4 := in_u i75; have a5 := in_u j65_3; have a6 := in_u i74; have a7 := t_add e74 ro_109_19 (in_c 160 rfl) rfl; have a8 := in_u ((in_c 160 rfl)); have oc := oc_312_109; by omega)) (by exact (have a0 := in_u j65_4; have a1 := in_u h1; have a2 := in_u ro_109_20; have a3 := in_u ro_109_19; have a4 := in_u i75; have a5 := in_u j65_3; have a6 := in_u i74; have a7 := t_add e74 ro_109_19 (in_c 160 rfl) rfl; have a8 := in_u ((in_c 160 rfl)); have oc := oc_312_109; by omega))), ← hFc65.1 112 rfl, ← e84] at t1; exact t1 c85)
              exact gg_w (by first | exact Nat.le_add_right _ _ | exact gw2 | exact gw3 | exact gwe rfl | exact gwf rfl | exact gwg rfl | exact gwh rfl | omega) (gg_f (gf_cons rfl (gf_cons rfl (gf_cons rfl (gf_cons rfl (gf_cons rfl (gf_cons rfl gf_nil)))))) (ct222 sc65 y65_3 hIc65 hFc65 (in_w 0 1 j65_3 rfl) (in_w 0 400 i75 rfl) n222 n222a n222b n222c n222d))
            · skip
              have i85 := z_ne 1 1 c85 i84 rfl
              refine g_iload_n 89 (gd rfl) rfl rfl ?_
              refine g_aload_n 90 (gd rfl) rfl rfl ?_
              refine g_getA (q2 := 113) 93 (gd rfl) rfl rfl rfl rfl ?_
              refine g_iload 95 (gd rfl) rfl rfl ?_
              refine g_iaload 96 (gd rfl) rfl (n := 480) rfl (in_ix i75 rfl) (fun z95 e95 => ?_)
              have i95 := inv_I hIc65 (n := 480) (t := 0) 0 31 rfl (in_ix i75 rfl) rfl e95
              refine g_calls (As := [.int x2, .int z95]) (r := []) 99 (gd rfl) rfl rfl rfl rfl rfl (Nat.le_of_ble_eq_true rfl) (mc := 0) (ms := 0) (Nat.zero_le _) (Nat.zero_le _) (P := fun v u => _) ?_ (fun v u h => h)
              intro po96 xx96 hp96 hx96
              refine g_enter2 (k := 311) (N := 300) (by first | exact dq1 hd rfl | exact dq0 hd rfl | exact dq2 hd rfl | exact dq3 hd rfl | omega) rfl (Nat.le_of_ble_eq_true rfl) ?_
              refine g_iload_n 1 (gd rfl) rfl rfl ?_
              refine g_iload_n 2 (gd rfl) rfl rfl ?_
              refine g_ishr 3 (gd rfl) rfl (fun z96x2 e96x2 => ?_)
              refine g_iconst 1 4 (gd rfl) rfl rfl ?_
              refine g_iand 5 (gd rfl) rfl (fun z96x4 e96x4 => ?_)
              have i96x4 := in_and2 e96x4 (in_c 1 rfl) rfl
              refine g_iconst 1 6 (gd rfl) rfl rfl ?_
              refine g_cmp_ne 9 13 (gd rfl) rfl rfl (fun c96x6 => ?_) (fun c96x6 => ?_)
              · skip
                have i96x6 := r_ne1 0 0 c96x6 i96x4 (in_c 1 rfl) rfl
                refine g_iconst 0 14 (gd rfl) rfl rfl ?_
                refine g_ireturn (gd rfl) rfl (nb01 (in_w 0 1 (in_c 0 rfl) rfl)) (hp96 _ _ ?_)
                show GG _ _ _ _ _ _ _ _ [.int (Int32.ofInt 0)] _ _ _
                refine g_if_eq 102 222 (gd rfl) rfl rfl (fun c99 => ?_) (fun c99 => ?_)
                · skip
                  have n222 : (u_109_19).toInt ≤ (y65_5).toInt := by first | exact n65_0 | (exact (have a0 := in_u j65_4; have a1 := in_u h1; have a2 := in_u ro_109_20; have a3 := in_u ro_109_19; have a4 := in_u i75; have a5 := in_u j65_3; have a6 := in_u i74; have a7 := t_add e74 ro_109_19 (in_c 160 rfl) rfl; have a8 := in_u ((in_c 160 rfl)); have oc := oc_312_109; by omega))
                  have n222a : (y65_5).toInt < (u_109_19).toInt + 160 := by exact (have a0 := in_u j65_4; have a1 := in_u h1; have a2 := in_u ro_109_20; have a3 := in_u ro_109_19; have a4 := in_u i75; have a5 := in_u j65_3; have a6 := in_u i74; have a7 := t_add e74 ro_109_19 (in_c 160 rfl) rfl; have a8 := in_u ((in_c 160 rfl)); have oc := oc_312_109; by omega)
                  have n222b : TGI s (x1).toNatClampNeg (x2) ((160000000 * (y44_4).toInt + 1000000 * ((y65_5).toInt - u_109_19.toInt)) + 1000000) sc65 := by exact tgi_w g65_0 (by exact (have a0 := in_u j65_4; have a1 := in_u h1; have a2 := in_u ro_109_20; have a3 := in_u ro_109_19; have a4 := in_u i75; have a5 := in_u j65_3; have a6 := in_u i74; have a7 := t_add e74 ro_109_19 (in_c 160 rfl) rfl; have a8 := in_u ((in_c 160 rfl)); have oc := oc_312_109; by omega))
                  have n222c : (y65_3).toInt = 0 → TCL s (x2) sc65 (((y65_5).toInt - u_109_19.toInt).toNat + 1) := by (intro hz; exact tcl_s (g65_1 hz) (fun t1 t2 t3 t4 => by exfalso; have hb := bt_no e96x2 e96x4 i95 c96x6; rw [(ix_k (y := y65_5) e_109_19 (by exact (have a0 := in_u j65_4; have a1 := in_u h1; have a2 := in_u ro_109_20; have a3 := in_u ro_109_19; have a4 := in_u i75; have a5 := in_u j65_3; have a6 := in_u i74; have a7 := t_add e74 ro_109_19 (in_c 160 rfl) rfl; have a8 := in_u ((in_c 160 rfl)); have oc := oc_312_109; by omega)) (by exact (have a0 := in_u j65_4; have a1 := in_u h1; have a2 := in_u ro_109_20; have a3 := in_u ro_109_19; have a4 := in_u i75; have a5 := in_u j65_3; have a6 := in_u i74; have a7 := t_add e74 ro_109_19 (in_c 160 rfl) rfl; have a8 := in_u ((in_c 160 rfl)); have oc := oc_312_109; by omega))), ← hFc65.1 113 rfl, ← e95, hb] at t2; cases t2))
                  have n222d : TGP s (x1).toNatClampNeg x2 (sc44.2.1 130) ((sc65).2.1 130) (((y65_5).toInt - u_109_19.toInt).toNat + 1) (y65_3).toInt := by exact tgp_n g65_2 (fun u v hp hf => by exfalso; have hb := bt_no e96x2 e96x4 i95 c96x6; have t2 := hp.2.2.2.2.1; rw [← hp.2.2.1, (ix_k (y := y65_5) e_109_19 (by exact (have a0 := in_u j65_4; have a1 := in_u h1; have a2 := in_u ro_109_20; have a3 := in_u ro_109_19; have a4 := in_u i75; have a5 := in_u j65_3; have a6 := in_u i74; have a7 := t_add e74 ro_109_19 (in_c 160 rfl) rfl; have a8 := in_u ((in_c 160 rfl)); have oc := oc_312_109; by omega)) (by exact (have a0 := in_u j65_4; have a1 := in_u h1; have a2 := in_u ro_109_20; have a3 := in_u ro_109_19; have a4 := in_u i75; have a5 := in_u j65_3; have a6 := in_u i74; have a7 := t_add e74 ro_109_19 (in_c 160 rfl) rfl; have a8 := in_u ((in_c 160 rfl)); have oc := oc_312_109; by omega))), ← hFc65.1 113 rfl, ← e95, hb] at t2; cases t2)
                  exact gg_w (by first | exact Nat.le_add_right _ _ | exact gw2 | exact gw3 | exact gwe rfl | exact gwf rfl | exact gwg rfl | exact gwh rfl | omega) (gg_f (gf_cons rfl (gf_cons rfl (gf_cons rfl (gf_cons rfl (gf_cons rfl (gf_cons rfl gf_nil)))))) (ct222 sc65 y65_3 hIc65 hFc65 (in_w 0 1 j65_3 rfl) (in_w 0 400 i75 rfl) n222 n222a n222b n222c n222d))
                · skip
                  exact zn_ne c99 (in_c 0 rfl) rfl
              · skip
                have i96x6 := r_eq1 1 1 c96x6 i96x4 (in_c 1 rfl) rfl
                refine g_iconst 1 10 (gd rfl) rfl rfl ?_
                refine g_goto 14 (gd rfl) rfl ?_
                refine g_ireturn (gd rfl) rfl (nb01 (in_w 0 1 (in_c 1 rfl) rfl)) (hp96 _ _ ?_)
                show GG _ _ _ _ _ _ _ _ [.int (Int32.ofInt 1)] _ _ _
                refine g_if_eq 102 222 (gd rfl) rfl rfl (fun c99 => ?_) (fun c99 => ?_)
                · skip
                  exact zn_eq c99 (in_c 1 rfl) rfl
                · skip
                  refine g_iload_n 103 (gd rfl) rfl rfl ?_
                  refine g_aload_n 104 (gd rfl) rfl rfl ?_
                  refine g_getA (q2 := 114) 107 (gd rfl) rfl rfl rfl rfl ?_
                  refine g_iload 109 (gd rfl) rfl rfl ?_
                  refine g_iaload 110 (gd rfl) rfl (n := 480) rfl (in_ix i75 rfl) (fun z109 e109 => ?_)
                  have i109 := inv_I hIc65 (n := 480) (t := 0) 0 31 rfl (in_ix i75 rfl) rfl e109
                  refine g_calls (As := [.int x2, .int z109]) (r := []) 113 (gd rfl) rfl rfl rfl rfl rfl (Nat.le_of_ble_eq_true rfl) (mc := 0) (ms := 0) (Nat.zero_le _) (Nat.zero_le _) (P := fun v u => _) ?_ (fun v u h => h)
                  intro po110 xx110 hp110 hx110
                  refine g_enter2 (k := 311) (N := 300) (by first | exact dq1 hd rfl | exact dq0 hd rfl | exact dq2 hd rfl | exact dq3 hd rfl | omega) rfl (Nat.le_of_ble_eq_true rfl) ?_
                  refine g_iload_n 1 (gd rfl) rfl rfl ?_
                  refine g_iload_n 2 (gd rfl) rfl rfl ?_
                  refine g_ishr 3 (gd rfl) rfl (fun z110x2 e110x2 => ?_)
                  refine g_iconst 1 4 (gd rfl) rfl rfl ?_
                  refine g_iand 5 (gd rfl) rfl (fun z110x4 e110x4 => ?_)
                  have i110x4 := in_and2 e110x4 (in_c 1 rfl) rfl
                  refine g_iconst 1 6 (gd rfl) rfl rfl ?_
                  refine g_cmp_ne 9 13 (gd rfl) rfl rfl (fun c110x6 => ?_) (fun c110x6 => ?_)
                  · skip
                    have i110x6 := r_ne1 0 0 c110x6 i110x4 (in_c 1 rfl) rfl
                    refine g_iconst 0 14 (gd rfl) rfl rfl ?_
                    refine g_ireturn (gd rfl) rfl (nb01 (in_w 0 1 (in_c 0 rfl) rfl)) (hp110 _ _ ?_)
                    show GG _ _ _ _ _ _ _ _ [.int (Int32.ofInt 0)] _ _ _
                    refine g_if_eq 116 222 (gd rfl) rfl rfl (fun c113 => ?_) (fun c113 => ?_)
                    · skip
                      have n222 : (u_109_19).toInt ≤ (y65_5).toInt := by first | exact n65_0 | (exact (have a0 := in_u j65_4; have a1 := in_u h1; have a2 := in_u ro_109_20; have a3 := in_u ro_109_19; have a4 := in_u i75; have a5 := in_u j65_3; have a6 := in_u i74; have a7 := t_add e74 ro_109_19 (in_c 160 rfl) rfl; have a8 := in_u ((in_c 160 rfl)); have oc := oc_312_109; by omega))
                      have n222a : (y65_5).toInt < (u_109_19).toInt + 160 := by exact (have a0 := in_u j65_4; have a1 := in_u h1; have a2 := in_u ro_109_20; have a3 := in_u ro_109_19; have a4 := in_u i75; have a5 := in_u j65_3; have a6 := in_u i74; have a7 := t_add e74 ro_109_19 (in_c 160 rfl) rfl; have a8 := in_u ((in_c 160 rfl)); have oc := oc_312_109; by omega)
                      have n222b : TGI s (x1).toNatClampNeg (x2) ((160000000 * (y44_4).toInt + 1000000 * ((y65_5).toInt - u_109_19.toInt)) + 1000000) sc65 := by exact tgi_w g65_0 (by exact (have a0 := in_u j65_4; have a1 := in_u h1; have a2 := in_u ro_109_20; have a3 := in_u ro_109_19; have a4 := in_u i75; have a5 := in_u j65_3; have a6 := in_u i74; have a7 := t_add e74 ro_109_19 (in_c 160 rfl) rfl; have a8 := in_u ((in_c 160 rfl)); have oc := oc_312_109; by omega))
                      have n222c : (y65_3).toInt = 0 → TCL s (x2) sc65 (((y65_5).toInt - u_109_19.toInt).toNat + 1) := by (intro hz; exact tcl_s (g65_1 hz) (fun t1 t2 t3 t4 => by exfalso; have hb := bt_no e110x2 e110x4 i109 c110x6; rw [(ix_k (y := y65_5) e_109_19 (by exact (have a0 := in_u j65_4; have a1 := in_u h1; have a2 := in_u ro_109_20; have a3 := in_u ro_109_19; have a4 := in_u i75; have a5 := in_u j65_3; have a6 := in_u i74; have a7 := t_add e74 ro_109_19 (in_c 160 rfl) rfl; have a8 := in_u ((in_c 160 rfl)); have oc := oc_312_109; by omega)) (by exact (have a0 := in_u j65_4; have a1 := in_u h1; have a2 := in_u ro_109_20; have a3 := in_u ro_109_19; have a4 := in_u i75; have a5 := in_u j65_3; have a6 := in_u i74; have a7 := t_add e74 ro_109_19 (in_c 160 rfl) rfl; have a8 := in_u ((in_c 160 rfl)); have oc := oc_312_109; by omega))), ← hFc65.1 114 rfl, ← e109, hb] at t3; cases t3))
                      have n222d : TGP s (x1).toNatClampNeg x2 (sc44.2.1 130) ((sc65).2.1 130) (((y65_5).toInt - u_109_19.toInt).toNat + 1) (y65_3).toInt := by exact tgp_n g65_2 (fun u v hp hf => by exfalso; have hb := bt_no e110x2 e110x4 i109 c110x6; have t3 := hp.2.2.2.2.2; rw [← hp.2.2.2.1, (ix_k (y := y65_5) e_109_19 (by exact (have a0 := in_u j65_4; have a1 := in_u h1; have a2 := in_u ro_109_20; have a3 := in_u ro_109_19; have a4 := in_u i75; have a5 := in_u j65_3; have a6 := in_u i74; have a7 := t_add e74 ro_109_19 (in_c 160 rfl) rfl; have a8 := in_u ((in_c 160 rfl)); have oc := oc_312_109; by omega)) (by exact (have a0 := in_u j65_4; have a1 := in_u h1; have a2 := in_u ro_109_20; have a3 := in_u ro_109_19; have a4 := in_u i75; have a5 := in_u j65_3; have a6 := in_u i74; have a7 := t_add e74 ro_109_19 (in_c 160 rfl) rfl; have a8 := in_u ((in_c 160 rfl)); have oc := oc_312_109; by omega))), ← hFc65.1 114 rfl, ← e109, hb] at t3; cases t3)
                      exact gg_w (by first | exact Nat.le_add_right _ _ | exact gw2 | exact gw3 | exact gwe rfl | exact gwf rfl | exact gwg rfl | exact gwh rfl | omega) (gg_f (gf_cons rfl (gf_cons rfl (gf_cons rfl (gf_cons rfl (gf_cons rfl (gf_cons rfl gf_nil)))))) (ct222 sc65 y65_3 hIc65 hFc65 (in_w 0 1 j65_3 rfl) (in_w 0 400 i75 rfl) n222 n222a n222b n222c n222d))
                    · skip
                      exact zn_ne c113 (in_c 0 rfl) rfl
                  · skip
                    have i110x6 := r_eq1 1 1 c110x6 i110x4 (in_c 1 rfl) rfl
                    refine g_iconst 1 10 (gd rfl) rfl rfl ?_
                    refine g_goto 14 (gd rfl) rfl ?_
                    refine g_ireturn (gd rfl) rfl (nb01 (in_w 0 1 (in_c 1 rfl) rfl)) (hp110 _ _ ?_)
                    show GG _ _ _ _ _ _ _ _ [.int (Int32.ofInt 1)] _ _ _
                    refine g_if_eq 116 222 (gd rfl) rfl rfl (fun c113 => ?_) (fun c113 => ?_)
                    · skip
                      exact zn_eq c113 (in_c 1 rfl) rfl
                    · skip
                      refine g_aload_n 117 (gd rfl) rfl rfl ?_
                      refine g_getA (q2 := 130) 120 (gd rfl) rfl rfl rfl rfl ?_
                      refine g_aload_n 121 (gd rfl) rfl rfl ?_
                      refine g_getA (q2 := 114) 124 (gd rfl) rfl rfl rfl rfl ?_
                      refine g_iload 126 (gd rfl) rfl rfl ?_
                      refine g_iaload 127 (gd rfl) rfl (n := 480) rfl (in_ix i75 rfl) (fun z126 e126 => ?_)
                      have q126 : z109 = z126 := (e109).trans e126.symm
                      subst q126
                      refine g_laload 128 (gd rfl) rfl (n := 32) rfl (in_ix i109 rfl) (fun z127 e127 => ?_)
                      refine g_ldc2_w 9000000000000000 131 (gd rfl) rfl rfl ?_
                      refine g_lcmp 132 (gd rfl) rfl (fun z131 e131 => ?_)
                      have i131 := lc_in e131
                      refine g_if_ge 135 222 (gd rfl) rfl rfl (fun c132 => ?_) (fun c132 => ?_)
                      · skip
                        have i132 := z_ge 0 1 c132 i131 rfl
                        have c132a := lc_ge e131 c132
                        have i132a := lr_le2 9000000000000000 9223372036854775807 c132a (l_c 9000000000000000 rfl) (l_rng z127) rfl
                        have n222 : (u_109_19).toInt ≤ (y65_5).toInt := by first | exact n65_0 | (exact (have a0 := in_u j65_4; have a1 := in_u h1; have a2 := in_u ro_109_20; have a3 := in_u ro_109_19; have a4 := in_u i75; have a5 := in_u j65_3; have a6 := in_u i74; have a7 := t_add e74 ro_109_19 (in_c 160 rfl) rfl; have a8 := in_u ((in_c 160 rfl)); have oc := oc_312_109; by omega))
                        have n222a : (y65_5).toInt < (u_109_19).toInt + 160 := by exact (have a0 := in_u j65_4; have a1 := in_u h1; have a2 := in_u ro_109_20; have a3 := in_u ro_109_19; have a4 := in_u i75; have a5 := in_u j65_3; have a6 := in_u i74; have a7 := t_add e74 ro_109_19 (in_c 160 rfl) rfl; have a8 := in_u ((in_c 160 rfl)); have oc := oc_312_109; by omega)
                        have n222b : TGI s (x1).toNatClampNeg (x2) ((160000000 * (y44_4).toInt + 1000000 * ((y65_5).toInt - u_109_19.toInt)) + 1000000) sc65 := by exact tgi_w g65_0 (by exact (have a0 := in_u j65_4; have a1 := in_u h1; have a2 := in_u ro_109_20; have a3 := in_u ro_109_19; have a4 := in_u i75; have a5 := in_u j65_3; have a6 := in_u i74; have a7 := t_add e74 ro_109_19 (in_c 160 rfl) rfl; have a8 := in_u ((in_c 160 rfl)); have oc := oc_312_109; by omega))
                        have n222c : (y65_3).toInt = 0 → TCL s (x2) sc65 (((y65_5).toInt - u_109_19.toInt).toNat + 1) := by (intro hz; exact tcl_s (g65_1 hz) (fun t1 t2 t3 t4 => by exfalso; rw [(ix_k (y := y65_5) e_109_19 (by exact (have a0 := in_u j65_4; have a1 := in_u h1; have a2 := in_u ro_109_20; have a3 := in_u ro_109_19; have a4 := in_u i75; have a5 := in_u j65_3; have a6 := in_u i74; have a7 := t_add e74 ro_109_19 (in_c 160 rfl) rfl; have a8 := in_u ((in_c 160 rfl)); have oc := oc_312_109; by omega)) (by exact (have a0 := in_u j65_4; have a1 := in_u h1; have a2 := in_u ro_109_20; have a3 := in_u ro_109_19; have a4 := in_u i75; have a5 := in_u j65_3; have a6 := in_u i74; have a7 := t_add e74 ro_109_19 (in_c 160 rfl) rfl; have a8 := in_u ((in_c 160 rfl)); have oc := oc_312_109; by omega))), ← hFc65.1 114 rfl, ← e109, ← e127] at t4; have h := i132a.1; omega))
                        have n222d : TGP s (x1).toNatClampNeg x2 (sc44.2.1 130) ((sc65).2.1 130) (((y65_5).toInt - u_109_19.toInt).toNat + 1) (y65_3).toInt := by exact tgp_n g65_2 (fun u v hp hf => by exfalso; rw [← hp.2.2.2.1, (ix_k (y := y65_5) e_109_19 (by exact (have a0 := in_u j65_4; have a1 := in_u h1; have a2 := in_u ro_109_20; have a3 := in_u ro_109_19; have a4 := in_u i75; have a5 := in_u j65_3; have a6 := in_u i74; have a7 := t_add e74 ro_109_19 (in_c 160 rfl) rfl; have a8 := in_u ((in_c 160 rfl)); have oc := oc_312_109; by omega)) (by exact (have a0 := in_u j65_4; have a1 := in_u h1; have a2 := in_u ro_109_20; have a3 := in_u ro_109_19; have a4 := in_u i75; have a5 := in_u j65_3; have a6 := in_u i74; have a7 := t_add e74 ro_109_19 (in_c 160 rfl) rfl; have a8 := in_u ((in_c 160 rfl)); have oc := oc_312_109; by omega))), ← hFc65.1 114 rfl, ← e109, ← e127] at hf; have h := i132a.1; omega)
                        exact gg_w (by first | exact Nat.le_add_right _ _ | exact gw2 | exact gw3 | exact gwe rfl | exact gwf rfl | exact gwg rfl | exact gwh rfl | omega) (gg_f (gf_cons rfl (gf_cons rfl (gf_cons rfl (gf_cons rfl (gf_cons rfl (gf_cons rfl gf_nil)))))) (ct222 sc65 y65_3 hIc65 hFc65 (in_w 0 1 j65_3 rfl) (in_w 0 400 i75 rfl) n222 n222a n222b n222c n222d))
                      · skip
                        have i132 := z_lt (-1) (-1) c132 i131 rfl
                        have c132a := lc_lt e131 c132
                        have i132a := lr_lt1 (-9223372036854775808) 8999999999999999 c132a (l_rng z127) (l_c 9000000000000000 rfl) rfl
                        refine g_aload_n 136 (gd rfl) rfl rfl ?_
                        refine g_getA (q2 := 130) 139 (gd rfl) rfl rfl rfl rfl ?_
                        refine g_aload_n 140 (gd rfl) rfl rfl ?_
                        refine g_getA (q2 := 114) 143 (gd rfl) rfl rfl rfl rfl ?_
                        refine g_iload 145 (gd rfl) rfl rfl ?_
                        refine g_iaload 146 (gd rfl) rfl (n := 480) rfl (in_ix i75 rfl) (fun z145 e145 => ?_)
                        have q145 : z109 = z145 := (e109).trans e145.symm
                        subst q145
                        refine g_laload 147 (gd rfl) rfl (n := 32) rfl (in_ix i109 rfl) (fun z146 e146 => ?_)
                        refine g_aload_n 148 (gd rfl) rfl rfl ?_
                        refine g_getA (q2 := 115) 151 (gd rfl) rfl rfl rfl rfl ?_
                        refine g_iload 153 (gd rfl) rfl rfl ?_
                        refine g_iaload 154 (gd rfl) rfl (n := 480) rfl (in_ix i75 rfl) (fun z153 e153 => ?_)
                        have i153 := inv_I hIc65 (n := 480) (t := 0) (-1000000) 1000000 rfl (in_ix i75 rfl) rfl e153
                        refine g_i2l 155 (gd rfl) rfl (fun z154 e154 => ?_)
                        have i154 := l_i e154 i153
                        refine g_ladd 156 (gd rfl) rfl (fun z155 e155 => ?_)
                        refine g_lstore 158 (gd rfl) rfl (Nat.le_of_ble_eq_true rfl) ?_
                        refine g_aload_n 159 (gd rfl) rfl rfl ?_
                        refine g_getA (q2 := 131) 162 (gd rfl) rfl rfl rfl rfl ?_
                        refine g_aload_n 163 (gd rfl) rfl rfl ?_
                        refine g_getA (q2 := 114) 166 (gd rfl) rfl rfl rfl rfl ?_
                        refine g_iload 168 (gd rfl) rfl rfl ?_
                        refine g_iaload 169 (gd rfl) rfl (n := 480) rfl (in_ix i75 rfl) (fun z168 e168 => ?_)
                        have q168 : z109 = z168 := (e109).trans e168.symm
                        subst q168
                        refine g_iaload 170 (gd rfl) rfl (n := 32) rfl (in_ix i109 rfl) (fun z169 e169 => ?_)
                        refine g_iconst 1 171 (gd rfl) rfl rfl ?_
                        refine g_iadd 172 (gd rfl) rfl (fun z171 e171 => ?_)
                        refine g_istore 174 (gd rfl) rfl (Nat.le_of_ble_eq_true rfl) ?_
                        refine g_lload 176 (gd rfl) rfl rfl ?_
                        refine g_aload_n 177 (gd rfl) rfl rfl ?_
                        refine g_getA (q2 := 130) 180 (gd rfl) rfl rfl rfl rfl ?_
                        refine g_aload_n 181 (gd rfl) rfl rfl ?_
                        refine g_getA (q2 := 113) 184 (gd rfl) rfl rfl rfl rfl ?_
                        refine g_iload 186 (gd rfl) rfl rfl ?_
                        refine g_iaload 187 (gd rfl) rfl (n := 480) rfl (in_ix i75 rfl) (fun z186 e186 => ?_)
                        have q186 : z95 = z186 := (e95).trans e186.symm
                        subst q186
                        refine g_laload 188 (gd rfl) rfl (n := 32) rfl (in_ix i95 rfl) (fun z187 e187 => ?_)
                        refine g_lcmp 189 (gd rfl) rfl (fun z188 e188 => ?_)
                        have i188 := lc_in e188
                        refine g_if_ge 192 222 (gd rfl) rfl rfl (fun c189 => ?_) (fun c189 => ?_)
                        · skip
                          have i189 := z_ge 0 1 c189 i188 rfl
                          have c189a := lc_ge e188 c189
                          have n222 : (u_109_19).toInt ≤ (y65_5).toInt := by first | exact n65_0 | (exact (have a0 := in_u j65_4; have a1 := in_u h1; have a2 := in_u ro_109_20; have a3 := in_u ro_109_19; have a4 := in_u i75; have a5 := in_u j65_3; have a6 := tx_i2l e154; have a7 := in_u i153; have a8 := in_u i74; have a9 := t_add e74 ro_109_19 (in_c 160 rfl) rfl; have a10 := in_u ((in_c 160 rfl)); have oc := oc_312_109; by omega))
                          have n222a : (y65_5).toInt < (u_109_19).toInt + 160 := by exact (have a0 := in_u j65_4; have a1 := in_u h1; have a2 := in_u ro_109_20; have a3 := in_u ro_109_19; have a4 := in_u i75; have a5 := in_u j65_3; have a6 := tx_i2l e154; have a7 := in_u i153; have a8 := in_u i74; have a9 := t_add e74 ro_109_19 (in_c 160 rfl) rfl; have a10 := in_u ((in_c 160 rfl)); have oc := oc_312_109; by omega)
                          have n222b : TGI s (x1).toNatClampNeg (x2) ((160000000 * (y44_4).toInt + 1000000 * ((y65_5).toInt - u_109_19.toInt)) + 1000000) sc65 := by first | exact tgi_w g65_0 (by exact (have a0 := in_u j65_4; have a1 := in_u h1; have a2 := in_u ro_109_20; have a3 := in_u ro_109_19; have a4 := in_u i75; have a5 := in_u j65_3; have a6 := tx_i2l e154; have a7 := in_u i153; have a8 := in_u i74; have a9 := t_add e74 ro_109_19 (in_c 160 rfl) rfl; have a10 := in_u ((in_c 160 rfl)); have oc := oc_312_109; by omega))
                          have n222c : (y65_3).toInt = 0 → TCL s (x2) sc65 (((y65_5).toInt - u_109_19.toInt).toNat + 1) := by (intro hz; exact tcl_s (g65_1 hz) (fun t1 t2 t3 t4 => by have hk := arc_n hI (a := (y65_5.toInt - u_109_19.toInt).toNat) (by exact (have a0 := in_u j65_4; have a1 := in_u h1; have a2 := in_u ro_109_20; have a3 := in_u ro_109_19; have a4 := in_u i75; have a5 := in_u j65_3; have a6 := tx_i2l e154; have a7 := in_u i153; have a8 := in_u i74; have a9 := t_add e74 ro_109_19 (in_c 160 rfl) rfl; have a10 := in_u ((in_c 160 rfl)); have oc := oc_312_109; by omega)) (by rw [(ix_k (y := y65_5) e_109_19 (by exact (have a0 := in_u j65_4; have a1 := in_u h1; have a2 := in_u ro_109_20; have a3 := in_u ro_109_19; have a4 := in_u i75; have a5 := in_u j65_3; have a6 := tx_i2l e154; have a7 := in_u i153; have a8 := in_u i74; have a9 := t_add e74 ro_109_19 (in_c 160 rfl) rfl; have a10 := in_u ((in_c 160 rfl)); have oc := oc_312_109; by omega)) (by exact (have a0 := in_u j65_4; have a1 := in_u h1; have a2 := in_u ro_109_20; have a3 := in_u ro_109_19; have a4 := in_u i75; have a5 := in_u j65_3; have a6 := tx_i2l e154; have a7 := in_u i153; have a8 := in_u i74; have a9 := t_add e74 ro_109_19 (in_c 160 rfl) rfl; have a10 := in_u ((in_c 160 rfl)); have oc := oc_312_109; by omega))), ← hFc65.1 112 rfl, ← e84]; exact c85); rw [(ix_k (y := y65_5) e_109_19 (by exact (have a0 := in_u j65_4; have a1 := in_u h1; have a2 := in_u ro_109_20; have a3 := in_u ro_109_19; have a4 := in_u i75; have a5 := in_u j65_3; have a6 := tx_i2l e154; have a7 := in_u i153; have a8 := in_u i74; have a9 := t_add e74 ro_109_19 (in_c 160 rfl) rfl; have a10 := in_u ((in_c 160 rfl)); have oc := oc_312_109; by omega)) (by exact (have a0 := in_u j65_4; have a1 := in_u h1; have a2 := in_u ro_109_20; have a3 := in_u ro_109_19; have a4 := in_u i75; have a5 := in_u j65_3; have a6 := tx_i2l e154; have a7 := in_u i153; have a8 := in_u i74; have a9 := t_add e74 ro_109_19 (in_c 160 rfl) rfl; have a10 := in_u ((in_c 160 rfl)); have oc := oc_312_109; by omega))), ← hFc65.1 114 rfl, ← e109] at hk; have hadd := tgi_add g65_0 (by exact (have a0 := in_u j65_4; have a1 := in_u h1; have a2 := in_u ro_109_20; have a3 := in_u ro_109_19; have a4 := in_u i75; have a5 := in_u j65_3; have a6 := tx_i2l e154; have a7 := in_u i153; have a8 := in_u i74; have a9 := t_add e74 ro_109_19 (in_c 160 rfl) rfl; have a10 := in_u ((in_c 160 rfl)); have oc := oc_312_109; by omega)) (by exact (have a0 := in_u j65_4; have a1 := in_u h1; have a2 := in_u ro_109_20; have a3 := in_u ro_109_19; have a4 := in_u i75; have a5 := in_u j65_3; have a6 := tx_i2l e154; have a7 := in_u i153; have a8 := in_u i74; have a9 := t_add e74 ro_109_19 (in_c 160 rfl) rfl; have a10 := in_u ((in_c 160 rfl)); have oc := oc_312_109; by omega)) i109 hk.2.1.2 e146 (by rw [e146, ← e127]; have h := i132a.2; omega) i153 e155 (tx_i2l e154); rw [(ix_k (y := y65_5) e_109_19 (by exact (have a0 := in_u j65_4; have a1 := in_u h1; have a2 := in_u ro_109_20; have a3 := in_u ro_109_19; have a4 := in_u i75; have a5 := in_u j65_3; have a6 := tx_i2l e154; have a7 := in_u i153; have a8 := in_u i74; have a9 := t_add e74 ro_109_19 (in_c 160 rfl) rfl; have a10 := in_u ((in_c 160 rfl)); have oc := oc_312_109; by omega)) (by exact (have a0 := in_u j65_4; have a1 := in_u h1; have a2 := in_u ro_109_20; have a3 := in_u ro_109_19; have a4 := in_u i75; have a5 := in_u j65_3; have a6 := tx_i2l e154; have a7 := in_u i153; have a8 := in_u i74; have a9 := t_add e74 ro_109_19 (in_c 160 rfl) rfl; have a10 := in_u ((in_c 160 rfl)); have oc := oc_312_109; by omega))), ← hFc65.1 113 rfl, ← hFc65.1 114 rfl, ← hFc65.1 115 rfl, ← e95, ← e109, ← e153, ← e187, ← e146]; have h := c189a; omega))
                          have n222d : TGP s (x1).toNatClampNeg x2 (sc44.2.1 130) ((sc65).2.1 130) (((y65_5).toInt - u_109_19.toInt).toNat + 1) (y65_3).toInt := by exact tgp_n g65_2 (fun u v hp hf => by have hk := arc_n hI (a := (y65_5.toInt - u_109_19.toInt).toNat) (by exact (have a0 := in_u j65_4; have a1 := in_u h1; have a2 := in_u ro_109_20; have a3 := in_u ro_109_19; have a4 := in_u i75; have a5 := in_u j65_3; have a6 := tx_i2l e154; have a7 := in_u i153; have a8 := in_u i74; have a9 := t_add e74 ro_109_19 (in_c 160 rfl) rfl; have a10 := in_u ((in_c 160 rfl)); have oc := oc_312_109; by omega)) (by rw [(ix_k (y := y65_5) e_109_19 (by exact (have a0 := in_u j65_4; have a1 := in_u h1; have a2 := in_u ro_109_20; have a3 := in_u ro_109_19; have a4 := in_u i75; have a5 := in_u j65_3; have a6 := tx_i2l e154; have a7 := in_u i153; have a8 := in_u i74; have a9 := t_add e74 ro_109_19 (in_c 160 rfl) rfl; have a10 := in_u ((in_c 160 rfl)); have oc := oc_312_109; by omega)) (by exact (have a0 := in_u j65_4; have a1 := in_u h1; have a2 := in_u ro_109_20; have a3 := in_u ro_109_19; have a4 := in_u i75; have a5 := in_u j65_3; have a6 := tx_i2l e154; have a7 := in_u i153; have a8 := in_u i74; have a9 := t_add e74 ro_109_19 (in_c 160 rfl) rfl; have a10 := in_u ((in_c 160 rfl)); have oc := oc_312_109; by omega))), ← hFc65.1 112 rfl, ← e84]; exact c85); rw [(ix_k (y := y65_5) e_109_19 (by exact (have a0 := in_u j65_4; have a1 := in_u h1; have a2 := in_u ro_109_20; have a3 := in_u ro_109_19; have a4 := in_u i75; have a5 := in_u j65_3; have a6 := tx_i2l e154; have a7 := in_u i153; have a8 := in_u i74; have a9 := t_add e74 ro_109_19 (in_c 160 rfl) rfl; have a10 := in_u ((in_c 160 rfl)); have oc := oc_312_109; by omega)) (by exact (have a0 := in_u j65_4; have a1 := in_u h1; have a2 := in_u ro_109_20; have a3 := in_u ro_109_19; have a4 := in_u i75; have a5 := in_u j65_3; have a6 := tx_i2l e154; have a7 := in_u i153; have a8 := in_u i74; have a9 := t_add e74 ro_109_19 (in_c 160 rfl) rfl; have a10 := in_u ((in_c 160 rfl)); have oc := oc_312_109; by omega))), ← hFc65.1 114 rfl, ← e109] at hk; have hadd := tgi_add g65_0 (by exact (have a0 := in_u j65_4; have a1 := in_u h1; have a2 := in_u ro_109_20; have a3 := in_u ro_109_19; have a4 := in_u i75; have a5 := in_u j65_3; have a6 := tx_i2l e154; have a7 := in_u i153; have a8 := in_u i74; have a9 := t_add e74 ro_109_19 (in_c 160 rfl) rfl; have a10 := in_u ((in_c 160 rfl)); have oc := oc_312_109; by omega)) (by exact (have a0 := in_u j65_4; have a1 := in_u h1; have a2 := in_u ro_109_20; have a3 := in_u ro_109_19; have a4 := in_u i75; have a5 := in_u j65_3; have a6 := tx_i2l e154; have a7 := in_u i153; have a8 := in_u i74; have a9 := t_add e74 ro_109_19 (in_c 160 rfl) rfl; have a10 := in_u ((in_c 160 rfl)); have oc := oc_312_109; by omega)) i109 hk.2.1.2 e146 (by rw [e146, ← e127]; have h := i132a.2; omega) i153 e155 (tx_i2l e154); rw [← hp.2.2.1, ← hp.2.2.2.1]; show _ ≤ _ + (s.1 115 (bs s + (y65_5.toInt - u_109_19.toInt).toNat)).toInt; rw [(ix_k (y := y65_5) e_109_19 (by exact (have a0 := in_u j65_4; have a1 := in_u h1; have a2 := in_u ro_109_20; have a3 := in_u ro_109_19; have a4 := in_u i75; have a5 := in_u j65_3; have a6 := tx_i2l e154; have a7 := in_u i153; have a8 := in_u i74; have a9 := t_add e74 ro_109_19 (in_c 160 rfl) rfl; have a10 := in_u ((in_c 160 rfl)); have oc := oc_312_109; by omega)) (by exact (have a0 := in_u j65_4; have a1 := in_u h1; have a2 := in_u ro_109_20; have a3 := in_u ro_109_19; have a4 := in_u i75; have a5 := in_u j65_3; have a6 := tx_i2l e154; have a7 := in_u i153; have a8 := in_u i74; have a9 := t_add e74 ro_109_19 (in_c 160 rfl) rfl; have a10 := in_u ((in_c 160 rfl)); have oc := oc_312_109; by omega))), ← hFc65.1 113 rfl, ← hFc65.1 114 rfl, ← hFc65.1 115 rfl, ← e95, ← e109, ← e153, ← e187, ← e146]; have h := c189a; omega)
                          exact gg_w (by first | exact Nat.le_add_right _ _ | exact gw2 | exact gw3 | exact gwe rfl | exact gwf rfl | exact gwg rfl | exact gwh rfl | omega) (gg_f (gf_cons rfl (gf_cons rfl (gf_cons rfl (gf_cons rfl (gf_cons rfl (gf_cons rfl gf_nil)))))) (ct222 sc65 y65_3 hIc65 hFc65 (in_w 0 1 j65_3 rfl) (in_w 0 400 i75 rfl) n222 n222a n222b n222c n222d))
                        · skip
                          have i189 := z_lt (-1) (-1) c189 i188 rfl
                          have c189a := lc_lt e188 c189
                          have i189a := lr_lt1 (-9223372036854775808) 9223372036854775806 c189a (l_rng z155) (l_rng z187) rfl
                          have i189b := lr_lt2 (-9223372036854775807) 9223372036854775807 c189a (l_rng z155) (l_rng z187) rfl
                          refine g_aload_n 193 (gd rfl) rfl rfl ?_
                          refine g_getA (q2 := 130) 196 (gd rfl) rfl rfl rfl rfl ?_
                          refine g_aload_n 197 (gd rfl) rfl rfl ?_
                          refine g_getA (q2 := 113) 200 (gd rfl) rfl rfl rfl rfl ?_
                          refine g_iload 202 (gd rfl) rfl rfl ?_
                          refine g_iaload 203 (gd rfl) rfl (n := 480) rfl (in_ix i75 rfl) (fun z202 e202 => ?_)
                          have q202 : z95 = z202 := (e95).trans e202.symm
                          subst q202
                          refine g_lload 205 (gd rfl) rfl rfl ?_
                          refine g_lastore 206 (gd rfl) rfl (n := 32) rfl (in_ix i95 rfl) ?_
                          have hI205 := inv_sL (q := 130) (j := z95.toNatClampNeg) (x := z155) hIc65 rfl (l_rng z155)
                          refine g_aload_n 207 (gd rfl) rfl rfl ?_
                          refine g_getA (q2 := 131) 210 (gd rfl) rfl rfl rfl rfl ?_
                          refine g_aload_n 211 (gd rfl) rfl rfl ?_
                          refine g_getA (q2 := 113) 214 (gd rfl) rfl rfl rfl rfl ?_
                          refine g_iload 216 (gd rfl) rfl rfl ?_
                          refine g_iaload 217 (gd rfl) rfl (n := 480) rfl (in_ix i75 rfl) (fun z216 e216 => ?_)
                          have q216 : z95 = z216 := (sL_I (e95)).trans e216.symm
                          subst q216
                          refine g_iload 219 (gd rfl) rfl rfl ?_
                          refine g_iastore 220 (gd rfl) rfl (n := 32) rfl (in_ix i95 rfl) ?_
                          have hI219 := inv_sI (q := 131) (j := z95.toNatClampNeg) hI205 rfl (in_w (-2147483648) 2147483647 (i_rng z171) rfl)
                          refine g_iconst 1 221 (gd rfl) rfl rfl ?_
                          refine g_istore_n 222 (gd rfl) rfl (Nat.le_of_ble_eq_true rfl) ?_
                          have n222 : (u_109_19).toInt ≤ (y65_5).toInt := by first | exact n65_0 | (exact (have a0 := in_u j65_4; have a1 := in_u h1; have a2 := in_u ro_109_20; have a3 := in_u ro_109_19; have a4 := in_u i75; have a5 := in_u j65_3; have a6 := in_u ((in_c 1 rfl)); have a7 := tx_i2l e154; have a8 := in_u i153; have a9 := in_u i74; have a10 := t_add e74 ro_109_19 (in_c 160 rfl) rfl; have a11 := in_u ((in_c 160 rfl)); have oc := oc_312_109; by omega))
                          have n222a : (y65_5).toInt < (u_109_19).toInt + 160 := by exact (have a0 := in_u j65_4; have a1 := in_u h1; have a2 := in_u ro_109_20; have a3 := in_u ro_109_19; have a4 := in_u i75; have a5 := in_u j65_3; have a6 := in_u ((in_c 1 rfl)); have a7 := tx_i2l e154; have a8 := in_u i153; have a9 := in_u i74; have a10 := t_add e74 ro_109_19 (in_c 160 rfl) rfl; have a11 := in_u ((in_c 160 rfl)); have oc := oc_312_109; by omega)
                          have n222b : TGI s (x1).toNatClampNeg (x2) ((160000000 * (y44_4).toInt + 1000000 * ((y65_5).toInt - u_109_19.toInt)) + 1000000) (sI (sL sc65 130 z95.toNatClampNeg z155) 131 z95.toNatClampNeg z171) := by exact tgi_ch (a := (y65_5.toInt - u_109_19.toInt).toNat) hI g65_0 (by exact (have a0 := in_u j65_4; have a1 := in_u h1; have a2 := in_u ro_109_20; have a3 := in_u ro_109_19; have a4 := in_u i75; have a5 := in_u j65_3; have a6 := in_u ((in_c 1 rfl)); have a7 := tx_i2l e154; have a8 := in_u i153; have a9 := in_u i74; have a10 := t_add e74 ro_109_19 (in_c 160 rfl) rfl; have a11 := in_u ((in_c 160 rfl)); have oc := oc_312_109; by omega)) (by rw [(ix_k (y := y65_5) e_109_19 (by exact (have a0 := in_u j65_4; have a1 := in_u h1; have a2 := in_u ro_109_20; have a3 := in_u ro_109_19; have a4 := in_u i75; have a5 := in_u j65_3; have a6 := in_u ((in_c 1 rfl)); have a7 := tx_i2l e154; have a8 := in_u i153; have a9 := in_u i74; have a10 := t_add e74 ro_109_19 (in_c 160 rfl) rfl; have a11 := in_u ((in_c 160 rfl)); have oc := oc_312_109; by omega)) (by exact (have a0 := in_u j65_4; have a1 := in_u h1; have a2 := in_u ro_109_20; have a3 := in_u ro_109_19; have a4 := in_u i75; have a5 := in_u j65_3; have a6 := in_u ((in_c 1 rfl)); have a7 := tx_i2l e154; have a8 := in_u i153; have a9 := in_u i74; have a10 := t_add e74 ro_109_19 (in_c 160 rfl) rfl; have a11 := in_u ((in_c 160 rfl)); have oc := oc_312_109; by omega))), ← hFc65.1 112 rfl, ← e84]; exact c85) (by rw [(ix_k (y := y65_5) e_109_19 (by exact (have a0 := in_u j65_4; have a1 := in_u h1; have a2 := in_u ro_109_20; have a3 := in_u ro_109_19; have a4 := in_u i75; have a5 := in_u j65_3; have a6 := in_u ((in_c 1 rfl)); have a7 := tx_i2l e154; have a8 := in_u i153; have a9 := in_u i74; have a10 := t_add e74 ro_109_19 (in_c 160 rfl) rfl; have a11 := in_u ((in_c 160 rfl)); have oc := oc_312_109; by omega)) (by exact (have a0 := in_u j65_4; have a1 := in_u h1; have a2 := in_u ro_109_20; have a3 := in_u ro_109_19; have a4 := in_u i75; have a5 := in_u j65_3; have a6 := in_u ((in_c 1 rfl)); have a7 := tx_i2l e154; have a8 := in_u i153; have a9 := in_u i74; have a10 := t_add e74 ro_109_19 (in_c 160 rfl) rfl; have a11 := in_u ((in_c 160 rfl)); have oc := oc_312_109; by omega))), ← hFc65.1 113 rfl]; exact e95) (by rw [(ix_k (y := y65_5) e_109_19 (by exact (have a0 := in_u j65_4; have a1 := in_u h1; have a2 := in_u ro_109_20; have a3 := in_u ro_109_19; have a4 := in_u i75; have a5 := in_u j65_3; have a6 := in_u ((in_c 1 rfl)); have a7 := tx_i2l e154; have a8 := in_u i153; have a9 := in_u i74; have a10 := t_add e74 ro_109_19 (in_c 160 rfl) rfl; have a11 := in_u ((in_c 160 rfl)); have oc := oc_312_109; by omega)) (by exact (have a0 := in_u j65_4; have a1 := in_u h1; have a2 := in_u ro_109_20; have a3 := in_u ro_109_19; have a4 := in_u i75; have a5 := in_u j65_3; have a6 := in_u ((in_c 1 rfl)); have a7 := tx_i2l e154; have a8 := in_u i153; have a9 := in_u i74; have a10 := t_add e74 ro_109_19 (in_c 160 rfl) rfl; have a11 := in_u ((in_c 160 rfl)); have oc := oc_312_109; by omega))), ← hFc65.1 114 rfl]; exact e109) (by rw [(ix_k (y := y65_5) e_109_19 (by exact (have a0 := in_u j65_4; have a1 := in_u h1; have a2 := in_u ro_109_20; have a3 := in_u ro_109_19; have a4 := in_u i75; have a5 := in_u j65_3; have a6 := in_u ((in_c 1 rfl)); have a7 := tx_i2l e154; have a8 := in_u i153; have a9 := in_u i74; have a10 := t_add e74 ro_109_19 (in_c 160 rfl) rfl; have a11 := in_u ((in_c 160 rfl)); have oc := oc_312_109; by omega)) (by exact (have a0 := in_u j65_4; have a1 := in_u h1; have a2 := in_u ro_109_20; have a3 := in_u ro_109_19; have a4 := in_u i75; have a5 := in_u j65_3; have a6 := in_u ((in_c 1 rfl)); have a7 := tx_i2l e154; have a8 := in_u i153; have a9 := in_u i74; have a10 := t_add e74 ro_109_19 (in_c 160 rfl) rfl; have a11 := in_u ((in_c 160 rfl)); have oc := oc_312_109; by omega))), ← hFc65.1 115 rfl]; exact e153) (bt_yes e96x2 e96x4 i95 c96x6) (bt_yes e110x2 e110x4 i109 c110x6) e146 (by rw [e146, ← e127]; have h := i132a.2; omega) e155 (tx_i2l e154) (by rw [← e187]; exact c189a) (by simp [sI, sL]) (by exact (have a0 := in_u j65_4; have a1 := in_u h1; have a2 := in_u ro_109_20; have a3 := in_u ro_109_19; have a4 := in_u i75; have a5 := in_u j65_3; have a6 := in_u ((in_c 1 rfl)); have a7 := tx_i2l e154; have a8 := in_u i153; have a9 := in_u i74; have a10 := t_add e74 ro_109_19 (in_c 160 rfl) rfl; have a11 := in_u ((in_c 160 rfl)); have oc := oc_312_109; by omega)) (by exact (have a0 := in_u j65_4; have a1 := in_u h1; have a2 := in_u ro_109_20; have a3 := in_u ro_109_19; have a4 := in_u i75; have a5 := in_u j65_3; have a6 := in_u ((in_c 1 rfl)); have a7 := tx_i2l e154; have a8 := in_u i153; have a9 := in_u i74; have a10 := t_add e74 ro_109_19 (in_c 160 rfl) rfl; have a11 := in_u ((in_c 160 rfl)); have oc := oc_312_109; by omega)) (by exact (have a0 := in_u j65_4; have a1 := in_u h1; have a2 := in_u ro_109_20; have a3 := in_u ro_109_19; have a4 := in_u i75; have a5 := in_u j65_3; have a6 := in_u ((in_c 1 rfl)); have a7 := tx_i2l e154; have a8 := in_u i153; have a9 := in_u i74; have a10 := t_add e74 ro_109_19 (in_c 160 rfl) rfl; have a11 := in_u ((in_c 160 rfl)); have oc := oc_312_109; by omega))
                          have n222c : ((Int32.ofInt 1)).toInt = 0 → TCL s (x2) (sI (sL sc65 130 z95.toNatClampNeg z155) 131 z95.toNatClampNeg z171) (((y65_5).toInt - u_109_19.toInt).toNat + 1) := by (intro hz; exfalso; have h0 : (Int32.ofInt 1).toInt = 1 := rfl; omega)
                          have n222d : TGP s (x1).toNatClampNeg x2 (sc44.2.1 130) (((sI (sL sc65 130 z95.toNatClampNeg z155) 131 z95.toNatClampNeg z171)).2.1 130) (((y65_5).toInt - u_109_19.toInt).toNat + 1) ((Int32.ofInt 1)).toInt := by have hk := arc_n hI (a := (y65_5.toInt - u_109_19.toInt).toNat) (by exact (have a0 := in_u j65_4; have a1 := in_u h1; have a2 := in_u ro_109_20; have a3 := in_u ro_109_19; have a4 := in_u i75; have a5 := in_u j65_3; have a6 := in_u ((in_c 1 rfl)); have a7 := tx_i2l e154; have a8 := in_u i153; have a9 := in_u i74; have a10 := t_add e74 ro_109_19 (in_c 160 rfl) rfl; have a11 := in_u ((in_c 160 rfl)); have oc := oc_312_109; by omega)) (by rw [(ix_k (y := y65_5) e_109_19 (by exact (have a0 := in_u j65_4; have a1 := in_u h1; have a2 := in_u ro_109_20; have a3 := in_u ro_109_19; have a4 := in_u i75; have a5 := in_u j65_3; have a6 := in_u ((in_c 1 rfl)); have a7 := tx_i2l e154; have a8 := in_u i153; have a9 := in_u i74; have a10 := t_add e74 ro_109_19 (in_c 160 rfl) rfl; have a11 := in_u ((in_c 160 rfl)); have oc := oc_312_109; by omega)) (by exact (have a0 := in_u j65_4; have a1 := in_u h1; have a2 := in_u ro_109_20; have a3 := in_u ro_109_19; have a4 := in_u i75; have a5 := in_u j65_3; have a6 := in_u ((in_c 1 rfl)); have a7 := tx_i2l e154; have a8 := in_u i153; have a9 := in_u i74; have a10 := t_add e74 ro_109_19 (in_c 160 rfl) rfl; have a11 := in_u ((in_c 160 rfl)); have oc := oc_312_109; by omega))), ← hFc65.1 112 rfl, ← e84]; exact c85); rw [(ix_k (y := y65_5) e_109_19 (by exact (have a0 := in_u j65_4; have a1 := in_u h1; have a2 := in_u ro_109_20; have a3 := in_u ro_109_19; have a4 := in_u i75; have a5 := in_u j65_3; have a6 := in_u ((in_c 1 rfl)); have a7 := tx_i2l e154; have a8 := in_u i153; have a9 := in_u i74; have a10 := t_add e74 ro_109_19 (in_c 160 rfl) rfl; have a11 := in_u ((in_c 160 rfl)); have oc := oc_312_109; by omega)) (by exact (have a0 := in_u j65_4; have a1 := in_u h1; have a2 := in_u ro_109_20; have a3 := in_u ro_109_19; have a4 := in_u i75; have a5 := in_u j65_3; have a6 := in_u ((in_c 1 rfl)); have a7 := tx_i2l e154; have a8 := in_u i153; have a9 := in_u i74; have a10 := t_add e74 ro_109_19 (in_c 160 rfl) rfl; have a11 := in_u ((in_c 160 rfl)); have oc := oc_312_109; by omega))), ← hFc65.1 114 rfl, ← e109] at hk; have hadd := tgi_add g65_0 (by exact (have a0 := in_u j65_4; have a1 := in_u h1; have a2 := in_u ro_109_20; have a3 := in_u ro_109_19; have a4 := in_u i75; have a5 := in_u j65_3; have a6 := in_u ((in_c 1 rfl)); have a7 := tx_i2l e154; have a8 := in_u i153; have a9 := in_u i74; have a10 := t_add e74 ro_109_19 (in_c 160 rfl) rfl; have a11 := in_u ((in_c 160 rfl)); have oc := oc_312_109; by omega)) (by exact (have a0 := in_u j65_4; have a1 := in_u h1; have a2 := in_u ro_109_20; have a3 := in_u ro_109_19; have a4 := in_u i75; have a5 := in_u j65_3; have a6 := in_u ((in_c 1 rfl)); have a7 := tx_i2l e154; have a8 := in_u i153; have a9 := in_u i74; have a10 := t_add e74 ro_109_19 (in_c 160 rfl) rfl; have a11 := in_u ((in_c 160 rfl)); have oc := oc_312_109; by omega)) i109 hk.2.1.2 e146 (by rw [e146, ← e127]; have h := i132a.2; omega) i153 e155 (tx_i2l e154); have fv := (show (sc65.2.1 130 z109.toNatClampNeg).toInt < 9000000000000000 from (by rw [← e127]; have h := i132a.2; omega)); have h7 : (z146).toInt ≤ 160000000 * (y44_4).toInt + 1000000 * ((y65_5).toInt - u_109_19.toInt) := (by obtain ⟨-, τ, T, -, h8⟩ := g65_0; rw [e146]; exact (h8 z109.toNatClampNeg (bt_lt (bt_yes e110x2 e110x4 i109 c110x6)) (q_0.2.1 _ (bt_yes e110x2 e110x4 i109 c110x6)) fv).1.2); exact tgp_y (u := z95.toNatClampNeg) (v := z109.toNatClampNeg) (z := z155) g65_2 ⟨by exact (have a0 := in_u j65_4; have a1 := in_u h1; have a2 := in_u ro_109_20; have a3 := in_u ro_109_19; have a4 := in_u i75; have a5 := in_u j65_3; have a6 := in_u ((in_c 1 rfl)); have a7 := tx_i2l e154; have a8 := in_u i153; have a9 := in_u i74; have a10 := t_add e74 ro_109_19 (in_c 160 rfl) rfl; have a11 := in_u ((in_c 160 rfl)); have oc := oc_312_109; by omega), (by rw [(ix_k (y := y65_5) e_109_19 (by exact (have a0 := in_u j65_4; have a1 := in_u h1; have a2 := in_u ro_109_20; have a3 := in_u ro_109_19; have a4 := in_u i75; have a5 := in_u j65_3; have a6 := in_u ((in_c 1 rfl)); have a7 := tx_i2l e154; have a8 := in_u i153; have a9 := in_u i74; have a10 := t_add e74 ro_109_19 (in_c 160 rfl) rfl; have a11 := in_u ((in_c 160 rfl)); have oc := oc_312_109; by omega)) (by exact (have a0 := in_u j65_4; have a1 := in_u h1; have a2 := in_u ro_109_20; have a3 := in_u ro_109_19; have a4 := in_u i75; have a5 := in_u j65_3; have a6 := in_u ((in_c 1 rfl)); have a7 := tx_i2l e154; have a8 := in_u i153; have a9 := in_u i74; have a10 := t_add e74 ro_109_19 (in_c 160 rfl) rfl; have a11 := in_u ((in_c 160 rfl)); have oc := oc_312_109; by omega))), ← hFc65.1 112 rfl, ← e84]; exact c85), by rw [(ix_k (y := y65_5) e_109_19 (by exact (have a0 := in_u j65_4; have a1 := in_u h1; have a2 := in_u ro_109_20; have a3 := in_u ro_109_19; have a4 := in_u i75; have a5 := in_u j65_3; have a6 := in_u ((in_c 1 rfl)); have a7 := tx_i2l e154; have a8 := in_u i153; have a9 := in_u i74; have a10 := t_add e74 ro_109_19 (in_c 160 rfl) rfl; have a11 := in_u ((in_c 160 rfl)); have oc := oc_312_109; by omega)) (by exact (have a0 := in_u j65_4; have a1 := in_u h1; have a2 := in_u ro_109_20; have a3 := in_u ro_109_19; have a4 := in_u i75; have a5 := in_u j65_3; have a6 := in_u ((in_c 1 rfl)); have a7 := tx_i2l e154; have a8 := in_u i153; have a9 := in_u i74; have a10 := t_add e74 ro_109_19 (in_c 160 rfl) rfl; have a11 := in_u ((in_c 160 rfl)); have oc := oc_312_109; by omega))), ← hFc65.1 113 rfl, ← e95], by rw [(ix_k (y := y65_5) e_109_19 (by exact (have a0 := in_u j65_4; have a1 := in_u h1; have a2 := in_u ro_109_20; have a3 := in_u ro_109_19; have a4 := in_u i75; have a5 := in_u j65_3; have a6 := in_u ((in_c 1 rfl)); have a7 := tx_i2l e154; have a8 := in_u i153; have a9 := in_u i74; have a10 := t_add e74 ro_109_19 (in_c 160 rfl) rfl; have a11 := in_u ((in_c 160 rfl)); have oc := oc_312_109; by omega)) (by exact (have a0 := in_u j65_4; have a1 := in_u h1; have a2 := in_u ro_109_20; have a3 := in_u ro_109_19; have a4 := in_u i75; have a5 := in_u j65_3; have a6 := in_u ((in_c 1 rfl)); have a7 := tx_i2l e154; have a8 := in_u i153; have a9 := in_u i74; have a10 := t_add e74 ro_109_19 (in_c 160 rfl) rfl; have a11 := in_u ((in_c 160 rfl)); have oc := oc_312_109; by omega))), ← hFc65.1 114 rfl, ← e109], (bt_yes e96x2 e96x4 i95 c96x6), (bt_yes e110x2 e110x4 i109 c110x6)⟩ fv (by show _ = _ + (s.1 115 (bs s + (y65_5.toInt - u_109_19.toInt).toNat)).toInt; rw [(ix_k (y := y65_5) e_109_19 (by exact (have a0 := in_u j65_4; have a1 := in_u h1; have a2 := in_u ro_109_20; have a3 := in_u ro_109_19; have a4 := in_u i75; have a5 := in_u j65_3; have a6 := in_u ((in_c 1 rfl)); have a7 := tx_i2l e154; have a8 := in_u i153; have a9 := in_u i74; have a10 := t_add e74 ro_109_19 (in_c 160 rfl) rfl; have a11 := in_u ((in_c 160 rfl)); have oc := oc_312_109; by omega)) (by exact (have a0 := in_u j65_4; have a1 := in_u h1; have a2 := in_u ro_109_20; have a3 := in_u ro_109_19; have a4 := in_u i75; have a5 := in_u j65_3; have a6 := in_u ((in_c 1 rfl)); have a7 := tx_i2l e154; have a8 := in_u i153; have a9 := in_u i74; have a10 := t_add e74 ro_109_19 (in_c 160 rfl) rfl; have a11 := in_u ((in_c 160 rfl)); have oc := oc_312_109; by omega))), ← hFc65.1 115 rfl, ← e153, ← e146]; exact hadd) (by rw [← e187]; exact c189a) (by have h6 := i153; unfold In at h6; exact (have a0 := in_u j65_4; have a1 := in_u h1; have a2 := in_u ro_109_20; have a3 := in_u ro_109_19; have a4 := in_u i75; have a5 := in_u j65_3; have a6 := in_u ((in_c 1 rfl)); have a7 := tx_i2l e154; have a8 := in_u i153; have a9 := in_u i74; have a10 := t_add e74 ro_109_19 (in_c 160 rfl) rfl; have a11 := in_u ((in_c 160 rfl)); have oc := oc_312_109; by omega)) (by simp [sI, sL])
                          exact gg_w (by first | exact Nat.le_add_right _ _ | exact gw2 | exact gw3 | exact gwe rfl | exact gwf rfl | exact gwg rfl | exact gwh rfl | omega) (gg_f (gf_cons rfl (gf_cons rfl (gf_cons rfl (gf_cons rfl (gf_cons rfl (gf_cons rfl gf_nil)))))) (ct222 (sI (sL sc65 130 z95.toNatClampNeg z155) 131 z95.toNatClampNeg z171) (Int32.ofInt 1) hI219 (fr_sI rfl (fr_sL rfl hFc65)) (in_w 0 1 (in_c 1 rfl) rfl) (in_w 0 400 i75 rfl) n222 n222a n222b n222c n222d))
      refine g_iload 46 (gd rfl) rfl rfl ?_
      refine g_aload_n 47 (gd rfl) rfl rfl ?_
      refine g_getI 50 (gd rfl) rfl rfl rfl (fun z47 e47 => ?_)
      have q47 : u_109_20 = z47 := (fr_F e_109_20 hFc44 rfl).trans e47.symm
      subst q47
      refine g_cmp_gt 53 234 (gd rfl) rfl rfl (fun c50 => ?_) (fun c50 => ?_)
      · skip
        have i50 := r_lt2 1 33 c50 ro_109_20 j44_4 rfl
        have n234 : (y44_3).toInt = 0 → TGI s (x1).toNatClampNeg (x2) 10000000000 sc44 ∧ TCL s (x2) sc44 160 := by exact fun hz => ⟨tgi_w g44_0 (by exact (have a0 := in_u h1; have a1 := in_u ro_109_20; have a2 := in_u ro_109_19; have a3 := in_u i50; have a4 := in_u j44_3; have oc := oc_312_109; by omega)), g44_1 hz⟩
        have n234a : TG1 s (x1).toNatClampNeg x2 ((sc44).2.1 130) ∧ TG2 s (x1).toNatClampNeg x2 0 ((sc44).2.1 130) ∧ ((y44_3).toInt ≠ 0 → ∃ r : Nat, (s.2.2.1 109 20).toInt.toNat < r ∧ TG3 s (x1).toNatClampNeg x2 r ((sc44).2.1 130)) := by exact ⟨g44_2.1, fun k v x hk => g44_2.2.1 k v x (by omega), fun hm => ⟨_, by show (s.2.2.1 109 20).toInt.toNat < (y44_4).toInt.toNat; rw [← e_109_20]; exact (have a0 := in_u h1; have a1 := in_u ro_109_20; have a2 := in_u ro_109_19; have a3 := in_u i50; have a4 := in_u j44_3; have oc := oc_312_109; by omega), g44_2.2.2 hm⟩⟩
        exact gg_w (by first | exact Nat.le_add_right _ _ | exact gw2 | exact gw3 | exact gwe rfl | exact gwf rfl | exact gwg rfl | exact gwh rfl | omega) (gg_f (gf_cons rfl (gf_cons rfl (gf_cons rfl (gf_cons rfl (gf_cons rfl gf_nil))))) (ct234 sc44 y44_3 y44_4 hIc44 hFc44 (in_w 0 1 j44_3 rfl) (in_w 0 33 i50 rfl) n234 n234a))
      · skip
        have i50 := r_le1 0 32 c50 j44_4 ro_109_20 rfl
        refine g_iload_n 54 (gd rfl) rfl rfl ?_
        refine g_if_eq 57 234 (gd rfl) rfl rfl (fun c54 => ?_) (fun c54 => ?_)
        · skip
          have i54 := z_eq 0 0 c54 j44_3 rfl
          have n234 : (y44_3).toInt = 0 → TGI s (x1).toNatClampNeg (x2) 10000000000 sc44 ∧ TCL s (x2) sc44 160 := by exact fun hz => ⟨tgi_w g44_0 (by exact (have a0 := in_u h1; have a1 := in_u ro_109_20; have a2 := in_u ro_109_19; have a3 := in_u i50; have a4 := in_u i54; have oc := oc_312_109; by omega)), g44_1 hz⟩
          have n234a : TG1 s (x1).toNatClampNeg x2 ((sc44).2.1 130) ∧ TG2 s (x1).toNatClampNeg x2 0 ((sc44).2.1 130) ∧ ((y44_3).toInt ≠ 0 → ∃ r : Nat, (s.2.2.1 109 20).toInt.toNat < r ∧ TG3 s (x1).toNatClampNeg x2 r ((sc44).2.1 130)) := by exact ⟨g44_2.1, fun k v x hk => g44_2.2.1 k v x (by omega), fun hm => ⟨_, by show (s.2.2.1 109 20).toInt.toNat < (y44_4).toInt.toNat; rw [← e_109_20]; exact (have a0 := in_u h1; have a1 := in_u ro_109_20; have a2 := in_u ro_109_19; have a3 := in_u i50; have a4 := in_u i54; have oc := oc_312_109; by omega), g44_2.2.2 hm⟩⟩
          exact gg_w (by first | exact Nat.le_add_right _ _ | exact gw2 | exact gw3 | exact gwe rfl | exact gwf rfl | exact gwg rfl | exact gwh rfl | omega) (gg_f (gf_cons rfl (gf_cons rfl (gf_cons rfl (gf_cons rfl (gf_cons rfl gf_nil))))) (ct234 sc44 y44_3 y44_4 hIc44 hFc44 (in_w 0 1 i54 rfl) (in_w 0 33 i50 rfl) n234 n234a))
        · skip
          have i54 := z_ne 1 1 c54 j44_3 rfl
          refine g_iconst 0 58 (gd rfl) rfl rfl ?_
          refine g_istore_n 59 (gd rfl) rfl (Nat.le_of_ble_eq_true rfl) ?_
          refine g_aload_n 60 (gd rfl) rfl rfl ?_
          refine g_getI 63 (gd rfl) rfl rfl rfl (fun z60 e60 => ?_)
          have q60 : u_109_19 = z60 := (fr_F e_109_19 hFc44 rfl).trans e60.symm
          subst q60
          refine g_istore 65 (gd rfl) rfl (Nat.le_of_ble_eq_true rfl) ?_
          have n65 : (u_109_19).toInt ≤ (u_109_19).toInt := by exact (have a0 := in_u h1; have a1 := in_u ro_109_20; have a2 := in_u ro_109_19; have a3 := in_u i50; have a4 := in_u i54; have a5 := in_u ((in_c 0 rfl)); have oc := oc_312_109; by omega)
          have n65a : (u_109_19).toInt ≤ (u_109_19).toInt + 160 := by exact (have a0 := in_u h1; have a1 := in_u ro_109_20; have a2 := in_u ro_109_19; have a3 := in_u i50; have a4 := in_u i54; have a5 := in_u ((in_c 0 rfl)); have oc := oc_312_109; by omega)
          have n65b : TGI s (x1).toNatClampNeg (x2) (160000000 * (y44_4).toInt + 1000000 * ((u_109_19).toInt - u_109_19.toInt)) sc44 := by exact tgi_w g44_0 (by exact (have a0 := in_u h1; have a1 := in_u ro_109_20; have a2 := in_u ro_109_19; have a3 := in_u i50; have a4 := in_u i54; have a5 := in_u ((in_c 0 rfl)); have oc := oc_312_109; by omega))
          have n65c : ((Int32.ofInt 0)).toInt = 0 → TCL s (x2) sc44 ((u_109_19).toInt - u_109_19.toInt).toNat := by (intro _ a ha; exfalso; omega)
          have n65d : TGP s (x1).toNatClampNeg x2 (sc44.2.1 130) ((sc44).2.1 130) ((u_109_19).toInt - u_109_19.toInt).toNat ((Int32.ofInt 0)).toInt := by rw [show (u_109_19.toInt - u_109_19.toInt).toNat = 0 from (by omega)]; exact tgp_0 g44_2.1 rfl
          exact gg_w (by first | exact Nat.le_add_right _ _ | exact gw2 | exact gw3 | exact gwe rfl | exact gwf rfl | exact gwg rfl | exact gwh rfl | omega) (gg_f (gf_cons rfl (gf_cons rfl (gf_cons rfl (gf_cons rfl (gf_cons rfl (gf_cons rfl gf_nil)))))) (ct65 449 sc44 (Int32.ofInt 0) u_109_19 hIc44 hFc44 (in_w 0 1 (in_c 0 rfl) rfl) (in_w 0 32 i50 rfl) (in_w 0 448 ro_109_19 rfl) n65 n65a n65b n65c n65d (m_in 449 (in_w 0 448 ro_109_19 rfl) rfl)))
  have ct2 : ∀ (k2 : Nat) (sc2 : GS) (y2_3 : Int32), Inv sc2 → Fr fm_312 s sc2 → (In y2_3 0 32) → (∀ k : Nat, (k : Int) < (y2_3).toInt → (sc2.2.1 130 k).toInt = 9000000000000000) → 32 - (y2_3).toInt < (k2 : Int) → GG Z (d - 1) 312 post (gx xp) (27617437 + k2 * 900) 2 (fun j => xlook j [(0, .ref (A 109)), (1, .int x1), (2, .int x2), (3, .int y2_3)]) [] (WW Z A sc2 ++ ex) 0 0 := by
    intro k2
    induction k2 with
    | zero => intro sc2 y2_3 hIc2 hFc2 j2_3 g2_0 mm2; exact m_no mm2 j2_3 rfl
    | succ k2 ih2 =>
      intro sc2 y2_3 hIc2 hFc2 j2_3 g2_0 mm2
      refine gg_w (M := 27617437 + k2 * 900 + 900) gws ?_
      refine g_iload_n 3 (gd rfl) rfl rfl ?_
      refine g_aload_n 4 (gd rfl) rfl rfl ?_
      refine g_getI 7 (gd rfl) rfl rfl rfl (fun z4 e4 => ?_)
      have q4 : u_109_20 = z4 := (fr_F e_109_20 hFc2 rfl).trans e4.symm
      subst q4
      refine g_cmp_ge 10 32 (gd rfl) rfl rfl (fun c7 => ?_) (fun c7 => ?_)
      · skip
        refine g_aload_n 33 (gd rfl) rfl rfl ?_
        refine g_getA (q2 := 130) 36 (gd rfl) rfl rfl rfl rfl ?_
        refine g_iload_n 37 (gd rfl) rfl rfl ?_
        refine g_lconst 0 38 (gd rfl) rfl rfl ?_
        refine g_lastore 39 (gd rfl) rfl (n := 32) rfl (in_ix h1 rfl) ?_
        have hI38 := inv_sL (q := 130) (j := x1.toNatClampNeg) (x := (Int64.ofInt 0)) hIc2 rfl (l_rng (Int64.ofInt 0))
        refine g_iconst 1 40 (gd rfl) rfl rfl ?_
        refine g_istore_n 41 (gd rfl) rfl (Nat.le_of_ble_eq_true rfl) ?_
        refine g_iconst 0 42 (gd rfl) rfl rfl ?_
        refine g_istore 44 (gd rfl) rfl (Nat.le_of_ble_eq_true rfl) ?_
        have n44 : TGI s (x1).toNatClampNeg (x2) (160000000 * ((Int32.ofInt 0)).toInt) (sL sc2 130 x1.toNatClampNeg (Int64.ofInt 0)) := by exact tgi_0 (by have h0 : (Int32.ofInt 0).toInt = 0 := rfl; omega) (by rw [show ((sL sc2 130 x1.toNatClampNeg (Int64.ofInt 0))).2.1 130 = vp_updL (sc2.2.1 130) x1.toNatClampNeg (Int64.ofInt 0) from (by simp [sL]), ul_eq]; rfl) (fun v hv hne => by rw [show ((sL sc2 130 x1.toNatClampNeg (Int64.ofInt 0))).2.1 130 = vp_updL (sc2.2.1 130) x1.toNatClampNeg (Int64.ofInt 0) from (by simp [sL]), ul_ne hne]; exact g2_0 v (by unfold nmx at hv; rw [← e_109_20] at hv; exact (have a0 := in_u h1; have a1 := in_u ro_109_20; have a2 := in_u ro_109_19; have a3 := in_u j2_3; have a4 := in_u ((in_c 0 rfl)); have a5 := in_u ((in_c 1 rfl)); have oc := oc_312_109; by omega)))
        have n44a : ((Int32.ofInt 1)).toInt = 0 → TCL s (x2) (sL sc2 130 x1.toNatClampNeg (Int64.ofInt 0)) 160 := by (intro hz; exfalso; have h0 : (Int32.ofInt 1).toInt = 1 := rfl; omega)
        have n44b : TG1 s (x1).toNatClampNeg x2 (((sL sc2 130 x1.toNatClampNeg (Int64.ofInt 0))).2.1 130) ∧ TG2 s (x1).toNatClampNeg x2 ((Int32.ofInt 0)).toNatClampNeg (((sL sc2 130 x1.toNatClampNeg (Int64.ofInt 0))).2.1 130) ∧ (((Int32.ofInt 1)).toInt ≠ 0 → TG3 s (x1).toNatClampNeg x2 ((Int32.ofInt 0)).toNatClampNeg (((sL sc2 130 x1.toNatClampNeg (Int64.ofInt 0))).2.1 130)) := by have r0 : ((((sL sc2 130 x1.toNatClampNeg (Int64.ofInt 0))).2.1 130) (x1).toNatClampNeg).toInt = 0 := (by rw [show ((sL sc2 130 x1.toNatClampNeg (Int64.ofInt 0))).2.1 130 = vp_updL (sc2.2.1 130) x1.toNatClampNeg (Int64.ofInt 0) from (by simp [sL]), ul_eq]; rfl); have r1 : ∀ v : Nat, bt x2 v = true → v ≠ (x1).toNatClampNeg → ((((sL sc2 130 x1.toNatClampNeg (Int64.ofInt 0))).2.1 130) v).toInt = 9000000000000000 := (fun v hv ne => by rw [show ((sL sc2 130 x1.toNatClampNeg (Int64.ofInt 0))).2.1 130 = vp_updL (sc2.2.1 130) x1.toNatClampNeg (Int64.ofInt 0) from (by simp [sL]), ul_ne ne]; exact g2_0 v (by have h8 := q_0.2.1 v hv; unfold nmx at h8; rw [← e_109_20] at h8; exact (have a0 := in_u h1; have a1 := in_u ro_109_20; have a2 := in_u ro_109_19; have a3 := in_u j2_3; have a4 := in_u ((in_c 0 rfl)); have a5 := in_u ((in_c 1 rfl)); have oc := oc_312_109; by omega))); exact ⟨tg1_0 r0 r1, (show TG2 _ _ _ 0 _ from tg2_0 r0), fun _ => (show TG3 _ _ _ 0 _ from tg3_0 r0 q_0.1)⟩
        exact gg_w (by first | exact Nat.le_add_right _ _ | exact gw2 | exact gw3 | exact gwe rfl | exact gwf rfl | exact gwg rfl | exact gwh rfl | omega) (gg_f (gf_cons rfl (gf_cons rfl (gf_cons rfl (gf_cons rfl (gf_cons rfl gf_nil))))) (ct44 34 (sL sc2 130 x1.toNatClampNeg (Int64.ofInt 0)) (Int32.ofInt 1) (Int32.ofInt 0) hI38 (fr_sL rfl hFc2) (in_w 0 1 (in_c 1 rfl) rfl) (in_w 0 33 (in_c 0 rfl) rfl) n44 n44a n44b (m_in 34 (in_w 0 33 (in_c 0 rfl) rfl) rfl)))
      · skip
        have i7 := r_lt1 0 31 c7 j2_3 ro_109_20 rfl
        have i7a := r_lt2 1 32 c7 j2_3 ro_109_20 rfl
        refine g_aload_n 11 (gd rfl) rfl rfl ?_
        refine g_getA (q2 := 130) 14 (gd rfl) rfl rfl rfl rfl ?_
        refine g_iload_n 15 (gd rfl) rfl rfl ?_
        refine g_ldc2_w 9000000000000000 18 (gd rfl) rfl rfl ?_
        refine g_lastore 19 (gd rfl) rfl (n := 32) rfl (in_ix i7 rfl) ?_
        have hI18 := inv_sL (q := 130) (j := y2_3.toNatClampNeg) (x := (Int64.ofInt 9000000000000000)) hIc2 rfl (l_rng (Int64.ofInt 9000000000000000))
        refine g_aload_n 20 (gd rfl) rfl rfl ?_
        refine g_getA (q2 := 131) 23 (gd rfl) rfl rfl rfl rfl ?_
        refine g_iload_n 24 (gd rfl) rfl rfl ?_
        refine g_iconst 0 25 (gd rfl) rfl rfl ?_
        refine g_iastore 26 (gd rfl) rfl (n := 32) rfl (in_ix i7 rfl) ?_
        have hI25 := inv_sI (q := 131) (j := y2_3.toNatClampNeg) hI18 rfl (in_w (-2147483648) 2147483647 (in_c 0 rfl) rfl)
        refine g_iinc 29 (gd rfl) rfl rfl (Nat.le_of_ble_eq_true rfl) (fun z26 e26 => ?_)
        have i26 := in_add 1 32 e26 i7 (in_c 1 rfl) rfl rfl
        refine g_goto 2 (gd rfl) rfl ?_
        have n2 : ∀ k : Nat, (k : Int) < (z26).toInt → ((sI (sL sc2 130 y2_3.toNatClampNeg (Int64.ofInt 9000000000000000)) 131 y2_3.toNatClampNeg (Int32.ofInt 0)).2.1 130 k).toInt = 9000000000000000 := by (intro k hk; have e2 : y2_3.toNatClampNeg = y2_3.toInt.toNat := rfl; rw [show ((sI (sL sc2 130 y2_3.toNatClampNeg (Int64.ofInt 9000000000000000)) 131 y2_3.toNatClampNeg (Int32.ofInt 0))).2.1 130 = vp_updL (sc2.2.1 130) y2_3.toNatClampNeg (Int64.ofInt 9000000000000000) from (by simp [sI, sL])]; by_cases c : k = y2_3.toNatClampNeg; (rw [c, ul_eq]; exact (by have hl : InL (Int64.ofInt 9000000000000000) 9000000000000000 9000000000000000 := l_c 9000000000000000 rfl; exact Int.le_antisymm hl.2 hl.1)); (rw [ul_ne c]; exact g2_0 k (by exact (have a0 := in_u h1; have a1 := in_u i7a; have a2 := in_u ro_109_19; have a3 := in_u i7; have a4 := in_u i26; have a5 := t_add e26 i7 (in_c 1 rfl) rfl; have a6 := in_u ((in_c 1 rfl)); have oc := oc_312_109; by omega))))
        exact gg_w (by first | exact Nat.le_add_right _ _ | exact gw2 | exact gw3 | exact gwe rfl | exact gwf rfl | exact gwg rfl | exact gwh rfl | omega) (gg_f (gf_cons rfl (gf_cons rfl (gf_cons rfl (gf_cons rfl gf_nil)))) (ih2 (sI (sL sc2 130 y2_3.toNatClampNeg (Int64.ofInt 9000000000000000)) 131 y2_3.toNatClampNeg (Int32.ofInt 0)) z26 hI25 (fr_sI rfl (fr_sL rfl hFc2)) (in_w 0 32 i26 rfl) n2 (m_up mm2 (t_add e26 i7 (in_c 1 rfl) rfl) (in_w 1 1 (in_c 1 rfl) rfl))))
  refine g_enter2 (k := 312) (N := 27648037) (by first | exact dq1 hd rfl | exact dq0 hd rfl | exact dq2 hd rfl | exact dq3 hd rfl | omega) rfl (Nat.le_of_ble_eq_true rfl) ?_
  refine g_iconst 0 1 (gd rfl) rfl rfl ?_
  refine g_istore_n 2 (gd rfl) rfl (Nat.le_of_ble_eq_true rfl) ?_
  have n2 : ∀ k : Nat, (k : Int) < ((Int32.ofInt 0)).toInt → (s.2.1 130 k).toInt = 9000000000000000 := by (intro k hk; exfalso; have h0 : (Int32.ofInt 0).toInt = 0 := rfl; omega)
  exact gg_w (by first | exact Nat.le_of_ble_eq_true rfl | omega) (gg_f (gf_cons rfl (gf_cons rfl (gf_cons rfl (gf_cons rfl gf_nil)))) (ct2 33 s (Int32.ofInt 0) hI fr_rf (in_w 0 32 (in_c 0 rfl) rfl) n2 (m_in 33 (in_w 0 32 (in_c 0 rfl) rfl) rfl)))

theorem oc_314_109 : (Int32.ofInt (-1)).toInt = (-1) ∧ (Int32.ofInt 0).toInt = 0 ∧ (Int32.ofInt 1).toInt = 1 := ⟨rfl, rfl, rfl⟩
/-- GraphHouseModel.between -/
theorem f_314 {Z : AmZ} {A : Nat → Nat} {s : GS} {ex : va_W} {d : Nat} {X : AmX} {x1 : Int32} {x2 : Int32} (hd : 3 ≤ d) (hI : Inv s) (h1 : In x1 0 31) (h2 : In x2 0 31) (q_0 : (x1).toInt < nmx s ∧ (x2).toInt < nmx s) : GC Z d 314 [.ref (A 109), .int x1, .int x2] (WW Z A s ++ ex) 0 0 (fun v u => ∃ t : GS, Inv t ∧ Fr fm_314 s t ∧ ∃ z : Int32, v = some (.int z) ∧ u = WW Z A t ++ ex ∧ In z (-2147483648) 2147483647 ∧ ((z).toInt ≠ 0 → BTS t (x2).toNatClampNeg (z) ∧ bt (z) (x1).toNatClampNeg = true) ∧ (BTW t (x1).toNatClampNeg (x2).toNatClampNeg (z))) X := by
  intro post xp hP hX
  obtain ⟨u_109_20, e_109_20⟩ : ∃ w, w = s.2.2.1 109 20 := ⟨_, rfl⟩
  have ro_109_20 := inv_F hI 0 32 rfl e_109_20
  have ct12 : ∀ (k12 : Nat) (sc12 : GS) (y12_3 : Int32) (y12_4 : Int32), Inv sc12 → Fr fm_314 s sc12 → (In y12_4 0 32) → ((y12_4).toInt ≤ (u_109_20).toInt) → (∀ j : Nat, (j : Int) < nmx sc12 → bt (sc12.1 129 j) j = true) → (RCH sc12 (sc12.1 129)) → (∀ v : Nat, (bt (y12_3) v = true ↔ ((v : Int) < (y12_4).toInt ∧ bt (sc12.1 129 (x1).toNatClampNeg) v = true ∧ bt (sc12.1 129 v) (x2).toNatClampNeg = true))) → 32 - (y12_4).toInt < (k12 : Int) → GG Z (d - 1) 314 post (gx xp) (1 + k12 * 900) 12 (fun j => xlook j [(0, .ref (A 109)), (1, .int x1), (2, .int x2), (3, .int y12_3), (4, .int y12_4)]) [] (WW Z A sc12 ++ ex) 0 0 := by
    intro k12
    induction k12 with
    | zero => intro sc12 y12_3 y12_4 hIc12 hFc12 j12_4 n12_0 g12_0 g12_1 g12_2 mm12; exact m_no mm12 j12_4 rfl
    | succ k12 ih12 =>
      intro sc12 y12_3 y12_4 hIc12 hFc12 j12_4 n12_0 g12_0 g12_1 g12_2 mm12
      refine gg_w (M := 1 + k12 * 900 + 900) gws ?_
      refine g_iload 14 (gd rfl) rfl rfl ?_
      refine g_aload_n 15 (gd rfl) rfl rfl ?_
      refine g_getI 18 (gd rfl) rfl rfl rfl (fun z15 e15 => ?_)
      have q15 : u_109_20 = z15 := (fr_F e_109_20 hFc12 rfl).trans e15.symm
      subst q15
      refine g_cmp_ge 21 66 (gd rfl) rfl rfl (fun c18 => ?_) (fun c18 => ?_)
      · skip
        refine g_iload_n 67 (gd rfl) rfl rfl ?_
        have n67 : (y12_3).toInt ≠ 0 → BTS sc12 (x2).toNatClampNeg (y12_3) ∧ bt (y12_3) (x1).toNatClampNeg = true := by intro hz; have en : nmx sc12 = nmx s := (by unfold nmx; rw [hFc12.2.2.1 109 20 rfl]); exact bts_i hIc12 (by rw [en]; show ((x1.toInt.toNat : Nat) : Int) < _; have h := q_0.1; exact (have a0 := in_u h2; have a1 := in_u h1; have a2 := in_u ro_109_20; have a3 := in_u j12_4; have oc := oc_314_109; by omega)) (by rw [en]; show ((x2.toInt.toNat : Nat) : Int) < _; have h := q_0.2; exact (have a0 := in_u h2; have a1 := in_u h1; have a2 := in_u ro_109_20; have a3 := in_u j12_4; have oc := oc_314_109; by omega)) g12_0 g12_1 (fun v => by rw [g12_2 v, show y12_4.toInt = nmx sc12 from (by rw [en]; unfold nmx; rw [← e_109_20]; exact (have a0 := in_u h2; have a1 := in_u h1; have a2 := in_u ro_109_20; have a3 := in_u j12_4; have oc := oc_314_109; by omega))]) hz
        have n67a : BTW sc12 (x1).toNatClampNeg (x2).toNatClampNeg (y12_3) := by have en : nmx sc12 = nmx s := (by unfold nmx; rw [hFc12.2.2.1 109 20 rfl]); exact btw_i hIc12 (by rw [en]; show ((x1.toInt.toNat : Nat) : Int) < _; have h := q_0.1; exact (have a0 := in_u h2; have a1 := in_u h1; have a2 := in_u ro_109_20; have a3 := in_u j12_4; have oc := oc_314_109; by omega)) g12_0 g12_1 (fun v => by rw [g12_2 v, show y12_4.toInt = nmx sc12 from (by rw [en]; unfold nmx; rw [← e_109_20]; exact (have a0 := in_u h2; have a1 := in_u h1; have a2 := in_u ro_109_20; have a3 := in_u j12_4; have oc := oc_314_109; by omega))])
        exact g_ireturn (gd rfl) rfl rfl (hP _ _ ⟨sc12, hIc12, hFc12, y12_3, rfl, rfl, in_w (-2147483648) 2147483647 (i_rng y12_3) rfl, n67, n67a⟩)
      · skip
        have i18 := r_lt1 0 31 c18 j12_4 ro_109_20 rfl
        have i18a := r_lt2 1 32 c18 j12_4 ro_109_20 rfl
        refine g_iload_n 22 (gd rfl) rfl rfl ?_
        refine g_aload_n 23 (gd rfl) rfl rfl ?_
        refine g_getA (q2 := 129) 26 (gd rfl) rfl rfl rfl rfl ?_
        refine g_iload_n 27 (gd rfl) rfl rfl ?_
        refine g_iaload 28 (gd rfl) rfl (n := 32) rfl (in_ix h1 rfl) (fun z27 e27 => ?_)
        refine g_iload 30 (gd rfl) rfl rfl ?_
        refine g_calls (As := [.int z27, .int y12_4]) (r := [.int y12_3]) 33 (gd rfl) rfl rfl rfl rfl rfl (Nat.le_of_ble_eq_true rfl) (mc := 0) (ms := 0) (Nat.zero_le _) (Nat.zero_le _) (P := fun v u => _) ?_ (fun v u h => h)
        intro po30 xx30 hp30 hx30
        refine g_enter2 (k := 311) (N := 300) (by first | exact dq1 hd rfl | exact dq0 hd rfl | exact dq2 hd rfl | exact dq3 hd rfl | omega) rfl (Nat.le_of_ble_eq_true rfl) ?_
        refine g_iload_n 1 (gd rfl) rfl rfl ?_
        refine g_iload_n 2 (gd rfl) rfl rfl ?_
        refine g_ishr 3 (gd rfl) rfl (fun z30x2 e30x2 => ?_)
        refine g_iconst 1 4 (gd rfl) rfl rfl ?_
        refine g_iand 5 (gd rfl) rfl (fun z30x4 e30x4 => ?_)
        have i30x4 := in_and2 e30x4 (in_c 1 rfl) rfl
        refine g_iconst 1 6 (gd rfl) rfl rfl ?_
        refine g_cmp_ne 9 13 (gd rfl) rfl rfl (fun c30x6 => ?_) (fun c30x6 => ?_)
        · skip
          have i30x6 := r_ne1 0 0 c30x6 i30x4 (in_c 1 rfl) rfl
          refine g_iconst 0 14 (gd rfl) rfl rfl ?_
          refine g_ireturn (gd rfl) rfl (nb01 (in_w 0 1 (in_c 0 rfl) rfl)) (hp30 _ _ ?_)
          show GG _ _ _ _ _ _ _ _ [.int (Int32.ofInt 0), .int y12_3] _ _ _
          refine g_if_eq 36 57 (gd rfl) rfl rfl (fun c33 => ?_) (fun c33 => ?_)
          · skip
            refine g_iconst 0 58 (gd rfl) rfl rfl ?_
            refine g_ior 59 (gd rfl) rfl (fun z58 e58 => ?_)
            refine g_istore_n 60 (gd rfl) rfl (Nat.le_of_ble_eq_true rfl) ?_
            refine g_iinc 63 (gd rfl) rfl rfl (Nat.le_of_ble_eq_true rfl) (fun z60 e60 => ?_)
            have i60 := in_add 1 32 e60 i18 (in_c 1 rfl) rfl rfl
            refine g_goto 12 (gd rfl) rfl ?_
            have n12 : (z60).toInt ≤ (u_109_20).toInt := by exact (have a0 := in_u h2; have a1 := in_u h1; have a2 := in_u i18a; have a3 := in_u i18; have a4 := in_u i60; have a5 := t_add e60 i18 (in_c 1 rfl) rfl; have a6 := in_u ((in_c 1 rfl)); have oc := oc_314_109; by omega)
            have n12a : ∀ j : Nat, (j : Int) < nmx sc12 → bt (sc12.1 129 j) j = true := by first | exact g12_0 | (first | exact g12_0 | exact fun j hj => p4 j ⟨hj, by have h0 : (Int32.ofInt (-1)).toInt = -1 := rfl; rw [h0]; omega⟩)
            have n12b : RCH sc12 (sc12.1 129) := by first | exact g12_1 | exact p4a rfl rfl rfl
            have n12c : ∀ v : Nat, (bt (z58) v = true ↔ ((v : Int) < (z60).toInt ∧ bt (sc12.1 129 (x1).toNatClampNeg) v = true ∧ bt (sc12.1 129 v) (x2).toNatClampNeg = true)) := by exact bset_no g12_2 (by exact (have a0 := in_u h2; have a1 := in_u h1; have a2 := in_u i18a; have a3 := in_u i18; have a4 := in_u i60; have a5 := t_add e60 i18 (in_c 1 rfl) rfl; have a6 := in_u ((in_c 1 rfl)); have oc := oc_314_109; by omega)) (by exact (have a0 := in_u h2; have a1 := in_u h1; have a2 := in_u i18a; have a3 := in_u i18; have a4 := in_u i60; have a5 := t_add e60 i18 (in_c 1 rfl) rfl; have a6 := in_u ((in_c 1 rfl)); have oc := oc_314_109; by omega)) (fun h => by have hb := bt_no e30x2 e30x4 i18 c30x6; rw [e27, h.1] at hb; cases hb) e58
            exact gg_w (by first | exact Nat.le_add_right _ _ | exact gw2 | exact gw3 | exact gwe rfl | exact gwf rfl | exact gwg rfl | exact gwh rfl | omega) (gg_f (gf_cons rfl (gf_cons rfl (gf_cons rfl (gf_cons rfl (gf_cons rfl gf_nil))))) (ih12 sc12 z58 z60 hIc12 hFc12 (in_w 0 32 i60 rfl) n12 n12a n12b n12c (m_up mm12 (t_add e60 i18 (in_c 1 rfl) rfl) (in_w 1 1 (in_c 1 rfl) rfl))))
          · skip
            exact zn_ne c33 (in_c 0 rfl) rfl
        · skip
          have i30x6 := r_eq1 1 1 c30x6 i30x4 (in_c 1 rfl) rfl
          refine g_iconst 1 10 (gd rfl) rfl rfl ?_
          refine g_goto 14 (gd rfl) rfl ?_
          refine g_ireturn (gd rfl) rfl (nb01 (in_w 0 1 (in_c 1 rfl) rfl)) (hp30 _ _ ?_)
          show GG _ _ _ _ _ _ _ _ [.int (Int32.ofInt 1), .int y12_3] _ _ _
          refine g_if_eq 36 57 (gd rfl) rfl rfl (fun c33 => ?_) (fun c33 => ?_)
          · skip
            exact zn_eq c33 (in_c 1 rfl) rfl
          · skip
            refine g_aload_n 37 (gd rfl) rfl rfl ?_
            refine g_getA (q2 := 129) 40 (gd rfl) rfl rfl rfl rfl ?_
            refine g_iload 42 (gd rfl) rfl rfl ?_
            refine g_iaload 43 (gd rfl) rfl (n := 32) rfl (in_ix i18 rfl) (fun z42 e42 => ?_)
            refine g_iload_n 44 (gd rfl) rfl rfl ?_
            refine g_calls (As := [.int z42, .int x2]) (r := [.int y12_3]) 47 (gd rfl) rfl rfl rfl rfl rfl (Nat.le_of_ble_eq_true rfl) (mc := 0) (ms := 0) (Nat.zero_le _) (Nat.zero_le _) (P := fun v u => _) ?_ (fun v u h => h)
            intro po44 xx44 hp44 hx44
            refine g_enter2 (k := 311) (N := 300) (by first | exact dq1 hd rfl | exact dq0 hd rfl | exact dq2 hd rfl | exact dq3 hd rfl | omega) rfl (Nat.le_of_ble_eq_true rfl) ?_
            refine g_iload_n 1 (gd rfl) rfl rfl ?_
            refine g_iload_n 2 (gd rfl) rfl rfl ?_
            refine g_ishr 3 (gd rfl) rfl (fun z44x2 e44x2 => ?_)
            refine g_iconst 1 4 (gd rfl) rfl rfl ?_
            refine g_iand 5 (gd rfl) rfl (fun z44x4 e44x4 => ?_)
            have i44x4 := in_and2 e44x4 (in_c 1 rfl) rfl
            refine g_iconst 1 6 (gd rfl) rfl rfl ?_
            refine g_cmp_ne 9 13 (gd rfl) rfl rfl (fun c44x6 => ?_) (fun c44x6 => ?_)
            · skip
              have i44x6 := r_ne1 0 0 c44x6 i44x4 (in_c 1 rfl) rfl
              refine g_iconst 0 14 (gd rfl) rfl rfl ?_
              refine g_ireturn (gd rfl) rfl (nb01 (in_w 0 1 (in_c 0 rfl) rfl)) (hp44 _ _ ?_)
              show GG _ _ _ _ _ _ _ _ [.int (Int32.ofInt 0), .int y12_3] _ _ _
              refine g_if_eq 50 57 (gd rfl) rfl rfl (fun c47 => ?_) (fun c47 => ?_)
              · skip
                refine g_iconst 0 58 (gd rfl) rfl rfl ?_
                refine g_ior 59 (gd rfl) rfl (fun z58 e58 => ?_)
                refine g_istore_n 60 (gd rfl) rfl (Nat.le_of_ble_eq_true rfl) ?_
                refine g_iinc 63 (gd rfl) rfl rfl (Nat.le_of_ble_eq_true rfl) (fun z60 e60 => ?_)
                have i60 := in_add 1 32 e60 i18 (in_c 1 rfl) rfl rfl
                refine g_goto 12 (gd rfl) rfl ?_
                have n12 : (z60).toInt ≤ (u_109_20).toInt := by exact (have a0 := in_u h2; have a1 := in_u h1; have a2 := in_u i18a; have a3 := in_u i18; have a4 := in_u i60; have a5 := t_add e60 i18 (in_c 1 rfl) rfl; have a6 := in_u ((in_c 1 rfl)); have oc := oc_314_109; by omega)
                have n12a : ∀ j : Nat, (j : Int) < nmx sc12 → bt (sc12.1 129 j) j = true := by first | exact g12_0 | (first | exact g12_0 | exact fun j hj => p4 j ⟨hj, by have h0 : (Int32.ofInt (-1)).toInt = -1 := rfl; rw [h0]; omega⟩)
                have n12b : RCH sc12 (sc12.1 129) := by first | exact g12_1 | exact p4a rfl rfl rfl
                have n12c : ∀ v : Nat, (bt (z58) v = true ↔ ((v : Int) < (z60).toInt ∧ bt (sc12.1 129 (x1).toNatClampNeg) v = true ∧ bt (sc12.1 129 v) (x2).toNatClampNeg = true)) := by exact bset_no g12_2 (by exact (have a0 := in_u h2; have a1 := in_u h1; have a2 := in_u i18a; have a3 := in_u i18; have a4 := in_u i60; have a5 := t_add e60 i18 (in_c 1 rfl) rfl; have a6 := in_u ((in_c 1 rfl)); have oc := oc_314_109; by omega)) (by exact (have a0 := in_u h2; have a1 := in_u h1; have a2 := in_u i18a; have a3 := in_u i18; have a4 := in_u i60; have a5 := t_add e60 i18 (in_c 1 rfl) rfl; have a6 := in_u ((in_c 1 rfl)); have oc := oc_314_109; by omega)) (fun h => by have hb := bt_no e44x2 e44x4 h2 c44x6; rw [e42, h.2] at hb; cases hb) e58
                exact gg_w (by first | exact Nat.le_add_right _ _ | exact gw2 | exact gw3 | exact gwe rfl | exact gwf rfl | exact gwg rfl | exact gwh rfl | omega) (gg_f (gf_cons rfl (gf_cons rfl (gf_cons rfl (gf_cons rfl (gf_cons rfl gf_nil))))) (ih12 sc12 z58 z60 hIc12 hFc12 (in_w 0 32 i60 rfl) n12 n12a n12b n12c (m_up mm12 (t_add e60 i18 (in_c 1 rfl) rfl) (in_w 1 1 (in_c 1 rfl) rfl))))
              · skip
                exact zn_ne c47 (in_c 0 rfl) rfl
            · skip
              have i44x6 := r_eq1 1 1 c44x6 i44x4 (in_c 1 rfl) rfl
              refine g_iconst 1 10 (gd rfl) rfl rfl ?_
              refine g_goto 14 (gd rfl) rfl ?_
              refine g_ireturn (gd rfl) rfl (nb01 (in_w 0 1 (in_c 1 rfl) rfl)) (hp44 _ _ ?_)
              show GG _ _ _ _ _ _ _ _ [.int (Int32.ofInt 1), .int y12_3] _ _ _
              refine g_if_eq 50 57 (gd rfl) rfl rfl (fun c47 => ?_) (fun c47 => ?_)
              · skip
                exact zn_eq c47 (in_c 1 rfl) rfl
              · skip
                refine g_iconst 1 51 (gd rfl) rfl rfl ?_
                refine g_iload 53 (gd rfl) rfl rfl ?_
                refine g_ishl 54 (gd rfl) rfl (fun z53 e53 => ?_)
                refine g_goto 58 (gd rfl) rfl ?_
                refine g_ior 59 (gd rfl) rfl (fun z58 e58 => ?_)
                refine g_istore_n 60 (gd rfl) rfl (Nat.le_of_ble_eq_true rfl) ?_
                refine g_iinc 63 (gd rfl) rfl rfl (Nat.le_of_ble_eq_true rfl) (fun z60 e60 => ?_)
                have i60 := in_add 1 32 e60 i18 (in_c 1 rfl) rfl rfl
                refine g_goto 12 (gd rfl) rfl ?_
                have n12 : (z60).toInt ≤ (u_109_20).toInt := by exact (have a0 := in_u h2; have a1 := in_u h1; have a2 := in_u i18a; have a3 := in_u i18; have a4 := in_u i60; have a5 := t_add e60 i18 (in_c 1 rfl) rfl; have a6 := in_u ((in_c 1 rfl)); have oc := oc_314_109; by omega)
                have n12a : ∀ j : Nat, (j : Int) < nmx sc12 → bt (sc12.1 129 j) j = true := by first | exact g12_0 | (first | exact g12_0 | exact fun j hj => p4 j ⟨hj, by have h0 : (Int32.ofInt (-1)).toInt = -1 := rfl; rw [h0]; omega⟩)
                have n12b : RCH sc12 (sc12.1 129) := by first | exact g12_1 | exact p4a rfl rfl rfl
                have n12c : ∀ v : Nat, (bt (z58) v = true ↔ ((v : Int) < (z60).toInt ∧ bt (sc12.1 129 (x1).toNatClampNeg) v = true ∧ bt (sc12.1 129 v) (x2).toNatClampNeg = true)) := by exact bset_yes g12_2 (by exact (have a0 := in_u h2; have a1 := in_u h1; have a2 := in_u i18a; have a3 := in_u i18; have a4 := in_u i60; have a5 := t_add e60 i18 (in_c 1 rfl) rfl; have a6 := in_u ((in_c 1 rfl)); have oc := oc_314_109; by omega)) i18 (by rw [← e27]; exact bt_yes e30x2 e30x4 i18 c30x6) (by rw [← e42]; exact bt_yes e44x2 e44x4 h2 c44x6) e53 e58
                exact gg_w (by first | exact Nat.le_add_right _ _ | exact gw2 | exact gw3 | exact gwe rfl | exact gwf rfl | exact gwg rfl | exact gwh rfl | omega) (gg_f (gf_cons rfl (gf_cons rfl (gf_cons rfl (gf_cons rfl (gf_cons rfl gf_nil))))) (ih12 sc12 z58 z60 hIc12 hFc12 (in_w 0 32 i60 rfl) n12 n12a n12b n12c (m_up mm12 (t_add e60 i18 (in_c 1 rfl) rfl) (in_w 1 1 (in_c 1 rfl) rfl))))
  refine g_enter2 (k := 314) (N := 30601) (by first | exact dq1 hd rfl | exact dq0 hd rfl | exact dq2 hd rfl | exact dq3 hd rfl | omega) rfl (Nat.le_of_ble_eq_true rfl) ?_
  refine g_aload_n 1 (gd rfl) rfl rfl ?_
  refine g_iconst 0 2 (gd rfl) rfl rfl ?_
  refine g_iconst (-1) 3 (gd rfl) rfl rfl ?_
  refine g_iconst (-1) 4 (gd rfl) rfl rfl ?_
  refine g_callv (X := _) (As := [.int (Int32.ofInt 0), .int (Int32.ofInt (-1)), .int (Int32.ofInt (-1))]) (r := []) (b := A 109) (q := 109) 7 (gd rfl) rfl rfl rfl rfl rfl (ww_o rfl) (Nat.le_of_ble_eq_true rfl) (Nat.zero_le _) (Nat.zero_le _) (f_310 (by first | exact dq1 hd rfl | exact dq0 hd rfl | exact dq2 hd rfl | exact dq3 hd rfl | omega) hI (in_w 0 1 (in_c 0 rfl) rfl) (in_w (-1) 159 (in_c (-1) rfl) rfl) (in_w (-1) 31 (in_c (-1) rfl) rfl)) (fun e u h => h) (fun v u h => ?_)
  obtain ⟨s4, hI4, hF4, rfl, rfl, p4, p4a, p4b⟩ := h
  show GG _ _ _ _ _ _ _ _ [] _ _ _
  refine g_iconst 0 8 (gd rfl) rfl rfl ?_
  refine g_istore_n 9 (gd rfl) rfl (Nat.le_of_ble_eq_true rfl) ?_
  refine g_iconst 0 10 (gd rfl) rfl rfl ?_
  refine g_istore 12 (gd rfl) rfl (Nat.le_of_ble_eq_true rfl) ?_
  have n12 : ((Int32.ofInt 0)).toInt ≤ (u_109_20).toInt := by exact (have a0 := in_u ro_109_20; have a1 := in_u h2; have a2 := in_u h1; have a3 := in_u ((in_c 0 rfl)); have oc := oc_314_109; by omega)
  have n12a : ∀ j : Nat, (j : Int) < nmx s4 → bt (s4.1 129 j) j = true := by first | exact g12_0 | exact fun j hj => p4 j ⟨hj, by have h0 : (Int32.ofInt (-1)).toInt = -1 := rfl; rw [h0]; omega⟩
  have n12b : RCH s4 (s4.1 129) := by first | exact g12_1 | exact p4a rfl rfl rfl
  have n12c : ∀ v : Nat, (bt ((Int32.ofInt 0)) v = true ↔ ((v : Int) < ((Int32.ofInt 0)).toInt ∧ bt (s4.1 129 (x1).toNatClampNeg) v = true ∧ bt (s4.1 129 v) (x2).toNatClampNeg = true)) := by (intro v; rw [show (Int32.ofInt 0) = (0 : Int32) from rfl, bt_z]; exact ⟨fun h => (by cases h), fun h => by exfalso; have h1 := h.1; have h0 : (0 : Int32).toInt = 0 := rfl; omega⟩)
  exact gg_w (by first | exact Nat.le_of_ble_eq_true rfl | omega) (gg_f (gf_cons rfl (gf_cons rfl (gf_cons rfl (gf_cons rfl (gf_cons rfl gf_nil))))) (ct12 33 s4 (Int32.ofInt 0) (Int32.ofInt 0) hI4 (fr_tr rfl fr_rf hF4) (in_w 0 32 (in_c 0 rfl) rfl) n12 n12a n12b n12c (m_in 33 (in_w 0 32 (in_c 0 rfl) rfl) rfl)))
end
