section
/-! methods, by vc.py -/
def fm_403 : FM := ([187, 188, 190], [], [(109, 23), (109, 24), (109, 27), (109, 28), (109, 29), (109, 30), (109, 109), (109, 111), (109, 112)], [(109, 31)])
/-- GraphHouseModel.expression -/
theorem k_403 {Z : AmZ} {A : Nat → Nat} {s : GS} {ex : va_W} {d : Nat} {X : AmX} {x1 : Int32} {u_109_27 : Int32} {u_109_22 : Int32} {u_109_109 : Int32} (hd : 5 ≤ d) (hI : Inv s) (h1 : In x1 0 1) (e_109_27 : u_109_27 = s.2.2.1 109 27) (e_109_22 : u_109_22 = s.2.2.1 109 22) (e_109_109 : u_109_109 = s.2.2.1 109 109) (p_0 : (u_109_27).toInt ≤ (u_109_22).toInt) (p_1 : (u_109_22).toInt ≤ 120) (p_2 : (u_109_109).toInt ≤ (u_109_27).toInt) : GC Z d 403 [.ref (A 109), .int x1] (WW Z A s ++ ex) 0 0 (fun v u => ∃ t : GS, Inv t ∧ Fr fm_403 s t ∧ ((t.2.2.1 109 27).toInt ≤ (t.2.2.1 109 22).toInt) ∧ ((t.2.2.1 109 109).toInt ≤ (t.2.2.1 109 27).toInt) ∧ ((s.2.2.1 109 109).toInt ≤ (t.2.2.1 109 109).toInt) ∧ v = none ∧ u = WW Z A t ++ ex ∧ (PQ s t) ∧ ((t.2.2.1 109 23).toInt = 0 → (ht (fun i => hs (t.1 187 i) (t.1 188 i)) (s.2.2.1 109 109).toNatClampNeg ((t.2.2.1 109 109).toNatClampNeg - (s.2.2.1 109 109).toNatClampNeg)).isSome = true)) X := by
  intro post xp hP hX
  have ro_109_22 := inv_F hI 0 1000 rfl e_109_22
  have ct14 : ∀ (k14 : Nat) (sc14 : GS) (y14_2 : Int32) (y14_3 : Int32) (w14_109_27 : Int32) (w14_109_109 : Int32) (w14_109_111 : Int32) (w14_109_23 : Int32), Inv sc14 → Fr fm_403 s sc14 → (In y14_2 0 1) → (In y14_3 0 1) → (w14_109_27 = sc14.2.2.1 109 27) → (w14_109_109 = sc14.2.2.1 109 109) → (w14_109_111 = sc14.2.2.1 109 111) → (w14_109_23 = sc14.2.2.1 109 23) → ((w14_109_27).toInt ≤ (u_109_22).toInt) → ((w14_109_109).toInt + (w14_109_111).toInt ≤ (w14_109_27).toInt) → (PQ s sc14 ∧ PS sc14 (s.2.2.1 109 109).toNatClampNeg (if (y14_2).toInt = 0 then 1 else 0)) → 20 * ((u_109_22).toInt - (w14_109_27).toInt) + 10 * (y14_3).toInt + 10 - (w14_109_23).toInt < (k14 : Int) → GG Z (d - 1) 403 post (gx xp) (1 + k14 * 900) 14 (fun j => xlook j [(0, .ref (A 109)), (1, .int x1), (2, .int y14_2), (3, .int y14_3)]) [] (WW Z A sc14 ++ ex) 0 0 := by
    intro k14
    induction k14 with
    | zero => intro sc14 y14_2 y14_3 w14_109_27 w14_109_109 w14_109_111 w14_109_23 hIc14 hFc14 j14_2 j14_3 v14_109_27 v14_109_109 v14_109_111 v14_109_23 n14_0 n14_1 g14_0 mm14; exfalso; have a0 := oa6 h1 ro_109_22 ((inv_F hIc14 0 9 rfl v14_109_23)) ((inv_F hIc14 0 200 rfl v14_109_111)) ((inv_F hIc14 0 400 rfl v14_109_109)) ((inv_F hIc14 0 1000 rfl v14_109_27)); have a6 := j14_3; unfold In at a6; have a7 := j14_2; unfold In at a7; omega
    | succ k14 ih14 =>
      intro sc14 y14_2 y14_3 w14_109_27 w14_109_109 w14_109_111 w14_109_23 hIc14 hFc14 j14_2 j14_3 v14_109_27 v14_109_109 v14_109_111 v14_109_23 n14_0 n14_1 g14_0 mm14
      refine gg_w (M := 1 + k14 * 900 + 900) gws ?_
      refine g_iload_n 15 (gd rfl) rfl rfl ?_
      refine g_if_eq 18 96 (gd rfl) rfl rfl (fun c15 => ?_) (fun c15 => ?_)
      · skip
        have i15 := z_eq 0 0 c15 j14_3 rfl
        have hpq := g14_0.1.1; rw [← e_109_109, ← v14_109_109] at hpq
        have n96 : PQ s sc14 := by exact g14_0.1
        have n96a : (sc14.2.2.1 109 23).toInt = 0 → (ht (fun i => hs (sc14.1 187 i) (sc14.1 188 i)) (s.2.2.1 109 109).toNatClampNeg ((sc14.2.2.1 109 109).toNatClampNeg - (s.2.2.1 109 109).toNatClampNeg)).isSome = true := by intro hf; rw [(g14_0.2 hf).2]; rfl
        have n96b : (w14_109_27).toInt ≤ (u_109_22).toInt := by first | exact n14_0 | (have a0 := oa8 h1 ro_109_22 ((inv_F hIc14 0 9 rfl v14_109_23)) ((inv_F hIc14 0 200 rfl v14_109_111)) ((inv_F hIc14 0 400 rfl v14_109_109)) ((inv_F hIc14 0 1000 rfl v14_109_27)) i15 j14_2; omega)
        have n96c : (sc14.2.2.1 109 27).toInt ≤ (sc14.2.2.1 109 22).toInt := by have b0 : w14_109_27 = sc14.2.2.1 109 27 := v14_109_27; have b1 : u_109_22 = sc14.2.2.1 109 22 := fr_F e_109_22 hFc14 rfl; rw [← b0, ← b1]; exact n96b
        have n96d : (w14_109_109).toInt ≤ (w14_109_27).toInt := by have a0 := oa8 h1 ro_109_22 ((inv_F hIc14 0 9 rfl v14_109_23)) ((inv_F hIc14 0 200 rfl v14_109_111)) ((inv_F hIc14 0 400 rfl v14_109_109)) ((inv_F hIc14 0 1000 rfl v14_109_27)) i15 j14_2; omega
        have n96e : (sc14.2.2.1 109 109).toInt ≤ (sc14.2.2.1 109 27).toInt := by have b0 : w14_109_109 = sc14.2.2.1 109 109 := v14_109_109; have b1 : w14_109_27 = sc14.2.2.1 109 27 := v14_109_27; rw [← b0, ← b1]; exact n96d
        have n96f : (u_109_109).toInt ≤ (w14_109_109).toInt := by have a0 := oa8 h1 ro_109_22 ((inv_F hIc14 0 9 rfl v14_109_23)) ((inv_F hIc14 0 200 rfl v14_109_111)) ((inv_F hIc14 0 400 rfl v14_109_109)) ((inv_F hIc14 0 1000 rfl v14_109_27)) i15 j14_2; omega
        have n96g : (s.2.2.1 109 109).toInt ≤ (sc14.2.2.1 109 109).toInt := by have b0 : w14_109_109 = sc14.2.2.1 109 109 := v14_109_109; first | (rw [← b0, ← e_109_109]; exact n96f) | (rw [← b0]; exact n96f)
        exact g_return (gd rfl) rfl (hP _ _ ⟨sc14, hIc14, hFc14, n96c, n96e, n96g, rfl, rfl, n96, n96a⟩)
      · skip
        have i15 := z_ne 1 1 c15 j14_3 rfl
        refine g_aload_n 19 (gd rfl) rfl rfl ?_
        refine g_getI 22 (gd rfl) rfl rfl rfl (fun z19 e19 => ?_)
        have q19 : w14_109_23 = z19 := (v14_109_23).trans e19.symm
        subst q19
        refine g_if_ne 25 96 (gd rfl) rfl rfl (fun c22 => ?_) (fun c22 => ?_)
        · skip
          have i22 := z_ne 1 9 c22 (inv_F hIc14 0 9 rfl v14_109_23) rfl
          have hpq := g14_0.1.1; rw [← e_109_109, ← v14_109_109] at hpq
          have n96 : PQ s sc14 := by exact g14_0.1
          have n96a : (sc14.2.2.1 109 23).toInt = 0 → (ht (fun i => hs (sc14.1 187 i) (sc14.1 188 i)) (s.2.2.1 109 109).toNatClampNeg ((sc14.2.2.1 109 109).toNatClampNeg - (s.2.2.1 109 109).toNatClampNeg)).isSome = true := by intro hf; rw [(g14_0.2 hf).2]; rfl
          have n96b : (w14_109_27).toInt ≤ (u_109_22).toInt := by first | exact n14_0 | (have a0 := oa8 h1 ro_109_22 i22 ((inv_F hIc14 0 200 rfl v14_109_111)) ((inv_F hIc14 0 400 rfl v14_109_109)) ((inv_F hIc14 0 1000 rfl v14_109_27)) i15 j14_2; omega)
          have n96c : (sc14.2.2.1 109 27).toInt ≤ (sc14.2.2.1 109 22).toInt := by have b0 : w14_109_27 = sc14.2.2.1 109 27 := v14_109_27; have b1 : u_109_22 = sc14.2.2.1 109 22 := fr_F e_109_22 hFc14 rfl; rw [← b0, ← b1]; exact n96b
          have n96d : (w14_109_109).toInt ≤ (w14_109_27).toInt := by have a0 := oa8 h1 ro_109_22 i22 ((inv_F hIc14 0 200 rfl v14_109_111)) ((inv_F hIc14 0 400 rfl v14_109_109)) ((inv_F hIc14 0 1000 rfl v14_109_27)) i15 j14_2; omega
          have n96e : (sc14.2.2.1 109 109).toInt ≤ (sc14.2.2.1 109 27).toInt := by have b0 : w14_109_109 = sc14.2.2.1 109 109 := v14_109_109; have b1 : w14_109_27 = sc14.2.2.1 109 27 := v14_109_27; rw [← b0, ← b1]; exact n96d
          have n96f : (u_109_109).toInt ≤ (w14_109_109).toInt := by have a0 := oa8 h1 ro_109_22 i22 ((inv_F hIc14 0 200 rfl v14_109_111)) ((inv_F hIc14 0 400 rfl v14_109_109)) ((inv_F hIc14 0 1000 rfl v14_109_27)) i15 j14_2; omega
          have n96g : (s.2.2.1 109 109).toInt ≤ (sc14.2.2.1 109 109).toInt := by have b0 : w14_109_109 = sc14.2.2.1 109 109 := v14_109_109; first | (rw [← b0, ← e_109_109]; exact n96f) | (rw [← b0]; exact n96f)
          exact g_return (gd rfl) rfl (hP _ _ ⟨sc14, hIc14, hFc14, n96c, n96e, n96g, rfl, rfl, n96, n96a⟩)
        · skip
          have i22 := z_eq 0 0 c22 (inv_F hIc14 0 9 rfl v14_109_23) rfl
          refine g_aload_n 26 (gd rfl) rfl rfl ?_
          have v26 : u_109_22 = sc14.2.2.1 109 22 := fr_F e_109_22 hFc14 rfl
          have n26 : (w14_109_27).toInt ≤ (u_109_22).toInt := by first | exact n14_0 | (have a0 := oa8 h1 ro_109_22 i22 ((inv_F hIc14 0 200 rfl v14_109_111)) ((inv_F hIc14 0 400 rfl v14_109_109)) ((inv_F hIc14 0 1000 rfl v14_109_27)) i15 j14_2; omega)
          refine g_callv (X := _) (As := []) (r := []) (b := A 109) (q := 109) 29 (gd rfl) rfl rfl rfl rfl rfl (ww_o rfl) (Nat.le_of_ble_eq_true rfl) (Nat.zero_le _) (Nat.zero_le _) (k_392 (by first | exact dq1 hd rfl | exact dq0 hd rfl | exact dq2 hd rfl | exact dq3 hd rfl | omega) hIc14 v14_109_27 v26 n26) (fun e u h => h) (fun v u h => ?_)
          obtain ⟨s26, hI26, hF26, n26a, n26b, n26c, rfl, rfl⟩ := h
          obtain ⟨z26a, e26⟩ : ∃ w, w = s26.2.2.1 109 27 := ⟨_, rfl⟩
          have i26a := inv_F hI26 0 1000 rfl e26
          obtain ⟨z26b, e26a⟩ : ∃ w, w = s26.2.2.1 109 28 := ⟨_, rfl⟩
          rw [← (show z26a = s26.2.2.1 109 27 from e26)] at n26a
          rw [← (show u_109_22 = s26.2.2.1 109 22 from fr_F (fr_F e_109_22 hFc14 rfl) hF26 rfl)] at n26a
          rw [← (show w14_109_27 = sc14.2.2.1 109 27 from v14_109_27)] at n26b
          rw [← (show z26a = s26.2.2.1 109 27 from e26)] at n26b
          rw [← (show w14_109_27 = sc14.2.2.1 109 27 from v14_109_27)] at n26c
          rw [← (show z26a = s26.2.2.1 109 27 from e26)] at n26c
          rw [← (show z26b = s26.2.2.1 109 28 from e26a)] at n26c
          show GG _ _ _ _ _ _ _ _ [] _ _ _
          refine g_aload_n 30 (gd rfl) rfl rfl ?_
          refine g_getI 33 (gd rfl) rfl rfl rfl (fun z30 e30 => ?_)
          have i30 := inv_F hI26 0 9 rfl e30
          refine g_if_ne 36 56 (gd rfl) rfl rfl (fun c33 => ?_) (fun c33 => ?_)
          · skip
            have i33 := z_ne 1 9 c33 i30 rfl
            refine g_aload_n 57 (gd rfl) rfl rfl ?_
            refine g_getI 60 (gd rfl) rfl rfl rfl (fun z57 e57 => ?_)
            have q57 : z30 = z57 := (e30).trans e57.symm
            subst q57
            refine g_if_ne 63 14 (gd rfl) rfl rfl (fun c60 => ?_) (fun c60 => ?_)
            · skip
              have v14 : w14_109_109 = s26.2.2.1 109 109 := fr_F (v14_109_109) hF26 rfl
              have v14a : w14_109_111 = s26.2.2.1 109 111 := fr_F (v14_109_111) hF26 rfl
              have n14 : (z26a).toInt ≤ (u_109_22).toInt := by have a0 := oa10 h1 ro_109_22 i22 ((inv_F hIc14 0 200 rfl v14_109_111)) ((inv_F hIc14 0 400 rfl v14_109_109)) ((inv_F hIc14 0 1000 rfl v14_109_27)) i15 j14_2 i33 i26a; omega
              have n14a : (w14_109_109).toInt + (w14_109_111).toInt ≤ (z26a).toInt := by have a0 := oa10 h1 ro_109_22 i22 ((inv_F hIc14 0 200 rfl v14_109_111)) ((inv_F hIc14 0 400 rfl v14_109_109)) ((inv_F hIc14 0 1000 rfl v14_109_27)) i15 j14_2 i33 i26a; omega
              have n14b : PQ s s26 ∧ PS s26 (s.2.2.1 109 109).toNatClampNeg (if (y14_2).toInt = 0 then 1 else 0) := by first | exact pe_tr g14_0 (pr_nx (hF26.1 187 rfl) (hF26.1 188 rfl) (hF26.2.2.1 109 109 rfl) (hF26.1 190 rfl) (hF26.2.2.1 109 111 rfl) (by rw [← e19]; exact c22)) | (have hg := g14_0; rw [if_neg c37] at hg; exact pe_tr hg (pr_tr (pr_nx (hF26.1 187 rfl) (hF26.1 188 rfl) (hF26.2.2.1 109 109 rfl) (hF26.1 190 rfl) (hF26.2.2.1 109 111 rfl) (by rw [← e19]; exact c22)) (p41 c44))) | (have hg := g14_0; rw [if_neg c37] at hg; exact pe_tr hg (pr_tr (pr_nx (hF26.1 187 rfl) (hF26.1 188 rfl) (hF26.2.2.1 109 109 rfl) (hF26.1 190 rfl) (hF26.2.2.1 109 111 rfl) (by rw [← e19]; exact c22)) (p41a c44))) | (have hg := g14_0; rw [if_pos c37] at hg; exact pe_tr hg (pr_tr (pr_nx (hF26.1 187 rfl) (hF26.1 188 rfl) (hF26.2.2.1 109 109 rfl) (hF26.1 190 rfl) (hF26.2.2.1 109 111 rfl) (by rw [← e19]; exact c22)) (p65 c72))) | (have hg := g14_0; rw [if_pos c37] at hg; exact pe_tr hg (pr_tr (pr_nx (hF26.1 187 rfl) (hF26.1 188 rfl) (hF26.2.2.1 109 109 rfl) (hF26.1 190 rfl) (hF26.2.2.1 109 111 rfl) (by rw [← e19]; exact c22)) (p65a c72))) | exact pe_0 (fr_sF rfl (fr_sF rfl fr_rf)) (by rw [← (show w14_109_111 = s26.2.2.1 109 111 from fr_F (v14_109_111) hF26 rfl)]; rfl)
              have m14 : 20 * ((u_109_22).toInt - (z26a).toInt) + 10 * (y14_3).toInt + 10 - (z30).toInt < ((k14 : Nat) : Int) := by have a0 := oa10 h1 ro_109_22 i22 ((inv_F hIc14 0 200 rfl v14_109_111)) ((inv_F hIc14 0 400 rfl v14_109_109)) ((inv_F hIc14 0 1000 rfl v14_109_27)) i15 j14_2 i33 i26a; omega
              exact gg_w (by first | exact Nat.le_add_right _ _ | exact gw2 | exact gw3 | exact gwe rfl | exact gwf rfl | exact gwg rfl | exact gwh rfl | omega) (gg_f (gf_cons rfl (gf_cons rfl (gf_cons rfl (gf_cons rfl gf_nil)))) (ih14  s26 y14_2 y14_3 z26a w14_109_109 w14_109_111 z30 hI26 (fr_tr rfl hFc14 hF26) (in_w 0 1 j14_2 rfl) (in_w 0 1 i15 rfl) e26 v14 v14a e30 n14 n14a n14b m14))
            · skip
              exact zn_eq c60 i33 rfl
          · skip
            have i33 := z_eq 0 0 c33 i30 rfl
            refine g_iload_n 37 (gd rfl) rfl rfl ?_
            refine g_if_eq 40 56 (gd rfl) rfl rfl (fun c37 => ?_) (fun c37 => ?_)
            · skip
              have i37 := z_eq 0 0 c37 j14_2 rfl
              refine g_aload_n 57 (gd rfl) rfl rfl ?_
              refine g_getI 60 (gd rfl) rfl rfl rfl (fun z57 e57 => ?_)
              have q57 : z30 = z57 := (e30).trans e57.symm
              subst q57
              refine g_if_ne 63 14 (gd rfl) rfl rfl (fun c60 => ?_) (fun c60 => ?_)
              · skip
                exact zn_ne c60 i33 rfl
              · skip
                refine g_aload_n 64 (gd rfl) rfl rfl ?_
                refine g_iload_n 65 (gd rfl) rfl rfl ?_
                have v65 : w14_109_109 = s26.2.2.1 109 109 := fr_F (v14_109_109) hF26 rfl
                have v65a : w14_109_111 = s26.2.2.1 109 111 := fr_F (v14_109_111) hF26 rfl
                have n65 : (w14_109_109).toInt + (w14_109_111).toInt ≤ 120 := by have a0 := oa10 h1 ro_109_22 i22 ((inv_F hIc14 0 200 rfl v14_109_111)) ((inv_F hIc14 0 400 rfl v14_109_109)) ((inv_F hIc14 0 1000 rfl v14_109_27)) i15 i37 i33 i26a; omega
                have n65a : (z26b).toInt ≠ 0 → (w14_109_109).toInt + (w14_109_111).toInt ≤ 119 := by have a0 := oa10 h1 ro_109_22 i22 ((inv_F hIc14 0 200 rfl v14_109_111)) ((inv_F hIc14 0 400 rfl v14_109_109)) ((inv_F hIc14 0 1000 rfl v14_109_27)) i15 i37 i33 i26a; omega
                refine g_callv (X := _) (As := [.int x1]) (r := []) (b := A 109) (q := 109) 68 (gd rfl) rfl rfl rfl rfl rfl (ww_o rfl) (Nat.le_of_ble_eq_true rfl) (Nat.zero_le _) (Nat.zero_le _) (k_402 (by first | exact dq1 hd rfl | exact dq0 hd rfl | exact dq2 hd rfl | exact dq3 hd rfl | omega) hI26 (in_w 0 1 h1 rfl) v65 v65a e26a n65 n65a) (fun e u h => h) (fun v u h => ?_)
                obtain ⟨s65, hI65, hF65, n65b, n65c, z65, rfl, rfl, i65, p65, p65a, p65b⟩ := h
                obtain ⟨z65a, e65⟩ : ∃ w, w = s65.2.2.1 109 109 := ⟨_, rfl⟩
                have i65a := inv_F hI65 0 400 rfl e65
                obtain ⟨z65b, e65a⟩ : ∃ w, w = s65.2.2.1 109 111 := ⟨_, rfl⟩
                have i65b := inv_F hI65 0 200 rfl e65a
                rw [← (show w14_109_109 = s26.2.2.1 109 109 from fr_F (v14_109_109) hF26 rfl)] at n65b
                rw [← (show w14_109_111 = s26.2.2.1 109 111 from fr_F (v14_109_111) hF26 rfl)] at n65b
                rw [← (show z65a = s65.2.2.1 109 109 from e65)] at n65b
                rw [← (show z65b = s65.2.2.1 109 111 from e65a)] at n65b
                rw [← (show z26b = s26.2.2.1 109 28 from e26a)] at n65c
                rw [← (show w14_109_109 = s26.2.2.1 109 109 from fr_F (v14_109_109) hF26 rfl)] at n65c
                rw [← (show w14_109_111 = s26.2.2.1 109 111 from fr_F (v14_109_111) hF26 rfl)] at n65c
                rw [← (show z65a = s65.2.2.1 109 109 from e65)] at n65c
                rw [← (show z65b = s65.2.2.1 109 111 from e65a)] at n65c
                show GG _ _ _ _ _ _ _ _ [.int z65] _ _ _
                refine g_istore 70 (gd rfl) rfl (Nat.le_of_ble_eq_true rfl) ?_
                have hb65 := p65b; rw [← e26a] at hb65
                refine g_iload 72 (gd rfl) rfl rfl ?_
                refine g_if_ne 75 79 (gd rfl) rfl rfl (fun c72 => ?_) (fun c72 => ?_)
                · skip
                  have i72 := z_ne 1 2 c72 i65 rfl
                  refine g_iconst 0 80 (gd rfl) rfl rfl ?_
                  refine g_istore_n 81 (gd rfl) rfl (Nat.le_of_ble_eq_true rfl) ?_
                  refine g_iload 83 (gd rfl) rfl rfl ?_
                  refine g_iconst 2 84 (gd rfl) rfl rfl ?_
                  refine g_cmp_ge 87 91 (gd rfl) rfl rfl (fun c84 => ?_) (fun c84 => ?_)
                  · skip
                    have i84 := r_le2 2 2 c84 (in_c 2 rfl) i72 rfl
                    refine g_iconst 0 92 (gd rfl) rfl rfl ?_
                    refine g_istore_n 93 (gd rfl) rfl (Nat.le_of_ble_eq_true rfl) ?_
                    refine g_goto 14 (gd rfl) rfl ?_
                    have v14 : z26a = s65.2.2.1 109 27 := fr_F (e26) hF65 rfl
                    have n14 : (z26a).toInt ≤ (u_109_22).toInt := by have a0 := oa13 h1 ro_109_22 i22 ((inv_F hIc14 0 200 rfl v14_109_111)) ((inv_F hIc14 0 400 rfl v14_109_109)) ((inv_F hIc14 0 1000 rfl v14_109_27)) i15 i37 i84 ((in_c 0 rfl)) i65b i65a i26a; omega
                    have n14a : (z65a).toInt + (z65b).toInt ≤ (z26a).toInt := by have a0 := oa13 h1 ro_109_22 i22 ((inv_F hIc14 0 200 rfl v14_109_111)) ((inv_F hIc14 0 400 rfl v14_109_109)) ((inv_F hIc14 0 1000 rfl v14_109_27)) i15 i37 i84 ((in_c 0 rfl)) i65b i65a i26a; omega
                    have n14b : PQ s s65 ∧ PS s65 (s.2.2.1 109 109).toNatClampNeg (if ((Int32.ofInt 0)).toInt = 0 then 1 else 0) := by first | exact pe_tr g14_0 (pr_nx (hF26.1 187 rfl) (hF26.1 188 rfl) (hF26.2.2.1 109 109 rfl) (hF26.1 190 rfl) (hF26.2.2.1 109 111 rfl) (by rw [← e19]; exact c22)) | (have hg := g14_0; rw [if_neg c37] at hg; exact pe_tr hg (pr_tr (pr_nx (hF26.1 187 rfl) (hF26.1 188 rfl) (hF26.2.2.1 109 109 rfl) (hF26.1 190 rfl) (hF26.2.2.1 109 111 rfl) (by rw [← e19]; exact c22)) (p41 c44))) | (have hg := g14_0; rw [if_neg c37] at hg; exact pe_tr hg (pr_tr (pr_nx (hF26.1 187 rfl) (hF26.1 188 rfl) (hF26.2.2.1 109 109 rfl) (hF26.1 190 rfl) (hF26.2.2.1 109 111 rfl) (by rw [← e19]; exact c22)) (p41a c44))) | (have hg := g14_0; rw [if_pos c37] at hg; exact pe_tr hg (pr_tr (pr_nx (hF26.1 187 rfl) (hF26.1 188 rfl) (hF26.2.2.1 109 109 rfl) (hF26.1 190 rfl) (hF26.2.2.1 109 111 rfl) (by rw [← e19]; exact c22)) (p65 c72))) | (have hg := g14_0; rw [if_pos c37] at hg; exact pe_tr hg (pr_tr (pr_nx (hF26.1 187 rfl) (hF26.1 188 rfl) (hF26.2.2.1 109 109 rfl) (hF26.1 190 rfl) (hF26.2.2.1 109 111 rfl) (by rw [← e19]; exact c22)) (p65a c72))) | exact pe_0 (fr_sF rfl (fr_sF rfl fr_rf)) (by rw [← (show z65b = s65.2.2.1 109 111 from e65a)]; rfl)
                    have m14 : 20 * ((u_109_22).toInt - (z26a).toInt) + 10 * ((Int32.ofInt 0)).toInt + 10 - ((s65.2.2.1 109 23)).toInt < ((k14 : Nat) : Int) := by have a0 := oa14 h1 ro_109_22 i22 ((inv_F hIc14 0 200 rfl v14_109_111)) ((inv_F hIc14 0 400 rfl v14_109_109)) ((inv_F hIc14 0 1000 rfl v14_109_27)) i15 i37 i84 ((in_c 0 rfl)) i65b i65a i26a ((show In (s65.2.2.1 109 23) 0 9 from inv_F hI65 0 9 rfl rfl)); omega
                    exact gg_w (by first | exact Nat.le_add_right _ _ | exact gw2 | exact gw3 | exact gwe rfl | exact gwf rfl | exact gwg rfl | exact gwh rfl | omega) (gg_f (gf_cons rfl (gf_cons rfl (gf_cons rfl (gf_cons rfl gf_nil)))) (ih14  s65 (Int32.ofInt 0) (Int32.ofInt 0) z26a z65a z65b _ hI65 (fr_tr rfl (fr_tr rfl hFc14 hF26) hF65) (in_w 0 1 (in_c 0 rfl) rfl) (in_w 0 1 (in_c 0 rfl) rfl) v14 e65 e65a rfl n14 n14a n14b m14))
                  · skip
                    have i84 := r_lt1 1 1 c84 i72 (in_c 2 rfl) rfl
                    refine g_iconst 1 88 (gd rfl) rfl rfl ?_
                    refine g_goto 92 (gd rfl) rfl ?_
                    refine g_istore_n 93 (gd rfl) rfl (Nat.le_of_ble_eq_true rfl) ?_
                    refine g_goto 14 (gd rfl) rfl ?_
                    have v14 : z26a = s65.2.2.1 109 27 := fr_F (e26) hF65 rfl
                    have n14 : (z26a).toInt ≤ (u_109_22).toInt := by have a0 := oa14 h1 ro_109_22 i22 ((inv_F hIc14 0 200 rfl v14_109_111)) ((inv_F hIc14 0 400 rfl v14_109_109)) ((inv_F hIc14 0 1000 rfl v14_109_27)) i15 i37 i84 ((in_c 1 rfl)) ((in_c 0 rfl)) i65b i65a i26a; omega
                    have n14a : (z65a).toInt + (z65b).toInt ≤ (z26a).toInt := by have a0 := oa14 h1 ro_109_22 i22 ((inv_F hIc14 0 200 rfl v14_109_111)) ((inv_F hIc14 0 400 rfl v14_109_109)) ((inv_F hIc14 0 1000 rfl v14_109_27)) i15 i37 i84 ((in_c 1 rfl)) ((in_c 0 rfl)) i65b i65a i26a; omega
                    have n14b : PQ s s65 ∧ PS s65 (s.2.2.1 109 109).toNatClampNeg (if ((Int32.ofInt 0)).toInt = 0 then 1 else 0) := by first | exact pe_tr g14_0 (pr_nx (hF26.1 187 rfl) (hF26.1 188 rfl) (hF26.2.2.1 109 109 rfl) (hF26.1 190 rfl) (hF26.2.2.1 109 111 rfl) (by rw [← e19]; exact c22)) | (have hg := g14_0; rw [if_neg c37] at hg; exact pe_tr hg (pr_tr (pr_nx (hF26.1 187 rfl) (hF26.1 188 rfl) (hF26.2.2.1 109 109 rfl) (hF26.1 190 rfl) (hF26.2.2.1 109 111 rfl) (by rw [← e19]; exact c22)) (p41 c44))) | (have hg := g14_0; rw [if_neg c37] at hg; exact pe_tr hg (pr_tr (pr_nx (hF26.1 187 rfl) (hF26.1 188 rfl) (hF26.2.2.1 109 109 rfl) (hF26.1 190 rfl) (hF26.2.2.1 109 111 rfl) (by rw [← e19]; exact c22)) (p41a c44))) | (have hg := g14_0; rw [if_pos c37] at hg; exact pe_tr hg (pr_tr (pr_nx (hF26.1 187 rfl) (hF26.1 188 rfl) (hF26.2.2.1 109 109 rfl) (hF26.1 190 rfl) (hF26.2.2.1 109 111 rfl) (by rw [← e19]; exact c22)) (p65 c72))) | (have hg := g14_0; rw [if_pos c37] at hg; exact pe_tr hg (pr_tr (pr_nx (hF26.1 187 rfl) (hF26.1 188 rfl) (hF26.2.2.1 109 109 rfl) (hF26.1 190 rfl) (hF26.2.2.1 109 111 rfl) (by rw [← e19]; exact c22)) (p65a c72))) | exact pe_0 (fr_sF rfl (fr_sF rfl fr_rf)) (by rw [← (show z65b = s65.2.2.1 109 111 from e65a)]; rfl)
                    have m14 : 20 * ((u_109_22).toInt - (z26a).toInt) + 10 * ((Int32.ofInt 1)).toInt + 10 - ((s65.2.2.1 109 23)).toInt < ((k14 : Nat) : Int) := by have a0 := oa15 h1 ro_109_22 i22 ((inv_F hIc14 0 200 rfl v14_109_111)) ((inv_F hIc14 0 400 rfl v14_109_109)) ((inv_F hIc14 0 1000 rfl v14_109_27)) i15 i37 i84 ((in_c 1 rfl)) ((in_c 0 rfl)) i65b i65a i26a ((show In (s65.2.2.1 109 23) 0 9 from inv_F hI65 0 9 rfl rfl)); omega
                    exact gg_w (by first | exact Nat.le_add_right _ _ | exact gw2 | exact gw3 | exact gwe rfl | exact gwf rfl | exact gwg rfl | exact gwh rfl | omega) (gg_f (gf_cons rfl (gf_cons rfl (gf_cons rfl (gf_cons rfl gf_nil)))) (ih14  s65 (Int32.ofInt 0) (Int32.ofInt 1) z26a z65a z65b _ hI65 (fr_tr rfl (fr_tr rfl hFc14 hF26) hF65) (in_w 0 1 (in_c 0 rfl) rfl) (in_w 0 1 (in_c 1 rfl) rfl) v14 e65 e65a rfl n14 n14a n14b m14))
                · skip
                  have i72 := z_eq 0 0 c72 i65 rfl
                  refine g_iconst 1 76 (gd rfl) rfl rfl ?_
                  refine g_goto 80 (gd rfl) rfl ?_
                  refine g_istore_n 81 (gd rfl) rfl (Nat.le_of_ble_eq_true rfl) ?_
                  refine g_iload 83 (gd rfl) rfl rfl ?_
                  refine g_iconst 2 84 (gd rfl) rfl rfl ?_
                  refine g_cmp_ge 87 91 (gd rfl) rfl rfl (fun c84 => ?_) (fun c84 => ?_)
                  · skip
                    exact n_le c84 (in_c 2 rfl) i72 rfl
                  · skip
                    refine g_iconst 1 88 (gd rfl) rfl rfl ?_
                    refine g_goto 92 (gd rfl) rfl ?_
                    refine g_istore_n 93 (gd rfl) rfl (Nat.le_of_ble_eq_true rfl) ?_
                    refine g_goto 14 (gd rfl) rfl ?_
                    have v14 : z26a = s65.2.2.1 109 27 := fr_F (e26) hF65 rfl
                    have n14 : (z26a).toInt ≤ (u_109_22).toInt := by have a0 := oa13 h1 ro_109_22 i22 ((inv_F hIc14 0 200 rfl v14_109_111)) ((inv_F hIc14 0 400 rfl v14_109_109)) ((inv_F hIc14 0 1000 rfl v14_109_27)) i15 i37 i72 ((in_c 1 rfl)) i65b i65a i26a; omega
                    have n14a : (z65a).toInt + (z65b).toInt ≤ (z26a).toInt := by have a0 := oa13 h1 ro_109_22 i22 ((inv_F hIc14 0 200 rfl v14_109_111)) ((inv_F hIc14 0 400 rfl v14_109_109)) ((inv_F hIc14 0 1000 rfl v14_109_27)) i15 i37 i72 ((in_c 1 rfl)) i65b i65a i26a; omega
                    have n14b : PQ s s65 ∧ PS s65 (s.2.2.1 109 109).toNatClampNeg (if ((Int32.ofInt 1)).toInt = 0 then 1 else 0) := by first | exact pe_tr g14_0 (pr_nx (hF26.1 187 rfl) (hF26.1 188 rfl) (hF26.2.2.1 109 109 rfl) (hF26.1 190 rfl) (hF26.2.2.1 109 111 rfl) (by rw [← e19]; exact c22)) | (have hg := g14_0; rw [if_neg c37] at hg; exact pe_tr hg (pr_tr (pr_nx (hF26.1 187 rfl) (hF26.1 188 rfl) (hF26.2.2.1 109 109 rfl) (hF26.1 190 rfl) (hF26.2.2.1 109 111 rfl) (by rw [← e19]; exact c22)) (p41 c44))) | (have hg := g14_0; rw [if_neg c37] at hg; exact pe_tr hg (pr_tr (pr_nx (hF26.1 187 rfl) (hF26.1 188 rfl) (hF26.2.2.1 109 109 rfl) (hF26.1 190 rfl) (hF26.2.2.1 109 111 rfl) (by rw [← e19]; exact c22)) (p41a c44))) | (have hg := g14_0; rw [if_pos c37] at hg; exact pe_tr hg (pr_tr (pr_nx (hF26.1 187 rfl) (hF26.1 188 rfl) (hF26.2.2.1 109 109 rfl) (hF26.1 190 rfl) (hF26.2.2.1 109 111 rfl) (by rw [← e19]; exact c22)) (p65 c72))) | (have hg := g14_0; rw [if_pos c37] at hg; exact pe_tr hg (pr_tr (pr_nx (hF26.1 187 rfl) (hF26.1 188 rfl) (hF26.2.2.1 109 109 rfl) (hF26.1 190 rfl) (hF26.2.2.1 109 111 rfl) (by rw [← e19]; exact c22)) (p65a c72))) | exact pe_0 (fr_sF rfl (fr_sF rfl fr_rf)) (by rw [← (show z65b = s65.2.2.1 109 111 from e65a)]; rfl)
                    have m14 : 20 * ((u_109_22).toInt - (z26a).toInt) + 10 * ((Int32.ofInt 1)).toInt + 10 - ((s65.2.2.1 109 23)).toInt < ((k14 : Nat) : Int) := by have a0 := oa14 h1 ro_109_22 i22 ((inv_F hIc14 0 200 rfl v14_109_111)) ((inv_F hIc14 0 400 rfl v14_109_109)) ((inv_F hIc14 0 1000 rfl v14_109_27)) i15 i37 i72 ((in_c 1 rfl)) i65b i65a i26a ((show In (s65.2.2.1 109 23) 0 9 from inv_F hI65 0 9 rfl rfl)); omega
                    exact gg_w (by first | exact Nat.le_add_right _ _ | exact gw2 | exact gw3 | exact gwe rfl | exact gwf rfl | exact gwg rfl | exact gwh rfl | omega) (gg_f (gf_cons rfl (gf_cons rfl (gf_cons rfl (gf_cons rfl gf_nil)))) (ih14  s65 (Int32.ofInt 1) (Int32.ofInt 1) z26a z65a z65b _ hI65 (fr_tr rfl (fr_tr rfl hFc14 hF26) hF65) (in_w 0 1 (in_c 1 rfl) rfl) (in_w 0 1 (in_c 1 rfl) rfl) v14 e65 e65a rfl n14 n14a n14b m14))
            · skip
              have i37 := z_ne 1 1 c37 j14_2 rfl
              refine g_aload_n 41 (gd rfl) rfl rfl ?_
              have v41 : w14_109_109 = s26.2.2.1 109 109 := fr_F (v14_109_109) hF26 rfl
              have v41a : w14_109_111 = s26.2.2.1 109 111 := fr_F (v14_109_111) hF26 rfl
              have n41 : (w14_109_109).toInt + (w14_109_111).toInt ≤ 120 := by have a0 := oa10 h1 ro_109_22 i22 ((inv_F hIc14 0 200 rfl v14_109_111)) ((inv_F hIc14 0 400 rfl v14_109_109)) ((inv_F hIc14 0 1000 rfl v14_109_27)) i15 i37 i33 i26a; omega
              have n41a : (z26b).toInt ≠ 0 → (w14_109_109).toInt + (w14_109_111).toInt ≤ 119 := by have a0 := oa10 h1 ro_109_22 i22 ((inv_F hIc14 0 200 rfl v14_109_111)) ((inv_F hIc14 0 400 rfl v14_109_109)) ((inv_F hIc14 0 1000 rfl v14_109_27)) i15 i37 i33 i26a; omega
              refine g_callv (X := _) (As := []) (r := []) (b := A 109) (q := 109) 44 (gd rfl) rfl rfl rfl rfl rfl (ww_o rfl) (Nat.le_of_ble_eq_true rfl) (Nat.zero_le _) (Nat.zero_le _) (k_401 (by first | exact dq1 hd rfl | exact dq0 hd rfl | exact dq2 hd rfl | exact dq3 hd rfl | omega) hI26 v41 v41a e26a n41 n41a) (fun e u h => h) (fun v u h => ?_)
              obtain ⟨s41, hI41, hF41, n41b, n41c, n41d, z41, rfl, rfl, i41, p41, p41a⟩ := h
              obtain ⟨z41a, e41⟩ : ∃ w, w = s41.2.2.1 109 109 := ⟨_, rfl⟩
              have i41a := inv_F hI41 0 400 rfl e41
              obtain ⟨z41b, e41a⟩ : ∃ w, w = s41.2.2.1 109 111 := ⟨_, rfl⟩
              have i41b := inv_F hI41 0 200 rfl e41a
              obtain ⟨z41c, e41b⟩ : ∃ w, w = s41.2.2.1 109 23 := ⟨_, rfl⟩
              have i41c := inv_F hI41 0 9 rfl e41b
              rw [← (show w14_109_109 = s26.2.2.1 109 109 from fr_F (v14_109_109) hF26 rfl)] at n41b
              rw [← (show w14_109_111 = s26.2.2.1 109 111 from fr_F (v14_109_111) hF26 rfl)] at n41b
              rw [← (show z41a = s41.2.2.1 109 109 from e41)] at n41b
              rw [← (show z41b = s41.2.2.1 109 111 from e41a)] at n41b
              rw [← (show z26b = s26.2.2.1 109 28 from e26a)] at n41c
              rw [← (show w14_109_109 = s26.2.2.1 109 109 from fr_F (v14_109_109) hF26 rfl)] at n41c
              rw [← (show w14_109_111 = s26.2.2.1 109 111 from fr_F (v14_109_111) hF26 rfl)] at n41c
              rw [← (show z41a = s41.2.2.1 109 109 from e41)] at n41c
              rw [← (show z41b = s41.2.2.1 109 111 from e41a)] at n41c
              rw [← (show z26b = s26.2.2.1 109 28 from e26a)] at n41d
              rw [← (show z41c = s41.2.2.1 109 23 from e41b)] at n41d
              show GG _ _ _ _ _ _ _ _ [.int z41] _ _ _
              refine g_if_ne 47 51 (gd rfl) rfl rfl (fun c44 => ?_) (fun c44 => ?_)
              · skip
                have i44 := z_ne 1 1 c44 i41 rfl
                refine g_iconst 0 52 (gd rfl) rfl rfl ?_
                refine g_istore_n 53 (gd rfl) rfl (Nat.le_of_ble_eq_true rfl) ?_
                refine g_goto 14 (gd rfl) rfl ?_
                have v14 : z26a = s41.2.2.1 109 27 := fr_F (e26) hF41 rfl
                have n14 : (z26a).toInt ≤ (u_109_22).toInt := by have a0 := oa13 h1 ro_109_22 i22 ((inv_F hIc14 0 200 rfl v14_109_111)) ((inv_F hIc14 0 400 rfl v14_109_109)) ((inv_F hIc14 0 1000 rfl v14_109_27)) i15 i37 ((in_c 0 rfl)) i41c i41b i41a i26a; omega
                have n14a : (z41a).toInt + (z41b).toInt ≤ (z26a).toInt := by have a0 := oa13 h1 ro_109_22 i22 ((inv_F hIc14 0 200 rfl v14_109_111)) ((inv_F hIc14 0 400 rfl v14_109_109)) ((inv_F hIc14 0 1000 rfl v14_109_27)) i15 i37 ((in_c 0 rfl)) i41c i41b i41a i26a; omega
                have n14b : PQ s s41 ∧ PS s41 (s.2.2.1 109 109).toNatClampNeg (if ((Int32.ofInt 0)).toInt = 0 then 1 else 0) := by first | exact pe_tr g14_0 (pr_nx (hF26.1 187 rfl) (hF26.1 188 rfl) (hF26.2.2.1 109 109 rfl) (hF26.1 190 rfl) (hF26.2.2.1 109 111 rfl) (by rw [← e19]; exact c22)) | (have hg := g14_0; rw [if_neg c37] at hg; exact pe_tr hg (pr_tr (pr_nx (hF26.1 187 rfl) (hF26.1 188 rfl) (hF26.2.2.1 109 109 rfl) (hF26.1 190 rfl) (hF26.2.2.1 109 111 rfl) (by rw [← e19]; exact c22)) (p41 c44))) | (have hg := g14_0; rw [if_neg c37] at hg; exact pe_tr hg (pr_tr (pr_nx (hF26.1 187 rfl) (hF26.1 188 rfl) (hF26.2.2.1 109 109 rfl) (hF26.1 190 rfl) (hF26.2.2.1 109 111 rfl) (by rw [← e19]; exact c22)) (p41a c44))) | (have hg := g14_0; rw [if_pos c37] at hg; exact pe_tr hg (pr_tr (pr_nx (hF26.1 187 rfl) (hF26.1 188 rfl) (hF26.2.2.1 109 109 rfl) (hF26.1 190 rfl) (hF26.2.2.1 109 111 rfl) (by rw [← e19]; exact c22)) (p65 c72))) | (have hg := g14_0; rw [if_pos c37] at hg; exact pe_tr hg (pr_tr (pr_nx (hF26.1 187 rfl) (hF26.1 188 rfl) (hF26.2.2.1 109 109 rfl) (hF26.1 190 rfl) (hF26.2.2.1 109 111 rfl) (by rw [← e19]; exact c22)) (p65a c72))) | exact pe_0 (fr_sF rfl (fr_sF rfl fr_rf)) (by rw [← (show z41b = s41.2.2.1 109 111 from e41a)]; rfl)
                have m14 : 20 * ((u_109_22).toInt - (z26a).toInt) + 10 * (y14_3).toInt + 10 - (z41c).toInt < ((k14 : Nat) : Int) := by have a0 := oa13 h1 ro_109_22 i22 ((inv_F hIc14 0 200 rfl v14_109_111)) ((inv_F hIc14 0 400 rfl v14_109_109)) ((inv_F hIc14 0 1000 rfl v14_109_27)) i15 i37 ((in_c 0 rfl)) i41c i41b i41a i26a; omega
                exact gg_w (by first | exact Nat.le_add_right _ _ | exact gw2 | exact gw3 | exact gwe rfl | exact gwf rfl | exact gwg rfl | exact gwh rfl | omega) (gg_f (gf_cons rfl (gf_cons rfl (gf_cons rfl (gf_cons rfl gf_nil)))) (ih14  s41 (Int32.ofInt 0) y14_3 z26a z41a z41b z41c hI41 (fr_tr rfl (fr_tr rfl hFc14 hF26) hF41) (in_w 0 1 (in_c 0 rfl) rfl) (in_w 0 1 i15 rfl) v14 e41 e41a e41b n14 n14a n14b m14))
              · skip
                have i44 := z_eq 0 0 c44 i41 rfl
                refine g_iconst 1 48 (gd rfl) rfl rfl ?_
                refine g_goto 52 (gd rfl) rfl ?_
                refine g_istore_n 53 (gd rfl) rfl (Nat.le_of_ble_eq_true rfl) ?_
                refine g_goto 14 (gd rfl) rfl ?_
                have v14 : z26a = s41.2.2.1 109 27 := fr_F (e26) hF41 rfl
                have n14 : (z26a).toInt ≤ (u_109_22).toInt := by have a0 := oa13 h1 ro_109_22 i22 ((inv_F hIc14 0 200 rfl v14_109_111)) ((inv_F hIc14 0 400 rfl v14_109_109)) ((inv_F hIc14 0 1000 rfl v14_109_27)) i15 i37 ((in_c 1 rfl)) i41c i41b i41a i26a; omega
                have n14a : (z41a).toInt + (z41b).toInt ≤ (z26a).toInt := by have a0 := oa13 h1 ro_109_22 i22 ((inv_F hIc14 0 200 rfl v14_109_111)) ((inv_F hIc14 0 400 rfl v14_109_109)) ((inv_F hIc14 0 1000 rfl v14_109_27)) i15 i37 ((in_c 1 rfl)) i41c i41b i41a i26a; omega
                have n14b : PQ s s41 ∧ PS s41 (s.2.2.1 109 109).toNatClampNeg (if ((Int32.ofInt 1)).toInt = 0 then 1 else 0) := by first | exact pe_tr g14_0 (pr_nx (hF26.1 187 rfl) (hF26.1 188 rfl) (hF26.2.2.1 109 109 rfl) (hF26.1 190 rfl) (hF26.2.2.1 109 111 rfl) (by rw [← e19]; exact c22)) | (have hg := g14_0; rw [if_neg c37] at hg; exact pe_tr hg (pr_tr (pr_nx (hF26.1 187 rfl) (hF26.1 188 rfl) (hF26.2.2.1 109 109 rfl) (hF26.1 190 rfl) (hF26.2.2.1 109 111 rfl) (by rw [← e19]; exact c22)) (p41 c44))) | (have hg := g14_0; rw [if_neg c37] at hg; exact pe_tr hg (pr_tr (pr_nx (hF26.1 187 rfl) (hF26.1 188 rfl) (hF26.2.2.1 109 109 rfl) (hF26.1 190 rfl) (hF26.2.2.1 109 111 rfl) (by rw [← e19]; exact c22)) (p41a c44))) | (have hg := g14_0; rw [if_pos c37] at hg; exact pe_tr hg (pr_tr (pr_nx (hF26.1 187 rfl) (hF26.1 188 rfl) (hF26.2.2.1 109 109 rfl) (hF26.1 190 rfl) (hF26.2.2.1 109 111 rfl) (by rw [← e19]; exact c22)) (p65 c72))) | (have hg := g14_0; rw [if_pos c37] at hg; exact pe_tr hg (pr_tr (pr_nx (hF26.1 187 rfl) (hF26.1 188 rfl) (hF26.2.2.1 109 109 rfl) (hF26.1 190 rfl) (hF26.2.2.1 109 111 rfl) (by rw [← e19]; exact c22)) (p65a c72))) | exact pe_0 (fr_sF rfl (fr_sF rfl fr_rf)) (by rw [← (show z41b = s41.2.2.1 109 111 from e41a)]; rfl)
                have m14 : 20 * ((u_109_22).toInt - (z26a).toInt) + 10 * (y14_3).toInt + 10 - (z41c).toInt < ((k14 : Nat) : Int) := by have a0 := oa13 h1 ro_109_22 i22 ((inv_F hIc14 0 200 rfl v14_109_111)) ((inv_F hIc14 0 400 rfl v14_109_109)) ((inv_F hIc14 0 1000 rfl v14_109_27)) i15 i37 ((in_c 1 rfl)) i41c i41b i41a i26a; omega
                exact gg_w (by first | exact Nat.le_add_right _ _ | exact gw2 | exact gw3 | exact gwe rfl | exact gwf rfl | exact gwg rfl | exact gwh rfl | omega) (gg_f (gf_cons rfl (gf_cons rfl (gf_cons rfl (gf_cons rfl gf_nil)))) (ih14  s41 (Int32.ofInt 1) y14_3 z26a z41a z41b z41c hI41 (fr_tr rfl (fr_tr rfl hFc14 hF26) hF41) (in_w 0 1 (in_c 1 rfl) rfl) (in_w 0 1 i15 rfl) v14 e41 e41a e41b n14 n14a n14b m14))
  refine g_enter2 (k := 403) (N := 2250901) (by first | exact dq1 hd rfl | exact dq0 hd rfl | exact dq2 hd rfl | exact dq3 hd rfl | omega) rfl (Nat.le_of_ble_eq_true rfl) ?_
  refine g_aload_n 1 (gd rfl) rfl rfl ?_
  refine g_iconst 0 2 (gd rfl) rfl rfl ?_
  refine g_putI 5 (gd rfl) rfl rfl rfl rfl ?_
  have hI2 := inv_sF (q := 109) (j := 111) hI rfl (in_w 0 200 (in_c 0 rfl) rfl)
  refine g_aload_n 6 (gd rfl) rfl rfl ?_
  refine g_iconst 0 7 (gd rfl) rfl rfl ?_
  refine g_putI 10 (gd rfl) rfl rfl rfl rfl ?_
  have hI7 := inv_sF (q := 109) (j := 112) hI2 rfl (in_w (-2147483648) 2147483647 (in_c 0 rfl) rfl)
  refine g_iconst 1 11 (gd rfl) rfl rfl ?_
  refine g_istore_n 12 (gd rfl) rfl (Nat.le_of_ble_eq_true rfl) ?_
  refine g_iconst 1 13 (gd rfl) rfl rfl ?_
  refine g_istore_n 14 (gd rfl) rfl (Nat.le_of_ble_eq_true rfl) ?_
  have v14 : u_109_27 = (sF (sF s 109 111 (Int32.ofInt 0)) 109 112 (Int32.ofInt 0)).2.2.1 109 27 := sF_ne rfl (sF_ne rfl (e_109_27))
  have v14a : u_109_109 = (sF (sF s 109 111 (Int32.ofInt 0)) 109 112 (Int32.ofInt 0)).2.2.1 109 109 := sF_ne rfl (sF_ne rfl (e_109_109))
  have v14b : (Int32.ofInt 0) = (sF (sF s 109 111 (Int32.ofInt 0)) 109 112 (Int32.ofInt 0)).2.2.1 109 111 := sF_ne rfl (sF_get)
  have n14 : (u_109_27).toInt ≤ (u_109_22).toInt := by have a0 := oa6 ((inv_F hI 0 400 rfl e_109_109)) ((inv_F hI 0 1000 rfl e_109_22)) ((inv_F hI 0 1000 rfl e_109_27)) h1 ((in_c 1 rfl)) ((in_c 0 rfl)); omega
  have n14a : (u_109_109).toInt + ((Int32.ofInt 0)).toInt ≤ (u_109_27).toInt := by have a0 := oa6 ((inv_F hI 0 400 rfl e_109_109)) ((inv_F hI 0 1000 rfl e_109_22)) ((inv_F hI 0 1000 rfl e_109_27)) h1 ((in_c 1 rfl)) ((in_c 0 rfl)); omega
  have n14b : PQ s (sF (sF s 109 111 (Int32.ofInt 0)) 109 112 (Int32.ofInt 0)) ∧ PS (sF (sF s 109 111 (Int32.ofInt 0)) 109 112 (Int32.ofInt 0)) (s.2.2.1 109 109).toNatClampNeg (if ((Int32.ofInt 1)).toInt = 0 then 1 else 0) := by first | exact pe_tr g14_0 (pr_nx (hF26.1 187 rfl) (hF26.1 188 rfl) (hF26.2.2.1 109 109 rfl) (hF26.1 190 rfl) (hF26.2.2.1 109 111 rfl) (by rw [← e19]; exact c22)) | (have hg := g14_0; rw [if_neg c37] at hg; exact pe_tr hg (pr_tr (pr_nx (hF26.1 187 rfl) (hF26.1 188 rfl) (hF26.2.2.1 109 109 rfl) (hF26.1 190 rfl) (hF26.2.2.1 109 111 rfl) (by rw [← e19]; exact c22)) (p41 c44))) | (have hg := g14_0; rw [if_neg c37] at hg; exact pe_tr hg (pr_tr (pr_nx (hF26.1 187 rfl) (hF26.1 188 rfl) (hF26.2.2.1 109 109 rfl) (hF26.1 190 rfl) (hF26.2.2.1 109 111 rfl) (by rw [← e19]; exact c22)) (p41a c44))) | (have hg := g14_0; rw [if_pos c37] at hg; exact pe_tr hg (pr_tr (pr_nx (hF26.1 187 rfl) (hF26.1 188 rfl) (hF26.2.2.1 109 109 rfl) (hF26.1 190 rfl) (hF26.2.2.1 109 111 rfl) (by rw [← e19]; exact c22)) (p65 c72))) | (have hg := g14_0; rw [if_pos c37] at hg; exact pe_tr hg (pr_tr (pr_nx (hF26.1 187 rfl) (hF26.1 188 rfl) (hF26.2.2.1 109 109 rfl) (hF26.1 190 rfl) (hF26.2.2.1 109 111 rfl) (by rw [← e19]; exact c22)) (p65a c72))) | exact pe_0 (fr_sF rfl (fr_sF rfl fr_rf)) (by rw [← (show (Int32.ofInt 0) = (sF (sF s 109 111 (Int32.ofInt 0)) 109 112 (Int32.ofInt 0)).2.2.1 109 111 from sF_ne rfl (sF_get))]; rfl)
  have m14 : 20 * ((u_109_22).toInt - (u_109_27).toInt) + 10 * ((Int32.ofInt 1)).toInt + 10 - (((sF (sF s 109 111 (Int32.ofInt 0)) 109 112 (Int32.ofInt 0)).2.2.1 109 23)).toInt < ((2500 : Nat) : Int) := by have a0 := oa6 ((inv_F hI 0 400 rfl e_109_109)) ((inv_F hI 0 1000 rfl e_109_22)) ((inv_F hI 0 1000 rfl e_109_27)) h1 ((in_c 1 rfl)) ((in_c 0 rfl)); have a6 := in_u ((show In ((sF (sF s 109 111 (Int32.ofInt 0)) 109 112 (Int32.ofInt 0)).2.2.1 109 23) 0 9 from inv_F hI7 0 9 rfl rfl)); omega
  exact gg_w (by first | exact Nat.le_of_ble_eq_true rfl | omega) (gg_f (gf_cons rfl (gf_cons rfl (gf_cons rfl (gf_cons rfl gf_nil)))) (ct14 2500 (sF (sF s 109 111 (Int32.ofInt 0)) 109 112 (Int32.ofInt 0)) (Int32.ofInt 1) (Int32.ofInt 1) u_109_27 u_109_109 (Int32.ofInt 0) _ hI7 (fr_sF rfl (fr_sF rfl fr_rf)) (in_w 0 1 (in_c 1 rfl) rfl) (in_w 0 1 (in_c 1 rfl) rfl) v14 v14a v14b rfl n14 n14a n14b m14))

def fm_404 : FM := ([184, 185, 186, 187, 188, 189, 190], [], [(109, 0), (109, 23), (109, 24), (109, 27), (109, 28), (109, 29), (109, 30), (109, 109), (109, 111), (109, 112)], [(109, 31)])
/-- GraphHouseModel.program -/
theorem k_404 {Z : AmZ} {A : Nat → Nat} {s : GS} {ex : va_W} {d : Nat} {X : AmX}  (hd : 6 ≤ d) (hI : Inv s)  : GC Z d 404 [.ref (A 109)] (WW Z A s ++ ex) 0 0 (fun v u => ∃ t : GS, Inv t ∧ Fr fm_404 s t ∧ ∃ z : Int32, v = some (.int z) ∧ u = WW Z A t ++ ex ∧ In z (-4) 0) X := by
  intro post xp hP hX
  obtain ⟨u_109_22, e_109_22⟩ : ∃ w, w = s.2.2.1 109 22 := ⟨_, rfl⟩
  have ro_109_22 := inv_F hI 0 1000 rfl e_109_22
  have ct88 : ∀ (k88 : Nat) (sc88 : GS) (y88_1 : Int32), Rng sc88 → Fr fm_404 s sc88 → (In y88_1 0 400) → (∀ k : Nat, (k : Int) < (y88_1).toInt → sc88.1 184 k = sc88.1 187 k ∧ sc88.1 185 k = sc88.1 188 k) → (QQ sc88) → 400 - (y88_1).toInt < (k88 : Int) → GG Z (d - 1) 404 post (gx xp) (1 + k88 * 900) 88 (fun j => xlook j [(0, .ref (A 109)), (1, .int y88_1)]) [] (WW Z A sc88 ++ ex) 0 0 := by
    intro k88
    induction k88 with
    | zero => intro sc88 y88_1 hIc88 hFc88 j88_1 g88_0 g88_1 mm88; exact m_no mm88 j88_1 rfl
    | succ k88 ih88 =>
      intro sc88 y88_1 hIc88 hFc88 j88_1 g88_0 g88_1 mm88
      refine gg_w (M := 1 + k88 * 900 + 900) gws ?_
      refine g_iload_n 89 (gd rfl) rfl rfl ?_
      refine g_aload_n 90 (gd rfl) rfl rfl ?_
      refine g_getI 93 (gd rfl) rfl rfl rfl (fun z90 e90 => ?_)
      have i90 := rng_F hIc88 0 400 rfl e90
      refine g_cmp_ge 96 126 (gd rfl) rfl rfl (fun c93 => ?_) (fun c93 => ?_)
      · skip
        refine g_aload_n 127 (gd rfl) rfl rfl ?_
        refine g_getA (q2 := 186) 130 (gd rfl) rfl rfl rfl rfl ?_
        refine g_iconst 1 131 (gd rfl) rfl rfl ?_
        refine g_aload_n 132 (gd rfl) rfl rfl ?_
        refine g_getA (q2 := 189) 135 (gd rfl) rfl rfl rfl rfl ?_
        refine g_iconst 1 136 (gd rfl) rfl rfl ?_
        refine g_iaload 137 (gd rfl) rfl (n := 3) rfl (in_ix (in_c 1 rfl) rfl) (fun z136 e136 => ?_)
        have i136 := rng_I hIc88 (n := 3) (t := 0) 0 120 rfl (in_ix (in_c 1 rfl) rfl) rfl e136
        refine g_iastore 138 (gd rfl) rfl (n := 3) rfl (in_ix (in_c 1 rfl) rfl) ?_
        have hI137 := rng_sI (q := 186) (j := (Int32.ofInt 1).toNatClampNeg) hIc88 rfl (in_w 0 120 i136 rfl)
        refine g_aload_n 139 (gd rfl) rfl rfl ?_
        refine g_getA (q2 := 186) 142 (gd rfl) rfl rfl rfl rfl ?_
        refine g_iconst 2 143 (gd rfl) rfl rfl ?_
        refine g_aload_n 144 (gd rfl) rfl rfl ?_
        refine g_getA (q2 := 189) 147 (gd rfl) rfl rfl rfl rfl ?_
        refine g_iconst 2 148 (gd rfl) rfl rfl ?_
        refine g_iaload 149 (gd rfl) rfl (n := 3) rfl (in_ix (in_c 2 rfl) rfl) (fun z148 e148 => ?_)
        have i148 := rng_I hI137 (n := 3) (t := 0) 0 120 rfl (in_ix (in_c 2 rfl) rfl) rfl e148
        refine g_iastore 150 (gd rfl) rfl (n := 3) rfl (in_ix (in_c 2 rfl) rfl) ?_
        have hI149 := rng_sI (q := 186) (j := (Int32.ofInt 2).toNatClampNeg) hI137 rfl (in_w 0 120 i148 rfl)
        refine g_iconst 0 151 (gd rfl) rfl rfl ?_
        have hI151 : Inv (sI (sI sc88 186 (Int32.ofInt 1).toNatClampNeg z136) 186 (Int32.ofInt 2).toNatClampNeg z148) := by first | (have hFF : Fr ([187, 188, 189, 190], [], [(109, 0), (109, 23), (109, 24), (109, 27), (109, 28), (109, 29), (109, 30), (109, 109), (109, 111), (109, 112)], [(109, 31)]) s (sI (sI sc88 186 (Int32.ofInt 1).toNatClampNeg z136) 186 (Int32.ofInt 2).toNatClampNeg z148) := (fr_sI rfl (fr_sI rfl hFc88)); exact ⟨hI149, kk_all hI.2 hFF rfl⟩) | (have hFF : Fr fm_404 s (sI (sI sc88 186 (Int32.ofInt 1).toNatClampNeg z136) 186 (Int32.ofInt 2).toNatClampNeg z148) := (fr_sI rfl (fr_sI rfl hFc88)); exact ⟨hI149, kk_prog hI.2 hFF rfl (fin_kp g88_0 g88_1 e90 c93 e136 e148)⟩)
        exact g_ireturn (gd rfl) rfl rfl (hP _ _ ⟨(sI (sI sc88 186 (Int32.ofInt 1).toNatClampNeg z136) 186 (Int32.ofInt 2).toNatClampNeg z148), hI151, (fr_sI rfl (fr_sI rfl hFc88)), (Int32.ofInt 0), rfl, rfl, in_w (-4) 0 (in_c 0 rfl) rfl⟩)
      · skip
        have i93 := r_lt1 0 399 c93 j88_1 i90 rfl
        have i93a := r_lt2 1 400 c93 j88_1 i90 rfl
        refine g_aload_n 97 (gd rfl) rfl rfl ?_
        refine g_getA (q2 := 184) 100 (gd rfl) rfl rfl rfl rfl ?_
        refine g_iload_n 101 (gd rfl) rfl rfl ?_
        refine g_aload_n 102 (gd rfl) rfl rfl ?_
        refine g_getA (q2 := 187) 105 (gd rfl) rfl rfl rfl rfl ?_
        refine g_iload_n 106 (gd rfl) rfl rfl ?_
        refine g_iaload 107 (gd rfl) rfl (n := 400) rfl (in_ix i93 rfl) (fun z106 e106 => ?_)
        refine g_iastore 108 (gd rfl) rfl (n := 400) rfl (in_ix i93 rfl) ?_
        have hI107 := rng_sI (q := 184) (j := y88_1.toNatClampNeg) hIc88 rfl (in_w (-2147483648) 2147483647 (i_rng z106) rfl)
        refine g_aload_n 109 (gd rfl) rfl rfl ?_
        refine g_getA (q2 := 185) 112 (gd rfl) rfl rfl rfl rfl ?_
        refine g_iload_n 113 (gd rfl) rfl rfl ?_
        refine g_aload_n 114 (gd rfl) rfl rfl ?_
        refine g_getA (q2 := 188) 117 (gd rfl) rfl rfl rfl rfl ?_
        refine g_iload_n 118 (gd rfl) rfl rfl ?_
        refine g_iaload 119 (gd rfl) rfl (n := 400) rfl (in_ix i93 rfl) (fun z118 e118 => ?_)
        refine g_iastore 120 (gd rfl) rfl (n := 400) rfl (in_ix i93 rfl) ?_
        have hI119 := rng_sI (q := 185) (j := y88_1.toNatClampNeg) hI107 rfl (in_w (-2147483648) 2147483647 (i_rng z118) rfl)
        refine g_iinc 123 (gd rfl) rfl rfl (Nat.le_of_ble_eq_true rfl) (fun z120 e120 => ?_)
        have i120 := in_add 1 400 e120 i93 (in_c 1 rfl) rfl rfl
        refine g_goto 88 (gd rfl) rfl ?_
        have n88 : ∀ k : Nat, (k : Int) < (z120).toInt → (sI (sI sc88 184 y88_1.toNatClampNeg z106) 185 y88_1.toNatClampNeg z118).1 184 k = (sI (sI sc88 184 y88_1.toNatClampNeg z106) 185 y88_1.toNatClampNeg z118).1 187 k ∧ (sI (sI sc88 184 y88_1.toNatClampNeg z106) 185 y88_1.toNatClampNeg z118).1 185 k = (sI (sI sc88 184 y88_1.toNatClampNeg z106) 185 y88_1.toNatClampNeg z118).1 188 k := by first | (intro k hk; exfalso; have h0 : (Int32.ofInt 0).toInt = 0 := rfl; omega) | exact cpy_s g88_0 e106 e118 j88_1.1 (t_add e120 i93 (in_c 1 rfl) rfl)
        have n88a : QQ (sI (sI sc88 184 y88_1.toNatClampNeg z106) 185 y88_1.toNatClampNeg z118) := by first | exact qq_s g88_1 | exact qq_0 p41a (by rw [← v41b]; rfl) (by have h := c58; rw [e55] at h; exact h) e41a i53.1 p63 p63a (by have h := c80; have h2 := i77; unfold In at h2; show ((sI s63 189 (Int32.ofInt 2).toNatClampNeg z63b).2.2.1 109 23).toInt = 0; rw [← e77]; omega) (hF63.1 189 rfl) e63a
        exact gg_w (by first | exact Nat.le_add_right _ _ | exact gw2 | exact gw3 | exact gwe rfl | exact gwf rfl | exact gwg rfl | exact gwh rfl | omega) (gg_f (gf_cons rfl (gf_cons rfl gf_nil)) (ih88 (sI (sI sc88 184 y88_1.toNatClampNeg z106) 185 y88_1.toNatClampNeg z118) z120 hI119 (fr_sI rfl (fr_sI rfl hFc88)) (in_w 0 400 i120 rfl) n88 n88a (m_up mm88 (t_add e120 i93 (in_c 1 rfl) rfl) (in_w 1 1 (in_c 1 rfl) rfl))))
  refine g_enter2 (k := 404) (N := 361801) (by first | exact dq1 hd rfl | exact dq0 hd rfl | exact dq2 hd rfl | exact dq3 hd rfl | omega) rfl (Nat.le_of_ble_eq_true rfl) ?_
  refine g_aload_n 1 (gd rfl) rfl rfl ?_
  refine g_iconst 0 2 (gd rfl) rfl rfl ?_
  refine g_putI 5 (gd rfl) rfl rfl rfl rfl ?_
  have hI2 := rng_sF (q := 109) (j := 0) hI.1 rfl (in_w 0 2 (in_c 0 rfl) rfl)
  refine g_aload_n 6 (gd rfl) rfl rfl ?_
  refine g_iconst 0 7 (gd rfl) rfl rfl ?_
  refine g_putI 10 (gd rfl) rfl rfl rfl rfl ?_
  have hI7 := rng_sF (q := 109) (j := 23) hI2 rfl (in_w 0 9 (in_c 0 rfl) rfl)
  refine g_aload_n 11 (gd rfl) rfl rfl ?_
  refine g_getI 14 (gd rfl) rfl rfl rfl (fun z11 e11 => ?_)
  have q11 : u_109_22 = z11 := (sF_ne rfl (sF_ne rfl (e_109_22))).trans e11.symm
  subst q11
  refine g_bipush 120 16 (gd rfl) rfl rfl ?_
  refine g_cmp_le 19 29 (gd rfl) rfl rfl (fun c16 => ?_) (fun c16 => ?_)
  · skip
    have i16 := r_le1 0 120 c16 ro_109_22 (in_c 120 rfl) rfl
    refine g_aload_n 30 (gd rfl) rfl rfl ?_
    refine g_iconst 0 31 (gd rfl) rfl rfl ?_
    refine g_putI 34 (gd rfl) rfl rfl rfl rfl ?_
    have hI31 := rng_sF (q := 109) (j := 27) hI7 rfl (in_w 0 1000 (in_c 0 rfl) rfl)
    refine g_aload_n 35 (gd rfl) rfl rfl ?_
    refine g_iconst 0 36 (gd rfl) rfl rfl ?_
    refine g_putI 39 (gd rfl) rfl rfl rfl rfl ?_
    have hI36 := rng_sF (q := 109) (j := 109) hI31 rfl (in_w 0 400 (in_c 0 rfl) rfl)
    refine g_aload_n 40 (gd rfl) rfl rfl ?_
    refine g_iconst 1 41 (gd rfl) rfl rfl ?_
    have hI41 : Inv (sF (sF (sF (sF s 109 0 (Int32.ofInt 0)) 109 23 (Int32.ofInt 0)) 109 27 (Int32.ofInt 0)) 109 109 (Int32.ofInt 0)) := by have hFF : Fr ([187, 188, 189, 190], [], [(109, 0), (109, 23), (109, 24), (109, 27), (109, 28), (109, 29), (109, 30), (109, 109), (109, 111), (109, 112)], [(109, 31)]) s (sF (sF (sF (sF s 109 0 (Int32.ofInt 0)) 109 23 (Int32.ofInt 0)) 109 27 (Int32.ofInt 0)) 109 109 (Int32.ofInt 0)) := (fr_sF rfl (fr_sF rfl (fr_sF rfl (fr_sF rfl fr_rf)))); exact ⟨hI36, kk_all hI.2 hFF rfl⟩
    have v41 : (Int32.ofInt 0) = (sF (sF (sF (sF s 109 0 (Int32.ofInt 0)) 109 23 (Int32.ofInt 0)) 109 27 (Int32.ofInt 0)) 109 109 (Int32.ofInt 0)).2.2.1 109 27 := sF_ne rfl (sF_get)
    have v41a : u_109_22 = (sF (sF (sF (sF s 109 0 (Int32.ofInt 0)) 109 23 (Int32.ofInt 0)) 109 27 (Int32.ofInt 0)) 109 109 (Int32.ofInt 0)).2.2.1 109 22 := sF_ne rfl (sF_ne rfl (sF_ne rfl (sF_ne rfl (e_109_22))))
    have v41b : (Int32.ofInt 0) = (sF (sF (sF (sF s 109 0 (Int32.ofInt 0)) 109 23 (Int32.ofInt 0)) 109 27 (Int32.ofInt 0)) 109 109 (Int32.ofInt 0)).2.2.1 109 109 := sF_get
    have n41 : ((Int32.ofInt 0)).toInt ≤ (u_109_22).toInt := by have a0 := oa2 i16 ((in_c 0 rfl)); omega
    have n41a : (u_109_22).toInt ≤ 120 := by have a0 := oa2 i16 ((in_c 0 rfl)); omega
    have n41b : ((Int32.ofInt 0)).toInt ≤ ((Int32.ofInt 0)).toInt := by exact Int.le_refl _
    refine g_callv (X := _) (As := [.int (Int32.ofInt 1)]) (r := []) (b := A 109) (q := 109) 44 (gd rfl) rfl rfl rfl rfl rfl (ww_o rfl) (Nat.le_of_ble_eq_true rfl) (Nat.zero_le _) (Nat.zero_le _) (k_403 (by first | exact dq1 hd rfl | exact dq0 hd rfl | exact dq2 hd rfl | exact dq3 hd rfl | omega) hI41 (in_w 0 1 (in_c 1 rfl) rfl) v41 v41a v41b n41 n41a n41b) (fun e u h => h) (fun v u h => ?_)
    obtain ⟨s41, hI41a, hF41, n41c, n41d, n41e, rfl, rfl, p41, p41a⟩ := h
    obtain ⟨z41a, e41⟩ : ∃ w, w = s41.2.2.1 109 27 := ⟨_, rfl⟩
    have i41a := rng_F hI41a.1 0 1000 rfl e41
    obtain ⟨z41b, e41a⟩ : ∃ w, w = s41.2.2.1 109 109 := ⟨_, rfl⟩
    have i41b := rng_F hI41a.1 0 400 rfl e41a
    rw [← (show z41a = s41.2.2.1 109 27 from e41)] at n41c
    rw [← (show u_109_22 = s41.2.2.1 109 22 from fr_F (s := (sF (sF (sF (sF s 109 0 (Int32.ofInt 0)) 109 23 (Int32.ofInt 0)) 109 27 (Int32.ofInt 0)) 109 109 (Int32.ofInt 0))) (sF_ne rfl (sF_ne rfl (sF_ne rfl (sF_ne rfl (e_109_22))))) hF41 rfl)] at n41c
    rw [← (show z41a = s41.2.2.1 109 27 from e41)] at n41d
    rw [← (show z41b = s41.2.2.1 109 109 from e41a)] at n41d
    rw [← (show (Int32.ofInt 0) = (sF (sF (sF (sF s 109 0 (Int32.ofInt 0)) 109 23 (Int32.ofInt 0)) 109 27 (Int32.ofInt 0)) 109 109 (Int32.ofInt 0)).2.2.1 109 109 from sF_get)] at n41e
    rw [← (show z41b = s41.2.2.1 109 109 from e41a)] at n41e
    show GG _ _ _ _ _ _ _ _ [] _ _ _
    refine g_aload_n 45 (gd rfl) rfl rfl ?_
    refine g_getA (q2 := 189) 48 (gd rfl) rfl rfl rfl rfl ?_
    refine g_iconst 1 49 (gd rfl) rfl rfl ?_
    refine g_aload_n 50 (gd rfl) rfl rfl ?_
    refine g_getI 53 (gd rfl) rfl rfl rfl (fun z50 e50 => ?_)
    have q50 : z41b = z50 := (e41a).trans e50.symm
    subst q50
    have i53 : In z41b 0 120 := by exact ⟨by have a0 := oa4 i16 i41b i41a ((in_c 0 rfl)); omega, by have a0 := oa4 i16 i41b i41a ((in_c 0 rfl)); omega⟩
    refine g_iastore 54 (gd rfl) rfl (n := 3) rfl (in_ix (in_c 1 rfl) rfl) ?_
    have hI53 := rng_sI (q := 189) (j := (Int32.ofInt 1).toNatClampNeg) hI41a.1 rfl (in_w 0 120 i53 rfl)
    refine g_aload_n 55 (gd rfl) rfl rfl ?_
    refine g_getI 58 (gd rfl) rfl rfl rfl (fun z55 e55 => ?_)
    have i55 := rng_F hI53 0 9 rfl e55
    refine g_if_ne 61 66 (gd rfl) rfl rfl (fun c58 => ?_) (fun c58 => ?_)
    · skip
      have i58 := z_ne 1 9 c58 i55 rfl
      refine g_aload_n 67 (gd rfl) rfl rfl ?_
      refine g_getA (q2 := 189) 70 (gd rfl) rfl rfl rfl rfl ?_
      refine g_iconst 2 71 (gd rfl) rfl rfl ?_
      refine g_aload_n 72 (gd rfl) rfl rfl ?_
      refine g_getI 75 (gd rfl) rfl rfl rfl (fun z72 e72 => ?_)
      have q72 : z41b = z72 := (sI_F (e41a)).trans e72.symm
      subst q72
      have i75 : In z41b 0 120 := by exact ⟨by have a0 := oa5 i16 i58 i53 i41a ((in_c 0 rfl)); omega, by have a0 := oa5 i16 i58 i53 i41a ((in_c 0 rfl)); omega⟩
      refine g_iastore 76 (gd rfl) rfl (n := 3) rfl (in_ix (in_c 2 rfl) rfl) ?_
      have hI75 := rng_sI (q := 189) (j := (Int32.ofInt 2).toNatClampNeg) hI53 rfl (in_w 0 120 i75 rfl)
      refine g_aload_n 77 (gd rfl) rfl rfl ?_
      refine g_getI 80 (gd rfl) rfl rfl rfl (fun z77 e77 => ?_)
      have q77 : z55 = z77 := (sI_F (e55)).trans e77.symm
      subst q77
      refine g_if_le 83 86 (gd rfl) rfl rfl (fun c80 => ?_) (fun c80 => ?_)
      · skip
        exact zn_le c80 i58 rfl
      · skip
        refine g_bipush (-4) 85 (gd rfl) rfl rfl ?_
        have hI85 : Inv (sI (sI s41 189 (Int32.ofInt 1).toNatClampNeg z41b) 189 (Int32.ofInt 2).toNatClampNeg z41b) := by first | (have hFF : Fr ([187, 188, 189, 190], [], [(109, 0), (109, 23), (109, 24), (109, 27), (109, 28), (109, 29), (109, 30), (109, 109), (109, 111), (109, 112)], [(109, 31)]) s (sI (sI s41 189 (Int32.ofInt 1).toNatClampNeg z41b) 189 (Int32.ofInt 2).toNatClampNeg z41b) := (fr_sI rfl (fr_sI rfl (fr_tr rfl (fr_sF rfl (fr_sF rfl (fr_sF rfl (fr_sF rfl fr_rf)))) hF41))); exact ⟨hI75, kk_all hI.2 hFF rfl⟩) | (have hFF : Fr fm_404 s (sI (sI s41 189 (Int32.ofInt 1).toNatClampNeg z41b) 189 (Int32.ofInt 2).toNatClampNeg z41b) := (fr_sI rfl (fr_sI rfl (fr_tr rfl (fr_sF rfl (fr_sF rfl (fr_sF rfl (fr_sF rfl fr_rf)))) hF41))); exact ⟨hI75, kk_prog hI.2 hFF rfl (fin_kp g88_0 g88_1 e90 c93 e136 e148)⟩)
        exact g_ireturn (gd rfl) rfl rfl (hP _ _ ⟨(sI (sI s41 189 (Int32.ofInt 1).toNatClampNeg z41b) 189 (Int32.ofInt 2).toNatClampNeg z41b), hI85, (fr_sI rfl (fr_sI rfl (fr_tr rfl (fr_sF rfl (fr_sF rfl (fr_sF rfl (fr_sF rfl fr_rf)))) hF41))), (Int32.ofInt (-4)), rfl, rfl, in_w (-4) 0 (in_c (-4) rfl) rfl⟩)
    · skip
      have i58 := z_eq 0 0 c58 i55 rfl
      refine g_aload_n 62 (gd rfl) rfl rfl ?_
      refine g_iconst 0 63 (gd rfl) rfl rfl ?_
      have hI63 : Inv (sI s41 189 (Int32.ofInt 1).toNatClampNeg z41b) := by have hFF : Fr ([187, 188, 189, 190], [], [(109, 0), (109, 23), (109, 24), (109, 27), (109, 28), (109, 29), (109, 30), (109, 109), (109, 111), (109, 112)], [(109, 31)]) s (sI s41 189 (Int32.ofInt 1).toNatClampNeg z41b) := (fr_sI rfl (fr_tr rfl (fr_sF rfl (fr_sF rfl (fr_sF rfl (fr_sF rfl fr_rf)))) hF41)); exact ⟨hI53, kk_all hI.2 hFF rfl⟩
      have v63 : z41a = (sI s41 189 (Int32.ofInt 1).toNatClampNeg z41b).2.2.1 109 27 := sI_F (e41)
      have v63a : u_109_22 = (sI s41 189 (Int32.ofInt 1).toNatClampNeg z41b).2.2.1 109 22 := sI_F (fr_F (s := (sF (sF (sF (sF s 109 0 (Int32.ofInt 0)) 109 23 (Int32.ofInt 0)) 109 27 (Int32.ofInt 0)) 109 109 (Int32.ofInt 0))) (sF_ne rfl (sF_ne rfl (sF_ne rfl (sF_ne rfl (e_109_22))))) hF41 rfl)
      have v63b : z41b = (sI s41 189 (Int32.ofInt 1).toNatClampNeg z41b).2.2.1 109 109 := sI_F (e41a)
      have n63 : (z41a).toInt ≤ (u_109_22).toInt := by have a0 := oa5 i16 i58 i53 i41a ((in_c 0 rfl)); omega
      have n63a : (u_109_22).toInt ≤ 120 := by have a0 := oa5 i16 i58 i53 i41a ((in_c 0 rfl)); omega
      have n63b : (z41b).toInt ≤ (z41a).toInt := by have a0 := oa5 i16 i58 i53 i41a ((in_c 0 rfl)); omega
      refine g_callv (X := _) (As := [.int (Int32.ofInt 0)]) (r := []) (b := A 109) (q := 109) 66 (gd rfl) rfl rfl rfl rfl rfl (ww_o rfl) (Nat.le_of_ble_eq_true rfl) (Nat.zero_le _) (Nat.zero_le _) (k_403 (by first | exact dq1 hd rfl | exact dq0 hd rfl | exact dq2 hd rfl | exact dq3 hd rfl | omega) hI63 (in_w 0 1 (in_c 0 rfl) rfl) v63 v63a v63b n63 n63a n63b) (fun e u h => h) (fun v u h => ?_)
      obtain ⟨s63, hI63a, hF63, n63c, n63d, n63e, rfl, rfl, p63, p63a⟩ := h
      obtain ⟨z63a, e63⟩ : ∃ w, w = s63.2.2.1 109 27 := ⟨_, rfl⟩
      have i63a := rng_F hI63a.1 0 1000 rfl e63
      obtain ⟨z63b, e63a⟩ : ∃ w, w = s63.2.2.1 109 109 := ⟨_, rfl⟩
      have i63b := rng_F hI63a.1 0 400 rfl e63a
      rw [← (show z63a = s63.2.2.1 109 27 from e63)] at n63c
      rw [← (show u_109_22 = s63.2.2.1 109 22 from fr_F (s := (sI s41 189 (Int32.ofInt 1).toNatClampNeg z41b)) (sI_F (fr_F (s := (sF (sF (sF (sF s 109 0 (Int32.ofInt 0)) 109 23 (Int32.ofInt 0)) 109 27 (Int32.ofInt 0)) 109 109 (Int32.ofInt 0))) (sF_ne rfl (sF_ne rfl (sF_ne rfl (sF_ne rfl (e_109_22))))) hF41 rfl)) hF63 rfl)] at n63c
      rw [← (show z63a = s63.2.2.1 109 27 from e63)] at n63d
      rw [← (show z63b = s63.2.2.1 109 109 from e63a)] at n63d
      rw [← (show z41b = (sI s41 189 (Int32.ofInt 1).toNatClampNeg z41b).2.2.1 109 109 from sI_F (e41a))] at n63e
      rw [← (show z63b = s63.2.2.1 109 109 from e63a)] at n63e
      show GG _ _ _ _ _ _ _ _ [] _ _ _
      refine g_aload_n 67 (gd rfl) rfl rfl ?_
      refine g_getA (q2 := 189) 70 (gd rfl) rfl rfl rfl rfl ?_
      refine g_iconst 2 71 (gd rfl) rfl rfl ?_
      refine g_aload_n 72 (gd rfl) rfl rfl ?_
      refine g_getI 75 (gd rfl) rfl rfl rfl (fun z72 e72 => ?_)
      have q72 : z63b = z72 := (e63a).trans e72.symm
      subst q72
      have i75 : In z63b 0 120 := by exact ⟨by have a0 := oa4 i16 i63b i63a ((in_c 0 rfl)); omega, by have a0 := oa4 i16 i63b i63a ((in_c 0 rfl)); omega⟩
      refine g_iastore 76 (gd rfl) rfl (n := 3) rfl (in_ix (in_c 2 rfl) rfl) ?_
      have hI75 := rng_sI (q := 189) (j := (Int32.ofInt 2).toNatClampNeg) hI63a.1 rfl (in_w 0 120 i75 rfl)
      refine g_aload_n 77 (gd rfl) rfl rfl ?_
      refine g_getI 80 (gd rfl) rfl rfl rfl (fun z77 e77 => ?_)
      have i77 := rng_F hI75 0 9 rfl e77
      refine g_if_le 83 86 (gd rfl) rfl rfl (fun c80 => ?_) (fun c80 => ?_)
      · skip
        have i80 := z_le 0 0 c80 i77 rfl
        refine g_iconst 0 87 (gd rfl) rfl rfl ?_
        refine g_istore_n 88 (gd rfl) rfl (Nat.le_of_ble_eq_true rfl) ?_
        have n88 : ∀ k : Nat, (k : Int) < ((Int32.ofInt 0)).toInt → (sI s63 189 (Int32.ofInt 2).toNatClampNeg z63b).1 184 k = (sI s63 189 (Int32.ofInt 2).toNatClampNeg z63b).1 187 k ∧ (sI s63 189 (Int32.ofInt 2).toNatClampNeg z63b).1 185 k = (sI s63 189 (Int32.ofInt 2).toNatClampNeg z63b).1 188 k := by first | (intro k hk; exfalso; have h0 : (Int32.ofInt 0).toInt = 0 := rfl; omega) | exact cpy_s g88_0 e106 e118 j88_1.1 (t_add e120 i93 (in_c 1 rfl) rfl)
        have n88a : QQ (sI s63 189 (Int32.ofInt 2).toNatClampNeg z63b) := by first | exact qq_s g88_1 | exact qq_0 p41a (by rw [← v41b]; rfl) (by have h := c58; rw [e55] at h; exact h) e41a i53.1 p63 p63a (by have h := c80; have h2 := i77; unfold In at h2; show ((sI s63 189 (Int32.ofInt 2).toNatClampNeg z63b).2.2.1 109 23).toInt = 0; rw [← e77]; omega) (hF63.1 189 rfl) e63a
        exact gg_w (by first | exact Nat.le_of_ble_eq_true rfl | omega) (gg_f (gf_cons rfl (gf_cons rfl gf_nil)) (ct88 401 (sI s63 189 (Int32.ofInt 2).toNatClampNeg z63b) (Int32.ofInt 0) hI75 (fr_sI rfl (fr_tr rfl (fr_sI rfl (fr_tr rfl (fr_sF rfl (fr_sF rfl (fr_sF rfl (fr_sF rfl fr_rf)))) hF41)) hF63)) (in_w 0 400 (in_c 0 rfl) rfl) n88 n88a (m_in 401 (in_w 0 400 (in_c 0 rfl) rfl) rfl)))
      · skip
        have i80 := z_gt 1 9 c80 i77 rfl
        refine g_bipush (-4) 85 (gd rfl) rfl rfl ?_
        have hI85 : Inv (sI s63 189 (Int32.ofInt 2).toNatClampNeg z63b) := by first | (have hFF : Fr ([187, 188, 189, 190], [], [(109, 0), (109, 23), (109, 24), (109, 27), (109, 28), (109, 29), (109, 30), (109, 109), (109, 111), (109, 112)], [(109, 31)]) s (sI s63 189 (Int32.ofInt 2).toNatClampNeg z63b) := (fr_sI rfl (fr_tr rfl (fr_sI rfl (fr_tr rfl (fr_sF rfl (fr_sF rfl (fr_sF rfl (fr_sF rfl fr_rf)))) hF41)) hF63)); exact ⟨hI75, kk_all hI.2 hFF rfl⟩) | (have hFF : Fr fm_404 s (sI s63 189 (Int32.ofInt 2).toNatClampNeg z63b) := (fr_sI rfl (fr_tr rfl (fr_sI rfl (fr_tr rfl (fr_sF rfl (fr_sF rfl (fr_sF rfl (fr_sF rfl fr_rf)))) hF41)) hF63)); exact ⟨hI75, kk_prog hI.2 hFF rfl (fin_kp g88_0 g88_1 e90 c93 e136 e148)⟩)
        exact g_ireturn (gd rfl) rfl rfl (hP _ _ ⟨(sI s63 189 (Int32.ofInt 2).toNatClampNeg z63b), hI85, (fr_sI rfl (fr_tr rfl (fr_sI rfl (fr_tr rfl (fr_sF rfl (fr_sF rfl (fr_sF rfl (fr_sF rfl fr_rf)))) hF41)) hF63)), (Int32.ofInt (-4)), rfl, rfl, in_w (-4) 0 (in_c (-4) rfl) rfl⟩)
  · skip
    have i16 := r_lt2 121 1000 c16 (in_c 120 rfl) ro_109_22 rfl
    refine g_aload_n 20 (gd rfl) rfl rfl ?_
    refine g_iconst 2 21 (gd rfl) rfl rfl ?_
    refine g_bipush 120 23 (gd rfl) rfl rfl ?_
    have hI23 : Inv (sF (sF s 109 0 (Int32.ofInt 0)) 109 23 (Int32.ofInt 0)) := by have hFF : Fr ([187, 188, 189, 190], [], [(109, 0), (109, 23), (109, 24), (109, 27), (109, 28), (109, 29), (109, 30), (109, 109), (109, 111), (109, 112)], [(109, 31)]) s (sF (sF s 109 0 (Int32.ofInt 0)) 109 23 (Int32.ofInt 0)) := (fr_sF rfl (fr_sF rfl fr_rf)); exact ⟨hI7, kk_all hI.2 hFF rfl⟩
    refine g_callv (X := _) (As := [.int (Int32.ofInt 2), .int (Int32.ofInt 120)]) (r := []) (b := A 109) (q := 109) 26 (gd rfl) rfl rfl rfl rfl rfl (ww_o rfl) (Nat.le_of_ble_eq_true rfl) (Nat.zero_le _) (Nat.zero_le _) (k_298 (by first | exact dq1 hd rfl | exact dq0 hd rfl | exact dq2 hd rfl | exact dq3 hd rfl | omega) hI23 (in_w 1 5 (in_c 2 rfl) rfl)) (fun e u h => h) (fun v u h => ?_)
    obtain ⟨s23, hI23a, hF23, n23, rfl, rfl⟩ := h
    obtain ⟨z23a, e23⟩ : ∃ w, w = s23.2.2.1 109 23 := ⟨_, rfl⟩
    have i23a := rng_F hI23a.1 0 9 rfl e23
    rw [← (show z23a = s23.2.2.1 109 23 from e23)] at n23
    show GG _ _ _ _ _ _ _ _ [] _ _ _
    refine g_bipush (-4) 28 (gd rfl) rfl rfl ?_
    have hI28 : Inv s23 := by first | (have hFF : Fr ([187, 188, 189, 190], [], [(109, 0), (109, 23), (109, 24), (109, 27), (109, 28), (109, 29), (109, 30), (109, 109), (109, 111), (109, 112)], [(109, 31)]) s s23 := (fr_tr rfl (fr_sF rfl (fr_sF rfl fr_rf)) hF23); exact ⟨hI23a.1, kk_all hI.2 hFF rfl⟩) | (have hFF : Fr fm_404 s s23 := (fr_tr rfl (fr_sF rfl (fr_sF rfl fr_rf)) hF23); exact ⟨hI23a.1, kk_prog hI.2 hFF rfl (fin_kp g88_0 g88_1 e90 c93 e136 e148)⟩)
    exact g_ireturn (gd rfl) rfl rfl (hP _ _ ⟨s23, hI28, (fr_tr rfl (fr_sF rfl (fr_sF rfl fr_rf)) hF23), (Int32.ofInt (-4)), rfl, rfl, in_w (-4) 0 (in_c (-4) rfl) rfl⟩)

def fm_408 : FM := ([], [193], [], [])
/-- GraphHouseModel.workOut -/
theorem k_408 {Z : AmZ} {A : Nat → Nat} {s : GS} {ex : va_W} {d : Nat} {X : AmX} {x1 : Int32} (hd : 3 ≤ d) (hI : Inv s) (h1 : In x1 0 1) : GC Z d 408 [.ref (A 109), .int x1] (WW Z A s ++ ex) 0 0 (fun v u => ∃ t : GS, Inv t ∧ Fr fm_408 s t ∧ ∃ z : Int64, v = some (.long z) ∧ u = WW Z A t ++ ex) X := by
  intro post xp hP hX
  have ct17 : ∀ (k17 : Nat) (sc17 : GS) (y17_2 : Int32) (y17_3 : Int32), Inv sc17 → Fr fm_408 s sc17 → (In y17_2 0 120) → (In y17_3 0 120) → ((y17_2).toInt ≤ (y17_3).toInt) → (WS sc17 x1 y17_3 y17_2) → 120 - (y17_3).toInt < (k17 : Int) → GG Z (d - 1) 408 post (gx xp) (1 + k17 * 900) 17 (fun j => xlook j [(0, .ref (A 109)), (1, .int x1), (2, .int y17_2), (3, .int y17_3)]) [] (WW Z A sc17 ++ ex) 0 0 := by
    intro k17
    induction k17 with
    | zero => intro sc17 y17_2 y17_3 hIc17 hFc17 j17_2 j17_3 n17_0 g17_0 mm17; exact m_no mm17 j17_3 rfl
    | succ k17 ih17 =>
      intro sc17 y17_2 y17_3 hIc17 hFc17 j17_2 j17_3 n17_0 g17_0 mm17
      refine gg_w (M := 1 + k17 * 900 + 900) gws ?_
      refine g_iload_n 18 (gd rfl) rfl rfl ?_
      refine g_aload_n 19 (gd rfl) rfl rfl ?_
      refine g_getA (q2 := 186) 22 (gd rfl) rfl rfl rfl rfl ?_
      refine g_iload_n 23 (gd rfl) rfl rfl ?_
      refine g_iconst 1 24 (gd rfl) rfl rfl ?_
      refine g_iadd 25 (gd rfl) rfl (fun z24 e24 => ?_)
      have i24 := in_add 1 2 e24 h1 (in_c 1 rfl) rfl rfl
      refine g_iaload 26 (gd rfl) rfl (n := 3) rfl (in_ix i24 rfl) (fun z25 e25 => ?_)
      have i25 := inv_I hIc17 (n := 3) (t := 0) 0 120 rfl (in_ix i24 rfl) rfl e25
      refine g_cmp_ge 29 232 (gd rfl) rfl rfl (fun c26 => ?_) (fun c26 => ?_)
      · skip
        refine g_aload_n 233 (gd rfl) rfl rfl ?_
        refine g_getA (q2 := 193) 236 (gd rfl) rfl rfl rfl rfl ?_
        refine g_iconst 0 237 (gd rfl) rfl rfl ?_
        refine g_laload 238 (gd rfl) rfl (n := 200) rfl (in_ix (in_c 0 rfl) rfl) (fun z237 e237 => ?_)
        exact g_lreturn (gd rfl) rfl (hP _ _ ⟨sc17, hIc17, hFc17, z237, rfl, rfl⟩)
      · skip
        have i26 := r_lt1 0 119 c26 j17_3 i25 rfl
        have i26a := r_lt2 1 120 c26 j17_3 i25 rfl
        refine g_aload_n 30 (gd rfl) rfl rfl ?_
        refine g_getA (q2 := 184) 33 (gd rfl) rfl rfl rfl rfl ?_
        refine g_iload_n 34 (gd rfl) rfl rfl ?_
        refine g_iaload 35 (gd rfl) rfl (n := 400) rfl (in_ix i26 rfl) (fun z34 e34 => ?_)
        refine g_istore 37 (gd rfl) rfl (Nat.le_of_ble_eq_true rfl) ?_
        obtain ⟨kn, hk1, hk2⟩ := ws_ok hIc17 h1 g17_0 e34 (t_add e24 h1 (in_c 1 rfl) rfl) e25 c26; have hkle := ws_le g17_0; have hk0 := g17_0.1
        refine g_iload 39 (gd rfl) rfl rfl ?_
        refine g_iconst 2 40 (gd rfl) rfl rfl ?_
        refine g_cmp_ge 43 81 (gd rfl) rfl rfl (fun c40 => ?_) (fun c40 => ?_)
        · skip
          have i40 := r_le2 2 2147483647 c40 (in_c 2 rfl) (i_rng z34) rfl
          refine g_iload 83 (gd rfl) rfl rfl ?_
          refine g_iconst 2 84 (gd rfl) rfl rfl ?_
          refine g_cmp_ne 87 110 (gd rfl) rfl rfl (fun c84 => ?_) (fun c84 => ?_)
          · skip
            have i84 := r_ne1 3 2147483647 c84 i40 (in_c 2 rfl) rfl
            have hk3 := hs_3 hk1 (by have a0 := oa5 h1 i26 j17_2 i84 i24; have a5 := t_add e24 h1 (in_c 1 rfl) rfl; have a6 := in_u ((in_c 1 rfl)); omega) c84
            refine g_iinc 113 (gd rfl) rfl rfl (Nat.le_of_ble_eq_true rfl) (fun z110 e110 => ?_)
            have i110 := in_add (-1) 119 e110 j17_2 (in_c (-1) rfl) rfl rfl
            refine g_aload_n 114 (gd rfl) rfl rfl ?_
            refine g_getA (q2 := 193) 117 (gd rfl) rfl rfl rfl rfl ?_
            refine g_iload_n 118 (gd rfl) rfl rfl ?_
            refine g_iconst 1 119 (gd rfl) rfl rfl ?_
            refine g_isub 120 (gd rfl) rfl (fun z119 e119 => ?_)
            have i119 := in_sub (-2) 118 e119 i110 (in_c 1 rfl) rfl rfl
            have i120 : In z119 0 199 := by have a0 := oa5 h1 i26 j17_2 i84 i110; have a5 := t_add e110 j17_2 (in_c (-1) rfl) rfl; have a6 := oa2 ((in_c (-1) rfl)) i119; have a8 := t_sub e119 i110 (in_c 1 rfl) rfl; have a9 := oa2 ((in_c 1 rfl)) i24; have a11 := t_add e24 h1 (in_c 1 rfl) rfl; exact ⟨by omega, by omega⟩
            refine g_laload 121 (gd rfl) rfl (n := 200) rfl (in_ix i120 rfl) (fun z120 e120 => ?_)
            refine g_lstore 123 (gd rfl) rfl (Nat.le_of_ble_eq_true rfl) ?_
            refine g_aload_n 124 (gd rfl) rfl rfl ?_
            refine g_getA (q2 := 193) 127 (gd rfl) rfl rfl rfl rfl ?_
            refine g_iload_n 128 (gd rfl) rfl rfl ?_
            have i128 : In z110 0 199 := by have a0 := oa5 h1 i26 j17_2 i84 i110; have a5 := t_add e110 j17_2 (in_c (-1) rfl) rfl; have a6 := oa2 ((in_c (-1) rfl)) i120; have a8 := t_sub e119 i110 (in_c 1 rfl) rfl; have a9 := oa2 ((in_c 1 rfl)) i24; have a11 := t_add e24 h1 (in_c 1 rfl) rfl; exact ⟨by omega, by omega⟩
            refine g_laload 129 (gd rfl) rfl (n := 200) rfl (in_ix i128 rfl) (fun z128 e128 => ?_)
            refine g_lstore 131 (gd rfl) rfl (Nat.le_of_ble_eq_true rfl) ?_
            refine g_aload_n 132 (gd rfl) rfl rfl ?_
            refine g_getA (q2 := 193) 135 (gd rfl) rfl rfl rfl rfl ?_
            refine g_iload_n 136 (gd rfl) rfl rfl ?_
            refine g_iconst 1 137 (gd rfl) rfl rfl ?_
            refine g_isub 138 (gd rfl) rfl (fun z137 e137 => ?_)
            have i137 := in_sub (-1) 198 e137 i128 (in_c 1 rfl) rfl rfl
            refine g_iload 140 (gd rfl) rfl rfl ?_
            refine g_bipush 42 142 (gd rfl) rfl rfl ?_
            refine g_cmp_ne 145 158 (gd rfl) rfl rfl (fun c142 => ?_) (fun c142 => ?_)
            · skip
              refine g_iload 160 (gd rfl) rfl rfl ?_
              refine g_bipush 43 162 (gd rfl) rfl rfl ?_
              refine g_cmp_ne 165 176 (gd rfl) rfl rfl (fun c162 => ?_) (fun c162 => ?_)
              · skip
                refine g_iload 178 (gd rfl) rfl rfl ?_
                refine g_bipush 45 180 (gd rfl) rfl rfl ?_
                refine g_cmp_ne 183 194 (gd rfl) rfl rfl (fun c180 => ?_) (fun c180 => ?_)
                · skip
                  refine g_iload 196 (gd rfl) rfl rfl ?_
                  refine g_bipush 60 198 (gd rfl) rfl rfl ?_
                  refine g_cmp_ne 201 212 (gd rfl) rfl rfl (fun c198 => ?_) (fun c198 => ?_)
                  · skip
                    refine g_lload 214 (gd rfl) rfl rfl ?_
                    refine g_lload 216 (gd rfl) rfl rfl ?_
                    refine g_lcmp 217 (gd rfl) rfl (fun z216 e216 => ?_)
                    have i216 := lc_in e216
                    refine g_if_ne 220 224 (gd rfl) rfl rfl (fun c217 => ?_) (fun c217 => ?_)
                    · skip
                      have c217a := lc_ne e216 c217
                      refine g_lconst 0 225 (gd rfl) rfl rfl ?_
                      have i225 : In z137 0 199 := by have a0 := oa5 h1 i26 j17_2 i84 i128; have a5 := t_add e110 j17_2 (in_c (-1) rfl) rfl; have a6 := oa2 ((in_c (-1) rfl)) i137; have a8 := t_sub e137 i128 (in_c 1 rfl) rfl; have a9 := oa2 ((in_c 1 rfl)) i120; have a11 := t_sub e119 i110 (in_c 1 rfl) rfl; have a12 := in_u i24; have a13 := t_add e24 h1 (in_c 1 rfl) rfl; exact ⟨by omega, by omega⟩
                      refine g_lastore 226 (gd rfl) rfl (n := 200) rfl (in_ix i225 rfl) ?_
                      have hI225 := inv_sL (q := 193) (j := z137.toNatClampNeg) (x := (Int64.ofInt 0)) hIc17 rfl (l_rng (Int64.ofInt 0))
                      refine g_iinc 229 (gd rfl) rfl rfl (Nat.le_of_ble_eq_true rfl) (fun z226 e226 => ?_)
                      have i226 := in_add 1 120 e226 i26 (in_c 1 rfl) rfl rfl
                      refine g_goto 17 (gd rfl) rfl ?_
                      have i17 : In z110 0 120 := by exact ⟨by have a0 := oa5 h1 i26 j17_2 i84 i226; have a5 := t_add e226 i26 (in_c 1 rfl) rfl; have a6 := oa2 ((in_c 1 rfl)) i128; have a8 := t_add e110 j17_2 (in_c (-1) rfl) rfl; have a9 := oa2 ((in_c (-1) rfl)) i225; have a11 := t_sub e137 i128 (in_c 1 rfl) rfl; have a12 := in_u i120; have a13 := t_sub e119 i110 (in_c 1 rfl) rfl; have a14 := in_u i24; have a15 := t_add e24 h1 (in_c 1 rfl) rfl; omega, by have a0 := oa5 h1 i26 j17_2 i84 i226; have a5 := t_add e226 i26 (in_c 1 rfl) rfl; have a6 := oa2 ((in_c 1 rfl)) i128; have a8 := t_add e110 j17_2 (in_c (-1) rfl) rfl; have a9 := oa2 ((in_c (-1) rfl)) i225; have a11 := t_sub e137 i128 (in_c 1 rfl) rfl; have a12 := in_u i120; have a13 := t_sub e119 i110 (in_c 1 rfl) rfl; have a14 := in_u i24; have a15 := t_add e24 h1 (in_c 1 rfl) rfl; omega⟩
                      have n17 : (z110).toInt ≤ (z226).toInt := by have a0 := oa5 h1 i26 j17_2 i84 i226; have a5 := t_add e226 i26 (in_c 1 rfl) rfl; have a6 := oa2 ((in_c 1 rfl)) i17; have a8 := t_add e110 j17_2 (in_c (-1) rfl) rfl; have a9 := oa2 ((in_c (-1) rfl)) i225; have a11 := t_sub e137 i128 (in_c 1 rfl) rfl; have a12 := in_u i120; have a13 := t_sub e119 i110 (in_c 1 rfl) rfl; have a14 := in_u i24; have a15 := t_add e24 h1 (in_c 1 rfl) rfl; omega
                      have n17a : WS (sL sc17 193 z137.toNatClampNeg (Int64.ofInt 0)) x1 z226 z110 := by first | exact hk2 _ _ (by have a0 := oa5 h1 i26 j17_2 i84 i226; have a5 := t_add e226 i26 (in_c 1 rfl) rfl; have a6 := oa2 ((in_c 1 rfl)) i17; have a8 := t_add e110 j17_2 (in_c (-1) rfl) rfl; have a9 := oa2 ((in_c (-1) rfl)) i225; have a11 := t_sub e137 i128 (in_c 1 rfl) rfl; have a12 := in_u i120; have a13 := t_sub e119 i110 (in_c 1 rfl) rfl; have a14 := in_u i24; have a15 := t_add e24 h1 (in_c 1 rfl) rfl; omega) (by have a0 := oa5 h1 i26 j17_2 i84 i226; have a5 := t_add e226 i26 (in_c 1 rfl) rfl; have a6 := oa2 ((in_c 1 rfl)) i17; have a8 := t_add e110 j17_2 (in_c (-1) rfl) rfl; have a9 := oa2 ((in_c (-1) rfl)) i225; have a11 := t_sub e137 i128 (in_c 1 rfl) rfl; have a12 := in_u i120; have a13 := t_sub e119 i110 (in_c 1 rfl) rfl; have a14 := in_u i24; have a15 := t_add e24 h1 (in_c 1 rfl) rfl; omega) | exact ws_0 rfl (by first | exact (by decide) | exact i15.1) (by unfold wa; first | (rw [if_pos c3]; rfl) | (rw [if_neg c3, e15]; rfl))
                      exact gg_w (by first | exact Nat.le_add_right _ _ | exact gw2 | exact gw3 | exact gwe rfl | exact gwf rfl | exact gwg rfl | exact gwh rfl | omega) (gg_f (gf_cons rfl (gf_cons rfl (gf_cons rfl (gf_cons rfl gf_nil)))) (ih17 (sL sc17 193 z137.toNatClampNeg (Int64.ofInt 0)) z110 z226 hI225 (fr_sL rfl hFc17) i17 (in_w 0 120 i226 rfl) n17 n17a (m_up mm17 (t_add e226 i26 (in_c 1 rfl) rfl) (in_w 1 1 (in_c 1 rfl) rfl))))
                    · skip
                      have i217 := z_eq 0 0 c217 i216 rfl
                      have c217a := lc_eq e216 c217
                      refine g_lconst 1 221 (gd rfl) rfl rfl ?_
                      refine g_goto 225 (gd rfl) rfl ?_
                      have i225 : In z137 0 199 := by have a0 := oa5 h1 i26 j17_2 i84 i128; have a5 := t_add e110 j17_2 (in_c (-1) rfl) rfl; have a6 := oa2 ((in_c (-1) rfl)) i137; have a8 := t_sub e137 i128 (in_c 1 rfl) rfl; have a9 := oa2 ((in_c 1 rfl)) i120; have a11 := t_sub e119 i110 (in_c 1 rfl) rfl; have a12 := in_u i24; have a13 := t_add e24 h1 (in_c 1 rfl) rfl; exact ⟨by omega, by omega⟩
                      refine g_lastore 226 (gd rfl) rfl (n := 200) rfl (in_ix i225 rfl) ?_
                      have hI225 := inv_sL (q := 193) (j := z137.toNatClampNeg) (x := (Int64.ofInt 1)) hIc17 rfl (l_rng (Int64.ofInt 1))
                      refine g_iinc 229 (gd rfl) rfl rfl (Nat.le_of_ble_eq_true rfl) (fun z226 e226 => ?_)
                      have i226 := in_add 1 120 e226 i26 (in_c 1 rfl) rfl rfl
                      refine g_goto 17 (gd rfl) rfl ?_
                      have i17 : In z110 0 120 := by exact ⟨by have a0 := oa5 h1 i26 j17_2 i84 i226; have a5 := t_add e226 i26 (in_c 1 rfl) rfl; have a6 := oa2 ((in_c 1 rfl)) i128; have a8 := t_add e110 j17_2 (in_c (-1) rfl) rfl; have a9 := oa2 ((in_c (-1) rfl)) i225; have a11 := t_sub e137 i128 (in_c 1 rfl) rfl; have a12 := in_u i120; have a13 := t_sub e119 i110 (in_c 1 rfl) rfl; have a14 := in_u i24; have a15 := t_add e24 h1 (in_c 1 rfl) rfl; omega, by have a0 := oa5 h1 i26 j17_2 i84 i226; have a5 := t_add e226 i26 (in_c 1 rfl) rfl; have a6 := oa2 ((in_c 1 rfl)) i128; have a8 := t_add e110 j17_2 (in_c (-1) rfl) rfl; have a9 := oa2 ((in_c (-1) rfl)) i225; have a11 := t_sub e137 i128 (in_c 1 rfl) rfl; have a12 := in_u i120; have a13 := t_sub e119 i110 (in_c 1 rfl) rfl; have a14 := in_u i24; have a15 := t_add e24 h1 (in_c 1 rfl) rfl; omega⟩
                      have n17 : (z110).toInt ≤ (z226).toInt := by have a0 := oa5 h1 i26 j17_2 i84 i226; have a5 := t_add e226 i26 (in_c 1 rfl) rfl; have a6 := oa2 ((in_c 1 rfl)) i17; have a8 := t_add e110 j17_2 (in_c (-1) rfl) rfl; have a9 := oa2 ((in_c (-1) rfl)) i225; have a11 := t_sub e137 i128 (in_c 1 rfl) rfl; have a12 := in_u i120; have a13 := t_sub e119 i110 (in_c 1 rfl) rfl; have a14 := in_u i24; have a15 := t_add e24 h1 (in_c 1 rfl) rfl; omega
                      have n17a : WS (sL sc17 193 z137.toNatClampNeg (Int64.ofInt 1)) x1 z226 z110 := by first | exact hk2 _ _ (by have a0 := oa5 h1 i26 j17_2 i84 i226; have a5 := t_add e226 i26 (in_c 1 rfl) rfl; have a6 := oa2 ((in_c 1 rfl)) i17; have a8 := t_add e110 j17_2 (in_c (-1) rfl) rfl; have a9 := oa2 ((in_c (-1) rfl)) i225; have a11 := t_sub e137 i128 (in_c 1 rfl) rfl; have a12 := in_u i120; have a13 := t_sub e119 i110 (in_c 1 rfl) rfl; have a14 := in_u i24; have a15 := t_add e24 h1 (in_c 1 rfl) rfl; omega) (by have a0 := oa5 h1 i26 j17_2 i84 i226; have a5 := t_add e226 i26 (in_c 1 rfl) rfl; have a6 := oa2 ((in_c 1 rfl)) i17; have a8 := t_add e110 j17_2 (in_c (-1) rfl) rfl; have a9 := oa2 ((in_c (-1) rfl)) i225; have a11 := t_sub e137 i128 (in_c 1 rfl) rfl; have a12 := in_u i120; have a13 := t_sub e119 i110 (in_c 1 rfl) rfl; have a14 := in_u i24; have a15 := t_add e24 h1 (in_c 1 rfl) rfl; omega) | exact ws_0 rfl (by first | exact (by decide) | exact i15.1) (by unfold wa; first | (rw [if_pos c3]; rfl) | (rw [if_neg c3, e15]; rfl))
                      exact gg_w (by first | exact Nat.le_add_right _ _ | exact gw2 | exact gw3 | exact gwe rfl | exact gwf rfl | exact gwg rfl | exact gwh rfl | omega) (gg_f (gf_cons rfl (gf_cons rfl (gf_cons rfl (gf_cons rfl gf_nil)))) (ih17 (sL sc17 193 z137.toNatClampNeg (Int64.ofInt 1)) z110 z226 hI225 (fr_sL rfl hFc17) i17 (in_w 0 120 i226 rfl) n17 n17a (m_up mm17 (t_add e226 i26 (in_c 1 rfl) rfl) (in_w 1 1 (in_c 1 rfl) rfl))))
                  · skip
                    have i198 := r_eq1 60 60 c198 i84 (in_c 60 rfl) rfl
                    refine g_lload 203 (gd rfl) rfl rfl ?_
                    refine g_lload 205 (gd rfl) rfl rfl ?_
                    refine g_lcmp 206 (gd rfl) rfl (fun z205 e205 => ?_)
                    have i205 := lc_in e205
                    refine g_if_ge 209 224 (gd rfl) rfl rfl (fun c206 => ?_) (fun c206 => ?_)
                    · skip
                      have i206 := z_ge 0 1 c206 i205 rfl
                      have c206a := lc_ge e205 c206
                      refine g_lconst 0 225 (gd rfl) rfl rfl ?_
                      have i225 : In z137 0 199 := by have a0 := oa5 h1 i26 j17_2 i198 i128; have a5 := t_add e110 j17_2 (in_c (-1) rfl) rfl; have a6 := oa2 ((in_c (-1) rfl)) i137; have a8 := t_sub e137 i128 (in_c 1 rfl) rfl; have a9 := oa2 ((in_c 1 rfl)) i120; have a11 := t_sub e119 i110 (in_c 1 rfl) rfl; have a12 := in_u i24; have a13 := t_add e24 h1 (in_c 1 rfl) rfl; exact ⟨by omega, by omega⟩
                      refine g_lastore 226 (gd rfl) rfl (n := 200) rfl (in_ix i225 rfl) ?_
                      have hI225 := inv_sL (q := 193) (j := z137.toNatClampNeg) (x := (Int64.ofInt 0)) hIc17 rfl (l_rng (Int64.ofInt 0))
                      refine g_iinc 229 (gd rfl) rfl rfl (Nat.le_of_ble_eq_true rfl) (fun z226 e226 => ?_)
                      have i226 := in_add 1 120 e226 i26 (in_c 1 rfl) rfl rfl
                      refine g_goto 17 (gd rfl) rfl ?_
                      have i17 : In z110 0 120 := by exact ⟨by have a0 := oa5 h1 i26 j17_2 i198 i226; have a5 := t_add e226 i26 (in_c 1 rfl) rfl; have a6 := oa2 ((in_c 1 rfl)) i128; have a8 := t_add e110 j17_2 (in_c (-1) rfl) rfl; have a9 := oa2 ((in_c (-1) rfl)) i225; have a11 := t_sub e137 i128 (in_c 1 rfl) rfl; have a12 := in_u i120; have a13 := t_sub e119 i110 (in_c 1 rfl) rfl; have a14 := in_u i24; have a15 := t_add e24 h1 (in_c 1 rfl) rfl; omega, by have a0 := oa5 h1 i26 j17_2 i198 i226; have a5 := t_add e226 i26 (in_c 1 rfl) rfl; have a6 := oa2 ((in_c 1 rfl)) i128; have a8 := t_add e110 j17_2 (in_c (-1) rfl) rfl; have a9 := oa2 ((in_c (-1) rfl)) i225; have a11 := t_sub e137 i128 (in_c 1 rfl) rfl; have a12 := in_u i120; have a13 := t_sub e119 i110 (in_c 1 rfl) rfl; have a14 := in_u i24; have a15 := t_add e24 h1 (in_c 1 rfl) rfl; omega⟩
                      have n17 : (z110).toInt ≤ (z226).toInt := by have a0 := oa5 h1 i26 j17_2 i198 i226; have a5 := t_add e226 i26 (in_c 1 rfl) rfl; have a6 := oa2 ((in_c 1 rfl)) i17; have a8 := t_add e110 j17_2 (in_c (-1) rfl) rfl; have a9 := oa2 ((in_c (-1) rfl)) i225; have a11 := t_sub e137 i128 (in_c 1 rfl) rfl; have a12 := in_u i120; have a13 := t_sub e119 i110 (in_c 1 rfl) rfl; have a14 := in_u i24; have a15 := t_add e24 h1 (in_c 1 rfl) rfl; omega
                      have n17a : WS (sL sc17 193 z137.toNatClampNeg (Int64.ofInt 0)) x1 z226 z110 := by first | exact hk2 _ _ (by have a0 := oa5 h1 i26 j17_2 i198 i226; have a5 := t_add e226 i26 (in_c 1 rfl) rfl; have a6 := oa2 ((in_c 1 rfl)) i17; have a8 := t_add e110 j17_2 (in_c (-1) rfl) rfl; have a9 := oa2 ((in_c (-1) rfl)) i225; have a11 := t_sub e137 i128 (in_c 1 rfl) rfl; have a12 := in_u i120; have a13 := t_sub e119 i110 (in_c 1 rfl) rfl; have a14 := in_u i24; have a15 := t_add e24 h1 (in_c 1 rfl) rfl; omega) (by have a0 := oa5 h1 i26 j17_2 i198 i226; have a5 := t_add e226 i26 (in_c 1 rfl) rfl; have a6 := oa2 ((in_c 1 rfl)) i17; have a8 := t_add e110 j17_2 (in_c (-1) rfl) rfl; have a9 := oa2 ((in_c (-1) rfl)) i225; have a11 := t_sub e137 i128 (in_c 1 rfl) rfl; have a12 := in_u i120; have a13 := t_sub e119 i110 (in_c 1 rfl) rfl; have a14 := in_u i24; have a15 := t_add e24 h1 (in_c 1 rfl) rfl; omega) | exact ws_0 rfl (by first | exact (by decide) | exact i15.1) (by unfold wa; first | (rw [if_pos c3]; rfl) | (rw [if_neg c3, e15]; rfl))
                      exact gg_w (by first | exact Nat.le_add_right _ _ | exact gw2 | exact gw3 | exact gwe rfl | exact gwf rfl | exact gwg rfl | exact gwh rfl | omega) (gg_f (gf_cons rfl (gf_cons rfl (gf_cons rfl (gf_cons rfl gf_nil)))) (ih17 (sL sc17 193 z137.toNatClampNeg (Int64.ofInt 0)) z110 z226 hI225 (fr_sL rfl hFc17) i17 (in_w 0 120 i226 rfl) n17 n17a (m_up mm17 (t_add e226 i26 (in_c 1 rfl) rfl) (in_w 1 1 (in_c 1 rfl) rfl))))
                    · skip
                      have i206 := z_lt (-1) (-1) c206 i205 rfl
                      have c206a := lc_lt e205 c206
                      have i206a := lr_lt1 (-9223372036854775808) 9223372036854775806 c206a (l_rng z120) (l_rng z128) rfl
                      have i206b := lr_lt2 (-9223372036854775807) 9223372036854775807 c206a (l_rng z120) (l_rng z128) rfl
                      refine g_goto 220 (gd rfl) rfl ?_
                      refine g_lconst 1 221 (gd rfl) rfl rfl ?_
                      refine g_goto 225 (gd rfl) rfl ?_
                      have i225 : In z137 0 199 := by have a0 := oa5 h1 i26 j17_2 i198 i128; have a5 := t_add e110 j17_2 (in_c (-1) rfl) rfl; have a6 := oa2 ((in_c (-1) rfl)) i137; have a8 := t_sub e137 i128 (in_c 1 rfl) rfl; have a9 := oa2 ((in_c 1 rfl)) i120; have a11 := t_sub e119 i110 (in_c 1 rfl) rfl; have a12 := in_u i24; have a13 := t_add e24 h1 (in_c 1 rfl) rfl; exact ⟨by omega, by omega⟩
                      refine g_lastore 226 (gd rfl) rfl (n := 200) rfl (in_ix i225 rfl) ?_
                      have hI225 := inv_sL (q := 193) (j := z137.toNatClampNeg) (x := (Int64.ofInt 1)) hIc17 rfl (l_rng (Int64.ofInt 1))
                      refine g_iinc 229 (gd rfl) rfl rfl (Nat.le_of_ble_eq_true rfl) (fun z226 e226 => ?_)
                      have i226 := in_add 1 120 e226 i26 (in_c 1 rfl) rfl rfl
                      refine g_goto 17 (gd rfl) rfl ?_
                      have i17 : In z110 0 120 := by exact ⟨by have a0 := oa5 h1 i26 j17_2 i198 i226; have a5 := t_add e226 i26 (in_c 1 rfl) rfl; have a6 := oa2 ((in_c 1 rfl)) i128; have a8 := t_add e110 j17_2 (in_c (-1) rfl) rfl; have a9 := oa2 ((in_c (-1) rfl)) i225; have a11 := t_sub e137 i128 (in_c 1 rfl) rfl; have a12 := in_u i120; have a13 := t_sub e119 i110 (in_c 1 rfl) rfl; have a14 := in_u i24; have a15 := t_add e24 h1 (in_c 1 rfl) rfl; omega, by have a0 := oa5 h1 i26 j17_2 i198 i226; have a5 := t_add e226 i26 (in_c 1 rfl) rfl; have a6 := oa2 ((in_c 1 rfl)) i128; have a8 := t_add e110 j17_2 (in_c (-1) rfl) rfl; have a9 := oa2 ((in_c (-1) rfl)) i225; have a11 := t_sub e137 i128 (in_c 1 rfl) rfl; have a12 := in_u i120; have a13 := t_sub e119 i110 (in_c 1 rfl) rfl; have a14 := in_u i24; have a15 := t_add e24 h1 (in_c 1 rfl) rfl; omega⟩
                      have n17 : (z110).toInt ≤ (z226).toInt := by have a0 := oa5 h1 i26 j17_2 i198 i226; have a5 := t_add e226 i26 (in_c 1 rfl) rfl; have a6 := oa2 ((in_c 1 rfl)) i17; have a8 := t_add e110 j17_2 (in_c (-1) rfl) rfl; have a9 := oa2 ((in_c (-1) rfl)) i225; have a11 := t_sub e137 i128 (in_c 1 rfl) rfl; have a12 := in_u i120; have a13 := t_sub e119 i110 (in_c 1 rfl) rfl; have a14 := in_u i24; have a15 := t_add e24 h1 (in_c 1 rfl) rfl; omega
                      have n17a : WS (sL sc17 193 z137.toNatClampNeg (Int64.ofInt 1)) x1 z226 z110 := by first | exact hk2 _ _ (by have a0 := oa5 h1 i26 j17_2 i198 i226; have a5 := t_add e226 i26 (in_c 1 rfl) rfl; have a6 := oa2 ((in_c 1 rfl)) i17; have a8 := t_add e110 j17_2 (in_c (-1) rfl) rfl; have a9 := oa2 ((in_c (-1) rfl)) i225; have a11 := t_sub e137 i128 (in_c 1 rfl) rfl; have a12 := in_u i120; have a13 := t_sub e119 i110 (in_c 1 rfl) rfl; have a14 := in_u i24; have a15 := t_add e24 h1 (in_c 1 rfl) rfl; omega) (by have a0 := oa5 h1 i26 j17_2 i198 i226; have a5 := t_add e226 i26 (in_c 1 rfl) rfl; have a6 := oa2 ((in_c 1 rfl)) i17; have a8 := t_add e110 j17_2 (in_c (-1) rfl) rfl; have a9 := oa2 ((in_c (-1) rfl)) i225; have a11 := t_sub e137 i128 (in_c 1 rfl) rfl; have a12 := in_u i120; have a13 := t_sub e119 i110 (in_c 1 rfl) rfl; have a14 := in_u i24; have a15 := t_add e24 h1 (in_c 1 rfl) rfl; omega) | exact ws_0 rfl (by first | exact (by decide) | exact i15.1) (by unfold wa; first | (rw [if_pos c3]; rfl) | (rw [if_neg c3, e15]; rfl))
                      exact gg_w (by first | exact Nat.le_add_right _ _ | exact gw2 | exact gw3 | exact gwe rfl | exact gwf rfl | exact gwg rfl | exact gwh rfl | omega) (gg_f (gf_cons rfl (gf_cons rfl (gf_cons rfl (gf_cons rfl gf_nil)))) (ih17 (sL sc17 193 z137.toNatClampNeg (Int64.ofInt 1)) z110 z226 hI225 (fr_sL rfl hFc17) i17 (in_w 0 120 i226 rfl) n17 n17a (m_up mm17 (t_add e226 i26 (in_c 1 rfl) rfl) (in_w 1 1 (in_c 1 rfl) rfl))))
                · skip
                  have i180 := r_eq1 45 45 c180 i84 (in_c 45 rfl) rfl
                  refine g_lload 185 (gd rfl) rfl rfl ?_
                  refine g_lload 187 (gd rfl) rfl rfl ?_
                  refine g_lsub 188 (gd rfl) rfl (fun z187 e187 => ?_)
                  refine g_calls (As := [.long z187]) (r := [.int z137, .ref (A 193)]) 191 (gd rfl) rfl rfl rfl rfl rfl (Nat.le_of_ble_eq_true rfl) (mc := 0) (ms := 0) (Nat.zero_le _) (Nat.zero_le _) (P := fun v u => _) ?_ (fun v u h => h)
                  intro po188 xx188 hp188 hx188
                  refine g_enter2 (k := 405) (N := 300) (by first | exact dq1 hd rfl | exact dq0 hd rfl | exact dq2 hd rfl | exact dq3 hd rfl | omega) rfl (Nat.le_of_ble_eq_true rfl) ?_
                  refine g_lload_n 1 (gd rfl) rfl rfl ?_
                  refine g_ldc2_w 1000000000000 4 (gd rfl) rfl rfl ?_
                  refine g_lcmp 5 (gd rfl) rfl (fun z188x4 e188x4 => ?_)
                  have i188x4 := lc_in e188x4
                  refine g_if_le 8 14 (gd rfl) rfl rfl (fun c188x5 => ?_) (fun c188x5 => ?_)
                  · skip
                    have i188x5 := z_le (-1) 0 c188x5 i188x4 rfl
                    have c188x5a := lc_le e188x4 c188x5
                    have i188x5a := lr_le1 (-9223372036854775808) 1000000000000 c188x5a (l_rng z187) (l_c 1000000000000 rfl) rfl
                    refine g_lload_n 15 (gd rfl) rfl rfl ?_
                    refine g_ldc2_w (-1000000000000) 18 (gd rfl) rfl rfl ?_
                    refine g_lcmp 19 (gd rfl) rfl (fun z188x18 e188x18 => ?_)
                    have i188x18 := lc_in e188x18
                    refine g_if_ge 22 28 (gd rfl) rfl rfl (fun c188x19 => ?_) (fun c188x19 => ?_)
                    · skip
                      have i188x19 := z_ge 0 1 c188x19 i188x18 rfl
                      have c188x19a := lc_ge e188x18 c188x19
                      have i188x19a := lr_le2 (-1000000000000) 1000000000000 c188x19a (l_c (-1000000000000) rfl) i188x5a rfl
                      refine g_lload_n 29 (gd rfl) rfl rfl ?_
                      refine g_lreturn (gd rfl) rfl (hp188 _ _ ?_)
                      show GG _ _ _ _ _ _ _ _ [.long z187, .int z137, .ref (A 193)] _ _ _
                      refine g_goto 225 (gd rfl) rfl ?_
                      have i225 : In z137 0 199 := by have a0 := oa5 h1 i26 j17_2 i180 i128; have a5 := t_add e110 j17_2 (in_c (-1) rfl) rfl; have a6 := oa2 ((in_c (-1) rfl)) i137; have a8 := t_sub e137 i128 (in_c 1 rfl) rfl; have a9 := oa2 ((in_c 1 rfl)) i120; have a11 := t_sub e119 i110 (in_c 1 rfl) rfl; have a12 := in_u i24; have a13 := t_add e24 h1 (in_c 1 rfl) rfl; exact ⟨by omega, by omega⟩
                      refine g_lastore 226 (gd rfl) rfl (n := 200) rfl (in_ix i225 rfl) ?_
                      have hI225 := inv_sL (q := 193) (j := z137.toNatClampNeg) (x := z187) hIc17 rfl (l_rng z187)
                      refine g_iinc 229 (gd rfl) rfl rfl (Nat.le_of_ble_eq_true rfl) (fun z226 e226 => ?_)
                      have i226 := in_add 1 120 e226 i26 (in_c 1 rfl) rfl rfl
                      refine g_goto 17 (gd rfl) rfl ?_
                      have i17 : In z110 0 120 := by exact ⟨by have a0 := oa5 h1 i26 j17_2 i180 i226; have a5 := t_add e226 i26 (in_c 1 rfl) rfl; have a6 := oa2 ((in_c 1 rfl)) i128; have a8 := t_add e110 j17_2 (in_c (-1) rfl) rfl; have a9 := oa2 ((in_c (-1) rfl)) i225; have a11 := t_sub e137 i128 (in_c 1 rfl) rfl; have a12 := in_u i120; have a13 := t_sub e119 i110 (in_c 1 rfl) rfl; have a14 := in_u i24; have a15 := t_add e24 h1 (in_c 1 rfl) rfl; omega, by have a0 := oa5 h1 i26 j17_2 i180 i226; have a5 := t_add e226 i26 (in_c 1 rfl) rfl; have a6 := oa2 ((in_c 1 rfl)) i128; have a8 := t_add e110 j17_2 (in_c (-1) rfl) rfl; have a9 := oa2 ((in_c (-1) rfl)) i225; have a11 := t_sub e137 i128 (in_c 1 rfl) rfl; have a12 := in_u i120; have a13 := t_sub e119 i110 (in_c 1 rfl) rfl; have a14 := in_u i24; have a15 := t_add e24 h1 (in_c 1 rfl) rfl; omega⟩
                      have n17 : (z110).toInt ≤ (z226).toInt := by have a0 := oa5 h1 i26 j17_2 i180 i226; have a5 := t_add e226 i26 (in_c 1 rfl) rfl; have a6 := oa2 ((in_c 1 rfl)) i17; have a8 := t_add e110 j17_2 (in_c (-1) rfl) rfl; have a9 := oa2 ((in_c (-1) rfl)) i225; have a11 := t_sub e137 i128 (in_c 1 rfl) rfl; have a12 := in_u i120; have a13 := t_sub e119 i110 (in_c 1 rfl) rfl; have a14 := in_u i24; have a15 := t_add e24 h1 (in_c 1 rfl) rfl; omega
                      have n17a : WS (sL sc17 193 z137.toNatClampNeg z187) x1 z226 z110 := by first | exact hk2 _ _ (by have a0 := oa5 h1 i26 j17_2 i180 i226; have a5 := t_add e226 i26 (in_c 1 rfl) rfl; have a6 := oa2 ((in_c 1 rfl)) i17; have a8 := t_add e110 j17_2 (in_c (-1) rfl) rfl; have a9 := oa2 ((in_c (-1) rfl)) i225; have a11 := t_sub e137 i128 (in_c 1 rfl) rfl; have a12 := in_u i120; have a13 := t_sub e119 i110 (in_c 1 rfl) rfl; have a14 := in_u i24; have a15 := t_add e24 h1 (in_c 1 rfl) rfl; omega) (by have a0 := oa5 h1 i26 j17_2 i180 i226; have a5 := t_add e226 i26 (in_c 1 rfl) rfl; have a6 := oa2 ((in_c 1 rfl)) i17; have a8 := t_add e110 j17_2 (in_c (-1) rfl) rfl; have a9 := oa2 ((in_c (-1) rfl)) i225; have a11 := t_sub e137 i128 (in_c 1 rfl) rfl; have a12 := in_u i120; have a13 := t_sub e119 i110 (in_c 1 rfl) rfl; have a14 := in_u i24; have a15 := t_add e24 h1 (in_c 1 rfl) rfl; omega) | exact ws_0 rfl (by first | exact (by decide) | exact i15.1) (by unfold wa; first | (rw [if_pos c3]; rfl) | (rw [if_neg c3, e15]; rfl))
                      exact gg_w (by first | exact Nat.le_add_right _ _ | exact gw2 | exact gw3 | exact gwe rfl | exact gwf rfl | exact gwg rfl | exact gwh rfl | omega) (gg_f (gf_cons rfl (gf_cons rfl (gf_cons rfl (gf_cons rfl gf_nil)))) (ih17 (sL sc17 193 z137.toNatClampNeg z187) z110 z226 hI225 (fr_sL rfl hFc17) i17 (in_w 0 120 i226 rfl) n17 n17a (m_up mm17 (t_add e226 i26 (in_c 1 rfl) rfl) (in_w 1 1 (in_c 1 rfl) rfl))))
                    · skip
                      have i188x19 := z_lt (-1) (-1) c188x19 i188x18 rfl
                      have c188x19a := lc_lt e188x18 c188x19
                      have i188x19a := lr_lt1 (-9223372036854775808) (-1000000000001) c188x19a i188x5a (l_c (-1000000000000) rfl) rfl
                      refine g_ldc2_w (-1000000000000) 25 (gd rfl) rfl rfl ?_
                      refine g_goto 29 (gd rfl) rfl ?_
                      refine g_lreturn (gd rfl) rfl (hp188 _ _ ?_)
                      show GG _ _ _ _ _ _ _ _ [.long (Int64.ofInt (-1000000000000)), .int z137, .ref (A 193)] _ _ _
                      refine g_goto 225 (gd rfl) rfl ?_
                      have i225 : In z137 0 199 := by have a0 := oa5 h1 i26 j17_2 i180 i128; have a5 := t_add e110 j17_2 (in_c (-1) rfl) rfl; have a6 := oa2 ((in_c (-1) rfl)) i137; have a8 := t_sub e137 i128 (in_c 1 rfl) rfl; have a9 := oa2 ((in_c 1 rfl)) i120; have a11 := t_sub e119 i110 (in_c 1 rfl) rfl; have a12 := in_u i24; have a13 := t_add e24 h1 (in_c 1 rfl) rfl; exact ⟨by omega, by omega⟩
                      refine g_lastore 226 (gd rfl) rfl (n := 200) rfl (in_ix i225 rfl) ?_
                      have hI225 := inv_sL (q := 193) (j := z137.toNatClampNeg) (x := (Int64.ofInt (-1000000000000))) hIc17 rfl (l_rng (Int64.ofInt (-1000000000000)))
                      refine g_iinc 229 (gd rfl) rfl rfl (Nat.le_of_ble_eq_true rfl) (fun z226 e226 => ?_)
                      have i226 := in_add 1 120 e226 i26 (in_c 1 rfl) rfl rfl
                      refine g_goto 17 (gd rfl) rfl ?_
                      have i17 : In z110 0 120 := by exact ⟨by have a0 := oa5 h1 i26 j17_2 i180 i226; have a5 := t_add e226 i26 (in_c 1 rfl) rfl; have a6 := oa2 ((in_c 1 rfl)) i128; have a8 := t_add e110 j17_2 (in_c (-1) rfl) rfl; have a9 := oa2 ((in_c (-1) rfl)) i225; have a11 := t_sub e137 i128 (in_c 1 rfl) rfl; have a12 := in_u i120; have a13 := t_sub e119 i110 (in_c 1 rfl) rfl; have a14 := in_u i24; have a15 := t_add e24 h1 (in_c 1 rfl) rfl; omega, by have a0 := oa5 h1 i26 j17_2 i180 i226; have a5 := t_add e226 i26 (in_c 1 rfl) rfl; have a6 := oa2 ((in_c 1 rfl)) i128; have a8 := t_add e110 j17_2 (in_c (-1) rfl) rfl; have a9 := oa2 ((in_c (-1) rfl)) i225; have a11 := t_sub e137 i128 (in_c 1 rfl) rfl; have a12 := in_u i120; have a13 := t_sub e119 i110 (in_c 1 rfl) rfl; have a14 := in_u i24; have a15 := t_add e24 h1 (in_c 1 rfl) rfl; omega⟩
                      have n17 : (z110).toInt ≤ (z226).toInt := by have a0 := oa5 h1 i26 j17_2 i180 i226; have a5 := t_add e226 i26 (in_c 1 rfl) rfl; have a6 := oa2 ((in_c 1 rfl)) i17; have a8 := t_add e110 j17_2 (in_c (-1) rfl) rfl; have a9 := oa2 ((in_c (-1) rfl)) i225; have a11 := t_sub e137 i128 (in_c 1 rfl) rfl; have a12 := in_u i120; have a13 := t_sub e119 i110 (in_c 1 rfl) rfl; have a14 := in_u i24; have a15 := t_add e24 h1 (in_c 1 rfl) rfl; omega
                      have n17a : WS (sL sc17 193 z137.toNatClampNeg (Int64.ofInt (-1000000000000))) x1 z226 z110 := by first | exact hk2 _ _ (by have a0 := oa5 h1 i26 j17_2 i180 i226; have a5 := t_add e226 i26 (in_c 1 rfl) rfl; have a6 := oa2 ((in_c 1 rfl)) i17; have a8 := t_add e110 j17_2 (in_c (-1) rfl) rfl; have a9 := oa2 ((in_c (-1) rfl)) i225; have a11 := t_sub e137 i128 (in_c 1 rfl) rfl; have a12 := in_u i120; have a13 := t_sub e119 i110 (in_c 1 rfl) rfl; have a14 := in_u i24; have a15 := t_add e24 h1 (in_c 1 rfl) rfl; omega) (by have a0 := oa5 h1 i26 j17_2 i180 i226; have a5 := t_add e226 i26 (in_c 1 rfl) rfl; have a6 := oa2 ((in_c 1 rfl)) i17; have a8 := t_add e110 j17_2 (in_c (-1) rfl) rfl; have a9 := oa2 ((in_c (-1) rfl)) i225; have a11 := t_sub e137 i128 (in_c 1 rfl) rfl; have a12 := in_u i120; have a13 := t_sub e119 i110 (in_c 1 rfl) rfl; have a14 := in_u i24; have a15 := t_add e24 h1 (in_c 1 rfl) rfl; omega) | exact ws_0 rfl (by first | exact (by decide) | exact i15.1) (by unfold wa; first | (rw [if_pos c3]; rfl) | (rw [if_neg c3, e15]; rfl))
                      exact gg_w (by first | exact Nat.le_add_right _ _ | exact gw2 | exact gw3 | exact gwe rfl | exact gwf rfl | exact gwg rfl | exact gwh rfl | omega) (gg_f (gf_cons rfl (gf_cons rfl (gf_cons rfl (gf_cons rfl gf_nil)))) (ih17 (sL sc17 193 z137.toNatClampNeg (Int64.ofInt (-1000000000000))) z110 z226 hI225 (fr_sL rfl hFc17) i17 (in_w 0 120 i226 rfl) n17 n17a (m_up mm17 (t_add e226 i26 (in_c 1 rfl) rfl) (in_w 1 1 (in_c 1 rfl) rfl))))
                  · skip
                    have i188x5 := z_gt 1 1 c188x5 i188x4 rfl
                    have c188x5a := lc_gt e188x4 c188x5
                    have i188x5a := lr_lt2 1000000000001 9223372036854775807 c188x5a (l_c 1000000000000 rfl) (l_rng z187) rfl
                    refine g_ldc2_w 1000000000000 11 (gd rfl) rfl rfl ?_
                    refine g_goto 29 (gd rfl) rfl ?_
                    refine g_lreturn (gd rfl) rfl (hp188 _ _ ?_)
                    show GG _ _ _ _ _ _ _ _ [.long (Int64.ofInt 1000000000000), .int z137, .ref (A 193)] _ _ _
                    refine g_goto 225 (gd rfl) rfl ?_
                    have i225 : In z137 0 199 := by have a0 := oa5 h1 i26 j17_2 i180 i128; have a5 := t_add e110 j17_2 (in_c (-1) rfl) rfl; have a6 := oa2 ((in_c (-1) rfl)) i137; have a8 := t_sub e137 i128 (in_c 1 rfl) rfl; have a9 := oa2 ((in_c 1 rfl)) i120; have a11 := t_sub e119 i110 (in_c 1 rfl) rfl; have a12 := in_u i24; have a13 := t_add e24 h1 (in_c 1 rfl) rfl; exact ⟨by omega, by omega⟩
                    refine g_lastore 226 (gd rfl) rfl (n := 200) rfl (in_ix i225 rfl) ?_
                    have hI225 := inv_sL (q := 193) (j := z137.toNatClampNeg) (x := (Int64.ofInt 1000000000000)) hIc17 rfl (l_rng (Int64.ofInt 1000000000000))
                    refine g_iinc 229 (gd rfl) rfl rfl (Nat.le_of_ble_eq_true rfl) (fun z226 e226 => ?_)
                    have i226 := in_add 1 120 e226 i26 (in_c 1 rfl) rfl rfl
                    refine g_goto 17 (gd rfl) rfl ?_
                    have i17 : In z110 0 120 := by exact ⟨by have a0 := oa5 h1 i26 j17_2 i180 i226; have a5 := t_add e226 i26 (in_c 1 rfl) rfl; have a6 := oa2 ((in_c 1 rfl)) i128; have a8 := t_add e110 j17_2 (in_c (-1) rfl) rfl; have a9 := oa2 ((in_c (-1) rfl)) i225; have a11 := t_sub e137 i128 (in_c 1 rfl) rfl; have a12 := in_u i120; have a13 := t_sub e119 i110 (in_c 1 rfl) rfl; have a14 := in_u i24; have a15 := t_add e24 h1 (in_c 1 rfl) rfl; omega, by have a0 := oa5 h1 i26 j17_2 i180 i226; have a5 := t_add e226 i26 (in_c 1 rfl) rfl; have a6 := oa2 ((in_c 1 rfl)) i128; have a8 := t_add e110 j17_2 (in_c (-1) rfl) rfl; have a9 := oa2 ((in_c (-1) rfl)) i225; have a11 := t_sub e137 i128 (in_c 1 rfl) rfl; have a12 := in_u i120; have a13 := t_sub e119 i110 (in_c 1 rfl) rfl; have a14 := in_u i24; have a15 := t_add e24 h1 (in_c 1 rfl) rfl; omega⟩
                    have n17 : (z110).toInt ≤ (z226).toInt := by have a0 := oa5 h1 i26 j17_2 i180 i226; have a5 := t_add e226 i26 (in_c 1 rfl) rfl; have a6 := oa2 ((in_c 1 rfl)) i17; have a8 := t_add e110 j17_2 (in_c (-1) rfl) rfl; have a9 := oa2 ((in_c (-1) rfl)) i225; have a11 := t_sub e137 i128 (in_c 1 rfl) rfl; have a12 := in_u i120; have a13 := t_sub e119 i110 (in_c 1 rfl) rfl; have a14 := in_u i24; have a15 := t_add e24 h1 (in_c 1 rfl) rfl; omega
                    have n17a : WS (sL sc17 193 z137.toNatClampNeg (Int64.ofInt 1000000000000)) x1 z226 z110 := by first | exact hk2 _ _ (by have a0 := oa5 h1 i26 j17_2 i180 i226; have a5 := t_add e226 i26 (in_c 1 rfl) rfl; have a6 := oa2 ((in_c 1 rfl)) i17; have a8 := t_add e110 j17_2 (in_c (-1) rfl) rfl; have a9 := oa2 ((in_c (-1) rfl)) i225; have a11 := t_sub e137 i128 (in_c 1 rfl) rfl; have a12 := in_u i120; have a13 := t_sub e119 i110 (in_c 1 rfl) rfl; have a14 := in_u i24; have a15 := t_add e24 h1 (in_c 1 rfl) rfl; omega) (by have a0 := oa5 h1 i26 j17_2 i180 i226; have a5 := t_add e226 i26 (in_c 1 rfl) rfl; have a6 := oa2 ((in_c 1 rfl)) i17; have a8 := t_add e110 j17_2 (in_c (-1) rfl) rfl; have a9 := oa2 ((in_c (-1) rfl)) i225; have a11 := t_sub e137 i128 (in_c 1 rfl) rfl; have a12 := in_u i120; have a13 := t_sub e119 i110 (in_c 1 rfl) rfl; have a14 := in_u i24; have a15 := t_add e24 h1 (in_c 1 rfl) rfl; omega) | exact ws_0 rfl (by first | exact (by decide) | exact i15.1) (by unfold wa; first | (rw [if_pos c3]; rfl) | (rw [if_neg c3, e15]; rfl))
                    exact gg_w (by first | exact Nat.le_add_right _ _ | exact gw2 | exact gw3 | exact gwe rfl | exact gwf rfl | exact gwg rfl | exact gwh rfl | omega) (gg_f (gf_cons rfl (gf_cons rfl (gf_cons rfl (gf_cons rfl gf_nil)))) (ih17 (sL sc17 193 z137.toNatClampNeg (Int64.ofInt 1000000000000)) z110 z226 hI225 (fr_sL rfl hFc17) i17 (in_w 0 120 i226 rfl) n17 n17a (m_up mm17 (t_add e226 i26 (in_c 1 rfl) rfl) (in_w 1 1 (in_c 1 rfl) rfl))))
              · skip
                have i162 := r_eq1 43 43 c162 i84 (in_c 43 rfl) rfl
                refine g_lload 167 (gd rfl) rfl rfl ?_
                refine g_lload 169 (gd rfl) rfl rfl ?_
                refine g_ladd 170 (gd rfl) rfl (fun z169 e169 => ?_)
                refine g_calls (As := [.long z169]) (r := [.int z137, .ref (A 193)]) 173 (gd rfl) rfl rfl rfl rfl rfl (Nat.le_of_ble_eq_true rfl) (mc := 0) (ms := 0) (Nat.zero_le _) (Nat.zero_le _) (P := fun v u => _) ?_ (fun v u h => h)
                intro po170 xx170 hp170 hx170
                refine g_enter2 (k := 405) (N := 300) (by first | exact dq1 hd rfl | exact dq0 hd rfl | exact dq2 hd rfl | exact dq3 hd rfl | omega) rfl (Nat.le_of_ble_eq_true rfl) ?_
                refine g_lload_n 1 (gd rfl) rfl rfl ?_
                refine g_ldc2_w 1000000000000 4 (gd rfl) rfl rfl ?_
                refine g_lcmp 5 (gd rfl) rfl (fun z170x4 e170x4 => ?_)
                have i170x4 := lc_in e170x4
                refine g_if_le 8 14 (gd rfl) rfl rfl (fun c170x5 => ?_) (fun c170x5 => ?_)
                · skip
                  have i170x5 := z_le (-1) 0 c170x5 i170x4 rfl
                  have c170x5a := lc_le e170x4 c170x5
                  have i170x5a := lr_le1 (-9223372036854775808) 1000000000000 c170x5a (l_rng z169) (l_c 1000000000000 rfl) rfl
                  refine g_lload_n 15 (gd rfl) rfl rfl ?_
                  refine g_ldc2_w (-1000000000000) 18 (gd rfl) rfl rfl ?_
                  refine g_lcmp 19 (gd rfl) rfl (fun z170x18 e170x18 => ?_)
                  have i170x18 := lc_in e170x18
                  refine g_if_ge 22 28 (gd rfl) rfl rfl (fun c170x19 => ?_) (fun c170x19 => ?_)
                  · skip
                    have i170x19 := z_ge 0 1 c170x19 i170x18 rfl
                    have c170x19a := lc_ge e170x18 c170x19
                    have i170x19a := lr_le2 (-1000000000000) 1000000000000 c170x19a (l_c (-1000000000000) rfl) i170x5a rfl
                    refine g_lload_n 29 (gd rfl) rfl rfl ?_
                    refine g_lreturn (gd rfl) rfl (hp170 _ _ ?_)
                    show GG _ _ _ _ _ _ _ _ [.long z169, .int z137, .ref (A 193)] _ _ _
                    refine g_goto 225 (gd rfl) rfl ?_
                    have i225 : In z137 0 199 := by have a0 := oa5 h1 i26 j17_2 i162 i128; have a5 := t_add e110 j17_2 (in_c (-1) rfl) rfl; have a6 := oa2 ((in_c (-1) rfl)) i137; have a8 := t_sub e137 i128 (in_c 1 rfl) rfl; have a9 := oa2 ((in_c 1 rfl)) i120; have a11 := t_sub e119 i110 (in_c 1 rfl) rfl; have a12 := in_u i24; have a13 := t_add e24 h1 (in_c 1 rfl) rfl; exact ⟨by omega, by omega⟩
                    refine g_lastore 226 (gd rfl) rfl (n := 200) rfl (in_ix i225 rfl) ?_
                    have hI225 := inv_sL (q := 193) (j := z137.toNatClampNeg) (x := z169) hIc17 rfl (l_rng z169)
                    refine g_iinc 229 (gd rfl) rfl rfl (Nat.le_of_ble_eq_true rfl) (fun z226 e226 => ?_)
                    have i226 := in_add 1 120 e226 i26 (in_c 1 rfl) rfl rfl
                    refine g_goto 17 (gd rfl) rfl ?_
                    have i17 : In z110 0 120 := by exact ⟨by have a0 := oa5 h1 i26 j17_2 i162 i226; have a5 := t_add e226 i26 (in_c 1 rfl) rfl; have a6 := oa2 ((in_c 1 rfl)) i128; have a8 := t_add e110 j17_2 (in_c (-1) rfl) rfl; have a9 := oa2 ((in_c (-1) rfl)) i225; have a11 := t_sub e137 i128 (in_c 1 rfl) rfl; have a12 := in_u i120; have a13 := t_sub e119 i110 (in_c 1 rfl) rfl; have a14 := in_u i24; have a15 := t_add e24 h1 (in_c 1 rfl) rfl; omega, by have a0 := oa5 h1 i26 j17_2 i162 i226; have a5 := t_add e226 i26 (in_c 1 rfl) rfl; have a6 := oa2 ((in_c 1 rfl)) i128; have a8 := t_add e110 j17_2 (in_c (-1) rfl) rfl; have a9 := oa2 ((in_c (-1) rfl)) i225; have a11 := t_sub e137 i128 (in_c 1 rfl) rfl; have a12 := in_u i120; have a13 := t_sub e119 i110 (in_c 1 rfl) rfl; have a14 := in_u i24; have a15 := t_add e24 h1 (in_c 1 rfl) rfl; omega⟩
                    have n17 : (z110).toInt ≤ (z226).toInt := by have a0 := oa5 h1 i26 j17_2 i162 i226; have a5 := t_add e226 i26 (in_c 1 rfl) rfl; have a6 := oa2 ((in_c 1 rfl)) i17; have a8 := t_add e110 j17_2 (in_c (-1) rfl) rfl; have a9 := oa2 ((in_c (-1) rfl)) i225; have a11 := t_sub e137 i128 (in_c 1 rfl) rfl; have a12 := in_u i120; have a13 := t_sub e119 i110 (in_c 1 rfl) rfl; have a14 := in_u i24; have a15 := t_add e24 h1 (in_c 1 rfl) rfl; omega
                    have n17a : WS (sL sc17 193 z137.toNatClampNeg z169) x1 z226 z110 := by first | exact hk2 _ _ (by have a0 := oa5 h1 i26 j17_2 i162 i226; have a5 := t_add e226 i26 (in_c 1 rfl) rfl; have a6 := oa2 ((in_c 1 rfl)) i17; have a8 := t_add e110 j17_2 (in_c (-1) rfl) rfl; have a9 := oa2 ((in_c (-1) rfl)) i225; have a11 := t_sub e137 i128 (in_c 1 rfl) rfl; have a12 := in_u i120; have a13 := t_sub e119 i110 (in_c 1 rfl) rfl; have a14 := in_u i24; have a15 := t_add e24 h1 (in_c 1 rfl) rfl; omega) (by have a0 := oa5 h1 i26 j17_2 i162 i226; have a5 := t_add e226 i26 (in_c 1 rfl) rfl; have a6 := oa2 ((in_c 1 rfl)) i17; have a8 := t_add e110 j17_2 (in_c (-1) rfl) rfl; have a9 := oa2 ((in_c (-1) rfl)) i225; have a11 := t_sub e137 i128 (in_c 1 rfl) rfl; have a12 := in_u i120; have a13 := t_sub e119 i110 (in_c 1 rfl) rfl; have a14 := in_u i24; have a15 := t_add e24 h1 (in_c 1 rfl) rfl; omega) | exact ws_0 rfl (by first | exact (by decide) | exact i15.1) (by unfold wa; first | (rw [if_pos c3]; rfl) | (rw [if_neg c3, e15]; rfl))
                    exact gg_w (by first | exact Nat.le_add_right _ _ | exact gw2 | exact gw3 | exact gwe rfl | exact gwf rfl | exact gwg rfl | exact gwh rfl | omega) (gg_f (gf_cons rfl (gf_cons rfl (gf_cons rfl (gf_cons rfl gf_nil)))) (ih17 (sL sc17 193 z137.toNatClampNeg z169) z110 z226 hI225 (fr_sL rfl hFc17) i17 (in_w 0 120 i226 rfl) n17 n17a (m_up mm17 (t_add e226 i26 (in_c 1 rfl) rfl) (in_w 1 1 (in_c 1 rfl) rfl))))
                  · skip
                    have i170x19 := z_lt (-1) (-1) c170x19 i170x18 rfl
                    have c170x19a := lc_lt e170x18 c170x19
                    have i170x19a := lr_lt1 (-9223372036854775808) (-1000000000001) c170x19a i170x5a (l_c (-1000000000000) rfl) rfl
                    refine g_ldc2_w (-1000000000000) 25 (gd rfl) rfl rfl ?_
                    refine g_goto 29 (gd rfl) rfl ?_
                    refine g_lreturn (gd rfl) rfl (hp170 _ _ ?_)
                    show GG _ _ _ _ _ _ _ _ [.long (Int64.ofInt (-1000000000000)), .int z137, .ref (A 193)] _ _ _
                    refine g_goto 225 (gd rfl) rfl ?_
                    have i225 : In z137 0 199 := by have a0 := oa5 h1 i26 j17_2 i162 i128; have a5 := t_add e110 j17_2 (in_c (-1) rfl) rfl; have a6 := oa2 ((in_c (-1) rfl)) i137; have a8 := t_sub e137 i128 (in_c 1 rfl) rfl; have a9 := oa2 ((in_c 1 rfl)) i120; have a11 := t_sub e119 i110 (in_c 1 rfl) rfl; have a12 := in_u i24; have a13 := t_add e24 h1 (in_c 1 rfl) rfl; exact ⟨by omega, by omega⟩
                    refine g_lastore 226 (gd rfl) rfl (n := 200) rfl (in_ix i225 rfl) ?_
                    have hI225 := inv_sL (q := 193) (j := z137.toNatClampNeg) (x := (Int64.ofInt (-1000000000000))) hIc17 rfl (l_rng (Int64.ofInt (-1000000000000)))
                    refine g_iinc 229 (gd rfl) rfl rfl (Nat.le_of_ble_eq_true rfl) (fun z226 e226 => ?_)
                    have i226 := in_add 1 120 e226 i26 (in_c 1 rfl) rfl rfl
                    refine g_goto 17 (gd rfl) rfl ?_
                    have i17 : In z110 0 120 := by exact ⟨by have a0 := oa5 h1 i26 j17_2 i162 i226; have a5 := t_add e226 i26 (in_c 1 rfl) rfl; have a6 := oa2 ((in_c 1 rfl)) i128; have a8 := t_add e110 j17_2 (in_c (-1) rfl) rfl; have a9 := oa2 ((in_c (-1) rfl)) i225; have a11 := t_sub e137 i128 (in_c 1 rfl) rfl; have a12 := in_u i120; have a13 := t_sub e119 i110 (in_c 1 rfl) rfl; have a14 := in_u i24; have a15 := t_add e24 h1 (in_c 1 rfl) rfl; omega, by have a0 := oa5 h1 i26 j17_2 i162 i226; have a5 := t_add e226 i26 (in_c 1 rfl) rfl; have a6 := oa2 ((in_c 1 rfl)) i128; have a8 := t_add e110 j17_2 (in_c (-1) rfl) rfl; have a9 := oa2 ((in_c (-1) rfl)) i225; have a11 := t_sub e137 i128 (in_c 1 rfl) rfl; have a12 := in_u i120; have a13 := t_sub e119 i110 (in_c 1 rfl) rfl; have a14 := in_u i24; have a15 := t_add e24 h1 (in_c 1 rfl) rfl; omega⟩
                    have n17 : (z110).toInt ≤ (z226).toInt := by have a0 := oa5 h1 i26 j17_2 i162 i226; have a5 := t_add e226 i26 (in_c 1 rfl) rfl; have a6 := oa2 ((in_c 1 rfl)) i17; have a8 := t_add e110 j17_2 (in_c (-1) rfl) rfl; have a9 := oa2 ((in_c (-1) rfl)) i225; have a11 := t_sub e137 i128 (in_c 1 rfl) rfl; have a12 := in_u i120; have a13 := t_sub e119 i110 (in_c 1 rfl) rfl; have a14 := in_u i24; have a15 := t_add e24 h1 (in_c 1 rfl) rfl; omega
                    have n17a : WS (sL sc17 193 z137.toNatClampNeg (Int64.ofInt (-1000000000000))) x1 z226 z110 := by first | exact hk2 _ _ (by have a0 := oa5 h1 i26 j17_2 i162 i226; have a5 := t_add e226 i26 (in_c 1 rfl) rfl; have a6 := oa2 ((in_c 1 rfl)) i17; have a8 := t_add e110 j17_2 (in_c (-1) rfl) rfl; have a9 := oa2 ((in_c (-1) rfl)) i225; have a11 := t_sub e137 i128 (in_c 1 rfl) rfl; have a12 := in_u i120; have a13 := t_sub e119 i110 (in_c 1 rfl) rfl; have a14 := in_u i24; have a15 := t_add e24 h1 (in_c 1 rfl) rfl; omega) (by have a0 := oa5 h1 i26 j17_2 i162 i226; have a5 := t_add e226 i26 (in_c 1 rfl) rfl; have a6 := oa2 ((in_c 1 rfl)) i17; have a8 := t_add e110 j17_2 (in_c (-1) rfl) rfl; have a9 := oa2 ((in_c (-1) rfl)) i225; have a11 := t_sub e137 i128 (in_c 1 rfl) rfl; have a12 := in_u i120; have a13 := t_sub e119 i110 (in_c 1 rfl) rfl; have a14 := in_u i24; have a15 := t_add e24 h1 (in_c 1 rfl) rfl; omega) | exact ws_0 rfl (by first | exact (by decide) | exact i15.1) (by unfold wa; first | (rw [if_pos c3]; rfl) | (rw [if_neg c3, e15]; rfl))
                    exact gg_w (by first | exact Nat.le_add_right _ _ | exact gw2 | exact gw3 | exact gwe rfl | exact gwf rfl | exact gwg rfl | exact gwh rfl | omega) (gg_f (gf_cons rfl (gf_cons rfl (gf_cons rfl (gf_cons rfl gf_nil)))) (ih17 (sL sc17 193 z137.toNatClampNeg (Int64.ofInt (-1000000000000))) z110 z226 hI225 (fr_sL rfl hFc17) i17 (in_w 0 120 i226 rfl) n17 n17a (m_up mm17 (t_add e226 i26 (in_c 1 rfl) rfl) (in_w 1 1 (in_c 1 rfl) rfl))))
                · skip
                  have i170x5 := z_gt 1 1 c170x5 i170x4 rfl
                  have c170x5a := lc_gt e170x4 c170x5
                  have i170x5a := lr_lt2 1000000000001 9223372036854775807 c170x5a (l_c 1000000000000 rfl) (l_rng z169) rfl
                  refine g_ldc2_w 1000000000000 11 (gd rfl) rfl rfl ?_
                  refine g_goto 29 (gd rfl) rfl ?_
                  refine g_lreturn (gd rfl) rfl (hp170 _ _ ?_)
                  show GG _ _ _ _ _ _ _ _ [.long (Int64.ofInt 1000000000000), .int z137, .ref (A 193)] _ _ _
                  refine g_goto 225 (gd rfl) rfl ?_
                  have i225 : In z137 0 199 := by have a0 := oa5 h1 i26 j17_2 i162 i128; have a5 := t_add e110 j17_2 (in_c (-1) rfl) rfl; have a6 := oa2 ((in_c (-1) rfl)) i137; have a8 := t_sub e137 i128 (in_c 1 rfl) rfl; have a9 := oa2 ((in_c 1 rfl)) i120; have a11 := t_sub e119 i110 (in_c 1 rfl) rfl; have a12 := in_u i24; have a13 := t_add e24 h1 (in_c 1 rfl) rfl; exact ⟨by omega, by omega⟩
                  refine g_lastore 226 (gd rfl) rfl (n := 200) rfl (in_ix i225 rfl) ?_
                  have hI225 := inv_sL (q := 193) (j := z137.toNatClampNeg) (x := (Int64.ofInt 1000000000000)) hIc17 rfl (l_rng (Int64.ofInt 1000000000000))
                  refine g_iinc 229 (gd rfl) rfl rfl (Nat.le_of_ble_eq_true rfl) (fun z226 e226 => ?_)
                  have i226 := in_add 1 120 e226 i26 (in_c 1 rfl) rfl rfl
                  refine g_goto 17 (gd rfl) rfl ?_
                  have i17 : In z110 0 120 := by exact ⟨by have a0 := oa5 h1 i26 j17_2 i162 i226; have a5 := t_add e226 i26 (in_c 1 rfl) rfl; have a6 := oa2 ((in_c 1 rfl)) i128; have a8 := t_add e110 j17_2 (in_c (-1) rfl) rfl; have a9 := oa2 ((in_c (-1) rfl)) i225; have a11 := t_sub e137 i128 (in_c 1 rfl) rfl; have a12 := in_u i120; have a13 := t_sub e119 i110 (in_c 1 rfl) rfl; have a14 := in_u i24; have a15 := t_add e24 h1 (in_c 1 rfl) rfl; omega, by have a0 := oa5 h1 i26 j17_2 i162 i226; have a5 := t_add e226 i26 (in_c 1 rfl) rfl; have a6 := oa2 ((in_c 1 rfl)) i128; have a8 := t_add e110 j17_2 (in_c (-1) rfl) rfl; have a9 := oa2 ((in_c (-1) rfl)) i225; have a11 := t_sub e137 i128 (in_c 1 rfl) rfl; have a12 := in_u i120; have a13 := t_sub e119 i110 (in_c 1 rfl) rfl; have a14 := in_u i24; have a15 := t_add e24 h1 (in_c 1 rfl) rfl; omega⟩
                  have n17 : (z110).toInt ≤ (z226).toInt := by have a0 := oa5 h1 i26 j17_2 i162 i226; have a5 := t_add e226 i26 (in_c 1 rfl) rfl; have a6 := oa2 ((in_c 1 rfl)) i17; have a8 := t_add e110 j17_2 (in_c (-1) rfl) rfl; have a9 := oa2 ((in_c (-1) rfl)) i225; have a11 := t_sub e137 i128 (in_c 1 rfl) rfl; have a12 := in_u i120; have a13 := t_sub e119 i110 (in_c 1 rfl) rfl; have a14 := in_u i24; have a15 := t_add e24 h1 (in_c 1 rfl) rfl; omega
                  have n17a : WS (sL sc17 193 z137.toNatClampNeg (Int64.ofInt 1000000000000)) x1 z226 z110 := by first | exact hk2 _ _ (by have a0 := oa5 h1 i26 j17_2 i162 i226; have a5 := t_add e226 i26 (in_c 1 rfl) rfl; have a6 := oa2 ((in_c 1 rfl)) i17; have a8 := t_add e110 j17_2 (in_c (-1) rfl) rfl; have a9 := oa2 ((in_c (-1) rfl)) i225; have a11 := t_sub e137 i128 (in_c 1 rfl) rfl; have a12 := in_u i120; have a13 := t_sub e119 i110 (in_c 1 rfl) rfl; have a14 := in_u i24; have a15 := t_add e24 h1 (in_c 1 rfl) rfl; omega) (by have a0 := oa5 h1 i26 j17_2 i162 i226; have a5 := t_add e226 i26 (in_c 1 rfl) rfl; have a6 := oa2 ((in_c 1 rfl)) i17; have a8 := t_add e110 j17_2 (in_c (-1) rfl) rfl; have a9 := oa2 ((in_c (-1) rfl)) i225; have a11 := t_sub e137 i128 (in_c 1 rfl) rfl; have a12 := in_u i120; have a13 := t_sub e119 i110 (in_c 1 rfl) rfl; have a14 := in_u i24; have a15 := t_add e24 h1 (in_c 1 rfl) rfl; omega) | exact ws_0 rfl (by first | exact (by decide) | exact i15.1) (by unfold wa; first | (rw [if_pos c3]; rfl) | (rw [if_neg c3, e15]; rfl))
                  exact gg_w (by first | exact Nat.le_add_right _ _ | exact gw2 | exact gw3 | exact gwe rfl | exact gwf rfl | exact gwg rfl | exact gwh rfl | omega) (gg_f (gf_cons rfl (gf_cons rfl (gf_cons rfl (gf_cons rfl gf_nil)))) (ih17 (sL sc17 193 z137.toNatClampNeg (Int64.ofInt 1000000000000)) z110 z226 hI225 (fr_sL rfl hFc17) i17 (in_w 0 120 i226 rfl) n17 n17a (m_up mm17 (t_add e226 i26 (in_c 1 rfl) rfl) (in_w 1 1 (in_c 1 rfl) rfl))))
            · skip
              have i142 := r_eq1 42 42 c142 i84 (in_c 42 rfl) rfl
              refine g_lload 147 (gd rfl) rfl rfl ?_
              refine g_lload 149 (gd rfl) rfl rfl ?_
              refine g_calls (As := [.long z120, .long z128]) (r := [.int z137, .ref (A 193)]) 152 (gd rfl) rfl rfl rfl rfl rfl (Nat.le_of_ble_eq_true rfl) (Nat.zero_le _) (Nat.zero_le _) (k_406 (by first | exact dq1 hd rfl | exact dq0 hd rfl | exact dq2 hd rfl | exact dq3 hd rfl | omega) hIc17 ) (fun v u h => ?_)
              obtain ⟨z149, rfl, rfl⟩ := h
              show GG _ _ _ _ _ _ _ _ [.long z149, .int z137, .ref (A 193)] _ _ _
              refine g_calls (As := [.long z149]) (r := [.int z137, .ref (A 193)]) 155 (gd rfl) rfl rfl rfl rfl rfl (Nat.le_of_ble_eq_true rfl) (mc := 0) (ms := 0) (Nat.zero_le _) (Nat.zero_le _) (P := fun v u => _) ?_ (fun v u h => h)
              intro po152 xx152 hp152 hx152
              refine g_enter2 (k := 405) (N := 300) (by first | exact dq1 hd rfl | exact dq0 hd rfl | exact dq2 hd rfl | exact dq3 hd rfl | omega) rfl (Nat.le_of_ble_eq_true rfl) ?_
              refine g_lload_n 1 (gd rfl) rfl rfl ?_
              refine g_ldc2_w 1000000000000 4 (gd rfl) rfl rfl ?_
              refine g_lcmp 5 (gd rfl) rfl (fun z152x4 e152x4 => ?_)
              have i152x4 := lc_in e152x4
              refine g_if_le 8 14 (gd rfl) rfl rfl (fun c152x5 => ?_) (fun c152x5 => ?_)
              · skip
                have i152x5 := z_le (-1) 0 c152x5 i152x4 rfl
                have c152x5a := lc_le e152x4 c152x5
                have i152x5a := lr_le1 (-9223372036854775808) 1000000000000 c152x5a (l_rng z149) (l_c 1000000000000 rfl) rfl
                refine g_lload_n 15 (gd rfl) rfl rfl ?_
                refine g_ldc2_w (-1000000000000) 18 (gd rfl) rfl rfl ?_
                refine g_lcmp 19 (gd rfl) rfl (fun z152x18 e152x18 => ?_)
                have i152x18 := lc_in e152x18
                refine g_if_ge 22 28 (gd rfl) rfl rfl (fun c152x19 => ?_) (fun c152x19 => ?_)
                · skip
                  have i152x19 := z_ge 0 1 c152x19 i152x18 rfl
                  have c152x19a := lc_ge e152x18 c152x19
                  have i152x19a := lr_le2 (-1000000000000) 1000000000000 c152x19a (l_c (-1000000000000) rfl) i152x5a rfl
                  refine g_lload_n 29 (gd rfl) rfl rfl ?_
                  refine g_lreturn (gd rfl) rfl (hp152 _ _ ?_)
                  show GG _ _ _ _ _ _ _ _ [.long z149, .int z137, .ref (A 193)] _ _ _
                  refine g_goto 225 (gd rfl) rfl ?_
                  have i225 : In z137 0 199 := by have a0 := oa5 h1 i26 j17_2 i142 i128; have a5 := t_add e110 j17_2 (in_c (-1) rfl) rfl; have a6 := oa2 ((in_c (-1) rfl)) i137; have a8 := t_sub e137 i128 (in_c 1 rfl) rfl; have a9 := oa2 ((in_c 1 rfl)) i120; have a11 := t_sub e119 i110 (in_c 1 rfl) rfl; have a12 := in_u i24; have a13 := t_add e24 h1 (in_c 1 rfl) rfl; exact ⟨by omega, by omega⟩
                  refine g_lastore 226 (gd rfl) rfl (n := 200) rfl (in_ix i225 rfl) ?_
                  have hI225 := inv_sL (q := 193) (j := z137.toNatClampNeg) (x := z149) hIc17 rfl (l_rng z149)
                  refine g_iinc 229 (gd rfl) rfl rfl (Nat.le_of_ble_eq_true rfl) (fun z226 e226 => ?_)
                  have i226 := in_add 1 120 e226 i26 (in_c 1 rfl) rfl rfl
                  refine g_goto 17 (gd rfl) rfl ?_
                  have i17 : In z110 0 120 := by exact ⟨by have a0 := oa5 h1 i26 j17_2 i142 i226; have a5 := t_add e226 i26 (in_c 1 rfl) rfl; have a6 := oa2 ((in_c 1 rfl)) i128; have a8 := t_add e110 j17_2 (in_c (-1) rfl) rfl; have a9 := oa2 ((in_c (-1) rfl)) i225; have a11 := t_sub e137 i128 (in_c 1 rfl) rfl; have a12 := in_u i120; have a13 := t_sub e119 i110 (in_c 1 rfl) rfl; have a14 := in_u i24; have a15 := t_add e24 h1 (in_c 1 rfl) rfl; omega, by have a0 := oa5 h1 i26 j17_2 i142 i226; have a5 := t_add e226 i26 (in_c 1 rfl) rfl; have a6 := oa2 ((in_c 1 rfl)) i128; have a8 := t_add e110 j17_2 (in_c (-1) rfl) rfl; have a9 := oa2 ((in_c (-1) rfl)) i225; have a11 := t_sub e137 i128 (in_c 1 rfl) rfl; have a12 := in_u i120; have a13 := t_sub e119 i110 (in_c 1 rfl) rfl; have a14 := in_u i24; have a15 := t_add e24 h1 (in_c 1 rfl) rfl; omega⟩
                  have n17 : (z110).toInt ≤ (z226).toInt := by have a0 := oa5 h1 i26 j17_2 i142 i226; have a5 := t_add e226 i26 (in_c 1 rfl) rfl; have a6 := oa2 ((in_c 1 rfl)) i17; have a8 := t_add e110 j17_2 (in_c (-1) rfl) rfl; have a9 := oa2 ((in_c (-1) rfl)) i225; have a11 := t_sub e137 i128 (in_c 1 rfl) rfl; have a12 := in_u i120; have a13 := t_sub e119 i110 (in_c 1 rfl) rfl; have a14 := in_u i24; have a15 := t_add e24 h1 (in_c 1 rfl) rfl; omega
                  have n17a : WS (sL sc17 193 z137.toNatClampNeg z149) x1 z226 z110 := by first | exact hk2 _ _ (by have a0 := oa5 h1 i26 j17_2 i142 i226; have a5 := t_add e226 i26 (in_c 1 rfl) rfl; have a6 := oa2 ((in_c 1 rfl)) i17; have a8 := t_add e110 j17_2 (in_c (-1) rfl) rfl; have a9 := oa2 ((in_c (-1) rfl)) i225; have a11 := t_sub e137 i128 (in_c 1 rfl) rfl; have a12 := in_u i120; have a13 := t_sub e119 i110 (in_c 1 rfl) rfl; have a14 := in_u i24; have a15 := t_add e24 h1 (in_c 1 rfl) rfl; omega) (by have a0 := oa5 h1 i26 j17_2 i142 i226; have a5 := t_add e226 i26 (in_c 1 rfl) rfl; have a6 := oa2 ((in_c 1 rfl)) i17; have a8 := t_add e110 j17_2 (in_c (-1) rfl) rfl; have a9 := oa2 ((in_c (-1) rfl)) i225; have a11 := t_sub e137 i128 (in_c 1 rfl) rfl; have a12 := in_u i120; have a13 := t_sub e119 i110 (in_c 1 rfl) rfl; have a14 := in_u i24; have a15 := t_add e24 h1 (in_c 1 rfl) rfl; omega) | exact ws_0 rfl (by first | exact (by decide) | exact i15.1) (by unfold wa; first | (rw [if_pos c3]; rfl) | (rw [if_neg c3, e15]; rfl))
                  exact gg_w (by first | exact Nat.le_add_right _ _ | exact gw2 | exact gw3 | exact gwe rfl | exact gwf rfl | exact gwg rfl | exact gwh rfl | omega) (gg_f (gf_cons rfl (gf_cons rfl (gf_cons rfl (gf_cons rfl gf_nil)))) (ih17 (sL sc17 193 z137.toNatClampNeg z149) z110 z226 hI225 (fr_sL rfl hFc17) i17 (in_w 0 120 i226 rfl) n17 n17a (m_up mm17 (t_add e226 i26 (in_c 1 rfl) rfl) (in_w 1 1 (in_c 1 rfl) rfl))))
                · skip
                  have i152x19 := z_lt (-1) (-1) c152x19 i152x18 rfl
                  have c152x19a := lc_lt e152x18 c152x19
                  have i152x19a := lr_lt1 (-9223372036854775808) (-1000000000001) c152x19a i152x5a (l_c (-1000000000000) rfl) rfl
                  refine g_ldc2_w (-1000000000000) 25 (gd rfl) rfl rfl ?_
                  refine g_goto 29 (gd rfl) rfl ?_
                  refine g_lreturn (gd rfl) rfl (hp152 _ _ ?_)
                  show GG _ _ _ _ _ _ _ _ [.long (Int64.ofInt (-1000000000000)), .int z137, .ref (A 193)] _ _ _
                  refine g_goto 225 (gd rfl) rfl ?_
                  have i225 : In z137 0 199 := by have a0 := oa5 h1 i26 j17_2 i142 i128; have a5 := t_add e110 j17_2 (in_c (-1) rfl) rfl; have a6 := oa2 ((in_c (-1) rfl)) i137; have a8 := t_sub e137 i128 (in_c 1 rfl) rfl; have a9 := oa2 ((in_c 1 rfl)) i120; have a11 := t_sub e119 i110 (in_c 1 rfl) rfl; have a12 := in_u i24; have a13 := t_add e24 h1 (in_c 1 rfl) rfl; exact ⟨by omega, by omega⟩
                  refine g_lastore 226 (gd rfl) rfl (n := 200) rfl (in_ix i225 rfl) ?_
                  have hI225 := inv_sL (q := 193) (j := z137.toNatClampNeg) (x := (Int64.ofInt (-1000000000000))) hIc17 rfl (l_rng (Int64.ofInt (-1000000000000)))
                  refine g_iinc 229 (gd rfl) rfl rfl (Nat.le_of_ble_eq_true rfl) (fun z226 e226 => ?_)
                  have i226 := in_add 1 120 e226 i26 (in_c 1 rfl) rfl rfl
                  refine g_goto 17 (gd rfl) rfl ?_
                  have i17 : In z110 0 120 := by exact ⟨by have a0 := oa5 h1 i26 j17_2 i142 i226; have a5 := t_add e226 i26 (in_c 1 rfl) rfl; have a6 := oa2 ((in_c 1 rfl)) i128; have a8 := t_add e110 j17_2 (in_c (-1) rfl) rfl; have a9 := oa2 ((in_c (-1) rfl)) i225; have a11 := t_sub e137 i128 (in_c 1 rfl) rfl; have a12 := in_u i120; have a13 := t_sub e119 i110 (in_c 1 rfl) rfl; have a14 := in_u i24; have a15 := t_add e24 h1 (in_c 1 rfl) rfl; omega, by have a0 := oa5 h1 i26 j17_2 i142 i226; have a5 := t_add e226 i26 (in_c 1 rfl) rfl; have a6 := oa2 ((in_c 1 rfl)) i128; have a8 := t_add e110 j17_2 (in_c (-1) rfl) rfl; have a9 := oa2 ((in_c (-1) rfl)) i225; have a11 := t_sub e137 i128 (in_c 1 rfl) rfl; have a12 := in_u i120; have a13 := t_sub e119 i110 (in_c 1 rfl) rfl; have a14 := in_u i24; have a15 := t_add e24 h1 (in_c 1 rfl) rfl; omega⟩
                  have n17 : (z110).toInt ≤ (z226).toInt := by have a0 := oa5 h1 i26 j17_2 i142 i226; have a5 := t_add e226 i26 (in_c 1 rfl) rfl; have a6 := oa2 ((in_c 1 rfl)) i17; have a8 := t_add e110 j17_2 (in_c (-1) rfl) rfl; have a9 := oa2 ((in_c (-1) rfl)) i225; have a11 := t_sub e137 i128 (in_c 1 rfl) rfl; have a12 := in_u i120; have a13 := t_sub e119 i110 (in_c 1 rfl) rfl; have a14 := in_u i24; have a15 := t_add e24 h1 (in_c 1 rfl) rfl; omega
                  have n17a : WS (sL sc17 193 z137.toNatClampNeg (Int64.ofInt (-1000000000000))) x1 z226 z110 := by first | exact hk2 _ _ (by have a0 := oa5 h1 i26 j17_2 i142 i226; have a5 := t_add e226 i26 (in_c 1 rfl) rfl; have a6 := oa2 ((in_c 1 rfl)) i17; have a8 := t_add e110 j17_2 (in_c (-1) rfl) rfl; have a9 := oa2 ((in_c (-1) rfl)) i225; have a11 := t_sub e137 i128 (in_c 1 rfl) rfl; have a12 := in_u i120; have a13 := t_sub e119 i110 (in_c 1 rfl) rfl; have a14 := in_u i24; have a15 := t_add e24 h1 (in_c 1 rfl) rfl; omega) (by have a0 := oa5 h1 i26 j17_2 i142 i226; have a5 := t_add e226 i26 (in_c 1 rfl) rfl; have a6 := oa2 ((in_c 1 rfl)) i17; have a8 := t_add e110 j17_2 (in_c (-1) rfl) rfl; have a9 := oa2 ((in_c (-1) rfl)) i225; have a11 := t_sub e137 i128 (in_c 1 rfl) rfl; have a12 := in_u i120; have a13 := t_sub e119 i110 (in_c 1 rfl) rfl; have a14 := in_u i24; have a15 := t_add e24 h1 (in_c 1 rfl) rfl; omega) | exact ws_0 rfl (by first | exact (by decide) | exact i15.1) (by unfold wa; first | (rw [if_pos c3]; rfl) | (rw [if_neg c3, e15]; rfl))
                  exact gg_w (by first | exact Nat.le_add_right _ _ | exact gw2 | exact gw3 | exact gwe rfl | exact gwf rfl | exact gwg rfl | exact gwh rfl | omega) (gg_f (gf_cons rfl (gf_cons rfl (gf_cons rfl (gf_cons rfl gf_nil)))) (ih17 (sL sc17 193 z137.toNatClampNeg (Int64.ofInt (-1000000000000))) z110 z226 hI225 (fr_sL rfl hFc17) i17 (in_w 0 120 i226 rfl) n17 n17a (m_up mm17 (t_add e226 i26 (in_c 1 rfl) rfl) (in_w 1 1 (in_c 1 rfl) rfl))))
              · skip
                have i152x5 := z_gt 1 1 c152x5 i152x4 rfl
                have c152x5a := lc_gt e152x4 c152x5
                have i152x5a := lr_lt2 1000000000001 9223372036854775807 c152x5a (l_c 1000000000000 rfl) (l_rng z149) rfl
                refine g_ldc2_w 1000000000000 11 (gd rfl) rfl rfl ?_
                refine g_goto 29 (gd rfl) rfl ?_
                refine g_lreturn (gd rfl) rfl (hp152 _ _ ?_)
                show GG _ _ _ _ _ _ _ _ [.long (Int64.ofInt 1000000000000), .int z137, .ref (A 193)] _ _ _
                refine g_goto 225 (gd rfl) rfl ?_
                have i225 : In z137 0 199 := by have a0 := oa5 h1 i26 j17_2 i142 i128; have a5 := t_add e110 j17_2 (in_c (-1) rfl) rfl; have a6 := oa2 ((in_c (-1) rfl)) i137; have a8 := t_sub e137 i128 (in_c 1 rfl) rfl; have a9 := oa2 ((in_c 1 rfl)) i120; have a11 := t_sub e119 i110 (in_c 1 rfl) rfl; have a12 := in_u i24; have a13 := t_add e24 h1 (in_c 1 rfl) rfl; exact ⟨by omega, by omega⟩
                refine g_lastore 226 (gd rfl) rfl (n := 200) rfl (in_ix i225 rfl) ?_
                have hI225 := inv_sL (q := 193) (j := z137.toNatClampNeg) (x := (Int64.ofInt 1000000000000)) hIc17 rfl (l_rng (Int64.ofInt 1000000000000))
                refine g_iinc 229 (gd rfl) rfl rfl (Nat.le_of_ble_eq_true rfl) (fun z226 e226 => ?_)
                have i226 := in_add 1 120 e226 i26 (in_c 1 rfl) rfl rfl
                refine g_goto 17 (gd rfl) rfl ?_
                have i17 : In z110 0 120 := by exact ⟨by have a0 := oa5 h1 i26 j17_2 i142 i226; have a5 := t_add e226 i26 (in_c 1 rfl) rfl; have a6 := oa2 ((in_c 1 rfl)) i128; have a8 := t_add e110 j17_2 (in_c (-1) rfl) rfl; have a9 := oa2 ((in_c (-1) rfl)) i225; have a11 := t_sub e137 i128 (in_c 1 rfl) rfl; have a12 := in_u i120; have a13 := t_sub e119 i110 (in_c 1 rfl) rfl; have a14 := in_u i24; have a15 := t_add e24 h1 (in_c 1 rfl) rfl; omega, by have a0 := oa5 h1 i26 j17_2 i142 i226; have a5 := t_add e226 i26 (in_c 1 rfl) rfl; have a6 := oa2 ((in_c 1 rfl)) i128; have a8 := t_add e110 j17_2 (in_c (-1) rfl) rfl; have a9 := oa2 ((in_c (-1) rfl)) i225; have a11 := t_sub e137 i128 (in_c 1 rfl) rfl; have a12 := in_u i120; have a13 := t_sub e119 i110 (in_c 1 rfl) rfl; have a14 := in_u i24; have a15 := t_add e24 h1 (in_c 1 rfl) rfl; omega⟩
                have n17 : (z110).toInt ≤ (z226).toInt := by have a0 := oa5 h1 i26 j17_2 i142 i226; have a5 := t_add e226 i26 (in_c 1 rfl) rfl; have a6 := oa2 ((in_c 1 rfl)) i17; have a8 := t_add e110 j17_2 (in_c (-1) rfl) rfl; have a9 := oa2 ((in_c (-1) rfl)) i225; have a11 := t_sub e137 i128 (in_c 1 rfl) rfl; have a12 := in_u i120; have a13 := t_sub e119 i110 (in_c 1 rfl) rfl; have a14 := in_u i24; have a15 := t_add e24 h1 (in_c 1 rfl) rfl; omega
                have n17a : WS (sL sc17 193 z137.toNatClampNeg (Int64.ofInt 1000000000000)) x1 z226 z110 := by first | exact hk2 _ _ (by have a0 := oa5 h1 i26 j17_2 i142 i226; have a5 := t_add e226 i26 (in_c 1 rfl) rfl; have a6 := oa2 ((in_c 1 rfl)) i17; have a8 := t_add e110 j17_2 (in_c (-1) rfl) rfl; have a9 := oa2 ((in_c (-1) rfl)) i225; have a11 := t_sub e137 i128 (in_c 1 rfl) rfl; have a12 := in_u i120; have a13 := t_sub e119 i110 (in_c 1 rfl) rfl; have a14 := in_u i24; have a15 := t_add e24 h1 (in_c 1 rfl) rfl; omega) (by have a0 := oa5 h1 i26 j17_2 i142 i226; have a5 := t_add e226 i26 (in_c 1 rfl) rfl; have a6 := oa2 ((in_c 1 rfl)) i17; have a8 := t_add e110 j17_2 (in_c (-1) rfl) rfl; have a9 := oa2 ((in_c (-1) rfl)) i225; have a11 := t_sub e137 i128 (in_c 1 rfl) rfl; have a12 := in_u i120; have a13 := t_sub e119 i110 (in_c 1 rfl) rfl; have a14 := in_u i24; have a15 := t_add e24 h1 (in_c 1 rfl) rfl; omega) | exact ws_0 rfl (by first | exact (by decide) | exact i15.1) (by unfold wa; first | (rw [if_pos c3]; rfl) | (rw [if_neg c3, e15]; rfl))
                exact gg_w (by first | exact Nat.le_add_right _ _ | exact gw2 | exact gw3 | exact gwe rfl | exact gwf rfl | exact gwg rfl | exact gwh rfl | omega) (gg_f (gf_cons rfl (gf_cons rfl (gf_cons rfl (gf_cons rfl gf_nil)))) (ih17 (sL sc17 193 z137.toNatClampNeg (Int64.ofInt 1000000000000)) z110 z226 hI225 (fr_sL rfl hFc17) i17 (in_w 0 120 i226 rfl) n17 n17a (m_up mm17 (t_add e226 i26 (in_c 1 rfl) rfl) (in_w 1 1 (in_c 1 rfl) rfl))))
          · skip
            have i84 := r_eq1 2 2 c84 i40 (in_c 2 rfl) rfl
            have hk3 := hs_2 hk1 c84
            refine g_aload_n 88 (gd rfl) rfl rfl ?_
            refine g_getA (q2 := 193) 91 (gd rfl) rfl rfl rfl rfl ?_
            refine g_iload_n 92 (gd rfl) rfl rfl ?_
            refine g_iconst 1 93 (gd rfl) rfl rfl ?_
            refine g_isub 94 (gd rfl) rfl (fun z93 e93 => ?_)
            have i93 := in_sub (-1) 119 e93 j17_2 (in_c 1 rfl) rfl rfl
            refine g_aload_n 95 (gd rfl) rfl rfl ?_
            refine g_getA (q2 := 193) 98 (gd rfl) rfl rfl rfl rfl ?_
            refine g_iload_n 99 (gd rfl) rfl rfl ?_
            refine g_iconst 1 100 (gd rfl) rfl rfl ?_
            refine g_isub 101 (gd rfl) rfl (fun z100 e100 => ?_)
            have i100 := in_sub (-1) 119 e100 j17_2 (in_c 1 rfl) rfl rfl
            have i101 : In z100 0 199 := by have a0 := oa5 h1 i26 j17_2 i84 i100; have a5 := t_sub e100 j17_2 (in_c 1 rfl) rfl; have a6 := oa2 ((in_c 1 rfl)) i93; have a8 := t_sub e93 j17_2 (in_c 1 rfl) rfl; have a9 := in_u i24; have a10 := t_add e24 h1 (in_c 1 rfl) rfl; exact ⟨by omega, by omega⟩
            refine g_laload 102 (gd rfl) rfl (n := 200) rfl (in_ix i101 rfl) (fun z101 e101 => ?_)
            refine g_lneg 103 (gd rfl) rfl (fun z102 e102 => ?_)
            refine g_calls (As := [.long z102]) (r := [.int z93, .ref (A 193)]) 106 (gd rfl) rfl rfl rfl rfl rfl (Nat.le_of_ble_eq_true rfl) (mc := 0) (ms := 0) (Nat.zero_le _) (Nat.zero_le _) (P := fun v u => _) ?_ (fun v u h => h)
            intro po103 xx103 hp103 hx103
            refine g_enter2 (k := 405) (N := 300) (by first | exact dq1 hd rfl | exact dq0 hd rfl | exact dq2 hd rfl | exact dq3 hd rfl | omega) rfl (Nat.le_of_ble_eq_true rfl) ?_
            refine g_lload_n 1 (gd rfl) rfl rfl ?_
            refine g_ldc2_w 1000000000000 4 (gd rfl) rfl rfl ?_
            refine g_lcmp 5 (gd rfl) rfl (fun z103x4 e103x4 => ?_)
            have i103x4 := lc_in e103x4
            refine g_if_le 8 14 (gd rfl) rfl rfl (fun c103x5 => ?_) (fun c103x5 => ?_)
            · skip
              have i103x5 := z_le (-1) 0 c103x5 i103x4 rfl
              have c103x5a := lc_le e103x4 c103x5
              have i103x5a := lr_le1 (-9223372036854775808) 1000000000000 c103x5a (l_rng z102) (l_c 1000000000000 rfl) rfl
              refine g_lload_n 15 (gd rfl) rfl rfl ?_
              refine g_ldc2_w (-1000000000000) 18 (gd rfl) rfl rfl ?_
              refine g_lcmp 19 (gd rfl) rfl (fun z103x18 e103x18 => ?_)
              have i103x18 := lc_in e103x18
              refine g_if_ge 22 28 (gd rfl) rfl rfl (fun c103x19 => ?_) (fun c103x19 => ?_)
              · skip
                have i103x19 := z_ge 0 1 c103x19 i103x18 rfl
                have c103x19a := lc_ge e103x18 c103x19
                have i103x19a := lr_le2 (-1000000000000) 1000000000000 c103x19a (l_c (-1000000000000) rfl) i103x5a rfl
                refine g_lload_n 29 (gd rfl) rfl rfl ?_
                refine g_lreturn (gd rfl) rfl (hp103 _ _ ?_)
                show GG _ _ _ _ _ _ _ _ [.long z102, .int z93, .ref (A 193)] _ _ _
                have i106 : In z93 0 199 := by have a0 := oa5 h1 i26 j17_2 i84 i101; have a5 := t_sub e100 j17_2 (in_c 1 rfl) rfl; have a6 := oa2 ((in_c 1 rfl)) i93; have a8 := t_sub e93 j17_2 (in_c 1 rfl) rfl; have a9 := in_u i24; have a10 := t_add e24 h1 (in_c 1 rfl) rfl; exact ⟨by omega, by omega⟩
                refine g_lastore 107 (gd rfl) rfl (n := 200) rfl (in_ix i106 rfl) ?_
                have hI106 := inv_sL (q := 193) (j := z93.toNatClampNeg) (x := z102) hIc17 rfl (l_rng z102)
                refine g_goto 226 (gd rfl) rfl ?_
                refine g_iinc 229 (gd rfl) rfl rfl (Nat.le_of_ble_eq_true rfl) (fun z226 e226 => ?_)
                have i226 := in_add 1 120 e226 i26 (in_c 1 rfl) rfl rfl
                refine g_goto 17 (gd rfl) rfl ?_
                have n17 : (y17_2).toInt ≤ (z226).toInt := by have a0 := oa5 h1 i26 j17_2 i84 i226; have a5 := t_add e226 i26 (in_c 1 rfl) rfl; have a6 := oa2 ((in_c 1 rfl)) i101; have a8 := t_sub e100 j17_2 (in_c 1 rfl) rfl; have a9 := in_u i106; have a10 := t_sub e93 j17_2 (in_c 1 rfl) rfl; have a11 := in_u i24; have a12 := t_add e24 h1 (in_c 1 rfl) rfl; omega
                have n17a : WS (sL sc17 193 z93.toNatClampNeg z102) x1 z226 y17_2 := by first | exact hk2 _ _ (by have a0 := oa5 h1 i26 j17_2 i84 i226; have a5 := t_add e226 i26 (in_c 1 rfl) rfl; have a6 := oa2 ((in_c 1 rfl)) i101; have a8 := t_sub e100 j17_2 (in_c 1 rfl) rfl; have a9 := in_u i106; have a10 := t_sub e93 j17_2 (in_c 1 rfl) rfl; have a11 := in_u i24; have a12 := t_add e24 h1 (in_c 1 rfl) rfl; omega) (by have a0 := oa5 h1 i26 j17_2 i84 i226; have a5 := t_add e226 i26 (in_c 1 rfl) rfl; have a6 := oa2 ((in_c 1 rfl)) i101; have a8 := t_sub e100 j17_2 (in_c 1 rfl) rfl; have a9 := in_u i106; have a10 := t_sub e93 j17_2 (in_c 1 rfl) rfl; have a11 := in_u i24; have a12 := t_add e24 h1 (in_c 1 rfl) rfl; omega) | exact ws_0 rfl (by first | exact (by decide) | exact i15.1) (by unfold wa; first | (rw [if_pos c3]; rfl) | (rw [if_neg c3, e15]; rfl))
                exact gg_w (by first | exact Nat.le_add_right _ _ | exact gw2 | exact gw3 | exact gwe rfl | exact gwf rfl | exact gwg rfl | exact gwh rfl | omega) (gg_f (gf_cons rfl (gf_cons rfl (gf_cons rfl (gf_cons rfl gf_nil)))) (ih17 (sL sc17 193 z93.toNatClampNeg z102) y17_2 z226 hI106 (fr_sL rfl hFc17) (in_w 0 120 j17_2 rfl) (in_w 0 120 i226 rfl) n17 n17a (m_up mm17 (t_add e226 i26 (in_c 1 rfl) rfl) (in_w 1 1 (in_c 1 rfl) rfl))))
              · skip
                have i103x19 := z_lt (-1) (-1) c103x19 i103x18 rfl
                have c103x19a := lc_lt e103x18 c103x19
                have i103x19a := lr_lt1 (-9223372036854775808) (-1000000000001) c103x19a i103x5a (l_c (-1000000000000) rfl) rfl
                refine g_ldc2_w (-1000000000000) 25 (gd rfl) rfl rfl ?_
                refine g_goto 29 (gd rfl) rfl ?_
                refine g_lreturn (gd rfl) rfl (hp103 _ _ ?_)
                show GG _ _ _ _ _ _ _ _ [.long (Int64.ofInt (-1000000000000)), .int z93, .ref (A 193)] _ _ _
                have i106 : In z93 0 199 := by have a0 := oa5 h1 i26 j17_2 i84 i101; have a5 := t_sub e100 j17_2 (in_c 1 rfl) rfl; have a6 := oa2 ((in_c 1 rfl)) i93; have a8 := t_sub e93 j17_2 (in_c 1 rfl) rfl; have a9 := in_u i24; have a10 := t_add e24 h1 (in_c 1 rfl) rfl; exact ⟨by omega, by omega⟩
                refine g_lastore 107 (gd rfl) rfl (n := 200) rfl (in_ix i106 rfl) ?_
                have hI106 := inv_sL (q := 193) (j := z93.toNatClampNeg) (x := (Int64.ofInt (-1000000000000))) hIc17 rfl (l_rng (Int64.ofInt (-1000000000000)))
                refine g_goto 226 (gd rfl) rfl ?_
                refine g_iinc 229 (gd rfl) rfl rfl (Nat.le_of_ble_eq_true rfl) (fun z226 e226 => ?_)
                have i226 := in_add 1 120 e226 i26 (in_c 1 rfl) rfl rfl
                refine g_goto 17 (gd rfl) rfl ?_
                have n17 : (y17_2).toInt ≤ (z226).toInt := by have a0 := oa5 h1 i26 j17_2 i84 i226; have a5 := t_add e226 i26 (in_c 1 rfl) rfl; have a6 := oa2 ((in_c 1 rfl)) i101; have a8 := t_sub e100 j17_2 (in_c 1 rfl) rfl; have a9 := in_u i106; have a10 := t_sub e93 j17_2 (in_c 1 rfl) rfl; have a11 := in_u i24; have a12 := t_add e24 h1 (in_c 1 rfl) rfl; omega
                have n17a : WS (sL sc17 193 z93.toNatClampNeg (Int64.ofInt (-1000000000000))) x1 z226 y17_2 := by first | exact hk2 _ _ (by have a0 := oa5 h1 i26 j17_2 i84 i226; have a5 := t_add e226 i26 (in_c 1 rfl) rfl; have a6 := oa2 ((in_c 1 rfl)) i101; have a8 := t_sub e100 j17_2 (in_c 1 rfl) rfl; have a9 := in_u i106; have a10 := t_sub e93 j17_2 (in_c 1 rfl) rfl; have a11 := in_u i24; have a12 := t_add e24 h1 (in_c 1 rfl) rfl; omega) (by have a0 := oa5 h1 i26 j17_2 i84 i226; have a5 := t_add e226 i26 (in_c 1 rfl) rfl; have a6 := oa2 ((in_c 1 rfl)) i101; have a8 := t_sub e100 j17_2 (in_c 1 rfl) rfl; have a9 := in_u i106; have a10 := t_sub e93 j17_2 (in_c 1 rfl) rfl; have a11 := in_u i24; have a12 := t_add e24 h1 (in_c 1 rfl) rfl; omega) | exact ws_0 rfl (by first | exact (by decide) | exact i15.1) (by unfold wa; first | (rw [if_pos c3]; rfl) | (rw [if_neg c3, e15]; rfl))
                exact gg_w (by first | exact Nat.le_add_right _ _ | exact gw2 | exact gw3 | exact gwe rfl | exact gwf rfl | exact gwg rfl | exact gwh rfl | omega) (gg_f (gf_cons rfl (gf_cons rfl (gf_cons rfl (gf_cons rfl gf_nil)))) (ih17 (sL sc17 193 z93.toNatClampNeg (Int64.ofInt (-1000000000000))) y17_2 z226 hI106 (fr_sL rfl hFc17) (in_w 0 120 j17_2 rfl) (in_w 0 120 i226 rfl) n17 n17a (m_up mm17 (t_add e226 i26 (in_c 1 rfl) rfl) (in_w 1 1 (in_c 1 rfl) rfl))))
            · skip
              have i103x5 := z_gt 1 1 c103x5 i103x4 rfl
              have c103x5a := lc_gt e103x4 c103x5
              have i103x5a := lr_lt2 1000000000001 9223372036854775807 c103x5a (l_c 1000000000000 rfl) (l_rng z102) rfl
              refine g_ldc2_w 1000000000000 11 (gd rfl) rfl rfl ?_
              refine g_goto 29 (gd rfl) rfl ?_
              refine g_lreturn (gd rfl) rfl (hp103 _ _ ?_)
              show GG _ _ _ _ _ _ _ _ [.long (Int64.ofInt 1000000000000), .int z93, .ref (A 193)] _ _ _
              have i106 : In z93 0 199 := by have a0 := oa5 h1 i26 j17_2 i84 i101; have a5 := t_sub e100 j17_2 (in_c 1 rfl) rfl; have a6 := oa2 ((in_c 1 rfl)) i93; have a8 := t_sub e93 j17_2 (in_c 1 rfl) rfl; have a9 := in_u i24; have a10 := t_add e24 h1 (in_c 1 rfl) rfl; exact ⟨by omega, by omega⟩
              refine g_lastore 107 (gd rfl) rfl (n := 200) rfl (in_ix i106 rfl) ?_
              have hI106 := inv_sL (q := 193) (j := z93.toNatClampNeg) (x := (Int64.ofInt 1000000000000)) hIc17 rfl (l_rng (Int64.ofInt 1000000000000))
              refine g_goto 226 (gd rfl) rfl ?_
              refine g_iinc 229 (gd rfl) rfl rfl (Nat.le_of_ble_eq_true rfl) (fun z226 e226 => ?_)
              have i226 := in_add 1 120 e226 i26 (in_c 1 rfl) rfl rfl
              refine g_goto 17 (gd rfl) rfl ?_
              have n17 : (y17_2).toInt ≤ (z226).toInt := by have a0 := oa5 h1 i26 j17_2 i84 i226; have a5 := t_add e226 i26 (in_c 1 rfl) rfl; have a6 := oa2 ((in_c 1 rfl)) i101; have a8 := t_sub e100 j17_2 (in_c 1 rfl) rfl; have a9 := in_u i106; have a10 := t_sub e93 j17_2 (in_c 1 rfl) rfl; have a11 := in_u i24; have a12 := t_add e24 h1 (in_c 1 rfl) rfl; omega
              have n17a : WS (sL sc17 193 z93.toNatClampNeg (Int64.ofInt 1000000000000)) x1 z226 y17_2 := by first | exact hk2 _ _ (by have a0 := oa5 h1 i26 j17_2 i84 i226; have a5 := t_add e226 i26 (in_c 1 rfl) rfl; have a6 := oa2 ((in_c 1 rfl)) i101; have a8 := t_sub e100 j17_2 (in_c 1 rfl) rfl; have a9 := in_u i106; have a10 := t_sub e93 j17_2 (in_c 1 rfl) rfl; have a11 := in_u i24; have a12 := t_add e24 h1 (in_c 1 rfl) rfl; omega) (by have a0 := oa5 h1 i26 j17_2 i84 i226; have a5 := t_add e226 i26 (in_c 1 rfl) rfl; have a6 := oa2 ((in_c 1 rfl)) i101; have a8 := t_sub e100 j17_2 (in_c 1 rfl) rfl; have a9 := in_u i106; have a10 := t_sub e93 j17_2 (in_c 1 rfl) rfl; have a11 := in_u i24; have a12 := t_add e24 h1 (in_c 1 rfl) rfl; omega) | exact ws_0 rfl (by first | exact (by decide) | exact i15.1) (by unfold wa; first | (rw [if_pos c3]; rfl) | (rw [if_neg c3, e15]; rfl))
              exact gg_w (by first | exact Nat.le_add_right _ _ | exact gw2 | exact gw3 | exact gwe rfl | exact gwf rfl | exact gwg rfl | exact gwh rfl | omega) (gg_f (gf_cons rfl (gf_cons rfl (gf_cons rfl (gf_cons rfl gf_nil)))) (ih17 (sL sc17 193 z93.toNatClampNeg (Int64.ofInt 1000000000000)) y17_2 z226 hI106 (fr_sL rfl hFc17) (in_w 0 120 j17_2 rfl) (in_w 0 120 i226 rfl) n17 n17a (m_up mm17 (t_add e226 i26 (in_c 1 rfl) rfl) (in_w 1 1 (in_c 1 rfl) rfl))))
        · skip
          have i40 := r_lt1 (-2147483648) 1 c40 (i_rng z34) (in_c 2 rfl) rfl
          have hk3 := (hs_0 hk1 c40)
          refine g_aload_n 44 (gd rfl) rfl rfl ?_
          refine g_getA (q2 := 193) 47 (gd rfl) rfl rfl rfl rfl ?_
          refine g_iload_n 48 (gd rfl) rfl rfl ?_
          refine g_iload 50 (gd rfl) rfl rfl ?_
          refine g_if_ne 53 63 (gd rfl) rfl rfl (fun c50 => ?_) (fun c50 => ?_)
          · skip
            refine g_aload_n 64 (gd rfl) rfl rfl ?_
            refine g_getA (q2 := 194) 67 (gd rfl) rfl rfl rfl rfl ?_
            refine g_aload_n 68 (gd rfl) rfl rfl ?_
            refine g_getA (q2 := 185) 71 (gd rfl) rfl rfl rfl rfl ?_
            refine g_iload_n 72 (gd rfl) rfl rfl ?_
            refine g_iaload 73 (gd rfl) rfl (n := 400) rfl (in_ix i26 rfl) (fun z72 e72 => ?_)
            have i73 : In z72 0 8 := by rw [e72]; exact hk3.2 c50
            refine g_laload 74 (gd rfl) rfl (n := 9) rfl (in_ix i73 rfl) (fun z73 e73 => ?_)
            refine g_lastore 75 (gd rfl) rfl (n := 200) rfl (in_ix j17_2 rfl) ?_
            have hI74 := inv_sL (q := 193) (j := y17_2.toNatClampNeg) (x := z73) hIc17 rfl (l_rng z73)
            refine g_iinc 78 (gd rfl) rfl rfl (Nat.le_of_ble_eq_true rfl) (fun z75 e75 => ?_)
            have i75 := in_add 1 121 e75 j17_2 (in_c 1 rfl) rfl rfl
            refine g_goto 226 (gd rfl) rfl ?_
            refine g_iinc 229 (gd rfl) rfl rfl (Nat.le_of_ble_eq_true rfl) (fun z226 e226 => ?_)
            have i226 := in_add 1 120 e226 i26 (in_c 1 rfl) rfl rfl
            refine g_goto 17 (gd rfl) rfl ?_
            have i17 : In z75 0 120 := by exact ⟨by have a0 := oa5 h1 i26 j17_2 i40 i226; have a5 := t_add e226 i26 (in_c 1 rfl) rfl; have a6 := oa2 ((in_c 1 rfl)) i75; have a8 := t_add e75 j17_2 (in_c 1 rfl) rfl; have a9 := in_u i24; have a10 := t_add e24 h1 (in_c 1 rfl) rfl; omega, by have a0 := oa5 h1 i26 j17_2 i40 i226; have a5 := t_add e226 i26 (in_c 1 rfl) rfl; have a6 := oa2 ((in_c 1 rfl)) i75; have a8 := t_add e75 j17_2 (in_c 1 rfl) rfl; have a9 := in_u i24; have a10 := t_add e24 h1 (in_c 1 rfl) rfl; omega⟩
            have n17 : (z75).toInt ≤ (z226).toInt := by have a0 := oa5 h1 i26 j17_2 i40 i226; have a5 := t_add e226 i26 (in_c 1 rfl) rfl; have a6 := oa2 ((in_c 1 rfl)) i17; have a8 := t_add e75 j17_2 (in_c 1 rfl) rfl; have a9 := in_u i24; have a10 := t_add e24 h1 (in_c 1 rfl) rfl; omega
            have n17a : WS (sL sc17 193 y17_2.toNatClampNeg z73) x1 z226 z75 := by first | exact hk2 _ _ (by have a0 := oa5 h1 i26 j17_2 i40 i226; have a5 := t_add e226 i26 (in_c 1 rfl) rfl; have a6 := oa2 ((in_c 1 rfl)) i17; have a8 := t_add e75 j17_2 (in_c 1 rfl) rfl; have a9 := in_u i24; have a10 := t_add e24 h1 (in_c 1 rfl) rfl; omega) (by have a0 := oa5 h1 i26 j17_2 i40 i226; have a5 := t_add e226 i26 (in_c 1 rfl) rfl; have a6 := oa2 ((in_c 1 rfl)) i17; have a8 := t_add e75 j17_2 (in_c 1 rfl) rfl; have a9 := in_u i24; have a10 := t_add e24 h1 (in_c 1 rfl) rfl; omega) | exact ws_0 rfl (by first | exact (by decide) | exact i15.1) (by unfold wa; first | (rw [if_pos c3]; rfl) | (rw [if_neg c3, e15]; rfl))
            exact gg_w (by first | exact Nat.le_add_right _ _ | exact gw2 | exact gw3 | exact gwe rfl | exact gwf rfl | exact gwg rfl | exact gwh rfl | omega) (gg_f (gf_cons rfl (gf_cons rfl (gf_cons rfl (gf_cons rfl gf_nil)))) (ih17 (sL sc17 193 y17_2.toNatClampNeg z73) z75 z226 hI74 (fr_sL rfl hFc17) i17 (in_w 0 120 i226 rfl) n17 n17a (m_up mm17 (t_add e226 i26 (in_c 1 rfl) rfl) (in_w 1 1 (in_c 1 rfl) rfl))))
          · skip
            have i50 := z_eq 0 0 c50 i40 rfl
            refine g_aload_n 54 (gd rfl) rfl rfl ?_
            refine g_getA (q2 := 185) 57 (gd rfl) rfl rfl rfl rfl ?_
            refine g_iload_n 58 (gd rfl) rfl rfl ?_
            refine g_iaload 59 (gd rfl) rfl (n := 400) rfl (in_ix i26 rfl) (fun z58 e58 => ?_)
            refine g_i2l 60 (gd rfl) rfl (fun z59 e59 => ?_)
            have i59 := l_i e59 (i_rng z58)
            refine g_goto 74 (gd rfl) rfl ?_
            refine g_lastore 75 (gd rfl) rfl (n := 200) rfl (in_ix j17_2 rfl) ?_
            have hI74 := inv_sL (q := 193) (j := y17_2.toNatClampNeg) (x := z59) hIc17 rfl (l_rng z59)
            refine g_iinc 78 (gd rfl) rfl rfl (Nat.le_of_ble_eq_true rfl) (fun z75 e75 => ?_)
            have i75 := in_add 1 121 e75 j17_2 (in_c 1 rfl) rfl rfl
            refine g_goto 226 (gd rfl) rfl ?_
            refine g_iinc 229 (gd rfl) rfl rfl (Nat.le_of_ble_eq_true rfl) (fun z226 e226 => ?_)
            have i226 := in_add 1 120 e226 i26 (in_c 1 rfl) rfl rfl
            refine g_goto 17 (gd rfl) rfl ?_
            have i17 : In z75 0 120 := by exact ⟨by have a0 := oa5 h1 i26 j17_2 i50 i226; have a5 := t_add e226 i26 (in_c 1 rfl) rfl; have a6 := oa2 ((in_c 1 rfl)) i75; have a8 := t_add e75 j17_2 (in_c 1 rfl) rfl; have a9 := tx_i2l e59; have a10 := in_u i24; have a11 := t_add e24 h1 (in_c 1 rfl) rfl; omega, by have a0 := oa5 h1 i26 j17_2 i50 i226; have a5 := t_add e226 i26 (in_c 1 rfl) rfl; have a6 := oa2 ((in_c 1 rfl)) i75; have a8 := t_add e75 j17_2 (in_c 1 rfl) rfl; have a9 := tx_i2l e59; have a10 := in_u i24; have a11 := t_add e24 h1 (in_c 1 rfl) rfl; omega⟩
            have n17 : (z75).toInt ≤ (z226).toInt := by have a0 := oa5 h1 i26 j17_2 i50 i226; have a5 := t_add e226 i26 (in_c 1 rfl) rfl; have a6 := oa2 ((in_c 1 rfl)) i17; have a8 := t_add e75 j17_2 (in_c 1 rfl) rfl; have a9 := tx_i2l e59; have a10 := in_u i24; have a11 := t_add e24 h1 (in_c 1 rfl) rfl; omega
            have n17a : WS (sL sc17 193 y17_2.toNatClampNeg z59) x1 z226 z75 := by first | exact hk2 _ _ (by have a0 := oa5 h1 i26 j17_2 i50 i226; have a5 := t_add e226 i26 (in_c 1 rfl) rfl; have a6 := oa2 ((in_c 1 rfl)) i17; have a8 := t_add e75 j17_2 (in_c 1 rfl) rfl; have a9 := tx_i2l e59; have a10 := in_u i24; have a11 := t_add e24 h1 (in_c 1 rfl) rfl; omega) (by have a0 := oa5 h1 i26 j17_2 i50 i226; have a5 := t_add e226 i26 (in_c 1 rfl) rfl; have a6 := oa2 ((in_c 1 rfl)) i17; have a8 := t_add e75 j17_2 (in_c 1 rfl) rfl; have a9 := tx_i2l e59; have a10 := in_u i24; have a11 := t_add e24 h1 (in_c 1 rfl) rfl; omega) | exact ws_0 rfl (by first | exact (by decide) | exact i15.1) (by unfold wa; first | (rw [if_pos c3]; rfl) | (rw [if_neg c3, e15]; rfl))
            exact gg_w (by first | exact Nat.le_add_right _ _ | exact gw2 | exact gw3 | exact gwe rfl | exact gwf rfl | exact gwg rfl | exact gwh rfl | omega) (gg_f (gf_cons rfl (gf_cons rfl (gf_cons rfl (gf_cons rfl gf_nil)))) (ih17 (sL sc17 193 y17_2.toNatClampNeg z59) z75 z226 hI74 (fr_sL rfl hFc17) i17 (in_w 0 120 i226 rfl) n17 n17a (m_up mm17 (t_add e226 i26 (in_c 1 rfl) rfl) (in_w 1 1 (in_c 1 rfl) rfl))))
  refine g_enter2 (k := 408) (N := 109801) (by first | exact dq1 hd rfl | exact dq0 hd rfl | exact dq2 hd rfl | exact dq3 hd rfl | omega) rfl (Nat.le_of_ble_eq_true rfl) ?_
  refine g_iconst 0 1 (gd rfl) rfl rfl ?_
  refine g_istore_n 2 (gd rfl) rfl (Nat.le_of_ble_eq_true rfl) ?_
  refine g_iload_n 3 (gd rfl) rfl rfl ?_
  refine g_if_ne 6 10 (gd rfl) rfl rfl (fun c3 => ?_) (fun c3 => ?_)
  · skip
    have i3 := z_ne 1 1 c3 h1 rfl
    refine g_aload_n 11 (gd rfl) rfl rfl ?_
    refine g_getA (q2 := 186) 14 (gd rfl) rfl rfl rfl rfl ?_
    refine g_iconst 1 15 (gd rfl) rfl rfl ?_
    refine g_iaload 16 (gd rfl) rfl (n := 3) rfl (in_ix (in_c 1 rfl) rfl) (fun z15 e15 => ?_)
    have i15 := inv_I hI (n := 3) (t := 0) 0 120 rfl (in_ix (in_c 1 rfl) rfl) rfl e15
    refine g_istore_n 17 (gd rfl) rfl (Nat.le_of_ble_eq_true rfl) ?_
    have n17 : ((Int32.ofInt 0)).toInt ≤ (z15).toInt := by have a0 := oa3 i3 i15 ((in_c 0 rfl)); omega
    have n17a : WS s x1 z15 (Int32.ofInt 0) := by first | exact hk2 _ _ (by have a0 := oa3 i3 i15 ((in_c 0 rfl)); omega) (by have a0 := oa3 i3 i15 ((in_c 0 rfl)); omega) | exact ws_0 rfl (by first | exact (by decide) | exact i15.1) (by unfold wa; first | (rw [if_pos c3]; rfl) | (rw [if_neg c3, e15]; rfl))
    exact gg_w (by first | exact Nat.le_of_ble_eq_true rfl | omega) (gg_f (gf_cons rfl (gf_cons rfl (gf_cons rfl (gf_cons rfl gf_nil)))) (ct17 121 s (Int32.ofInt 0) z15 hI fr_rf (in_w 0 120 (in_c 0 rfl) rfl) (in_w 0 120 i15 rfl) n17 n17a (m_in 121 (in_w 0 120 i15 rfl) rfl)))
  · skip
    have i3 := z_eq 0 0 c3 h1 rfl
    refine g_iconst 0 7 (gd rfl) rfl rfl ?_
    refine g_goto 16 (gd rfl) rfl ?_
    refine g_istore_n 17 (gd rfl) rfl (Nat.le_of_ble_eq_true rfl) ?_
    have n17 : ((Int32.ofInt 0)).toInt ≤ ((Int32.ofInt 0)).toInt := by exact Int.le_refl _
    have n17a : WS s x1 (Int32.ofInt 0) (Int32.ofInt 0) := by first | exact hk2 _ _ (by have a0 := oa2 i3 ((in_c 0 rfl)); omega) (by have a0 := oa2 i3 ((in_c 0 rfl)); omega) | exact ws_0 rfl (by first | exact (by decide) | exact i15.1) (by unfold wa; first | (rw [if_pos c3]; rfl) | (rw [if_neg c3, e15]; rfl))
    exact gg_w (by first | exact Nat.le_of_ble_eq_true rfl | omega) (gg_f (gf_cons rfl (gf_cons rfl (gf_cons rfl (gf_cons rfl gf_nil)))) (ct17 121 s (Int32.ofInt 0) (Int32.ofInt 0) hI fr_rf (in_w 0 120 (in_c 0 rfl) rfl) (in_w 0 120 (in_c 0 rfl) rfl) n17 n17a (m_in 121 (in_w 0 120 (in_c 0 rfl) rfl) rfl)))

def fm_409 : FM := ([], [191, 192, 193, 194], [(109, 0), (109, 113), (109, 116), (109, 117), (109, 118)], [(109, 121)])
/-- GraphHouseModel.run -/
theorem k_409 {Z : AmZ} {A : Nat → Nat} {s : GS} {ex : va_W} {d : Nat} {X : AmX} {x1 : Int32} {x2 : Int32} {x3 : Int32} {x4 : Int64} (hd : 4 ≤ d) (hI : Inv s)  : GC Z d 409 [.ref (A 109), .int x1, .int x2, .int x3, .long x4] (WW Z A s ++ ex) 0 0 (fun v u => ∃ t : GS, Inv t ∧ Fr fm_409 s t ∧ ∃ z : Int32, v = some (.int z) ∧ u = WW Z A t ++ ex ∧ In z 0 200) X := by
  intro post xp hP hX
  obtain ⟨u_109_20, e_109_20⟩ : ∃ w, w = s.2.2.1 109 20 := ⟨_, rfl⟩
  have ro_109_20 := inv_F hI 0 32 rfl e_109_20
  have ct179 : ∀ (k179 : Nat) (sc179 : GS) (y179_6 : Int32) (y179_7 : Int32), Inv sc179 → Fr fm_409 s sc179 → (In x1 0 200) → (In x2 1 4) → (In x3 0 90) → (In y179_6 0 200) → (In y179_7 0 1) → 200 - (y179_6).toInt < (k179 : Int) → GG Z (d - 1) 409 post (gx xp) (1 + k179 * 63902) 179 (fun j => xlook j [(0, .ref (A 109)), (1, .int x1), (2, .int x2), (3, .int x3), (4, .long x4), (6, .int y179_6), (7, .int y179_7)]) [] (WW Z A sc179 ++ ex) 0 0 := by
    intro k179
    induction k179 with
    | zero => intro sc179 y179_6 y179_7 hIc179 hFc179 j179_1 j179_2 j179_3 j179_6 j179_7 mm179; exfalso; have a0 := j179_3; unfold In at a0; have a1 := j179_2; unfold In at a1; have a2 := j179_1; unfold In at a2; have a3 := in_u ro_109_20; have a4 := j179_7; unfold In at a4; have a5 := j179_6; unfold In at a5; omega
    | succ k179 ih179 =>
      intro sc179 y179_6 y179_7 hIc179 hFc179 j179_1 j179_2 j179_3 j179_6 j179_7 mm179
      refine gg_w (M := 1 + k179 * 63902 + 63902) gws ?_
      have ct275 : ∀ (k275 : Nat) (sc275 : GS) (y275_6 : Int32) (y275_7 : Int32) (y275_8 : Int32), Inv sc275 → Fr fm_409 s sc275 → (In x1 1 200) → (In y275_6 1 200) → (In y275_7 0 1) → (In y275_8 0 32) → ((y275_6).toInt = y179_6.toInt + 1) → 32 - (y275_8).toInt < (k275 : Int) → GG Z (d - 1) 409 post (gx xp) (1 + k179 * 63902 + 1 + k275 * 900) 275 (fun j => xlook j [(0, .ref (A 109)), (1, .int x1), (2, .int x2), (3, .int x3), (4, .long x4), (6, .int y275_6), (7, .int y275_7), (8, .int y275_8)]) [] (WW Z A sc275 ++ ex) 0 0 := by
        intro k275
        induction k275 with
        | zero => intro sc275 y275_6 y275_7 y275_8 hIc275 hFc275 j275_1 j275_6 j275_7 j275_8 n275_0 mm275; exact m_no mm275 j275_8 rfl
        | succ k275 ih275 =>
          intro sc275 y275_6 y275_7 y275_8 hIc275 hFc275 j275_1 j275_6 j275_7 j275_8 n275_0 mm275
          refine gg_w (M := 1 + k179 * 63902 + 1 + k275 * 900 + 900) gws ?_
          refine g_iload 277 (gd rfl) rfl rfl ?_
          refine g_aload_n 278 (gd rfl) rfl rfl ?_
          refine g_getI 281 (gd rfl) rfl rfl rfl (fun z278 e278 => ?_)
          have q278 : u_109_20 = z278 := (fr_F e_109_20 hFc275 rfl).trans e278.symm
          subst q278
          refine g_cmp_ge 284 304 (gd rfl) rfl rfl (fun c281 => ?_) (fun c281 => ?_)
          · skip
            refine g_goto 179 (gd rfl) rfl ?_
            have m179 : 200 - (y275_6).toInt < ((k179 : Nat) : Int) := by have a0 := oa7 j179_3 j179_2 j275_1 ro_109_20 j275_8 j275_7 j275_6; omega
            exact gg_w (by first | exact Nat.le_add_right _ _ | exact gw2 | exact gw3 | exact gwe rfl | exact gwf rfl | exact gwg rfl | exact gwh rfl | omega) (gg_f (gf_cons rfl (gf_cons rfl (gf_cons rfl (gf_cons rfl (gf_cons rfl (gf_cons rfl (gf_cons rfl gf_nil))))))) (ih179  sc275 y275_6 y275_7 hIc275 hFc275 (in_w 0 200 j275_1 rfl) (in_w 1 4 j179_2 rfl) (in_w 0 90 j179_3 rfl) (in_w 0 200 j275_6 rfl) (in_w 0 1 j275_7 rfl) m179))
          · skip
            have i281 := r_lt1 0 31 c281 j275_8 ro_109_20 rfl
            have i281a := r_lt2 1 32 c281 j275_8 ro_109_20 rfl
            refine g_aload_n 285 (gd rfl) rfl rfl ?_
            refine g_getA (q2 := 191) 288 (gd rfl) rfl rfl rfl rfl ?_
            refine g_iload 290 (gd rfl) rfl rfl ?_
            refine g_aload_n 291 (gd rfl) rfl rfl ?_
            refine g_getA (q2 := 192) 294 (gd rfl) rfl rfl rfl rfl ?_
            refine g_iload 296 (gd rfl) rfl rfl ?_
            refine g_laload 297 (gd rfl) rfl (n := 32) rfl (in_ix i281 rfl) (fun z296 e296 => ?_)
            refine g_lastore 298 (gd rfl) rfl (n := 32) rfl (in_ix i281 rfl) ?_
            have hI297 := inv_sL (q := 191) (j := y275_8.toNatClampNeg) (x := z296) hIc275 rfl (l_rng z296)
            refine g_iinc 301 (gd rfl) rfl rfl (Nat.le_of_ble_eq_true rfl) (fun z298 e298 => ?_)
            have i298 := in_add 1 32 e298 i281 (in_c 1 rfl) rfl rfl
            refine g_goto 275 (gd rfl) rfl ?_
            have n275 : (y275_6).toInt = y179_6.toInt + 1 := by first | exact n275_0 | (have a0 := oa8 j179_3 j179_2 j275_1 i281a i281 j275_7 j275_6 i298; have a8 := t_add e298 i281 (in_c 1 rfl) rfl; have a9 := in_u ((in_c 1 rfl)); omega)
            exact gg_w (by first | exact Nat.le_add_right _ _ | exact gw2 | exact gw3 | exact gwe rfl | exact gwf rfl | exact gwg rfl | exact gwh rfl | omega) (gg_f (gf_cons rfl (gf_cons rfl (gf_cons rfl (gf_cons rfl (gf_cons rfl (gf_cons rfl (gf_cons rfl (gf_cons rfl gf_nil)))))))) (ih275 (sL sc275 191 y275_8.toNatClampNeg z296) y275_6 y275_7 z298 hI297 (fr_sL rfl hFc275) (in_w 1 200 j275_1 rfl) (in_w 1 200 j275_6 rfl) (in_w 0 1 j275_7 rfl) (in_w 0 32 i298 rfl) n275 (m_up mm275 (t_add e298 i281 (in_c 1 rfl) rfl) (in_w 1 1 (in_c 1 rfl) rfl))))
      have ct207 : ∀ (k207 : Nat) (sc207 : GS) (y207_6 : Int32) (y207_7 : Int32) (y207_8 : Int32), Inv sc207 → Fr fm_409 s sc207 → (In x1 1 200) → (In y207_6 1 200) → (In y207_7 0 1) → (In y207_8 0 32) → ((y207_6).toInt = y179_6.toInt + 1) → 32 - (y207_8).toInt < (k207 : Int) → GG Z (d - 1) 409 post (gx xp) (1 + k179 * 63902 + 29702 + k207 * 900) 207 (fun j => xlook j [(0, .ref (A 109)), (1, .int x1), (2, .int x2), (3, .int x3), (4, .long x4), (6, .int y207_6), (7, .int y207_7), (8, .int y207_8)]) [] (WW Z A sc207 ++ ex) 0 0 := by
        intro k207
        induction k207 with
        | zero => intro sc207 y207_6 y207_7 y207_8 hIc207 hFc207 j207_1 j207_6 j207_7 j207_8 n207_0 mm207; exact m_no mm207 j207_8 rfl
        | succ k207 ih207 =>
          intro sc207 y207_6 y207_7 y207_8 hIc207 hFc207 j207_1 j207_6 j207_7 j207_8 n207_0 mm207
          refine gg_w (M := 1 + k179 * 63902 + 29702 + k207 * 900 + 900) gws ?_
          refine g_iload 209 (gd rfl) rfl rfl ?_
          refine g_aload_n 210 (gd rfl) rfl rfl ?_
          refine g_getI 213 (gd rfl) rfl rfl rfl (fun z210 e210 => ?_)
          have q210 : u_109_20 = z210 := (fr_F e_109_20 hFc207 rfl).trans e210.symm
          subst q210
          refine g_cmp_ge 216 272 (gd rfl) rfl rfl (fun c213 => ?_) (fun c213 => ?_)
          · skip
            refine g_iconst 0 273 (gd rfl) rfl rfl ?_
            refine g_istore 275 (gd rfl) rfl (Nat.le_of_ble_eq_true rfl) ?_
            have n275 : (y207_6).toInt = y179_6.toInt + 1 := by first | exact n207_0 | (have a0 := oa8 j179_3 j179_2 j207_1 ro_109_20 j207_8 j207_7 j207_6 ((in_c 0 rfl)); omega)
            exact gg_w (by first | exact Nat.le_add_right _ _ | exact gw2 | exact gw3 | exact gwe rfl | exact gwf rfl | exact gwg rfl | exact gwh rfl | omega) (gg_f (gf_cons rfl (gf_cons rfl (gf_cons rfl (gf_cons rfl (gf_cons rfl (gf_cons rfl (gf_cons rfl (gf_cons rfl gf_nil)))))))) (ct275 33 sc207 y207_6 y207_7 (Int32.ofInt 0) hIc207 hFc207 (in_w 1 200 j207_1 rfl) (in_w 1 200 j207_6 rfl) (in_w 0 1 j207_7 rfl) (in_w 0 32 (in_c 0 rfl) rfl) n275 (m_in 33 (in_w 0 32 (in_c 0 rfl) rfl) rfl)))
          · skip
            have i213 := r_lt1 0 31 c213 j207_8 ro_109_20 rfl
            have i213a := r_lt2 1 32 c213 j207_8 ro_109_20 rfl
            refine g_aload_n 217 (gd rfl) rfl rfl ?_
            refine g_iload 219 (gd rfl) rfl rfl ?_
            refine g_iload 221 (gd rfl) rfl rfl ?_
            refine g_callv (X := _) (As := [.int y207_8, .int y207_6]) (r := []) (b := A 109) (q := 109) 224 (gd rfl) rfl rfl rfl rfl rfl (ww_o rfl) (Nat.le_of_ble_eq_true rfl) (Nat.zero_le _) (Nat.zero_le _) (k_407 (by first | exact dq1 hd rfl | exact dq0 hd rfl | exact dq2 hd rfl | exact dq3 hd rfl | omega) hIc207 (in_w 0 31 i213 rfl) (in_w 0 200 j207_6 rfl)) (fun e u h => h) (fun v u h => ?_)
            obtain ⟨s221, hI221, hF221, rfl, rfl⟩ := h
            show GG _ _ _ _ _ _ _ _ [] _ _ _
            refine g_aload_n 225 (gd rfl) rfl rfl ?_
            refine g_getA (q2 := 192) 228 (gd rfl) rfl rfl rfl rfl ?_
            refine g_iload 230 (gd rfl) rfl rfl ?_
            refine g_aload_n 231 (gd rfl) rfl rfl ?_
            refine g_iconst 1 232 (gd rfl) rfl rfl ?_
            refine g_callv (X := _) (As := [.int (Int32.ofInt 1)]) (r := [.int y207_8, .ref (A 192)]) (b := A 109) (q := 109) 235 (gd rfl) rfl rfl rfl rfl rfl (ww_o rfl) (Nat.le_of_ble_eq_true rfl) (Nat.zero_le _) (Nat.zero_le _) (k_408 (by first | exact dq1 hd rfl | exact dq0 hd rfl | exact dq2 hd rfl | exact dq3 hd rfl | omega) hI221 (in_w 0 1 (in_c 1 rfl) rfl)) (fun e u h => h) (fun v u h => ?_)
            obtain ⟨s232, hI232, hF232, z232, rfl, rfl⟩ := h
            show GG _ _ _ _ _ _ _ _ [.long z232, .int y207_8, .ref (A 192)] _ _ _
            refine g_lastore 236 (gd rfl) rfl (n := 32) rfl (in_ix i213 rfl) ?_
            have hI235 := inv_sL (q := 192) (j := y207_8.toNatClampNeg) (x := z232) hI232 rfl (l_rng z232)
            refine g_iload 238 (gd rfl) rfl rfl ?_
            refine g_if_ne 241 259 (gd rfl) rfl rfl (fun c238 => ?_) (fun c238 => ?_)
            · skip
              have i238 := z_ne 1 1 c238 j207_7 rfl
              refine g_iconst 1 260 (gd rfl) rfl rfl ?_
              refine g_goto 264 (gd rfl) rfl ?_
              refine g_istore 266 (gd rfl) rfl (Nat.le_of_ble_eq_true rfl) ?_
              refine g_iinc 269 (gd rfl) rfl rfl (Nat.le_of_ble_eq_true rfl) (fun z266 e266 => ?_)
              have i266 := in_add 1 32 e266 i213 (in_c 1 rfl) rfl rfl
              refine g_goto 207 (gd rfl) rfl ?_
              have n207 : (y207_6).toInt = y179_6.toInt + 1 := by first | exact n207_0 | (have a0 := oa8 j179_3 j179_2 j207_1 i213a i213 i238 j207_6 i266; have a8 := t_add e266 i213 (in_c 1 rfl) rfl; have a9 := in_u ((in_c 1 rfl)); omega)
              exact gg_w (by first | exact Nat.le_add_right _ _ | exact gw2 | exact gw3 | exact gwe rfl | exact gwf rfl | exact gwg rfl | exact gwh rfl | omega) (gg_f (gf_cons rfl (gf_cons rfl (gf_cons rfl (gf_cons rfl (gf_cons rfl (gf_cons rfl (gf_cons rfl (gf_cons rfl gf_nil)))))))) (ih207 (sL s232 192 y207_8.toNatClampNeg z232) y207_6 (Int32.ofInt 1) z266 hI235 (fr_sL rfl (fr_tr rfl (fr_tr rfl hFc207 hF221) hF232)) (in_w 1 200 j207_1 rfl) (in_w 1 200 j207_6 rfl) (in_w 0 1 (in_c 1 rfl) rfl) (in_w 0 32 i266 rfl) n207 (m_up mm207 (t_add e266 i213 (in_c 1 rfl) rfl) (in_w 1 1 (in_c 1 rfl) rfl))))
            · skip
              have i238 := z_eq 0 0 c238 j207_7 rfl
              refine g_aload_n 242 (gd rfl) rfl rfl ?_
              refine g_getA (q2 := 192) 245 (gd rfl) rfl rfl rfl rfl ?_
              refine g_iload 247 (gd rfl) rfl rfl ?_
              refine g_laload 248 (gd rfl) rfl (n := 32) rfl (in_ix i213 rfl) (fun z247 e247 => ?_)
              refine g_aload_n 249 (gd rfl) rfl rfl ?_
              refine g_getA (q2 := 191) 252 (gd rfl) rfl rfl rfl rfl ?_
              refine g_iload 254 (gd rfl) rfl rfl ?_
              refine g_laload 255 (gd rfl) rfl (n := 32) rfl (in_ix i213 rfl) (fun z254 e254 => ?_)
              refine g_lcmp 256 (gd rfl) rfl (fun z255 e255 => ?_)
              have i255 := lc_in e255
              refine g_if_eq 259 263 (gd rfl) rfl rfl (fun c256 => ?_) (fun c256 => ?_)
              · skip
                have i256 := z_eq 0 0 c256 i255 rfl
                have c256a := lc_eq e255 c256
                refine g_iconst 0 264 (gd rfl) rfl rfl ?_
                refine g_istore 266 (gd rfl) rfl (Nat.le_of_ble_eq_true rfl) ?_
                refine g_iinc 269 (gd rfl) rfl rfl (Nat.le_of_ble_eq_true rfl) (fun z266 e266 => ?_)
                have i266 := in_add 1 32 e266 i213 (in_c 1 rfl) rfl rfl
                refine g_goto 207 (gd rfl) rfl ?_
                have n207 : (y207_6).toInt = y179_6.toInt + 1 := by first | exact n207_0 | (have a0 := oa8 j179_3 j179_2 j207_1 i213a i213 i238 j207_6 i266; have a8 := t_add e266 i213 (in_c 1 rfl) rfl; have a9 := oa2 ((in_c 1 rfl)) ((in_c 0 rfl)); omega)
                exact gg_w (by first | exact Nat.le_add_right _ _ | exact gw2 | exact gw3 | exact gwe rfl | exact gwf rfl | exact gwg rfl | exact gwh rfl | omega) (gg_f (gf_cons rfl (gf_cons rfl (gf_cons rfl (gf_cons rfl (gf_cons rfl (gf_cons rfl (gf_cons rfl (gf_cons rfl gf_nil)))))))) (ih207 (sL s232 192 y207_8.toNatClampNeg z232) y207_6 (Int32.ofInt 0) z266 hI235 (fr_sL rfl (fr_tr rfl (fr_tr rfl hFc207 hF221) hF232)) (in_w 1 200 j207_1 rfl) (in_w 1 200 j207_6 rfl) (in_w 0 1 (in_c 0 rfl) rfl) (in_w 0 32 i266 rfl) n207 (m_up mm207 (t_add e266 i213 (in_c 1 rfl) rfl) (in_w 1 1 (in_c 1 rfl) rfl))))
              · skip
                have c256a := lc_ne e255 c256
                refine g_iconst 1 260 (gd rfl) rfl rfl ?_
                refine g_goto 264 (gd rfl) rfl ?_
                refine g_istore 266 (gd rfl) rfl (Nat.le_of_ble_eq_true rfl) ?_
                refine g_iinc 269 (gd rfl) rfl rfl (Nat.le_of_ble_eq_true rfl) (fun z266 e266 => ?_)
                have i266 := in_add 1 32 e266 i213 (in_c 1 rfl) rfl rfl
                refine g_goto 207 (gd rfl) rfl ?_
                have n207 : (y207_6).toInt = y179_6.toInt + 1 := by first | exact n207_0 | (have a0 := oa8 j179_3 j179_2 j207_1 i213a i213 i238 j207_6 i266; have a8 := t_add e266 i213 (in_c 1 rfl) rfl; have a9 := in_u ((in_c 1 rfl)); omega)
                exact gg_w (by first | exact Nat.le_add_right _ _ | exact gw2 | exact gw3 | exact gwe rfl | exact gwf rfl | exact gwg rfl | exact gwh rfl | omega) (gg_f (gf_cons rfl (gf_cons rfl (gf_cons rfl (gf_cons rfl (gf_cons rfl (gf_cons rfl (gf_cons rfl (gf_cons rfl gf_nil)))))))) (ih207 (sL s232 192 y207_8.toNatClampNeg z232) y207_6 (Int32.ofInt 1) z266 hI235 (fr_sL rfl (fr_tr rfl (fr_tr rfl hFc207 hF221) hF232)) (in_w 1 200 j207_1 rfl) (in_w 1 200 j207_6 rfl) (in_w 0 1 (in_c 1 rfl) rfl) (in_w 0 32 i266 rfl) n207 (m_up mm207 (t_add e266 i213 (in_c 1 rfl) rfl) (in_w 1 1 (in_c 1 rfl) rfl))))
      refine g_iload 181 (gd rfl) rfl rfl ?_
      refine g_if_eq 184 307 (gd rfl) rfl rfl (fun c181 => ?_) (fun c181 => ?_)
      · skip
        have i181 := z_eq 0 0 c181 j179_7 rfl
        refine g_iload 309 (gd rfl) rfl rfl ?_
        exact g_ireturn (gd rfl) rfl rfl (hP _ _ ⟨sc179, hIc179, hFc179, y179_6, rfl, rfl, in_w 0 200 j179_6 rfl⟩)
      · skip
        have i181 := z_ne 1 1 c181 j179_7 rfl
        refine g_iload 186 (gd rfl) rfl rfl ?_
        refine g_iload_n 187 (gd rfl) rfl rfl ?_
        refine g_cmp_ge 190 307 (gd rfl) rfl rfl (fun c187 => ?_) (fun c187 => ?_)
        · skip
          refine g_iload 309 (gd rfl) rfl rfl ?_
          exact g_ireturn (gd rfl) rfl rfl (hP _ _ ⟨sc179, hIc179, hFc179, y179_6, rfl, rfl, in_w 0 200 j179_6 rfl⟩)
        · skip
          have i187 := r_lt1 0 199 c187 j179_6 j179_1 rfl
          have i187a := r_lt2 1 200 c187 j179_6 j179_1 rfl
          refine g_iinc 193 (gd rfl) rfl rfl (Nat.le_of_ble_eq_true rfl) (fun z190 e190 => ?_)
          have i190 := in_add 1 200 e190 i187 (in_c 1 rfl) rfl rfl
          refine g_aload_n 194 (gd rfl) rfl rfl ?_
          refine g_iload_n 195 (gd rfl) rfl rfl ?_
          refine g_iload_n 196 (gd rfl) rfl rfl ?_
          refine g_lload 198 (gd rfl) rfl rfl ?_
          refine g_callv (X := _) (As := [.int x2, .int x3, .long x4]) (r := []) (b := A 109) (q := 109) 201 (gd rfl) rfl rfl rfl rfl rfl (ww_o rfl) (Nat.le_of_ble_eq_true rfl) (Nat.zero_le _) (Nat.zero_le _) (k_411 (by first | exact dq1 hd rfl | exact dq0 hd rfl | exact dq2 hd rfl | exact dq3 hd rfl | omega) hIc179 (in_w 1 4 j179_2 rfl) (in_w 0 90 j179_3 rfl)) (fun e u h => h) (fun v u h => ?_)
          obtain ⟨s198, hI198, hF198, rfl, rfl⟩ := h
          show GG _ _ _ _ _ _ _ _ [] _ _ _
          refine g_iconst 0 202 (gd rfl) rfl rfl ?_
          refine g_istore 204 (gd rfl) rfl (Nat.le_of_ble_eq_true rfl) ?_
          refine g_iconst 0 205 (gd rfl) rfl rfl ?_
          refine g_istore 207 (gd rfl) rfl (Nat.le_of_ble_eq_true rfl) ?_
          have n207 : (z190).toInt = y179_6.toInt + 1 := by have a0 := oa8 j179_3 j179_2 i187a ro_109_20 i181 i187 ((in_c 0 rfl)) i190; have a8 := t_add e190 i187 (in_c 1 rfl) rfl; have a9 := in_u ((in_c 1 rfl)); omega
          exact gg_w (by first | exact Nat.le_add_right _ _ | exact gw2 | exact gw3 | exact gwe rfl | exact gwf rfl | exact gwg rfl | exact gwh rfl | omega) (gg_f (gf_cons rfl (gf_cons rfl (gf_cons rfl (gf_cons rfl (gf_cons rfl (gf_cons rfl (gf_cons rfl (gf_cons rfl gf_nil)))))))) (ct207 33 s198 z190 (Int32.ofInt 0) (Int32.ofInt 0) hI198 (fr_tr rfl hFc179 hF198) (in_w 1 200 i187a rfl) (in_w 1 200 i190 rfl) (in_w 0 1 (in_c 0 rfl) rfl) (in_w 0 32 (in_c 0 rfl) rfl) n207 (m_in 33 (in_w 0 32 (in_c 0 rfl) rfl) rfl)))
  have ct144 : ∀ (k144 : Nat) (sc144 : GS) (y144_6 : Int32), Inv sc144 → Fr fm_409 s sc144 → (In x1 0 200) → (In x2 1 4) → (In x3 0 90) → (In y144_6 0 32) → 32 - (y144_6).toInt < (k144 : Int) → GG Z (d - 1) 409 post (gx xp) (12844304 + k144 * 900) 144 (fun j => xlook j [(0, .ref (A 109)), (1, .int x1), (2, .int x2), (3, .int x3), (4, .long x4), (6, .int y144_6)]) [] (WW Z A sc144 ++ ex) 0 0 := by
    intro k144
    induction k144 with
    | zero => intro sc144 y144_6 hIc144 hFc144 j144_1 j144_2 j144_3 j144_6 mm144; exact m_no mm144 j144_6 rfl
    | succ k144 ih144 =>
      intro sc144 y144_6 hIc144 hFc144 j144_1 j144_2 j144_3 j144_6 mm144
      refine gg_w (M := 12844304 + k144 * 900 + 900) gws ?_
      refine g_iload 146 (gd rfl) rfl rfl ?_
      refine g_aload_n 147 (gd rfl) rfl rfl ?_
      refine g_getI 150 (gd rfl) rfl rfl rfl (fun z147 e147 => ?_)
      have q147 : u_109_20 = z147 := (fr_F e_109_20 hFc144 rfl).trans e147.symm
      subst q147
      refine g_cmp_ge 153 173 (gd rfl) rfl rfl (fun c150 => ?_) (fun c150 => ?_)
      · skip
        refine g_iconst 0 174 (gd rfl) rfl rfl ?_
        refine g_istore 176 (gd rfl) rfl (Nat.le_of_ble_eq_true rfl) ?_
        refine g_iconst 1 177 (gd rfl) rfl rfl ?_
        refine g_istore 179 (gd rfl) rfl (Nat.le_of_ble_eq_true rfl) ?_
        have m179 : 200 - ((Int32.ofInt 0)).toInt < ((201 : Nat) : Int) := by have a0 := oa7 j144_3 j144_2 j144_1 ro_109_20 j144_6 ((in_c 1 rfl)) ((in_c 0 rfl)); omega
        exact gg_w (by first | exact Nat.le_add_right _ _ | exact gw2 | exact gw3 | exact gwe rfl | exact gwf rfl | exact gwg rfl | exact gwh rfl | omega) (gg_f (gf_cons rfl (gf_cons rfl (gf_cons rfl (gf_cons rfl (gf_cons rfl (gf_cons rfl (gf_cons rfl gf_nil))))))) (ct179 201 sc144 (Int32.ofInt 0) (Int32.ofInt 1) hIc144 hFc144 (in_w 0 200 j144_1 rfl) (in_w 1 4 j144_2 rfl) (in_w 0 90 j144_3 rfl) (in_w 0 200 (in_c 0 rfl) rfl) (in_w 0 1 (in_c 1 rfl) rfl) m179))
      · skip
        have i150 := r_lt1 0 31 c150 j144_6 ro_109_20 rfl
        have i150a := r_lt2 1 32 c150 j144_6 ro_109_20 rfl
        refine g_aload_n 154 (gd rfl) rfl rfl ?_
        refine g_getA (q2 := 191) 157 (gd rfl) rfl rfl rfl rfl ?_
        refine g_iload 159 (gd rfl) rfl rfl ?_
        refine g_aload_n 160 (gd rfl) rfl rfl ?_
        refine g_getA (q2 := 192) 163 (gd rfl) rfl rfl rfl rfl ?_
        refine g_iload 165 (gd rfl) rfl rfl ?_
        refine g_laload 166 (gd rfl) rfl (n := 32) rfl (in_ix i150 rfl) (fun z165 e165 => ?_)
        refine g_lastore 167 (gd rfl) rfl (n := 32) rfl (in_ix i150 rfl) ?_
        have hI166 := inv_sL (q := 191) (j := y144_6.toNatClampNeg) (x := z165) hIc144 rfl (l_rng z165)
        refine g_iinc 170 (gd rfl) rfl rfl (Nat.le_of_ble_eq_true rfl) (fun z167 e167 => ?_)
        have i167 := in_add 1 32 e167 i150 (in_c 1 rfl) rfl rfl
        refine g_goto 144 (gd rfl) rfl ?_
        exact gg_w (by first | exact Nat.le_add_right _ _ | exact gw2 | exact gw3 | exact gwe rfl | exact gwf rfl | exact gwg rfl | exact gwh rfl | omega) (gg_f (gf_cons rfl (gf_cons rfl (gf_cons rfl (gf_cons rfl (gf_cons rfl (gf_cons rfl gf_nil)))))) (ih144 (sL sc144 191 y144_6.toNatClampNeg z165) z167 hI166 (fr_sL rfl hFc144) (in_w 0 200 j144_1 rfl) (in_w 1 4 j144_2 rfl) (in_w 0 90 j144_3 rfl) (in_w 0 32 i167 rfl) (m_up mm144 (t_add e167 i150 (in_c 1 rfl) rfl) (in_w 1 1 (in_c 1 rfl) rfl))))
  have ct107 : ∀ (k107 : Nat) (sc107 : GS) (y107_6 : Int32), Inv sc107 → Fr fm_409 s sc107 → (In x1 0 200) → (In x2 1 4) → (In x3 0 90) → (In y107_6 0 32) → 32 - (y107_6).toInt < (k107 : Int) → GG Z (d - 1) 409 post (gx xp) (12874005 + k107 * 900) 107 (fun j => xlook j [(0, .ref (A 109)), (1, .int x1), (2, .int x2), (3, .int x3), (4, .long x4), (6, .int y107_6)]) [] (WW Z A sc107 ++ ex) 0 0 := by
    intro k107
    induction k107 with
    | zero => intro sc107 y107_6 hIc107 hFc107 j107_1 j107_2 j107_3 j107_6 mm107; exact m_no mm107 j107_6 rfl
    | succ k107 ih107 =>
      intro sc107 y107_6 hIc107 hFc107 j107_1 j107_2 j107_3 j107_6 mm107
      refine gg_w (M := 12874005 + k107 * 900 + 900) gws ?_
      refine g_iload 109 (gd rfl) rfl rfl ?_
      refine g_aload_n 110 (gd rfl) rfl rfl ?_
      refine g_getI 113 (gd rfl) rfl rfl rfl (fun z110 e110 => ?_)
      have q110 : u_109_20 = z110 := (fr_F e_109_20 hFc107 rfl).trans e110.symm
      subst q110
      refine g_cmp_ge 116 141 (gd rfl) rfl rfl (fun c113 => ?_) (fun c113 => ?_)
      · skip
        refine g_iconst 0 142 (gd rfl) rfl rfl ?_
        refine g_istore 144 (gd rfl) rfl (Nat.le_of_ble_eq_true rfl) ?_
        exact gg_w (by first | exact Nat.le_add_right _ _ | exact gw2 | exact gw3 | exact gwe rfl | exact gwf rfl | exact gwg rfl | exact gwh rfl | omega) (gg_f (gf_cons rfl (gf_cons rfl (gf_cons rfl (gf_cons rfl (gf_cons rfl (gf_cons rfl gf_nil)))))) (ct144 33 sc107 (Int32.ofInt 0) hIc107 hFc107 (in_w 0 200 j107_1 rfl) (in_w 1 4 j107_2 rfl) (in_w 0 90 j107_3 rfl) (in_w 0 32 (in_c 0 rfl) rfl) (m_in 33 (in_w 0 32 (in_c 0 rfl) rfl) rfl)))
      · skip
        have i113 := r_lt1 0 31 c113 j107_6 ro_109_20 rfl
        have i113a := r_lt2 1 32 c113 j107_6 ro_109_20 rfl
        refine g_aload_n 117 (gd rfl) rfl rfl ?_
        refine g_iload 119 (gd rfl) rfl rfl ?_
        refine g_iconst 0 120 (gd rfl) rfl rfl ?_
        refine g_callv (X := _) (As := [.int y107_6, .int (Int32.ofInt 0)]) (r := []) (b := A 109) (q := 109) 123 (gd rfl) rfl rfl rfl rfl rfl (ww_o rfl) (Nat.le_of_ble_eq_true rfl) (Nat.zero_le _) (Nat.zero_le _) (k_407 (by first | exact dq1 hd rfl | exact dq0 hd rfl | exact dq2 hd rfl | exact dq3 hd rfl | omega) hIc107 (in_w 0 31 i113 rfl) (in_w 0 200 (in_c 0 rfl) rfl)) (fun e u h => h) (fun v u h => ?_)
        obtain ⟨s120, hI120, hF120, rfl, rfl⟩ := h
        show GG _ _ _ _ _ _ _ _ [] _ _ _
        refine g_aload_n 124 (gd rfl) rfl rfl ?_
        refine g_getA (q2 := 192) 127 (gd rfl) rfl rfl rfl rfl ?_
        refine g_iload 129 (gd rfl) rfl rfl ?_
        refine g_aload_n 130 (gd rfl) rfl rfl ?_
        refine g_iconst 0 131 (gd rfl) rfl rfl ?_
        refine g_callv (X := _) (As := [.int (Int32.ofInt 0)]) (r := [.int y107_6, .ref (A 192)]) (b := A 109) (q := 109) 134 (gd rfl) rfl rfl rfl rfl rfl (ww_o rfl) (Nat.le_of_ble_eq_true rfl) (Nat.zero_le _) (Nat.zero_le _) (k_408 (by first | exact dq1 hd rfl | exact dq0 hd rfl | exact dq2 hd rfl | exact dq3 hd rfl | omega) hI120 (in_w 0 1 (in_c 0 rfl) rfl)) (fun e u h => h) (fun v u h => ?_)
        obtain ⟨s131, hI131, hF131, z131, rfl, rfl⟩ := h
        show GG _ _ _ _ _ _ _ _ [.long z131, .int y107_6, .ref (A 192)] _ _ _
        refine g_lastore 135 (gd rfl) rfl (n := 32) rfl (in_ix i113 rfl) ?_
        have hI134 := inv_sL (q := 192) (j := y107_6.toNatClampNeg) (x := z131) hI131 rfl (l_rng z131)
        refine g_iinc 138 (gd rfl) rfl rfl (Nat.le_of_ble_eq_true rfl) (fun z135 e135 => ?_)
        have i135 := in_add 1 32 e135 i113 (in_c 1 rfl) rfl rfl
        refine g_goto 107 (gd rfl) rfl ?_
        exact gg_w (by first | exact Nat.le_add_right _ _ | exact gw2 | exact gw3 | exact gwe rfl | exact gwf rfl | exact gwg rfl | exact gwh rfl | omega) (gg_f (gf_cons rfl (gf_cons rfl (gf_cons rfl (gf_cons rfl (gf_cons rfl (gf_cons rfl gf_nil)))))) (ih107 (sL s131 192 y107_6.toNatClampNeg z131) z135 hI134 (fr_sL rfl (fr_tr rfl (fr_tr rfl hFc107 hF120) hF131)) (in_w 0 200 j107_1 rfl) (in_w 1 4 j107_2 rfl) (in_w 0 90 j107_3 rfl) (in_w 0 32 i135 rfl) (m_up mm107 (t_add e135 i113 (in_c 1 rfl) rfl) (in_w 1 1 (in_c 1 rfl) rfl))))
  have ct81 : ∀ (k81 : Nat) (sc81 : GS) (y81_6 : Int32), Inv sc81 → Fr fm_409 s sc81 → (In x1 0 200) → (In x2 1 4) → (In x3 0 90) → (In y81_6 0 32) → 32 - (y81_6).toInt < (k81 : Int) → GG Z (d - 1) 409 post (gx xp) (12903706 + k81 * 900) 81 (fun j => xlook j [(0, .ref (A 109)), (1, .int x1), (2, .int x2), (3, .int x3), (4, .long x4), (6, .int y81_6)]) [] (WW Z A sc81 ++ ex) 0 0 := by
    intro k81
    induction k81 with
    | zero => intro sc81 y81_6 hIc81 hFc81 j81_1 j81_2 j81_3 j81_6 mm81; exact m_no mm81 j81_6 rfl
    | succ k81 ih81 =>
      intro sc81 y81_6 hIc81 hFc81 j81_1 j81_2 j81_3 j81_6 mm81
      refine gg_w (M := 12903706 + k81 * 900 + 900) gws ?_
      refine g_iload 83 (gd rfl) rfl rfl ?_
      refine g_aload_n 84 (gd rfl) rfl rfl ?_
      refine g_getI 87 (gd rfl) rfl rfl rfl (fun z84 e84 => ?_)
      have q84 : u_109_20 = z84 := (fr_F e_109_20 hFc81 rfl).trans e84.symm
      subst q84
      refine g_cmp_ge 90 104 (gd rfl) rfl rfl (fun c87 => ?_) (fun c87 => ?_)
      · skip
        refine g_iconst 0 105 (gd rfl) rfl rfl ?_
        refine g_istore 107 (gd rfl) rfl (Nat.le_of_ble_eq_true rfl) ?_
        exact gg_w (by first | exact Nat.le_add_right _ _ | exact gw2 | exact gw3 | exact gwe rfl | exact gwf rfl | exact gwg rfl | exact gwh rfl | omega) (gg_f (gf_cons rfl (gf_cons rfl (gf_cons rfl (gf_cons rfl (gf_cons rfl (gf_cons rfl gf_nil)))))) (ct107 33 sc81 (Int32.ofInt 0) hIc81 hFc81 (in_w 0 200 j81_1 rfl) (in_w 1 4 j81_2 rfl) (in_w 0 90 j81_3 rfl) (in_w 0 32 (in_c 0 rfl) rfl) (m_in 33 (in_w 0 32 (in_c 0 rfl) rfl) rfl)))
      · skip
        have i87 := r_lt1 0 31 c87 j81_6 ro_109_20 rfl
        have i87a := r_lt2 1 32 c87 j81_6 ro_109_20 rfl
        refine g_aload_n 91 (gd rfl) rfl rfl ?_
        refine g_getA (q2 := 191) 94 (gd rfl) rfl rfl rfl rfl ?_
        refine g_iload 96 (gd rfl) rfl rfl ?_
        refine g_lconst 0 97 (gd rfl) rfl rfl ?_
        refine g_lastore 98 (gd rfl) rfl (n := 32) rfl (in_ix i87 rfl) ?_
        have hI97 := inv_sL (q := 191) (j := y81_6.toNatClampNeg) (x := (Int64.ofInt 0)) hIc81 rfl (l_rng (Int64.ofInt 0))
        refine g_iinc 101 (gd rfl) rfl rfl (Nat.le_of_ble_eq_true rfl) (fun z98 e98 => ?_)
        have i98 := in_add 1 32 e98 i87 (in_c 1 rfl) rfl rfl
        refine g_goto 81 (gd rfl) rfl ?_
        exact gg_w (by first | exact Nat.le_add_right _ _ | exact gw2 | exact gw3 | exact gwe rfl | exact gwf rfl | exact gwg rfl | exact gwh rfl | omega) (gg_f (gf_cons rfl (gf_cons rfl (gf_cons rfl (gf_cons rfl (gf_cons rfl (gf_cons rfl gf_nil)))))) (ih81 (sL sc81 191 y81_6.toNatClampNeg (Int64.ofInt 0)) z98 hI97 (fr_sL rfl hFc81) (in_w 0 200 j81_1 rfl) (in_w 1 4 j81_2 rfl) (in_w 0 90 j81_3 rfl) (in_w 0 32 i98 rfl) (m_up mm81 (t_add e98 i87 (in_c 1 rfl) rfl) (in_w 1 1 (in_c 1 rfl) rfl))))
  refine g_enter2 (k := 409) (N := 12934306) (by first | exact dq1 hd rfl | exact dq0 hd rfl | exact dq2 hd rfl | exact dq3 hd rfl | omega) rfl (Nat.le_of_ble_eq_true rfl) ?_
  refine g_aload_n 1 (gd rfl) rfl rfl ?_
  refine g_iload_n 2 (gd rfl) rfl rfl ?_
  refine g_i2l 3 (gd rfl) rfl (fun z2 e2 => ?_)
  have i2 := l_i e2 (i_rng x1)
  refine g_lconst 0 4 (gd rfl) rfl rfl ?_
  refine g_ldc2_w 200 7 (gd rfl) rfl rfl ?_
  refine g_calls (As := [.long z2, .long (Int64.ofInt 0), .long (Int64.ofInt 200)]) (r := [.ref (A 109)]) 10 (gd rfl) rfl rfl rfl rfl rfl (Nat.le_of_ble_eq_true rfl) (mc := 0) (ms := 0) (Nat.zero_le _) (Nat.zero_le _) (P := fun v u => _) ?_ (fun v u h => h)
  intro po7 xx7 hp7 hx7
  refine g_enter2 (k := 269) (N := 300) (by first | exact dq1 hd rfl | exact dq0 hd rfl | exact dq2 hd rfl | exact dq3 hd rfl | omega) rfl (Nat.le_of_ble_eq_true rfl) ?_
  refine g_lload_n 1 (gd rfl) rfl rfl ?_
  refine g_lload_n 2 (gd rfl) rfl rfl ?_
  refine g_lcmp 3 (gd rfl) rfl (fun z7x2 e7x2 => ?_)
  have i7x2 := lc_in e7x2
  refine g_if_lt 6 17 (gd rfl) rfl rfl (fun c7x3 => ?_) (fun c7x3 => ?_)
  · skip
    have i7x3 := z_lt (-1) (-1) c7x3 i7x2 rfl
    have c7x3a := lc_lt e7x2 c7x3
    have i7x3a := lr_lt1 (-2147483648) (-1) c7x3a i2 (l_c 0 rfl) rfl
    have i7x3b := l_b e2 i7x3a
    refine g_iconst 0 18 (gd rfl) rfl rfl ?_
    refine g_ireturn (gd rfl) rfl (nb01 (in_w 0 1 (in_c 0 rfl) rfl)) (hp7 _ _ ?_)
    show GG _ _ _ _ _ _ _ _ [.int (Int32.ofInt 0), .ref (A 109)] _ _ _
    refine g_if_eq 13 41 (gd rfl) rfl rfl (fun c10 => ?_) (fun c10 => ?_)
    · skip
      refine g_iconst 0 42 (gd rfl) rfl rfl ?_
      refine g_callv (X := _) (As := [.int (Int32.ofInt 0)]) (r := []) (b := A 109) (q := 109) 45 (gd rfl) rfl rfl rfl rfl rfl (ww_o rfl) (Nat.le_of_ble_eq_true rfl) (mc := 0) (ms := 0) (Nat.zero_le _) (Nat.zero_le _) (P := fun v u => _) ?_ (fun e u h => h) (fun v u h => h)
      intro po42 xx42 hp42 hx42
      refine g_enter2 (k := 271) (N := 300) (by first | exact dq1 hd rfl | exact dq0 hd rfl | exact dq2 hd rfl | exact dq3 hd rfl | omega) rfl (Nat.le_of_ble_eq_true rfl) ?_
      refine g_aload_n 1 (gd rfl) rfl rfl ?_
      refine g_iload_n 2 (gd rfl) rfl rfl ?_
      refine g_iconst 1 3 (gd rfl) rfl rfl ?_
      refine g_callv (X := _) (As := [.int (Int32.ofInt 0), .int (Int32.ofInt 1)]) (r := []) (b := A 109) (q := 109) 6 (gd rfl) rfl rfl rfl rfl rfl (ww_o rfl) (Nat.le_of_ble_eq_true rfl) (mc := 0) (ms := 0) (Nat.zero_le _) (Nat.zero_le _) (P := fun v u => _) ?_ (fun e u h => h) (fun v u h => h)
      intro po42x3 xx42x3 hp42x3 hx42x3
      refine g_enter2 (k := 270) (N := 300) (by first | exact dq1 hd rfl | exact dq0 hd rfl | exact dq2 hd rfl | exact dq3 hd rfl | omega) rfl (Nat.le_of_ble_eq_true rfl) ?_
      refine g_aload_n 1 (gd rfl) rfl rfl ?_
      refine g_iload_n 2 (gd rfl) rfl rfl ?_
      refine g_if_ne 5 9 (gd rfl) rfl rfl (fun c42x3x2 => ?_) (fun c42x3x2 => ?_)
      · skip
        exact zn_ne c42x3x2 (in_c 0 rfl) rfl
      · skip
        refine g_iconst 1 6 (gd rfl) rfl rfl ?_
        refine g_goto 18 (gd rfl) rfl ?_
        refine g_putI 21 (gd rfl) rfl rfl rfl rfl ?_
        have hI42x3x18 := inv_sF (q := 109) (j := 0) hI rfl (in_w 0 2 (in_c 1 rfl) rfl)
        refine g_aload_n 22 (gd rfl) rfl rfl ?_
        refine g_getI 25 (gd rfl) rfl rfl rfl (fun z42x3x22 e42x3x22 => ?_)
        have q42x3x22 : (Int32.ofInt 1) = z42x3x22 := (sF_get).trans e42x3x22.symm
        subst q42x3x22
        refine g_if_le 28 32 (gd rfl) rfl rfl (fun c42x3x25 => ?_) (fun c42x3x25 => ?_)
        · skip
          exact zn_le c42x3x25 (in_c 1 rfl) rfl
        · skip
          refine g_iconst 1 29 (gd rfl) rfl rfl ?_
          refine g_goto 33 (gd rfl) rfl ?_
          refine g_ireturn (gd rfl) rfl (nb01 (in_w 0 1 (in_c 1 rfl) rfl)) (hp42x3 _ _ ?_)
          show GG _ _ _ _ _ _ _ _ [.int (Int32.ofInt 1)] _ _ _
          refine g_ireturn (gd rfl) rfl (nb01 (in_w 0 1 (in_c 1 rfl) rfl)) (hp42 _ _ ?_)
          show GG _ _ _ _ _ _ _ _ [.int (Int32.ofInt 1)] _ _ _
          refine g_if_eq 48 50 (gd rfl) rfl rfl (fun c45 => ?_) (fun c45 => ?_)
          · skip
            exact zn_eq c45 (in_c 1 rfl) rfl
          · skip
            refine g_iconst 0 49 (gd rfl) rfl rfl ?_
            exact g_ireturn (gd rfl) rfl rfl (hP _ _ ⟨(sF s 109 0 (Int32.ofInt 1)), hI42x3x18, (fr_sF rfl fr_rf), (Int32.ofInt 0), rfl, rfl, in_w 0 200 (in_c 0 rfl) rfl⟩)
    · skip
      exact zn_ne c10 (in_c 0 rfl) rfl
  · skip
    have i7x3 := z_ge 0 1 c7x3 i7x2 rfl
    have c7x3a := lc_ge e7x2 c7x3
    have i7x3a := lr_le2 0 2147483647 c7x3a (l_c 0 rfl) i2 rfl
    have i7x3b := l_b e2 i7x3a
    refine g_lload_n 7 (gd rfl) rfl rfl ?_
    refine g_lload 9 (gd rfl) rfl rfl ?_
    refine g_lcmp 10 (gd rfl) rfl (fun z7x9 e7x9 => ?_)
    have i7x9 := lc_in e7x9
    refine g_if_gt 13 17 (gd rfl) rfl rfl (fun c7x10 => ?_) (fun c7x10 => ?_)
    · skip
      have i7x10 := z_gt 1 1 c7x10 i7x9 rfl
      have c7x10a := lc_gt e7x9 c7x10
      have i7x10a := lr_lt2 201 2147483647 c7x10a (l_c 200 rfl) i7x3a rfl
      have i7x10b := l_b e2 i7x10a
      refine g_iconst 0 18 (gd rfl) rfl rfl ?_
      refine g_ireturn (gd rfl) rfl (nb01 (in_w 0 1 (in_c 0 rfl) rfl)) (hp7 _ _ ?_)
      show GG _ _ _ _ _ _ _ _ [.int (Int32.ofInt 0), .ref (A 109)] _ _ _
      refine g_if_eq 13 41 (gd rfl) rfl rfl (fun c10 => ?_) (fun c10 => ?_)
      · skip
        refine g_iconst 0 42 (gd rfl) rfl rfl ?_
        refine g_callv (X := _) (As := [.int (Int32.ofInt 0)]) (r := []) (b := A 109) (q := 109) 45 (gd rfl) rfl rfl rfl rfl rfl (ww_o rfl) (Nat.le_of_ble_eq_true rfl) (mc := 0) (ms := 0) (Nat.zero_le _) (Nat.zero_le _) (P := fun v u => _) ?_ (fun e u h => h) (fun v u h => h)
        intro po42 xx42 hp42 hx42
        refine g_enter2 (k := 271) (N := 300) (by first | exact dq1 hd rfl | exact dq0 hd rfl | exact dq2 hd rfl | exact dq3 hd rfl | omega) rfl (Nat.le_of_ble_eq_true rfl) ?_
        refine g_aload_n 1 (gd rfl) rfl rfl ?_
        refine g_iload_n 2 (gd rfl) rfl rfl ?_
        refine g_iconst 1 3 (gd rfl) rfl rfl ?_
        refine g_callv (X := _) (As := [.int (Int32.ofInt 0), .int (Int32.ofInt 1)]) (r := []) (b := A 109) (q := 109) 6 (gd rfl) rfl rfl rfl rfl rfl (ww_o rfl) (Nat.le_of_ble_eq_true rfl) (mc := 0) (ms := 0) (Nat.zero_le _) (Nat.zero_le _) (P := fun v u => _) ?_ (fun e u h => h) (fun v u h => h)
        intro po42x3 xx42x3 hp42x3 hx42x3
        refine g_enter2 (k := 270) (N := 300) (by first | exact dq1 hd rfl | exact dq0 hd rfl | exact dq2 hd rfl | exact dq3 hd rfl | omega) rfl (Nat.le_of_ble_eq_true rfl) ?_
        refine g_aload_n 1 (gd rfl) rfl rfl ?_
        refine g_iload_n 2 (gd rfl) rfl rfl ?_
        refine g_if_ne 5 9 (gd rfl) rfl rfl (fun c42x3x2 => ?_) (fun c42x3x2 => ?_)
        · skip
          exact zn_ne c42x3x2 (in_c 0 rfl) rfl
        · skip
          refine g_iconst 1 6 (gd rfl) rfl rfl ?_
          refine g_goto 18 (gd rfl) rfl ?_
          refine g_putI 21 (gd rfl) rfl rfl rfl rfl ?_
          have hI42x3x18 := inv_sF (q := 109) (j := 0) hI rfl (in_w 0 2 (in_c 1 rfl) rfl)
          refine g_aload_n 22 (gd rfl) rfl rfl ?_
          refine g_getI 25 (gd rfl) rfl rfl rfl (fun z42x3x22 e42x3x22 => ?_)
          have q42x3x22 : (Int32.ofInt 1) = z42x3x22 := (sF_get).trans e42x3x22.symm
          subst q42x3x22
          refine g_if_le 28 32 (gd rfl) rfl rfl (fun c42x3x25 => ?_) (fun c42x3x25 => ?_)
          · skip
            exact zn_le c42x3x25 (in_c 1 rfl) rfl
          · skip
            refine g_iconst 1 29 (gd rfl) rfl rfl ?_
            refine g_goto 33 (gd rfl) rfl ?_
            refine g_ireturn (gd rfl) rfl (nb01 (in_w 0 1 (in_c 1 rfl) rfl)) (hp42x3 _ _ ?_)
            show GG _ _ _ _ _ _ _ _ [.int (Int32.ofInt 1)] _ _ _
            refine g_ireturn (gd rfl) rfl (nb01 (in_w 0 1 (in_c 1 rfl) rfl)) (hp42 _ _ ?_)
            show GG _ _ _ _ _ _ _ _ [.int (Int32.ofInt 1)] _ _ _
            refine g_if_eq 48 50 (gd rfl) rfl rfl (fun c45 => ?_) (fun c45 => ?_)
            · skip
              exact zn_eq c45 (in_c 1 rfl) rfl
            · skip
              refine g_iconst 0 49 (gd rfl) rfl rfl ?_
              exact g_ireturn (gd rfl) rfl rfl (hP _ _ ⟨(sF s 109 0 (Int32.ofInt 1)), hI42x3x18, (fr_sF rfl fr_rf), (Int32.ofInt 0), rfl, rfl, in_w 0 200 (in_c 0 rfl) rfl⟩)
      · skip
        exact zn_ne c10 (in_c 0 rfl) rfl
    · skip
      have i7x10 := z_le (-1) 0 c7x10 i7x9 rfl
      have c7x10a := lc_le e7x9 c7x10
      have i7x10a := lr_le1 0 200 c7x10a i7x3a (l_c 200 rfl) rfl
      have i7x10b := l_b e2 i7x10a
      refine g_iconst 1 14 (gd rfl) rfl rfl ?_
      refine g_goto 18 (gd rfl) rfl ?_
      refine g_ireturn (gd rfl) rfl (nb01 (in_w 0 1 (in_c 1 rfl) rfl)) (hp7 _ _ ?_)
      show GG _ _ _ _ _ _ _ _ [.int (Int32.ofInt 1), .ref (A 109)] _ _ _
      refine g_if_eq 13 41 (gd rfl) rfl rfl (fun c10 => ?_) (fun c10 => ?_)
      · skip
        exact zn_eq c10 (in_c 1 rfl) rfl
      · skip
        refine g_iload_n 14 (gd rfl) rfl rfl ?_
        refine g_i2l 15 (gd rfl) rfl (fun z14 e14 => ?_)
        have i14 := l_i e14 (i_rng x2)
        refine g_lconst 1 16 (gd rfl) rfl rfl ?_
        refine g_ldc2_w 4 19 (gd rfl) rfl rfl ?_
        refine g_calls (As := [.long z14, .long (Int64.ofInt 1), .long (Int64.ofInt 4)]) (r := [.ref (A 109)]) 22 (gd rfl) rfl rfl rfl rfl rfl (Nat.le_of_ble_eq_true rfl) (mc := 0) (ms := 0) (Nat.zero_le _) (Nat.zero_le _) (P := fun v u => _) ?_ (fun v u h => h)
        intro po19 xx19 hp19 hx19
        refine g_enter2 (k := 269) (N := 300) (by first | exact dq1 hd rfl | exact dq0 hd rfl | exact dq2 hd rfl | exact dq3 hd rfl | omega) rfl (Nat.le_of_ble_eq_true rfl) ?_
        refine g_lload_n 1 (gd rfl) rfl rfl ?_
        refine g_lload_n 2 (gd rfl) rfl rfl ?_
        refine g_lcmp 3 (gd rfl) rfl (fun z19x2 e19x2 => ?_)
        have i19x2 := lc_in e19x2
        refine g_if_lt 6 17 (gd rfl) rfl rfl (fun c19x3 => ?_) (fun c19x3 => ?_)
        · skip
          have i19x3 := z_lt (-1) (-1) c19x3 i19x2 rfl
          have c19x3a := lc_lt e19x2 c19x3
          have i19x3a := lr_lt1 (-2147483648) 0 c19x3a i14 (l_c 1 rfl) rfl
          have i19x3b := l_b e14 i19x3a
          refine g_iconst 0 18 (gd rfl) rfl rfl ?_
          refine g_ireturn (gd rfl) rfl (nb01 (in_w 0 1 (in_c 0 rfl) rfl)) (hp19 _ _ ?_)
          show GG _ _ _ _ _ _ _ _ [.int (Int32.ofInt 0), .ref (A 109)] _ _ _
          refine g_if_eq 25 41 (gd rfl) rfl rfl (fun c22 => ?_) (fun c22 => ?_)
          · skip
            refine g_iconst 0 42 (gd rfl) rfl rfl ?_
            refine g_callv (X := _) (As := [.int (Int32.ofInt 0)]) (r := []) (b := A 109) (q := 109) 45 (gd rfl) rfl rfl rfl rfl rfl (ww_o rfl) (Nat.le_of_ble_eq_true rfl) (mc := 0) (ms := 0) (Nat.zero_le _) (Nat.zero_le _) (P := fun v u => _) ?_ (fun e u h => h) (fun v u h => h)
            intro po42 xx42 hp42 hx42
            refine g_enter2 (k := 271) (N := 300) (by first | exact dq1 hd rfl | exact dq0 hd rfl | exact dq2 hd rfl | exact dq3 hd rfl | omega) rfl (Nat.le_of_ble_eq_true rfl) ?_
            refine g_aload_n 1 (gd rfl) rfl rfl ?_
            refine g_iload_n 2 (gd rfl) rfl rfl ?_
            refine g_iconst 1 3 (gd rfl) rfl rfl ?_
            refine g_callv (X := _) (As := [.int (Int32.ofInt 0), .int (Int32.ofInt 1)]) (r := []) (b := A 109) (q := 109) 6 (gd rfl) rfl rfl rfl rfl rfl (ww_o rfl) (Nat.le_of_ble_eq_true rfl) (mc := 0) (ms := 0) (Nat.zero_le _) (Nat.zero_le _) (P := fun v u => _) ?_ (fun e u h => h) (fun v u h => h)
            intro po42x3 xx42x3 hp42x3 hx42x3
            refine g_enter2 (k := 270) (N := 300) (by first | exact dq1 hd rfl | exact dq0 hd rfl | exact dq2 hd rfl | exact dq3 hd rfl | omega) rfl (Nat.le_of_ble_eq_true rfl) ?_
            refine g_aload_n 1 (gd rfl) rfl rfl ?_
            refine g_iload_n 2 (gd rfl) rfl rfl ?_
            refine g_if_ne 5 9 (gd rfl) rfl rfl (fun c42x3x2 => ?_) (fun c42x3x2 => ?_)
            · skip
              exact zn_ne c42x3x2 (in_c 0 rfl) rfl
            · skip
              refine g_iconst 1 6 (gd rfl) rfl rfl ?_
              refine g_goto 18 (gd rfl) rfl ?_
              refine g_putI 21 (gd rfl) rfl rfl rfl rfl ?_
              have hI42x3x18 := inv_sF (q := 109) (j := 0) hI rfl (in_w 0 2 (in_c 1 rfl) rfl)
              refine g_aload_n 22 (gd rfl) rfl rfl ?_
              refine g_getI 25 (gd rfl) rfl rfl rfl (fun z42x3x22 e42x3x22 => ?_)
              have q42x3x22 : (Int32.ofInt 1) = z42x3x22 := (sF_get).trans e42x3x22.symm
              subst q42x3x22
              refine g_if_le 28 32 (gd rfl) rfl rfl (fun c42x3x25 => ?_) (fun c42x3x25 => ?_)
              · skip
                exact zn_le c42x3x25 (in_c 1 rfl) rfl
              · skip
                refine g_iconst 1 29 (gd rfl) rfl rfl ?_
                refine g_goto 33 (gd rfl) rfl ?_
                refine g_ireturn (gd rfl) rfl (nb01 (in_w 0 1 (in_c 1 rfl) rfl)) (hp42x3 _ _ ?_)
                show GG _ _ _ _ _ _ _ _ [.int (Int32.ofInt 1)] _ _ _
                refine g_ireturn (gd rfl) rfl (nb01 (in_w 0 1 (in_c 1 rfl) rfl)) (hp42 _ _ ?_)
                show GG _ _ _ _ _ _ _ _ [.int (Int32.ofInt 1)] _ _ _
                refine g_if_eq 48 50 (gd rfl) rfl rfl (fun c45 => ?_) (fun c45 => ?_)
                · skip
                  exact zn_eq c45 (in_c 1 rfl) rfl
                · skip
                  refine g_iconst 0 49 (gd rfl) rfl rfl ?_
                  exact g_ireturn (gd rfl) rfl rfl (hP _ _ ⟨(sF s 109 0 (Int32.ofInt 1)), hI42x3x18, (fr_sF rfl fr_rf), (Int32.ofInt 0), rfl, rfl, in_w 0 200 (in_c 0 rfl) rfl⟩)
          · skip
            exact zn_ne c22 (in_c 0 rfl) rfl
        · skip
          have i19x3 := z_ge 0 1 c19x3 i19x2 rfl
          have c19x3a := lc_ge e19x2 c19x3
          have i19x3a := lr_le2 1 2147483647 c19x3a (l_c 1 rfl) i14 rfl
          have i19x3b := l_b e14 i19x3a
          refine g_lload_n 7 (gd rfl) rfl rfl ?_
          refine g_lload 9 (gd rfl) rfl rfl ?_
          refine g_lcmp 10 (gd rfl) rfl (fun z19x9 e19x9 => ?_)
          have i19x9 := lc_in e19x9
          refine g_if_gt 13 17 (gd rfl) rfl rfl (fun c19x10 => ?_) (fun c19x10 => ?_)
          · skip
            have i19x10 := z_gt 1 1 c19x10 i19x9 rfl
            have c19x10a := lc_gt e19x9 c19x10
            have i19x10a := lr_lt2 5 2147483647 c19x10a (l_c 4 rfl) i19x3a rfl
            have i19x10b := l_b e14 i19x10a
            refine g_iconst 0 18 (gd rfl) rfl rfl ?_
            refine g_ireturn (gd rfl) rfl (nb01 (in_w 0 1 (in_c 0 rfl) rfl)) (hp19 _ _ ?_)
            show GG _ _ _ _ _ _ _ _ [.int (Int32.ofInt 0), .ref (A 109)] _ _ _
            refine g_if_eq 25 41 (gd rfl) rfl rfl (fun c22 => ?_) (fun c22 => ?_)
            · skip
              refine g_iconst 0 42 (gd rfl) rfl rfl ?_
              refine g_callv (X := _) (As := [.int (Int32.ofInt 0)]) (r := []) (b := A 109) (q := 109) 45 (gd rfl) rfl rfl rfl rfl rfl (ww_o rfl) (Nat.le_of_ble_eq_true rfl) (mc := 0) (ms := 0) (Nat.zero_le _) (Nat.zero_le _) (P := fun v u => _) ?_ (fun e u h => h) (fun v u h => h)
              intro po42 xx42 hp42 hx42
              refine g_enter2 (k := 271) (N := 300) (by first | exact dq1 hd rfl | exact dq0 hd rfl | exact dq2 hd rfl | exact dq3 hd rfl | omega) rfl (Nat.le_of_ble_eq_true rfl) ?_
              refine g_aload_n 1 (gd rfl) rfl rfl ?_
              refine g_iload_n 2 (gd rfl) rfl rfl ?_
              refine g_iconst 1 3 (gd rfl) rfl rfl ?_
              refine g_callv (X := _) (As := [.int (Int32.ofInt 0), .int (Int32.ofInt 1)]) (r := []) (b := A 109) (q := 109) 6 (gd rfl) rfl rfl rfl rfl rfl (ww_o rfl) (Nat.le_of_ble_eq_true rfl) (mc := 0) (ms := 0) (Nat.zero_le _) (Nat.zero_le _) (P := fun v u => _) ?_ (fun e u h => h) (fun v u h => h)
              intro po42x3 xx42x3 hp42x3 hx42x3
              refine g_enter2 (k := 270) (N := 300) (by first | exact dq1 hd rfl | exact dq0 hd rfl | exact dq2 hd rfl | exact dq3 hd rfl | omega) rfl (Nat.le_of_ble_eq_true rfl) ?_
              refine g_aload_n 1 (gd rfl) rfl rfl ?_
              refine g_iload_n 2 (gd rfl) rfl rfl ?_
              refine g_if_ne 5 9 (gd rfl) rfl rfl (fun c42x3x2 => ?_) (fun c42x3x2 => ?_)
              · skip
                exact zn_ne c42x3x2 (in_c 0 rfl) rfl
              · skip
                refine g_iconst 1 6 (gd rfl) rfl rfl ?_
                refine g_goto 18 (gd rfl) rfl ?_
                refine g_putI 21 (gd rfl) rfl rfl rfl rfl ?_
                have hI42x3x18 := inv_sF (q := 109) (j := 0) hI rfl (in_w 0 2 (in_c 1 rfl) rfl)
                refine g_aload_n 22 (gd rfl) rfl rfl ?_
                refine g_getI 25 (gd rfl) rfl rfl rfl (fun z42x3x22 e42x3x22 => ?_)
                have q42x3x22 : (Int32.ofInt 1) = z42x3x22 := (sF_get).trans e42x3x22.symm
                subst q42x3x22
                refine g_if_le 28 32 (gd rfl) rfl rfl (fun c42x3x25 => ?_) (fun c42x3x25 => ?_)
                · skip
                  exact zn_le c42x3x25 (in_c 1 rfl) rfl
                · skip
                  refine g_iconst 1 29 (gd rfl) rfl rfl ?_
                  refine g_goto 33 (gd rfl) rfl ?_
                  refine g_ireturn (gd rfl) rfl (nb01 (in_w 0 1 (in_c 1 rfl) rfl)) (hp42x3 _ _ ?_)
                  show GG _ _ _ _ _ _ _ _ [.int (Int32.ofInt 1)] _ _ _
                  refine g_ireturn (gd rfl) rfl (nb01 (in_w 0 1 (in_c 1 rfl) rfl)) (hp42 _ _ ?_)
                  show GG _ _ _ _ _ _ _ _ [.int (Int32.ofInt 1)] _ _ _
                  refine g_if_eq 48 50 (gd rfl) rfl rfl (fun c45 => ?_) (fun c45 => ?_)
                  · skip
                    exact zn_eq c45 (in_c 1 rfl) rfl
                  · skip
                    refine g_iconst 0 49 (gd rfl) rfl rfl ?_
                    exact g_ireturn (gd rfl) rfl rfl (hP _ _ ⟨(sF s 109 0 (Int32.ofInt 1)), hI42x3x18, (fr_sF rfl fr_rf), (Int32.ofInt 0), rfl, rfl, in_w 0 200 (in_c 0 rfl) rfl⟩)
            · skip
              exact zn_ne c22 (in_c 0 rfl) rfl
          · skip
            have i19x10 := z_le (-1) 0 c19x10 i19x9 rfl
            have c19x10a := lc_le e19x9 c19x10
            have i19x10a := lr_le1 1 4 c19x10a i19x3a (l_c 4 rfl) rfl
            have i19x10b := l_b e14 i19x10a
            refine g_iconst 1 14 (gd rfl) rfl rfl ?_
            refine g_goto 18 (gd rfl) rfl ?_
            refine g_ireturn (gd rfl) rfl (nb01 (in_w 0 1 (in_c 1 rfl) rfl)) (hp19 _ _ ?_)
            show GG _ _ _ _ _ _ _ _ [.int (Int32.ofInt 1), .ref (A 109)] _ _ _
            refine g_if_eq 25 41 (gd rfl) rfl rfl (fun c22 => ?_) (fun c22 => ?_)
            · skip
              exact zn_eq c22 (in_c 1 rfl) rfl
            · skip
              refine g_iload_n 26 (gd rfl) rfl rfl ?_
              refine g_i2l 27 (gd rfl) rfl (fun z26 e26 => ?_)
              have i26 := l_i e26 (i_rng x3)
              refine g_lconst 0 28 (gd rfl) rfl rfl ?_
              refine g_ldc2_w 90 31 (gd rfl) rfl rfl ?_
              refine g_calls (As := [.long z26, .long (Int64.ofInt 0), .long (Int64.ofInt 90)]) (r := [.ref (A 109)]) 34 (gd rfl) rfl rfl rfl rfl rfl (Nat.le_of_ble_eq_true rfl) (mc := 0) (ms := 0) (Nat.zero_le _) (Nat.zero_le _) (P := fun v u => _) ?_ (fun v u h => h)
              intro po31 xx31 hp31 hx31
              refine g_enter2 (k := 269) (N := 300) (by first | exact dq1 hd rfl | exact dq0 hd rfl | exact dq2 hd rfl | exact dq3 hd rfl | omega) rfl (Nat.le_of_ble_eq_true rfl) ?_
              refine g_lload_n 1 (gd rfl) rfl rfl ?_
              refine g_lload_n 2 (gd rfl) rfl rfl ?_
              refine g_lcmp 3 (gd rfl) rfl (fun z31x2 e31x2 => ?_)
              have i31x2 := lc_in e31x2
              refine g_if_lt 6 17 (gd rfl) rfl rfl (fun c31x3 => ?_) (fun c31x3 => ?_)
              · skip
                have i31x3 := z_lt (-1) (-1) c31x3 i31x2 rfl
                have c31x3a := lc_lt e31x2 c31x3
                have i31x3a := lr_lt1 (-2147483648) (-1) c31x3a i26 (l_c 0 rfl) rfl
                have i31x3b := l_b e26 i31x3a
                refine g_iconst 0 18 (gd rfl) rfl rfl ?_
                refine g_ireturn (gd rfl) rfl (nb01 (in_w 0 1 (in_c 0 rfl) rfl)) (hp31 _ _ ?_)
                show GG _ _ _ _ _ _ _ _ [.int (Int32.ofInt 0), .ref (A 109)] _ _ _
                refine g_if_eq 37 41 (gd rfl) rfl rfl (fun c34 => ?_) (fun c34 => ?_)
                · skip
                  refine g_iconst 0 42 (gd rfl) rfl rfl ?_
                  refine g_callv (X := _) (As := [.int (Int32.ofInt 0)]) (r := []) (b := A 109) (q := 109) 45 (gd rfl) rfl rfl rfl rfl rfl (ww_o rfl) (Nat.le_of_ble_eq_true rfl) (mc := 0) (ms := 0) (Nat.zero_le _) (Nat.zero_le _) (P := fun v u => _) ?_ (fun e u h => h) (fun v u h => h)
                  intro po42 xx42 hp42 hx42
                  refine g_enter2 (k := 271) (N := 300) (by first | exact dq1 hd rfl | exact dq0 hd rfl | exact dq2 hd rfl | exact dq3 hd rfl | omega) rfl (Nat.le_of_ble_eq_true rfl) ?_
                  refine g_aload_n 1 (gd rfl) rfl rfl ?_
                  refine g_iload_n 2 (gd rfl) rfl rfl ?_
                  refine g_iconst 1 3 (gd rfl) rfl rfl ?_
                  refine g_callv (X := _) (As := [.int (Int32.ofInt 0), .int (Int32.ofInt 1)]) (r := []) (b := A 109) (q := 109) 6 (gd rfl) rfl rfl rfl rfl rfl (ww_o rfl) (Nat.le_of_ble_eq_true rfl) (mc := 0) (ms := 0) (Nat.zero_le _) (Nat.zero_le _) (P := fun v u => _) ?_ (fun e u h => h) (fun v u h => h)
                  intro po42x3 xx42x3 hp42x3 hx42x3
                  refine g_enter2 (k := 270) (N := 300) (by first | exact dq1 hd rfl | exact dq0 hd rfl | exact dq2 hd rfl | exact dq3 hd rfl | omega) rfl (Nat.le_of_ble_eq_true rfl) ?_
                  refine g_aload_n 1 (gd rfl) rfl rfl ?_
                  refine g_iload_n 2 (gd rfl) rfl rfl ?_
                  refine g_if_ne 5 9 (gd rfl) rfl rfl (fun c42x3x2 => ?_) (fun c42x3x2 => ?_)
                  · skip
                    exact zn_ne c42x3x2 (in_c 0 rfl) rfl
                  · skip
                    refine g_iconst 1 6 (gd rfl) rfl rfl ?_
                    refine g_goto 18 (gd rfl) rfl ?_
                    refine g_putI 21 (gd rfl) rfl rfl rfl rfl ?_
                    have hI42x3x18 := inv_sF (q := 109) (j := 0) hI rfl (in_w 0 2 (in_c 1 rfl) rfl)
                    refine g_aload_n 22 (gd rfl) rfl rfl ?_
                    refine g_getI 25 (gd rfl) rfl rfl rfl (fun z42x3x22 e42x3x22 => ?_)
                    have q42x3x22 : (Int32.ofInt 1) = z42x3x22 := (sF_get).trans e42x3x22.symm
                    subst q42x3x22
                    refine g_if_le 28 32 (gd rfl) rfl rfl (fun c42x3x25 => ?_) (fun c42x3x25 => ?_)
                    · skip
                      exact zn_le c42x3x25 (in_c 1 rfl) rfl
                    · skip
                      refine g_iconst 1 29 (gd rfl) rfl rfl ?_
                      refine g_goto 33 (gd rfl) rfl ?_
                      refine g_ireturn (gd rfl) rfl (nb01 (in_w 0 1 (in_c 1 rfl) rfl)) (hp42x3 _ _ ?_)
                      show GG _ _ _ _ _ _ _ _ [.int (Int32.ofInt 1)] _ _ _
                      refine g_ireturn (gd rfl) rfl (nb01 (in_w 0 1 (in_c 1 rfl) rfl)) (hp42 _ _ ?_)
                      show GG _ _ _ _ _ _ _ _ [.int (Int32.ofInt 1)] _ _ _
                      refine g_if_eq 48 50 (gd rfl) rfl rfl (fun c45 => ?_) (fun c45 => ?_)
                      · skip
                        exact zn_eq c45 (in_c 1 rfl) rfl
                      · skip
                        refine g_iconst 0 49 (gd rfl) rfl rfl ?_
                        exact g_ireturn (gd rfl) rfl rfl (hP _ _ ⟨(sF s 109 0 (Int32.ofInt 1)), hI42x3x18, (fr_sF rfl fr_rf), (Int32.ofInt 0), rfl, rfl, in_w 0 200 (in_c 0 rfl) rfl⟩)
                · skip
                  exact zn_ne c34 (in_c 0 rfl) rfl
              · skip
                have i31x3 := z_ge 0 1 c31x3 i31x2 rfl
                have c31x3a := lc_ge e31x2 c31x3
                have i31x3a := lr_le2 0 2147483647 c31x3a (l_c 0 rfl) i26 rfl
                have i31x3b := l_b e26 i31x3a
                refine g_lload_n 7 (gd rfl) rfl rfl ?_
                refine g_lload 9 (gd rfl) rfl rfl ?_
                refine g_lcmp 10 (gd rfl) rfl (fun z31x9 e31x9 => ?_)
                have i31x9 := lc_in e31x9
                refine g_if_gt 13 17 (gd rfl) rfl rfl (fun c31x10 => ?_) (fun c31x10 => ?_)
                · skip
                  have i31x10 := z_gt 1 1 c31x10 i31x9 rfl
                  have c31x10a := lc_gt e31x9 c31x10
                  have i31x10a := lr_lt2 91 2147483647 c31x10a (l_c 90 rfl) i31x3a rfl
                  have i31x10b := l_b e26 i31x10a
                  refine g_iconst 0 18 (gd rfl) rfl rfl ?_
                  refine g_ireturn (gd rfl) rfl (nb01 (in_w 0 1 (in_c 0 rfl) rfl)) (hp31 _ _ ?_)
                  show GG _ _ _ _ _ _ _ _ [.int (Int32.ofInt 0), .ref (A 109)] _ _ _
                  refine g_if_eq 37 41 (gd rfl) rfl rfl (fun c34 => ?_) (fun c34 => ?_)
                  · skip
                    refine g_iconst 0 42 (gd rfl) rfl rfl ?_
                    refine g_callv (X := _) (As := [.int (Int32.ofInt 0)]) (r := []) (b := A 109) (q := 109) 45 (gd rfl) rfl rfl rfl rfl rfl (ww_o rfl) (Nat.le_of_ble_eq_true rfl) (mc := 0) (ms := 0) (Nat.zero_le _) (Nat.zero_le _) (P := fun v u => _) ?_ (fun e u h => h) (fun v u h => h)
                    intro po42 xx42 hp42 hx42
                    refine g_enter2 (k := 271) (N := 300) (by first | exact dq1 hd rfl | exact dq0 hd rfl | exact dq2 hd rfl | exact dq3 hd rfl | omega) rfl (Nat.le_of_ble_eq_true rfl) ?_
                    refine g_aload_n 1 (gd rfl) rfl rfl ?_
                    refine g_iload_n 2 (gd rfl) rfl rfl ?_
                    refine g_iconst 1 3 (gd rfl) rfl rfl ?_
                    refine g_callv (X := _) (As := [.int (Int32.ofInt 0), .int (Int32.ofInt 1)]) (r := []) (b := A 109) (q := 109) 6 (gd rfl) rfl rfl rfl rfl rfl (ww_o rfl) (Nat.le_of_ble_eq_true rfl) (mc := 0) (ms := 0) (Nat.zero_le _) (Nat.zero_le _) (P := fun v u => _) ?_ (fun e u h => h) (fun v u h => h)
                    intro po42x3 xx42x3 hp42x3 hx42x3
                    refine g_enter2 (k := 270) (N := 300) (by first | exact dq1 hd rfl | exact dq0 hd rfl | exact dq2 hd rfl | exact dq3 hd rfl | omega) rfl (Nat.le_of_ble_eq_true rfl) ?_
                    refine g_aload_n 1 (gd rfl) rfl rfl ?_
                    refine g_iload_n 2 (gd rfl) rfl rfl ?_
                    refine g_if_ne 5 9 (gd rfl) rfl rfl (fun c42x3x2 => ?_) (fun c42x3x2 => ?_)
                    · skip
                      exact zn_ne c42x3x2 (in_c 0 rfl) rfl
                    · skip
                      refine g_iconst 1 6 (gd rfl) rfl rfl ?_
                      refine g_goto 18 (gd rfl) rfl ?_
                      refine g_putI 21 (gd rfl) rfl rfl rfl rfl ?_
                      have hI42x3x18 := inv_sF (q := 109) (j := 0) hI rfl (in_w 0 2 (in_c 1 rfl) rfl)
                      refine g_aload_n 22 (gd rfl) rfl rfl ?_
                      refine g_getI 25 (gd rfl) rfl rfl rfl (fun z42x3x22 e42x3x22 => ?_)
                      have q42x3x22 : (Int32.ofInt 1) = z42x3x22 := (sF_get).trans e42x3x22.symm
                      subst q42x3x22
                      refine g_if_le 28 32 (gd rfl) rfl rfl (fun c42x3x25 => ?_) (fun c42x3x25 => ?_)
                      · skip
                        exact zn_le c42x3x25 (in_c 1 rfl) rfl
                      · skip
                        refine g_iconst 1 29 (gd rfl) rfl rfl ?_
                        refine g_goto 33 (gd rfl) rfl ?_
                        refine g_ireturn (gd rfl) rfl (nb01 (in_w 0 1 (in_c 1 rfl) rfl)) (hp42x3 _ _ ?_)
                        show GG _ _ _ _ _ _ _ _ [.int (Int32.ofInt 1)] _ _ _
                        refine g_ireturn (gd rfl) rfl (nb01 (in_w 0 1 (in_c 1 rfl) rfl)) (hp42 _ _ ?_)
                        show GG _ _ _ _ _ _ _ _ [.int (Int32.ofInt 1)] _ _ _
                        refine g_if_eq 48 50 (gd rfl) rfl rfl (fun c45 => ?_) (fun c45 => ?_)
                        · skip
                          exact zn_eq c45 (in_c 1 rfl) rfl
                        · skip
                          refine g_iconst 0 49 (gd rfl) rfl rfl ?_
                          exact g_ireturn (gd rfl) rfl rfl (hP _ _ ⟨(sF s 109 0 (Int32.ofInt 1)), hI42x3x18, (fr_sF rfl fr_rf), (Int32.ofInt 0), rfl, rfl, in_w 0 200 (in_c 0 rfl) rfl⟩)
                  · skip
                    exact zn_ne c34 (in_c 0 rfl) rfl
                · skip
                  have i31x10 := z_le (-1) 0 c31x10 i31x9 rfl
                  have c31x10a := lc_le e31x9 c31x10
                  have i31x10a := lr_le1 0 90 c31x10a i31x3a (l_c 90 rfl) rfl
                  have i31x10b := l_b e26 i31x10a
                  refine g_iconst 1 14 (gd rfl) rfl rfl ?_
                  refine g_goto 18 (gd rfl) rfl ?_
                  refine g_ireturn (gd rfl) rfl (nb01 (in_w 0 1 (in_c 1 rfl) rfl)) (hp31 _ _ ?_)
                  show GG _ _ _ _ _ _ _ _ [.int (Int32.ofInt 1), .ref (A 109)] _ _ _
                  refine g_if_eq 37 41 (gd rfl) rfl rfl (fun c34 => ?_) (fun c34 => ?_)
                  · skip
                    exact zn_eq c34 (in_c 1 rfl) rfl
                  · skip
                    refine g_iconst 1 38 (gd rfl) rfl rfl ?_
                    refine g_goto 42 (gd rfl) rfl ?_
                    refine g_callv (X := _) (As := [.int (Int32.ofInt 1)]) (r := []) (b := A 109) (q := 109) 45 (gd rfl) rfl rfl rfl rfl rfl (ww_o rfl) (Nat.le_of_ble_eq_true rfl) (mc := 0) (ms := 0) (Nat.zero_le _) (Nat.zero_le _) (P := fun v u => _) ?_ (fun e u h => h) (fun v u h => h)
                    intro po42 xx42 hp42 hx42
                    refine g_enter2 (k := 271) (N := 300) (by first | exact dq1 hd rfl | exact dq0 hd rfl | exact dq2 hd rfl | exact dq3 hd rfl | omega) rfl (Nat.le_of_ble_eq_true rfl) ?_
                    refine g_aload_n 1 (gd rfl) rfl rfl ?_
                    refine g_iload_n 2 (gd rfl) rfl rfl ?_
                    refine g_iconst 1 3 (gd rfl) rfl rfl ?_
                    refine g_callv (X := _) (As := [.int (Int32.ofInt 1), .int (Int32.ofInt 1)]) (r := []) (b := A 109) (q := 109) 6 (gd rfl) rfl rfl rfl rfl rfl (ww_o rfl) (Nat.le_of_ble_eq_true rfl) (mc := 0) (ms := 0) (Nat.zero_le _) (Nat.zero_le _) (P := fun v u => _) ?_ (fun e u h => h) (fun v u h => h)
                    intro po42x3 xx42x3 hp42x3 hx42x3
                    refine g_enter2 (k := 270) (N := 300) (by first | exact dq1 hd rfl | exact dq0 hd rfl | exact dq2 hd rfl | exact dq3 hd rfl | omega) rfl (Nat.le_of_ble_eq_true rfl) ?_
                    refine g_aload_n 1 (gd rfl) rfl rfl ?_
                    refine g_iload_n 2 (gd rfl) rfl rfl ?_
                    refine g_if_ne 5 9 (gd rfl) rfl rfl (fun c42x3x2 => ?_) (fun c42x3x2 => ?_)
                    · skip
                      refine g_iload_n 10 (gd rfl) rfl rfl ?_
                      refine g_if_ne 13 17 (gd rfl) rfl rfl (fun c42x3x10 => ?_) (fun c42x3x10 => ?_)
                      · skip
                        refine g_iconst 0 18 (gd rfl) rfl rfl ?_
                        refine g_putI 21 (gd rfl) rfl rfl rfl rfl ?_
                        have hI42x3x18 := inv_sF (q := 109) (j := 0) hI rfl (in_w 0 2 (in_c 0 rfl) rfl)
                        refine g_aload_n 22 (gd rfl) rfl rfl ?_
                        refine g_getI 25 (gd rfl) rfl rfl rfl (fun z42x3x22 e42x3x22 => ?_)
                        have q42x3x22 : (Int32.ofInt 0) = z42x3x22 := (sF_get).trans e42x3x22.symm
                        subst q42x3x22
                        refine g_if_le 28 32 (gd rfl) rfl rfl (fun c42x3x25 => ?_) (fun c42x3x25 => ?_)
                        · skip
                          refine g_iconst 0 33 (gd rfl) rfl rfl ?_
                          refine g_ireturn (gd rfl) rfl (nb01 (in_w 0 1 (in_c 0 rfl) rfl)) (hp42x3 _ _ ?_)
                          show GG _ _ _ _ _ _ _ _ [.int (Int32.ofInt 0)] _ _ _
                          refine g_ireturn (gd rfl) rfl (nb01 (in_w 0 1 (in_c 0 rfl) rfl)) (hp42 _ _ ?_)
                          show GG _ _ _ _ _ _ _ _ [.int (Int32.ofInt 0)] _ _ _
                          refine g_if_eq 48 50 (gd rfl) rfl rfl (fun c45 => ?_) (fun c45 => ?_)
                          · skip
                            refine g_aload_n 51 (gd rfl) rfl rfl ?_
                            refine g_aload_n 52 (gd rfl) rfl rfl ?_
                            refine g_getI 55 (gd rfl) rfl rfl rfl (fun z52 e52 => ?_)
                            have q52 : u_109_20 = z52 := (sF_ne rfl (e_109_20)).trans e52.symm
                            subst q52
                            refine g_putI 58 (gd rfl) rfl rfl rfl rfl ?_
                            have hI55 := inv_sF (q := 109) (j := 113) hI42x3x18 rfl (in_w 0 32 ro_109_20 rfl)
                            refine g_aload_n 59 (gd rfl) rfl rfl ?_
                            refine g_iconst 0 60 (gd rfl) rfl rfl ?_
                            refine g_putI 63 (gd rfl) rfl rfl rfl rfl ?_
                            have hI60 := inv_sF (q := 109) (j := 116) hI55 rfl (in_w (-2147483648) 2147483647 (in_c 0 rfl) rfl)
                            refine g_aload_n 64 (gd rfl) rfl rfl ?_
                            refine g_iconst 0 65 (gd rfl) rfl rfl ?_
                            refine g_putI 68 (gd rfl) rfl rfl rfl rfl ?_
                            have hI65 := inv_sF (q := 109) (j := 117) hI60 rfl (in_w (-2147483648) 2147483647 (in_c 0 rfl) rfl)
                            refine g_aload_n 69 (gd rfl) rfl rfl ?_
                            refine g_iconst 0 70 (gd rfl) rfl rfl ?_
                            refine g_putI 73 (gd rfl) rfl rfl rfl rfl ?_
                            have hI70 := inv_sF (q := 109) (j := 118) hI65 rfl (in_w (-2147483648) 2147483647 (in_c 0 rfl) rfl)
                            refine g_aload_n 74 (gd rfl) rfl rfl ?_
                            refine g_lconst 0 75 (gd rfl) rfl rfl ?_
                            refine g_putL 78 (gd rfl) rfl rfl rfl rfl ?_
                            have hI75 := inv_sG (q := 109) (j := 121) (x := (Int64.ofInt 0)) hI70 rfl (l_rng (Int64.ofInt 0))
                            refine g_iconst 0 79 (gd rfl) rfl rfl ?_
                            refine g_istore 81 (gd rfl) rfl (Nat.le_of_ble_eq_true rfl) ?_
                            exact gg_w (by first | exact Nat.le_of_ble_eq_true rfl | omega) (gg_f (gf_cons rfl (gf_cons rfl (gf_cons rfl (gf_cons rfl (gf_cons rfl (gf_cons rfl gf_nil)))))) (ct81 33 (sG (sF (sF (sF (sF (sF s 109 0 (Int32.ofInt 0)) 109 113 u_109_20) 109 116 (Int32.ofInt 0)) 109 117 (Int32.ofInt 0)) 109 118 (Int32.ofInt 0)) 109 121 (Int64.ofInt 0)) (Int32.ofInt 0) hI75 (fr_sG rfl (fr_sF rfl (fr_sF rfl (fr_sF rfl (fr_sF rfl (fr_sF rfl fr_rf)))))) (in_w 0 200 i7x10b rfl) (in_w 1 4 i19x10b rfl) (in_w 0 90 i31x10b rfl) (in_w 0 32 (in_c 0 rfl) rfl) (m_in 33 (in_w 0 32 (in_c 0 rfl) rfl) rfl)))
                          · skip
                            exact zn_ne c45 (in_c 0 rfl) rfl
                        · skip
                          exact zn_gt c42x3x25 (in_c 0 rfl) rfl
                      · skip
                        exact zn_eq c42x3x10 (in_c 1 rfl) rfl
                    · skip
                      exact zn_eq c42x3x2 (in_c 1 rfl) rfl
end
section
/-! methods, by vc.py -/
def fm_62_102_46 : FM := ([104], [], [(46, 2), (46, 3), (46, 4), (46, 5), (46, 6), (46, 7), (102, 4)], [])
/-- GraphHouse$Engine.readAtom -/
theorem k_62_102_46 {Z : AmZ} {A : Nat → Nat} {s : GS} {ex : va_W} {d : Nat} {X : AmX} {u_46_2 : Int32} {u_46_1 : Int32} {u_46_4 : Int32} {u_46_3 : Int32} {u_46_5 : Int32} {u_102_4 : Int32} (hd : 8 ≤ d) (hI : Inv s) (e_46_2 : u_46_2 = s.2.2.1 46 2) (e_46_1 : u_46_1 = s.2.2.1 46 1) (e_46_4 : u_46_4 = s.2.2.1 46 4) (e_46_3 : u_46_3 = s.2.2.1 46 3) (e_46_5 : u_46_5 = s.2.2.1 46 5) (e_102_4 : u_102_4 = s.2.2.1 102 4) (r_46_1 : In u_46_1 0 120) (p_0 : (u_46_2).toInt ≤ (u_46_1).toInt) (p_1 : (u_46_4).toInt ≤ (u_46_2).toInt) (p_2 : (u_102_4).toInt ≤ (u_46_4).toInt) (p_3 : 1 ≤ (u_46_3).toInt) (p_4 : (u_46_3).toInt ≤ 2) (q_0 : TK s) : GC Z d 62 [.ref (A 102), .ref (A 46)] (WW Z A s ++ ex) 0 0 (fun v u => ∃ t : GS, Inv t ∧ Fr fm_62_102_46 s t ∧ ((t.2.2.1 46 2).toInt ≤ (t.2.2.1 46 1).toInt) ∧ ((t.2.2.1 46 4).toInt ≤ (t.2.2.1 46 2).toInt) ∧ ((t.2.2.1 102 4).toInt ≤ (t.2.2.1 46 4).toInt) ∧ ((s.2.2.1 46 4).toInt - (s.2.2.1 102 4).toInt ≤ (t.2.2.1 46 4).toInt - (t.2.2.1 102 4).toInt) ∧ ∃ z : Int32, v = some (.int z) ∧ u = WW Z A t ++ ex ∧ In z 0 1 ∧ (TK t) ∧ ((z).toInt ≠ 0 → PCV s t 1)) X := by
  intro post xp hP hX
  refine g_enter2 (k := 62) (N := 900) (by first | exact dq1 hd rfl | exact dq0 hd rfl | exact dq2 hd rfl | exact dq3 hd rfl | omega) rfl (Nat.le_of_ble_eq_true rfl) ?_
  refine g_aload_n 1 (gd rfl) rfl rfl ?_
  refine g_getI 4 (gd rfl) rfl rfl rfl (fun z1 e1 => ?_)
  have q1 : u_46_5 = z1 := (e_46_5).trans e1.symm
  subst q1
  refine g_istore_n 5 (gd rfl) rfl (Nat.le_of_ble_eq_true rfl) ?_
  have hk := tka_1 q_0 (show u_46_3 = s.2.2.1 46 3 from e_46_3) (show u_46_4 = s.2.2.1 46 4 from e_46_4) (show u_46_2 = s.2.2.1 46 2 from e_46_2) (by have a0 := oa5 ((inv_F hI 0 120 rfl e_102_4)) ((inv_F hI 0 5 rfl e_46_3)) ((inv_F hI 0 1000 rfl e_46_4)) r_46_1 ((inv_F hI 0 1000 rfl e_46_2)); omega)
  refine g_aload_n 6 (gd rfl) rfl rfl ?_
  refine g_getI 9 (gd rfl) rfl rfl rfl (fun z6 e6 => ?_)
  have q6 : u_46_3 = z6 := (e_46_3).trans e6.symm
  subst q6
  refine g_iconst 1 10 (gd rfl) rfl rfl ?_
  refine g_cmp_ne 13 46 (gd rfl) rfl rfl (fun c10 => ?_) (fun c10 => ?_)
  · skip
    refine g_aload_n 47 (gd rfl) rfl rfl ?_
    refine g_iload_n 48 (gd rfl) rfl rfl ?_
    have hDe : _ = s.2.2.1 102 4 := (show u_102_4 = s.2.2.1 102 4 from e_102_4)
    have n48 : (u_102_4).toInt ≤ 119 := by have a0 := oa5 ((inv_F hI 0 120 rfl e_102_4)) ((inv_F hI 0 5 rfl e_46_3)) ((inv_F hI 0 1000 rfl e_46_4)) r_46_1 ((inv_F hI 0 1000 rfl e_46_2)); omega
    refine g_callv (X := _) (As := [.int u_46_5]) (r := []) (b := A 102) (q := 102) 51 (gd rfl) rfl rfl rfl rfl rfl (ww_o rfl) (Nat.le_of_ble_eq_true rfl) (Nat.zero_le _) (Nat.zero_le _) (k_57_102 (by first | exact dq1 hd rfl | exact dq0 hd rfl | exact dq2 hd rfl | exact dq3 hd rfl | omega) hI e_102_4 n48) (fun e u h => h) (fun v u h => ?_)
    obtain ⟨s48, hI48, hF48, n48a, z48, rfl, rfl, i48, p48⟩ := h
    obtain ⟨z48a, e48⟩ : ∃ w, w = s48.2.2.1 102 4 := ⟨_, rfl⟩
    have i48a := inv_F hI48 0 120 rfl e48
    rw [← (show u_102_4 = s.2.2.1 102 4 from e_102_4)] at n48a
    rw [← (show z48a = s48.2.2.1 102 4 from e48)] at n48a
    show GG _ _ _ _ _ _ _ _ [.int z48] _ _ _
    refine g_pop 52 (gd rfl) rfl rfl ?_
    refine g_aload_n 53 (gd rfl) rfl rfl ?_
    refine g_bipush 6 55 (gd rfl) rfl rfl ?_
    refine g_iconst 0 56 (gd rfl) rfl rfl ?_
    have v56 : u_46_2 = s48.2.2.1 46 2 := fr_F (e_46_2) hF48 rfl
    have v56a : u_46_1 = s48.2.2.1 46 1 := fr_F (e_46_1) hF48 rfl
    have n56 : (u_46_2).toInt ≤ (u_46_1).toInt := by have a0 := oa6 ((inv_F hI 0 120 rfl e_102_4)) ((inv_F hI 0 5 rfl e_46_3)) ((inv_F hI 0 1000 rfl e_46_4)) r_46_1 ((inv_F hI 0 1000 rfl e_46_2)) i48a; omega
    refine g_callv (X := _) (As := [.int (Int32.ofInt 6), .int (Int32.ofInt 0)]) (r := []) (b := A 46) (q := 46) 59 (gd rfl) rfl rfl rfl rfl rfl (ww_o rfl) (Nat.le_of_ble_eq_true rfl) (Nat.zero_le _) (Nat.zero_le _) (k_171_46 (by first | exact dq1 hd rfl | exact dq0 hd rfl | exact dq2 hd rfl | exact dq3 hd rfl | omega) hI48 (in_w 6 7 (in_c 6 rfl) rfl) (in_w 0 1 (in_c 0 rfl) rfl) v56 v56a n56) (fun e u h => h) (fun v u h => ?_)
    obtain ⟨s56, hI56, hF56, n56a, n56b, n56c, rfl, rfl, p56, p56a⟩ := h
    obtain ⟨z56a, e56⟩ : ∃ w, w = s56.2.2.1 46 2 := ⟨_, rfl⟩
    have i56a := inv_F hI56 0 1000 rfl e56
    obtain ⟨z56b, e56a⟩ : ∃ w, w = s56.2.2.1 46 4 := ⟨_, rfl⟩
    have i56b := inv_F hI56 0 1000 rfl e56a
    rw [← (show z56a = s56.2.2.1 46 2 from e56)] at n56a
    rw [← (show u_46_1 = s56.2.2.1 46 1 from fr_F (fr_F (e_46_1) hF48 rfl) hF56 rfl)] at n56a
    rw [← (show z56a = s56.2.2.1 46 2 from e56)] at n56b
    rw [← (show z56b = s56.2.2.1 46 4 from e56a)] at n56b
    rw [← (show u_46_2 = s48.2.2.1 46 2 from fr_F (e_46_2) hF48 rfl)] at n56c
    rw [← (show z56b = s56.2.2.1 46 4 from e56a)] at n56c
    show GG _ _ _ _ _ _ _ _ [] _ _ _
    refine g_iconst 1 60 (gd rfl) rfl rfl ?_
    have n60 : TK s56 := by exact p56 (by decide)
    have n60a : ((Int32.ofInt 1)).toInt ≠ 0 → PCV s s56 1 := by intro _; exact pv_tr (j := 1) (k := 0) (pv_st (j := 0) (k := 1) pv_rf (inv_F hI 0 120 rfl rfl).1 p48 (by rw [← e48, ← hDe]; have a0 := oa8 ((inv_F hI 0 120 rfl e_102_4)) ((inv_F hI 0 5 rfl e_46_3)) ((inv_F hI 0 1000 rfl e_46_4)) r_46_1 ((inv_F hI 0 1000 rfl e_46_2)) i56b i56a i48a; omega) (fun e => hc_a (by first | (have a0 := oa8 ((inv_F hI 0 120 rfl e_102_4)) ((inv_F hI 0 5 rfl e_46_3)) ((inv_F hI 0 1000 rfl e_46_4)) r_46_1 ((inv_F hI 0 1000 rfl e_46_2)) i56b i56a i48a; omega) | (have c1 : (Int32.ofInt 1).toInt = 1 := (by decide); have hv := tkv_1 q_0 e_46_3 e_46_5 (by have a0 := oa8 ((inv_F hI 0 120 rfl e_102_4)) ((inv_F hI 0 5 rfl e_46_3)) ((inv_F hI 0 1000 rfl e_46_4)) r_46_1 ((inv_F hI 0 1000 rfl e_46_2)) i56b i56a i48a; omega); have a0 := oa8 ((inv_F hI 0 120 rfl e_102_4)) ((inv_F hI 0 5 rfl e_46_3)) ((inv_F hI 0 1000 rfl e_46_4)) r_46_1 ((inv_F hI 0 1000 rfl e_46_2)) i56b i56a i48a; omega)) e)) (pv_sm (hF56.1 104 rfl) (hF56.2.2.1 102 4 rfl))
    have n60b : (z56a).toInt ≤ (u_46_1).toInt := by have a0 := oa8 ((inv_F hI 0 120 rfl e_102_4)) ((inv_F hI 0 5 rfl e_46_3)) ((inv_F hI 0 1000 rfl e_46_4)) r_46_1 ((inv_F hI 0 1000 rfl e_46_2)) i56b i56a i48a; omega
    have n60c : (s56.2.2.1 46 2).toInt ≤ (s56.2.2.1 46 1).toInt := by have b0 : z56a = s56.2.2.1 46 2 := e56; have b1 : u_46_1 = s56.2.2.1 46 1 := fr_F (fr_F (e_46_1) hF48 rfl) hF56 rfl; rw [← b0, ← b1]; exact n60b
    have n60d : (z56b).toInt ≤ (z56a).toInt := by have a0 := oa8 ((inv_F hI 0 120 rfl e_102_4)) ((inv_F hI 0 5 rfl e_46_3)) ((inv_F hI 0 1000 rfl e_46_4)) r_46_1 ((inv_F hI 0 1000 rfl e_46_2)) i56b i56a i48a; omega
    have n60e : (s56.2.2.1 46 4).toInt ≤ (s56.2.2.1 46 2).toInt := by have b0 : z56b = s56.2.2.1 46 4 := e56a; have b1 : z56a = s56.2.2.1 46 2 := e56; rw [← b0, ← b1]; exact n60d
    have n60f : (z48a).toInt ≤ (z56b).toInt := by have a0 := oa8 ((inv_F hI 0 120 rfl e_102_4)) ((inv_F hI 0 5 rfl e_46_3)) ((inv_F hI 0 1000 rfl e_46_4)) r_46_1 ((inv_F hI 0 1000 rfl e_46_2)) i56b i56a i48a; omega
    have n60g : (s56.2.2.1 102 4).toInt ≤ (s56.2.2.1 46 4).toInt := by have b0 : z48a = s56.2.2.1 102 4 := fr_F (e48) hF56 rfl; have b1 : z56b = s56.2.2.1 46 4 := e56a; rw [← b0, ← b1]; exact n60f
    have n60h : (u_46_4).toInt - (u_102_4).toInt ≤ (z56b).toInt - (z48a).toInt := by have a0 := oa8 ((inv_F hI 0 120 rfl e_102_4)) ((inv_F hI 0 5 rfl e_46_3)) ((inv_F hI 0 1000 rfl e_46_4)) r_46_1 ((inv_F hI 0 1000 rfl e_46_2)) i56b i56a i48a; omega
    have n60i : (s.2.2.1 46 4).toInt - (s.2.2.1 102 4).toInt ≤ (s56.2.2.1 46 4).toInt - (s56.2.2.1 102 4).toInt := by have b0 : z56b = s56.2.2.1 46 4 := e56a; have b1 : z48a = s56.2.2.1 102 4 := fr_F (e48) hF56 rfl; first | (rw [← b0, ← b1, ← e_46_4, ← e_102_4]; exact n60h) | (rw [← b0, ← b1]; exact n60h)
    exact g_ireturn (gd rfl) rfl (nb01 (in_w 0 1 (in_c 1 rfl) rfl)) (hP _ _ ⟨s56, hI56, (fr_tr rfl (fr_tr rfl fr_rf hF48) hF56), n60c, n60e, n60g, n60i, (Int32.ofInt 1), rfl, rfl, in_w 0 1 (in_c 1 rfl) rfl, n60, n60a⟩)
  · skip
    have i10 := r_eq1 1 1 c10 (inv_F hI 0 5 rfl e_46_3) (in_c 1 rfl) rfl
    refine g_ldcs 6 15 (gd rfl) rfl rfl ?_
    refine g_bipush 97 17 (gd rfl) rfl rfl ?_
    refine g_aload_n 18 (gd rfl) rfl rfl ?_
    refine g_getI 21 (gd rfl) rfl rfl rfl (fun z18 e18 => ?_)
    have q18 : u_46_5 = z18 := (e_46_5).trans e18.symm
    subst q18
    refine g_iadd 22 (gd rfl) rfl (fun z21 e21 => ?_)
    refine g_i2c 23 (gd rfl) rfl (fun z22 e22 => ?_)
    have i22 := in_i2c e22
    have i23 : In (Int32.ofInt 6) 0 6 := in_w 0 6 (in_c 6 rfl) rfl
    refine g_callS (X := _) (As := [.int z22]) (r := []) (x := (Int32.ofInt 6)) 26 (gd rfl) rfl rfl rfl zm_430 rfl rfl rfl i23 (Nat.le_of_ble_eq_true rfl) (k_430 i23 (by omega)) (fun e u h => h) (fun v u h => ?_)
    obtain ⟨z23, rfl, rfl, p23⟩ := h
    have i23a : In z23 (-1) 8 := by have a := zn_9 i23; unfold In at p23; exact ⟨by omega, by omega⟩
    show GG _ _ _ _ _ _ _ _ [.int z23] _ _ _
    refine g_istore_n 27 (gd rfl) rfl (Nat.le_of_ble_eq_true rfl) ?_
    refine g_iload_n 28 (gd rfl) rfl rfl ?_
    refine g_if_ge 31 41 (gd rfl) rfl rfl (fun c28 => ?_) (fun c28 => ?_)
    · skip
      have i28 := z_ge 0 8 c28 i23a rfl
      refine g_ldc 1000000 43 (gd rfl) rfl rfl ?_
      refine g_iload_n 44 (gd rfl) rfl rfl ?_
      refine g_iadd 45 (gd rfl) rfl (fun z44 e44 => ?_)
      have i44 := in_add 1000000 1000008 e44 (in_c 1000000 rfl) i28 rfl rfl
      refine g_istore_n 46 (gd rfl) rfl (Nat.le_of_ble_eq_true rfl) ?_
      refine g_aload_n 47 (gd rfl) rfl rfl ?_
      refine g_iload_n 48 (gd rfl) rfl rfl ?_
      have hDe : _ = s.2.2.1 102 4 := (show u_102_4 = s.2.2.1 102 4 from e_102_4)
      have n48 : (u_102_4).toInt ≤ 119 := by have a0 := oa7 ((inv_F hI 0 120 rfl e_102_4)) i10 ((inv_F hI 0 1000 rfl e_46_4)) r_46_1 ((inv_F hI 0 1000 rfl e_46_2)) i28 i44; have a7 := t_add e44 (in_c 1000000 rfl) i28 rfl; have a8 := in_u ((in_c 1000000 rfl)); omega
      refine g_callv (X := _) (As := [.int z44]) (r := []) (b := A 102) (q := 102) 51 (gd rfl) rfl rfl rfl rfl rfl (ww_o rfl) (Nat.le_of_ble_eq_true rfl) (Nat.zero_le _) (Nat.zero_le _) (k_57_102 (by first | exact dq1 hd rfl | exact dq0 hd rfl | exact dq2 hd rfl | exact dq3 hd rfl | omega) hI e_102_4 n48) (fun e u h => h) (fun v u h => ?_)
      obtain ⟨s48, hI48, hF48, n48a, z48, rfl, rfl, i48, p48⟩ := h
      obtain ⟨z48a, e48⟩ : ∃ w, w = s48.2.2.1 102 4 := ⟨_, rfl⟩
      have i48a := inv_F hI48 0 120 rfl e48
      rw [← (show u_102_4 = s.2.2.1 102 4 from e_102_4)] at n48a
      rw [← (show z48a = s48.2.2.1 102 4 from e48)] at n48a
      show GG _ _ _ _ _ _ _ _ [.int z48] _ _ _
      refine g_pop 52 (gd rfl) rfl rfl ?_
      refine g_aload_n 53 (gd rfl) rfl rfl ?_
      refine g_bipush 6 55 (gd rfl) rfl rfl ?_
      refine g_iconst 0 56 (gd rfl) rfl rfl ?_
      have v56 : u_46_2 = s48.2.2.1 46 2 := fr_F (e_46_2) hF48 rfl
      have v56a : u_46_1 = s48.2.2.1 46 1 := fr_F (e_46_1) hF48 rfl
      have n56 : (u_46_2).toInt ≤ (u_46_1).toInt := by have a0 := oa7 ((inv_F hI 0 120 rfl e_102_4)) i10 ((inv_F hI 0 1000 rfl e_46_4)) r_46_1 ((inv_F hI 0 1000 rfl e_46_2)) i28 i44; have a7 := t_add e44 (in_c 1000000 rfl) i28 rfl; have a8 := oa2 ((in_c 1000000 rfl)) i48a; omega
      refine g_callv (X := _) (As := [.int (Int32.ofInt 6), .int (Int32.ofInt 0)]) (r := []) (b := A 46) (q := 46) 59 (gd rfl) rfl rfl rfl rfl rfl (ww_o rfl) (Nat.le_of_ble_eq_true rfl) (Nat.zero_le _) (Nat.zero_le _) (k_171_46 (by first | exact dq1 hd rfl | exact dq0 hd rfl | exact dq2 hd rfl | exact dq3 hd rfl | omega) hI48 (in_w 6 7 (in_c 6 rfl) rfl) (in_w 0 1 (in_c 0 rfl) rfl) v56 v56a n56) (fun e u h => h) (fun v u h => ?_)
      obtain ⟨s56, hI56, hF56, n56a, n56b, n56c, rfl, rfl, p56, p56a⟩ := h
      obtain ⟨z56a, e56⟩ : ∃ w, w = s56.2.2.1 46 2 := ⟨_, rfl⟩
      have i56a := inv_F hI56 0 1000 rfl e56
      obtain ⟨z56b, e56a⟩ : ∃ w, w = s56.2.2.1 46 4 := ⟨_, rfl⟩
      have i56b := inv_F hI56 0 1000 rfl e56a
      rw [← (show z56a = s56.2.2.1 46 2 from e56)] at n56a
      rw [← (show u_46_1 = s56.2.2.1 46 1 from fr_F (fr_F (e_46_1) hF48 rfl) hF56 rfl)] at n56a
      rw [← (show z56a = s56.2.2.1 46 2 from e56)] at n56b
      rw [← (show z56b = s56.2.2.1 46 4 from e56a)] at n56b
      rw [← (show u_46_2 = s48.2.2.1 46 2 from fr_F (e_46_2) hF48 rfl)] at n56c
      rw [← (show z56b = s56.2.2.1 46 4 from e56a)] at n56c
      show GG _ _ _ _ _ _ _ _ [] _ _ _
      refine g_iconst 1 60 (gd rfl) rfl rfl ?_
      have n60 : TK s56 := by exact p56 (by decide)
      have n60a : ((Int32.ofInt 1)).toInt ≠ 0 → PCV s s56 1 := by intro _; exact pv_tr (j := 1) (k := 0) (pv_st (j := 0) (k := 1) pv_rf (inv_F hI 0 120 rfl rfl).1 p48 (by rw [← e48, ← hDe]; have a0 := oa7 ((inv_F hI 0 120 rfl e_102_4)) i10 ((inv_F hI 0 1000 rfl e_46_4)) r_46_1 ((inv_F hI 0 1000 rfl e_46_2)) i28 i44; have a7 := t_add e44 (in_c 1000000 rfl) i28 rfl; have a8 := oa4 ((in_c 1000000 rfl)) i56b i56a i48a; omega) (fun e => hc_a (by first | (have a0 := oa7 ((inv_F hI 0 120 rfl e_102_4)) i10 ((inv_F hI 0 1000 rfl e_46_4)) r_46_1 ((inv_F hI 0 1000 rfl e_46_2)) i28 i44; have a7 := t_add e44 (in_c 1000000 rfl) i28 rfl; have a8 := oa4 ((in_c 1000000 rfl)) i56b i56a i48a; omega) | (have c1 : (Int32.ofInt 1).toInt = 1 := (by decide); have hv := tkv_1 q_0 e_46_3 e_46_5 (by have a0 := oa7 ((inv_F hI 0 120 rfl e_102_4)) i10 ((inv_F hI 0 1000 rfl e_46_4)) r_46_1 ((inv_F hI 0 1000 rfl e_46_2)) i28 i44; have a7 := t_add e44 (in_c 1000000 rfl) i28 rfl; have a8 := oa4 ((in_c 1000000 rfl)) i56b i56a i48a; omega); have a0 := oa7 ((inv_F hI 0 120 rfl e_102_4)) i10 ((inv_F hI 0 1000 rfl e_46_4)) r_46_1 ((inv_F hI 0 1000 rfl e_46_2)) i28 i44; have a7 := t_add e44 (in_c 1000000 rfl) i28 rfl; have a8 := oa4 ((in_c 1000000 rfl)) i56b i56a i48a; omega)) e)) (pv_sm (hF56.1 104 rfl) (hF56.2.2.1 102 4 rfl))
      have n60b : (z56a).toInt ≤ (u_46_1).toInt := by have a0 := oa7 ((inv_F hI 0 120 rfl e_102_4)) i10 ((inv_F hI 0 1000 rfl e_46_4)) r_46_1 ((inv_F hI 0 1000 rfl e_46_2)) i28 i44; have a7 := t_add e44 (in_c 1000000 rfl) i28 rfl; have a8 := oa4 ((in_c 1000000 rfl)) i56b i56a i48a; omega
      have n60c : (s56.2.2.1 46 2).toInt ≤ (s56.2.2.1 46 1).toInt := by have b0 : z56a = s56.2.2.1 46 2 := e56; have b1 : u_46_1 = s56.2.2.1 46 1 := fr_F (fr_F (e_46_1) hF48 rfl) hF56 rfl; rw [← b0, ← b1]; exact n60b
      have n60d : (z56b).toInt ≤ (z56a).toInt := by have a0 := oa7 ((inv_F hI 0 120 rfl e_102_4)) i10 ((inv_F hI 0 1000 rfl e_46_4)) r_46_1 ((inv_F hI 0 1000 rfl e_46_2)) i28 i44; have a7 := t_add e44 (in_c 1000000 rfl) i28 rfl; have a8 := oa4 ((in_c 1000000 rfl)) i56b i56a i48a; omega
      have n60e : (s56.2.2.1 46 4).toInt ≤ (s56.2.2.1 46 2).toInt := by have b0 : z56b = s56.2.2.1 46 4 := e56a; have b1 : z56a = s56.2.2.1 46 2 := e56; rw [← b0, ← b1]; exact n60d
      have n60f : (z48a).toInt ≤ (z56b).toInt := by have a0 := oa7 ((inv_F hI 0 120 rfl e_102_4)) i10 ((inv_F hI 0 1000 rfl e_46_4)) r_46_1 ((inv_F hI 0 1000 rfl e_46_2)) i28 i44; have a7 := t_add e44 (in_c 1000000 rfl) i28 rfl; have a8 := oa4 ((in_c 1000000 rfl)) i56b i56a i48a; omega
      have n60g : (s56.2.2.1 102 4).toInt ≤ (s56.2.2.1 46 4).toInt := by have b0 : z48a = s56.2.2.1 102 4 := fr_F (e48) hF56 rfl; have b1 : z56b = s56.2.2.1 46 4 := e56a; rw [← b0, ← b1]; exact n60f
      have n60h : (u_46_4).toInt - (u_102_4).toInt ≤ (z56b).toInt - (z48a).toInt := by have a0 := oa7 ((inv_F hI 0 120 rfl e_102_4)) i10 ((inv_F hI 0 1000 rfl e_46_4)) r_46_1 ((inv_F hI 0 1000 rfl e_46_2)) i28 i44; have a7 := t_add e44 (in_c 1000000 rfl) i28 rfl; have a8 := oa4 ((in_c 1000000 rfl)) i56b i56a i48a; omega
      have n60i : (s.2.2.1 46 4).toInt - (s.2.2.1 102 4).toInt ≤ (s56.2.2.1 46 4).toInt - (s56.2.2.1 102 4).toInt := by have b0 : z56b = s56.2.2.1 46 4 := e56a; have b1 : z48a = s56.2.2.1 102 4 := fr_F (e48) hF56 rfl; first | (rw [← b0, ← b1, ← e_46_4, ← e_102_4]; exact n60h) | (rw [← b0, ← b1]; exact n60h)
      exact g_ireturn (gd rfl) rfl (nb01 (in_w 0 1 (in_c 1 rfl) rfl)) (hP _ _ ⟨s56, hI56, (fr_tr rfl (fr_tr rfl fr_rf hF48) hF56), n60c, n60e, n60g, n60i, (Int32.ofInt 1), rfl, rfl, in_w 0 1 (in_c 1 rfl) rfl, n60, n60a⟩)
    · skip
      have i28 := z_lt (-1) (-1) c28 i23a rfl
      refine g_aload_n 32 (gd rfl) rfl rfl ?_
      refine g_iconst 5 33 (gd rfl) rfl rfl ?_
      refine g_aload_n 34 (gd rfl) rfl rfl ?_
      refine g_getI 37 (gd rfl) rfl rfl rfl (fun z34 e34 => ?_)
      have q34 : u_46_4 = z34 := (e_46_4).trans e34.symm
      subst q34
      refine g_callv (X := _) (As := [.int (Int32.ofInt 5), .int u_46_4]) (r := []) (b := A 46) (q := 46) 40 (gd rfl) rfl rfl rfl rfl rfl (ww_o rfl) (Nat.le_of_ble_eq_true rfl) (Nat.zero_le _) (Nat.zero_le _) (k_168_46 (by first | exact dq1 hd rfl | exact dq0 hd rfl | exact dq2 hd rfl | exact dq3 hd rfl | omega) hI (in_w 1 5 (in_c 5 rfl) rfl) (in_w 0 1000 (inv_F hI 0 1000 rfl e_46_4) rfl)) (fun e u h => h) (fun v u h => ?_)
      obtain ⟨s37, hI37, hF37, z37, rfl, rfl, i37⟩ := h
      show GG _ _ _ _ _ _ _ _ [.int z37] _ _ _
      have n40 : TK s37 := by exact tk_fr hF37 rfl q_0
      have n40a : (z37).toInt ≠ 0 → PCV s s37 1 := by intro h; unfold In at i37; omega
      have n40b : (u_46_2).toInt ≤ (u_46_1).toInt := by have a0 := oa6 ((inv_F hI 0 120 rfl e_102_4)) i10 ((inv_F hI 0 1000 rfl e_46_4)) r_46_1 ((inv_F hI 0 1000 rfl e_46_2)) i28; omega
      have n40c : (s37.2.2.1 46 2).toInt ≤ (s37.2.2.1 46 1).toInt := by have b0 : u_46_2 = s37.2.2.1 46 2 := fr_F (e_46_2) hF37 rfl; have b1 : u_46_1 = s37.2.2.1 46 1 := fr_F (e_46_1) hF37 rfl; rw [← b0, ← b1]; exact n40b
      have n40d : (u_46_4).toInt ≤ (u_46_2).toInt := by have a0 := oa6 ((inv_F hI 0 120 rfl e_102_4)) i10 ((inv_F hI 0 1000 rfl e_46_4)) r_46_1 ((inv_F hI 0 1000 rfl e_46_2)) i28; omega
      have n40e : (s37.2.2.1 46 4).toInt ≤ (s37.2.2.1 46 2).toInt := by have b0 : u_46_4 = s37.2.2.1 46 4 := fr_F (e_46_4) hF37 rfl; have b1 : u_46_2 = s37.2.2.1 46 2 := fr_F (e_46_2) hF37 rfl; rw [← b0, ← b1]; exact n40d
      have n40f : (u_102_4).toInt ≤ (u_46_4).toInt := by have a0 := oa6 ((inv_F hI 0 120 rfl e_102_4)) i10 ((inv_F hI 0 1000 rfl e_46_4)) r_46_1 ((inv_F hI 0 1000 rfl e_46_2)) i28; omega
      have n40g : (s37.2.2.1 102 4).toInt ≤ (s37.2.2.1 46 4).toInt := by have b0 : u_102_4 = s37.2.2.1 102 4 := fr_F (e_102_4) hF37 rfl; have b1 : u_46_4 = s37.2.2.1 46 4 := fr_F (e_46_4) hF37 rfl; rw [← b0, ← b1]; exact n40f
      have n40h : (u_46_4).toInt - (u_102_4).toInt ≤ (u_46_4).toInt - (u_102_4).toInt := by exact Int.le_refl _
      have n40i : (s.2.2.1 46 4).toInt - (s.2.2.1 102 4).toInt ≤ (s37.2.2.1 46 4).toInt - (s37.2.2.1 102 4).toInt := by have b0 : u_46_4 = s37.2.2.1 46 4 := fr_F (e_46_4) hF37 rfl; have b1 : u_102_4 = s37.2.2.1 102 4 := fr_F (e_102_4) hF37 rfl; first | (rw [← b0, ← b1, ← e_46_4, ← e_102_4]; exact n40h) | (rw [← b0, ← b1]; exact n40h)
      exact g_ireturn (gd rfl) rfl (nb01 (in_w 0 1 i37 rfl)) (hP _ _ ⟨s37, hI37, (fr_tr rfl fr_rf hF37), n40c, n40e, n40g, n40i, z37, rfl, rfl, in_w 0 1 i37 rfl, n40, n40a⟩)

def fm_136_1_46 : FM := ([3, 4, 5, 6, 7, 8, 30, 31], [], [(2, 0), (2, 1), (2, 2), (2, 3), (30, 0), (46, 2), (46, 3), (46, 4), (46, 5), (46, 6), (46, 7)], [])
def fm_134_1_32 : FM := ([33, 34, 35, 36, 37, 38], [], [(32, 0), (32, 1), (32, 2), (32, 3), (32, 4)], [])
def fm_217_0 : FM := ([33, 34, 35, 36, 37, 38], [], [(0, 2), (32, 0), (32, 1), (32, 2), (32, 3), (32, 4)], [])
def fm_135_1_46 : FM := ([3, 4, 5, 6, 7, 8, 17, 18, 19, 20, 21, 22, 30, 31], [], [(2, 0), (2, 1), (2, 2), (2, 3), (2, 4), (16, 0), (16, 1), (16, 2), (16, 3), (16, 4), (30, 0), (46, 2), (46, 3), (46, 4), (46, 5), (46, 6), (46, 7)], [])
def fm_225_0 : FM := ([3, 4, 5, 6, 7, 8, 17, 18, 19, 20, 21, 22, 30, 31], [], [(2, 0), (2, 1), (2, 2), (2, 3), (2, 4), (16, 0), (16, 1), (16, 2), (16, 3), (16, 4), (30, 0), (46, 2), (46, 3), (46, 4), (46, 5), (46, 6), (46, 7)], [])
def fm_46_60_9 : FM := ([61, 63], [], [(60, 7)], [])
def fm_47_60_9 : FM := ([61, 63], [], [(60, 7)], [])
theorem k_47_60_9_r {Z : AmZ} {A : Nat → Nat} {ex : va_W} (kk : Nat) (ihF : ∀ {s : GS} {d : Nat} {X : AmX} {x2 : Int32} {x3 : Int32}, 40 + kk * 10 ≤ d → Inv s → (In x3 0 33) → 33 - (x3).toInt < ((kk : Nat) : Int) → GC Z d 46 [.ref (A 60), .ref (A 9), .int x2, .int x3] (WW Z A s ++ ex) 0 0 (fun v u => ∃ t : GS, Inv t ∧ Fr fm_46_60_9 s t ∧ ∃ z : Int32, v = some (.int z) ∧ u = WW Z A t ++ ex ∧ In z 0 1) X) : ∀ {s : GS} {d : Nat} {X : AmX} {x2 : Int32} {x3 : Int32}, 45 + kk * 10 ≤ d → Inv s → (In x3 0 32) → (x2.toInt ≠ 0) → 33 - (x3).toInt < ((kk + 1 : Nat) : Int) → GC Z d 47 [.ref (A 60), .ref (A 9), .int x2, .int x3] (WW Z A s ++ ex) 0 0 (fun v u => ∃ t : GS, Inv t ∧ Fr fm_47_60_9 s t ∧ ∃ z : Int32, v = some (.int z) ∧ u = WW Z A t ++ ex ∧ In z 0 1) X := by
  intro s d X x2 x3 hd hI h3 nza_2 hm
  intro post xp hP hX
  obtain ⟨u_60_3, e_60_3⟩ : ∃ w, w = s.2.2.1 60 3 := ⟨_, rfl⟩
  have ro_60_3 := inv_F hI 0 32 rfl e_60_3
  have ct27 : ∀ (k27 : Nat) (sc27 : GS) (y27_4 : Int32) (y27_5 : Int32) (y27_6 : Int32) (y27_7 : Int32) (y27_8 : Int32), Inv sc27 → Fr fm_47_60_9 s sc27 → (In y27_4 0 31) → (In y27_7 0 1) → (In y27_8 0 32) → 32 - (y27_8).toInt < (k27 : Int) → GG Z (d - 1) 47 post (gx xp) (1 + k27 * 900) 27 (fun j => xlook j [(0, .ref (A 60)), (1, .ref (A 9)), (2, .int x2), (3, .int x3), (4, .int y27_4), (5, .int y27_5), (6, .int y27_6), (7, .int y27_7), (8, .int y27_8)]) [] (WW Z A sc27 ++ ex) 0 0 := by
    intro k27
    induction k27 with
    | zero => intro sc27 y27_4 y27_5 y27_6 y27_7 y27_8 hIc27 hFc27 j27_4 j27_7 j27_8 mm27; exact m_no mm27 j27_8 rfl
    | succ k27 ih27 =>
      intro sc27 y27_4 y27_5 y27_6 y27_7 y27_8 hIc27 hFc27 j27_4 j27_7 j27_8 mm27
      refine gg_w (M := 1 + k27 * 900 + 900) gws ?_
      refine g_iload 29 (gd rfl) rfl rfl ?_
      refine g_aload_n 30 (gd rfl) rfl rfl ?_
      refine g_getI 33 (gd rfl) rfl rfl rfl (fun z30 e30 => ?_)
      have q30 : u_60_3 = z30 := (fr_F e_60_3 hFc27 rfl).trans e30.symm
      subst q30
      refine g_cmp_ge 36 139 (gd rfl) rfl rfl (fun c33 => ?_) (fun c33 => ?_)
      · skip
        refine g_iconst 0 140 (gd rfl) rfl rfl ?_
        exact g_ireturn (gd rfl) rfl (nb01 (in_w 0 1 (in_c 0 rfl) rfl)) (hP _ _ ⟨sc27, hIc27, hFc27, (Int32.ofInt 0), rfl, rfl, in_w 0 1 (in_c 0 rfl) rfl⟩)
      · skip
        have i33 := r_lt1 0 31 c33 j27_8 ro_60_3 rfl
        have i33a := r_lt2 1 32 c33 j27_8 ro_60_3 rfl
        refine g_aload_n 37 (gd rfl) rfl rfl ?_
        refine g_getA (q2 := 61) 40 (gd rfl) rfl rfl rfl rfl ?_
        refine g_iload 42 (gd rfl) rfl rfl ?_
        refine g_iaload 43 (gd rfl) rfl (n := 32) rfl (in_ix i33 rfl) (fun z42 e42 => ?_)
        refine g_iload 45 (gd rfl) rfl rfl ?_
        refine g_iand 46 (gd rfl) rfl (fun z45 e45 => ?_)
        refine g_if_ne 49 53 (gd rfl) rfl rfl (fun c46 => ?_) (fun c46 => ?_)
        · skip
          refine g_iconst 0 54 (gd rfl) rfl rfl ?_
          refine g_istore 56 (gd rfl) rfl (Nat.le_of_ble_eq_true rfl) ?_
          refine g_aload_n 57 (gd rfl) rfl rfl ?_
          refine g_getA (q2 := 61) 60 (gd rfl) rfl rfl rfl rfl ?_
          refine g_iload 62 (gd rfl) rfl rfl ?_
          refine g_iaload 63 (gd rfl) rfl (n := 32) rfl (in_ix i33 rfl) (fun z62 e62 => ?_)
          have q62 : z42 = z62 := (e42).trans e62.symm
          subst q62
          refine g_aload_n 64 (gd rfl) rfl rfl ?_
          refine g_iload 66 (gd rfl) rfl rfl ?_
          refine g_iaload 67 (gd rfl) rfl (n := 32) rfl (in_ix j27_4 rfl) (fun z66 e66 => ?_)
          refine g_iand 68 (gd rfl) rfl (fun z67 e67 => ?_)
          refine g_if_ne 71 133 (gd rfl) rfl rfl (fun c68 => ?_) (fun c68 => ?_)
          · skip
            refine g_iinc 136 (gd rfl) rfl rfl (Nat.le_of_ble_eq_true rfl) (fun z133 e133 => ?_)
            have i133 := in_add 1 32 e133 i33 (in_c 1 rfl) rfl rfl
            refine g_goto 27 (gd rfl) rfl ?_
            exact gg_w (by first | exact Nat.le_add_right _ _ | exact gw2 | exact gw3 | exact gwe rfl | exact gwf rfl | exact gwg rfl | exact gwh rfl | omega) (gg_f (gf_cons rfl (gf_cons rfl (gf_cons rfl (gf_cons rfl (gf_cons rfl (gf_cons rfl (gf_cons rfl (gf_cons rfl (gf_cons rfl gf_nil))))))))) (ih27 sc27 y27_4 y27_5 y27_6 y27_7 z133 hIc27 hFc27 (in_w 0 31 j27_4 rfl) (in_w 0 1 j27_7 rfl) (in_w 0 32 i133 rfl) (m_up mm27 (t_add e133 i33 (in_c 1 rfl) rfl) (in_w 1 1 (in_c 1 rfl) rfl))))
          · skip
            have i68 := z_eq 0 0 c68 (i_rng z67) rfl
            refine g_iload 73 (gd rfl) rfl rfl ?_
            refine g_if_eq 76 81 (gd rfl) rfl rfl (fun c73 => ?_) (fun c73 => ?_)
            · skip
              refine g_iload 83 (gd rfl) rfl rfl ?_
              refine g_iload 85 (gd rfl) rfl rfl ?_
              refine g_ior 86 (gd rfl) rfl (fun z85 e85 => ?_)
              have i85 := in_or 1 e85 (in_w 0 1 j27_7 rfl) (in_w 0 1 (in_c 0 rfl) rfl) rfl
              refine g_istore 88 (gd rfl) rfl (Nat.le_of_ble_eq_true rfl) ?_
              refine g_aload_n 89 (gd rfl) rfl rfl ?_
              refine g_getA (q2 := 61) 92 (gd rfl) rfl rfl rfl rfl ?_
              refine g_iload 94 (gd rfl) rfl rfl ?_
              refine g_dup2 95 (gd rfl) rfl rfl rfl ?_
              refine g_iaload 96 (gd rfl) rfl (n := 32) rfl (in_ix i33 rfl) (fun z95 e95 => ?_)
              have q95 : z42 = z95 := (e42).trans e95.symm
              subst q95
              refine g_iload 98 (gd rfl) rfl rfl ?_
              refine g_ior 99 (gd rfl) rfl (fun z98 e98 => ?_)
              refine g_iastore 100 (gd rfl) rfl (n := 32) rfl (in_ix i33 rfl) ?_
              have hI99 := inv_sI (q := 61) (j := y27_8.toNatClampNeg) hIc27 rfl (in_w (-2147483648) 2147483647 (i_rng z98) rfl)
              refine g_aload_n 101 (gd rfl) rfl rfl ?_
              refine g_aload_n 102 (gd rfl) rfl rfl ?_
              refine g_iload_n 103 (gd rfl) rfl rfl ?_
              refine g_iload 105 (gd rfl) rfl rfl ?_
              refine g_iconst (-1) 106 (gd rfl) rfl rfl ?_
              refine g_ixor 107 (gd rfl) rfl (fun z106 e106 => ?_)
              refine g_iand 108 (gd rfl) rfl (fun z107 e107 => ?_)
              refine g_iload_n 109 (gd rfl) rfl rfl ?_
              refine g_iconst 1 110 (gd rfl) rfl rfl ?_
              refine g_iadd 111 (gd rfl) rfl (fun z110 e110 => ?_)
              have i110 := in_add 1 33 e110 h3 (in_c 1 rfl) rfl rfl
              have n111 : 33 - (z110).toInt < ((kk : Nat) : Int) := by have a0 := oa8 h3 i33a i33 j27_7 j27_4 ((in_c 0 rfl)) i85 i110; have a8 := t_add e110 h3 (in_c 1 rfl) rfl; have a9 := in_u ((in_c 1 rfl)); omega
              refine g_callv (X := _) (As := [.ref (A 9), .int z107, .int z110]) (r := []) (b := A 60) (q := 60) 114 (gd rfl) rfl rfl rfl rfl rfl (ww_o rfl) (Nat.le_of_ble_eq_true rfl) (Nat.zero_le _) (Nat.zero_le _) (ihF (by omega) hI99 (in_w 0 33 i110 rfl) n111) (fun e u h => h) (fun v u h => ?_)
              obtain ⟨s111, hI111, hF111, z111, rfl, rfl, i111⟩ := h
              show GG _ _ _ _ _ _ _ _ [.int z111] _ _ _
              refine g_if_eq 117 119 (gd rfl) rfl rfl (fun c114 => ?_) (fun c114 => ?_)
              · skip
                have i114 := z_eq 0 0 c114 i111 rfl
                refine g_aload_n 120 (gd rfl) rfl rfl ?_
                refine g_getA (q2 := 61) 123 (gd rfl) rfl rfl rfl rfl ?_
                refine g_iload 125 (gd rfl) rfl rfl ?_
                refine g_dup2 126 (gd rfl) rfl rfl rfl ?_
                refine g_iaload 127 (gd rfl) rfl (n := 32) rfl (in_ix i33 rfl) (fun z126 e126 => ?_)
                refine g_iload 129 (gd rfl) rfl rfl ?_
                refine g_iconst (-1) 130 (gd rfl) rfl rfl ?_
                refine g_ixor 131 (gd rfl) rfl (fun z130 e130 => ?_)
                refine g_iand 132 (gd rfl) rfl (fun z131 e131 => ?_)
                refine g_iastore 133 (gd rfl) rfl (n := 32) rfl (in_ix i33 rfl) ?_
                have hI132 := inv_sI (q := 61) (j := y27_8.toNatClampNeg) hI111 rfl (in_w (-2147483648) 2147483647 (i_rng z131) rfl)
                refine g_iinc 136 (gd rfl) rfl rfl (Nat.le_of_ble_eq_true rfl) (fun z133 e133 => ?_)
                have i133 := in_add 1 32 e133 i33 (in_c 1 rfl) rfl rfl
                refine g_goto 27 (gd rfl) rfl ?_
                exact gg_w (by first | exact Nat.le_add_right _ _ | exact gw2 | exact gw3 | exact gwe rfl | exact gwf rfl | exact gwg rfl | exact gwh rfl | omega) (gg_f (gf_cons rfl (gf_cons rfl (gf_cons rfl (gf_cons rfl (gf_cons rfl (gf_cons rfl (gf_cons rfl (gf_cons rfl (gf_cons rfl gf_nil))))))))) (ih27 (sI s111 61 y27_8.toNatClampNeg z131) y27_4 y27_5 y27_6 z85 z133 hI132 (fr_sI rfl (fr_tr rfl (fr_sI rfl hFc27) hF111)) (in_w 0 31 j27_4 rfl) (in_w 0 1 i85 rfl) (in_w 0 32 i133 rfl) (m_up mm27 (t_add e133 i33 (in_c 1 rfl) rfl) (in_w 1 1 (in_c 1 rfl) rfl))))
              · skip
                have i114 := z_ne 1 1 c114 i111 rfl
                refine g_iconst 1 118 (gd rfl) rfl rfl ?_
                exact g_ireturn (gd rfl) rfl (nb01 (in_w 0 1 (in_c 1 rfl) rfl)) (hP _ _ ⟨s111, hI111, (fr_tr rfl (fr_sI rfl hFc27) hF111), (Int32.ofInt 1), rfl, rfl, in_w 0 1 (in_c 1 rfl) rfl⟩)
            · skip
              exact zn_ne c73 (in_c 0 rfl) rfl
        · skip
          have i46 := z_eq 0 0 c46 (i_rng z45) rfl
          refine g_iconst 1 50 (gd rfl) rfl rfl ?_
          refine g_goto 54 (gd rfl) rfl ?_
          refine g_istore 56 (gd rfl) rfl (Nat.le_of_ble_eq_true rfl) ?_
          refine g_aload_n 57 (gd rfl) rfl rfl ?_
          refine g_getA (q2 := 61) 60 (gd rfl) rfl rfl rfl rfl ?_
          refine g_iload 62 (gd rfl) rfl rfl ?_
          refine g_iaload 63 (gd rfl) rfl (n := 32) rfl (in_ix i33 rfl) (fun z62 e62 => ?_)
          have q62 : z42 = z62 := (e42).trans e62.symm
          subst q62
          refine g_aload_n 64 (gd rfl) rfl rfl ?_
          refine g_iload 66 (gd rfl) rfl rfl ?_
          refine g_iaload 67 (gd rfl) rfl (n := 32) rfl (in_ix j27_4 rfl) (fun z66 e66 => ?_)
          refine g_iand 68 (gd rfl) rfl (fun z67 e67 => ?_)
          refine g_if_ne 71 133 (gd rfl) rfl rfl (fun c68 => ?_) (fun c68 => ?_)
          · skip
            refine g_iinc 136 (gd rfl) rfl rfl (Nat.le_of_ble_eq_true rfl) (fun z133 e133 => ?_)
            have i133 := in_add 1 32 e133 i33 (in_c 1 rfl) rfl rfl
            refine g_goto 27 (gd rfl) rfl ?_
            exact gg_w (by first | exact Nat.le_add_right _ _ | exact gw2 | exact gw3 | exact gwe rfl | exact gwf rfl | exact gwg rfl | exact gwh rfl | omega) (gg_f (gf_cons rfl (gf_cons rfl (gf_cons rfl (gf_cons rfl (gf_cons rfl (gf_cons rfl (gf_cons rfl (gf_cons rfl (gf_cons rfl gf_nil))))))))) (ih27 sc27 y27_4 y27_5 y27_6 y27_7 z133 hIc27 hFc27 (in_w 0 31 j27_4 rfl) (in_w 0 1 j27_7 rfl) (in_w 0 32 i133 rfl) (m_up mm27 (t_add e133 i33 (in_c 1 rfl) rfl) (in_w 1 1 (in_c 1 rfl) rfl))))
          · skip
            have i68 := z_eq 0 0 c68 (i_rng z67) rfl
            refine g_iload 73 (gd rfl) rfl rfl ?_
            refine g_if_eq 76 81 (gd rfl) rfl rfl (fun c73 => ?_) (fun c73 => ?_)
            · skip
              exact zn_eq c73 (in_c 1 rfl) rfl
            · skip
              refine g_iload 78 (gd rfl) rfl rfl ?_
              refine g_if_ne 81 133 (gd rfl) rfl rfl (fun c78 => ?_) (fun c78 => ?_)
              · skip
                have i78 := z_ne 1 1 c78 j27_7 rfl
                refine g_iinc 136 (gd rfl) rfl rfl (Nat.le_of_ble_eq_true rfl) (fun z133 e133 => ?_)
                have i133 := in_add 1 32 e133 i33 (in_c 1 rfl) rfl rfl
                refine g_goto 27 (gd rfl) rfl ?_
                exact gg_w (by first | exact Nat.le_add_right _ _ | exact gw2 | exact gw3 | exact gwe rfl | exact gwf rfl | exact gwg rfl | exact gwh rfl | omega) (gg_f (gf_cons rfl (gf_cons rfl (gf_cons rfl (gf_cons rfl (gf_cons rfl (gf_cons rfl (gf_cons rfl (gf_cons rfl (gf_cons rfl gf_nil))))))))) (ih27 sc27 y27_4 y27_5 y27_6 y27_7 z133 hIc27 hFc27 (in_w 0 31 j27_4 rfl) (in_w 0 1 i78 rfl) (in_w 0 32 i133 rfl) (m_up mm27 (t_add e133 i33 (in_c 1 rfl) rfl) (in_w 1 1 (in_c 1 rfl) rfl))))
              · skip
                have i78 := z_eq 0 0 c78 j27_7 rfl
                refine g_iload 83 (gd rfl) rfl rfl ?_
                refine g_iload 85 (gd rfl) rfl rfl ?_
                refine g_ior 86 (gd rfl) rfl (fun z85 e85 => ?_)
                have i85 := in_or 1 e85 (in_w 0 1 i78 rfl) (in_w 0 1 (in_c 1 rfl) rfl) rfl
                refine g_istore 88 (gd rfl) rfl (Nat.le_of_ble_eq_true rfl) ?_
                refine g_aload_n 89 (gd rfl) rfl rfl ?_
                refine g_getA (q2 := 61) 92 (gd rfl) rfl rfl rfl rfl ?_
                refine g_iload 94 (gd rfl) rfl rfl ?_
                refine g_dup2 95 (gd rfl) rfl rfl rfl ?_
                refine g_iaload 96 (gd rfl) rfl (n := 32) rfl (in_ix i33 rfl) (fun z95 e95 => ?_)
                have q95 : z42 = z95 := (e42).trans e95.symm
                subst q95
                refine g_iload 98 (gd rfl) rfl rfl ?_
                refine g_ior 99 (gd rfl) rfl (fun z98 e98 => ?_)
                refine g_iastore 100 (gd rfl) rfl (n := 32) rfl (in_ix i33 rfl) ?_
                have hI99 := inv_sI (q := 61) (j := y27_8.toNatClampNeg) hIc27 rfl (in_w (-2147483648) 2147483647 (i_rng z98) rfl)
                refine g_aload_n 101 (gd rfl) rfl rfl ?_
                refine g_aload_n 102 (gd rfl) rfl rfl ?_
                refine g_iload_n 103 (gd rfl) rfl rfl ?_
                refine g_iload 105 (gd rfl) rfl rfl ?_
                refine g_iconst (-1) 106 (gd rfl) rfl rfl ?_
                refine g_ixor 107 (gd rfl) rfl (fun z106 e106 => ?_)
                refine g_iand 108 (gd rfl) rfl (fun z107 e107 => ?_)
                refine g_iload_n 109 (gd rfl) rfl rfl ?_
                refine g_iconst 1 110 (gd rfl) rfl rfl ?_
                refine g_iadd 111 (gd rfl) rfl (fun z110 e110 => ?_)
                have i110 := in_add 1 33 e110 h3 (in_c 1 rfl) rfl rfl
                have n111 : 33 - (z110).toInt < ((kk : Nat) : Int) := by have a0 := oa8 h3 i33a i33 i78 j27_4 ((in_c 1 rfl)) i85 i110; have a8 := t_add e110 h3 (in_c 1 rfl) rfl; omega
                refine g_callv (X := _) (As := [.ref (A 9), .int z107, .int z110]) (r := []) (b := A 60) (q := 60) 114 (gd rfl) rfl rfl rfl rfl rfl (ww_o rfl) (Nat.le_of_ble_eq_true rfl) (Nat.zero_le _) (Nat.zero_le _) (ihF (by omega) hI99 (in_w 0 33 i110 rfl) n111) (fun e u h => h) (fun v u h => ?_)
                obtain ⟨s111, hI111, hF111, z111, rfl, rfl, i111⟩ := h
                show GG _ _ _ _ _ _ _ _ [.int z111] _ _ _
                refine g_if_eq 117 119 (gd rfl) rfl rfl (fun c114 => ?_) (fun c114 => ?_)
                · skip
                  have i114 := z_eq 0 0 c114 i111 rfl
                  refine g_aload_n 120 (gd rfl) rfl rfl ?_
                  refine g_getA (q2 := 61) 123 (gd rfl) rfl rfl rfl rfl ?_
                  refine g_iload 125 (gd rfl) rfl rfl ?_
                  refine g_dup2 126 (gd rfl) rfl rfl rfl ?_
                  refine g_iaload 127 (gd rfl) rfl (n := 32) rfl (in_ix i33 rfl) (fun z126 e126 => ?_)
                  refine g_iload 129 (gd rfl) rfl rfl ?_
                  refine g_iconst (-1) 130 (gd rfl) rfl rfl ?_
                  refine g_ixor 131 (gd rfl) rfl (fun z130 e130 => ?_)
                  refine g_iand 132 (gd rfl) rfl (fun z131 e131 => ?_)
                  refine g_iastore 133 (gd rfl) rfl (n := 32) rfl (in_ix i33 rfl) ?_
                  have hI132 := inv_sI (q := 61) (j := y27_8.toNatClampNeg) hI111 rfl (in_w (-2147483648) 2147483647 (i_rng z131) rfl)
                  refine g_iinc 136 (gd rfl) rfl rfl (Nat.le_of_ble_eq_true rfl) (fun z133 e133 => ?_)
                  have i133 := in_add 1 32 e133 i33 (in_c 1 rfl) rfl rfl
                  refine g_goto 27 (gd rfl) rfl ?_
                  exact gg_w (by first | exact Nat.le_add_right _ _ | exact gw2 | exact gw3 | exact gwe rfl | exact gwf rfl | exact gwg rfl | exact gwh rfl | omega) (gg_f (gf_cons rfl (gf_cons rfl (gf_cons rfl (gf_cons rfl (gf_cons rfl (gf_cons rfl (gf_cons rfl (gf_cons rfl (gf_cons rfl gf_nil))))))))) (ih27 (sI s111 61 y27_8.toNatClampNeg z131) y27_4 y27_5 y27_6 z85 z133 hI132 (fr_sI rfl (fr_tr rfl (fr_sI rfl hFc27) hF111)) (in_w 0 31 j27_4 rfl) (in_w 0 1 i85 rfl) (in_w 0 32 i133 rfl) (m_up mm27 (t_add e133 i33 (in_c 1 rfl) rfl) (in_w 1 1 (in_c 1 rfl) rfl))))
                · skip
                  have i114 := z_ne 1 1 c114 i111 rfl
                  refine g_iconst 1 118 (gd rfl) rfl rfl ?_
                  exact g_ireturn (gd rfl) rfl (nb01 (in_w 0 1 (in_c 1 rfl) rfl)) (hP _ _ ⟨s111, hI111, (fr_tr rfl (fr_sI rfl hFc27) hF111), (Int32.ofInt 1), rfl, rfl, in_w 0 1 (in_c 1 rfl) rfl⟩)
  refine g_enter2 (k := 47) (N := 30601) (by first | exact dq1 hd rfl | exact dq0 hd rfl | exact dq2 hd rfl | exact dq3 hd rfl | omega) rfl (Nat.le_of_ble_eq_true rfl) ?_
  refine g_aload_n 1 (gd rfl) rfl rfl ?_
  refine g_aload_n 2 (gd rfl) rfl rfl ?_
  refine g_iload_n 3 (gd rfl) rfl rfl ?_
  refine g_callv (X := _) (As := [.ref (A 9), .int x2]) (r := []) (b := A 60) (q := 60) 6 (gd rfl) rfl rfl rfl rfl rfl (ww_o rfl) (Nat.le_of_ble_eq_true rfl) (Nat.zero_le _) (Nat.zero_le _) (k_52_60_9 (by first | exact dq1 hd rfl | exact dq0 hd rfl | exact dq2 hd rfl | exact dq3 hd rfl | omega) hI nza_2) (fun e u h => h) (fun v u h => ?_)
  obtain ⟨z3, rfl, rfl, i3⟩ := h
  show GG _ _ _ _ _ _ _ _ [.int z3] _ _ _
  refine g_istore 8 (gd rfl) rfl (Nat.le_of_ble_eq_true rfl) ?_
  refine g_iconst 1 9 (gd rfl) rfl rfl ?_
  refine g_iload 11 (gd rfl) rfl rfl ?_
  refine g_ishl 12 (gd rfl) rfl (fun z11 e11 => ?_)
  refine g_istore 14 (gd rfl) rfl (Nat.le_of_ble_eq_true rfl) ?_
  refine g_aload_n 15 (gd rfl) rfl rfl ?_
  refine g_iload_n 16 (gd rfl) rfl rfl ?_
  refine g_calls (As := [.ref (A 9), .int x2]) (r := []) 19 (gd rfl) rfl rfl rfl rfl rfl (Nat.le_of_ble_eq_true rfl) (Nat.zero_le _) (Nat.zero_le _) (k_48_9 (by first | exact dq1 hd rfl | exact dq0 hd rfl | exact dq2 hd rfl | exact dq3 hd rfl | omega) hI ) (fun v u h => ?_)
  obtain ⟨z16, rfl, rfl, i16⟩ := h
  show GG _ _ _ _ _ _ _ _ [.int z16] _ _ _
  refine g_istore 21 (gd rfl) rfl (Nat.le_of_ble_eq_true rfl) ?_
  refine g_iconst 0 22 (gd rfl) rfl rfl ?_
  refine g_istore 24 (gd rfl) rfl (Nat.le_of_ble_eq_true rfl) ?_
  refine g_iconst 0 25 (gd rfl) rfl rfl ?_
  refine g_istore 27 (gd rfl) rfl (Nat.le_of_ble_eq_true rfl) ?_
  exact gg_w (by first | exact Nat.le_of_ble_eq_true rfl | omega) (gg_f (gf_cons rfl (gf_cons rfl (gf_cons rfl (gf_cons rfl (gf_cons rfl (gf_cons rfl (gf_cons rfl (gf_cons rfl (gf_cons rfl gf_nil))))))))) (ct27 33 s z3 z11 z16 (Int32.ofInt 0) (Int32.ofInt 0) hI fr_rf (in_w 0 31 i3 rfl) (in_w 0 1 (in_c 0 rfl) rfl) (in_w 0 32 (in_c 0 rfl) rfl) (m_in 33 (in_w 0 32 (in_c 0 rfl) rfl) rfl)))
theorem k_46_60_9_r {Z : AmZ} {A : Nat → Nat} {ex : va_W} (kk : Nat) : ∀ {s : GS} {d : Nat} {X : AmX} {x2 : Int32} {x3 : Int32}, 40 + kk * 10 ≤ d → Inv s → (In x3 0 33) → 33 - (x3).toInt < ((kk : Nat) : Int) → GC Z d 46 [.ref (A 60), .ref (A 9), .int x2, .int x3] (WW Z A s ++ ex) 0 0 (fun v u => ∃ t : GS, Inv t ∧ Fr fm_46_60_9 s t ∧ ∃ z : Int32, v = some (.int z) ∧ u = WW Z A t ++ ex ∧ In z 0 1) X := by
  induction kk with
  | zero => intro s d X x2 x3 hd hI h3 hm; exact m_no hm h3 rfl
  | succ kk ih =>
    have ihP : ∀ {s : GS} {d : Nat} {X : AmX} {x2 : Int32} {x3 : Int32}, 45 + kk * 10 ≤ d → Inv s → (In x3 0 32) → (x2.toInt ≠ 0) → 33 - (x3).toInt < ((kk + 1 : Nat) : Int) → GC Z d 47 [.ref (A 60), .ref (A 9), .int x2, .int x3] (WW Z A s ++ ex) 0 0 (fun v u => ∃ t : GS, Inv t ∧ Fr fm_47_60_9 s t ∧ ∃ z : Int32, v = some (.int z) ∧ u = WW Z A t ++ ex ∧ In z 0 1) X := k_47_60_9_r kk ih
    intro s d X x2 x3 hd hI h3 hm
    intro post xp hP hX
    obtain ⟨u_60_3, e_60_3⟩ : ∃ w, w = s.2.2.1 60 3 := ⟨_, rfl⟩
    have ro_60_3 := inv_F hI 0 32 rfl e_60_3
    have ct65 : ∀ (k65 : Nat) (sc65 : GS) (y65_4 : Int32) (y65_5 : Int32) (y65_6 : Int32) (y65_7 : Int32) (y65_8 : Int32), Inv sc65 → Fr fm_46_60_9 s sc65 → (In x3 0 32) → (In y65_4 0 32) → (In y65_6 0 31) → (In y65_8 0 32) → ((y65_5).toInt ≠ 0) → 32 - (y65_8).toInt < (k65 : Int) → GG Z (d - 1) 46 post (gx xp) (1 + k65 * 900) 65 (fun j => xlook j [(0, .ref (A 60)), (1, .ref (A 9)), (2, .int x2), (3, .int x3), (4, .int y65_4), (5, .int y65_5), (6, .int y65_6), (7, .int y65_7), (8, .int y65_8)]) [] (WW Z A sc65 ++ ex) 0 0 := by
      intro k65
      induction k65 with
      | zero => intro sc65 y65_4 y65_5 y65_6 y65_7 y65_8 hIc65 hFc65 j65_3 j65_4 j65_6 j65_8 nz65_5 mm65; exact m_no mm65 j65_8 rfl
      | succ k65 ih65 =>
        intro sc65 y65_4 y65_5 y65_6 y65_7 y65_8 hIc65 hFc65 j65_3 j65_4 j65_6 j65_8 nz65_5 mm65
        refine gg_w (M := 1 + k65 * 900 + 900) gws ?_
        refine g_iload 67 (gd rfl) rfl rfl ?_
        refine g_aload_n 68 (gd rfl) rfl rfl ?_
        refine g_getI 71 (gd rfl) rfl rfl rfl (fun z68 e68 => ?_)
        have q68 : u_60_3 = z68 := (fr_F e_60_3 hFc65 rfl).trans e68.symm
        subst q68
        refine g_cmp_ge 74 93 (gd rfl) rfl rfl (fun c71 => ?_) (fun c71 => ?_)
        · skip
          refine g_aload_n 94 (gd rfl) rfl rfl ?_
          refine g_iload 96 (gd rfl) rfl rfl ?_
          refine g_putI 99 (gd rfl) rfl rfl rfl rfl ?_
          have hI96 := inv_sF (q := 60) (j := 7) hIc65 rfl (in_w 0 32 j65_4 rfl)
          refine g_iconst 0 100 (gd rfl) rfl rfl ?_
          exact g_ireturn (gd rfl) rfl (nb01 (in_w 0 1 (in_c 0 rfl) rfl)) (hP _ _ ⟨(sF sc65 60 7 y65_4), hI96, (fr_sF rfl hFc65), (Int32.ofInt 0), rfl, rfl, in_w 0 1 (in_c 0 rfl) rfl⟩)
        · skip
          have i71 := r_lt1 0 31 c71 j65_8 ro_60_3 rfl
          have i71a := r_lt2 1 32 c71 j65_8 ro_60_3 rfl
          refine g_aload_n 75 (gd rfl) rfl rfl ?_
          refine g_getA (q2 := 61) 78 (gd rfl) rfl rfl rfl rfl ?_
          refine g_iload 80 (gd rfl) rfl rfl ?_
          refine g_dup2 81 (gd rfl) rfl rfl rfl ?_
          refine g_iaload 82 (gd rfl) rfl (n := 32) rfl (in_ix i71 rfl) (fun z81 e81 => ?_)
          refine g_iload_n 83 (gd rfl) rfl rfl ?_
          refine g_iconst (-1) 84 (gd rfl) rfl rfl ?_
          refine g_ixor 85 (gd rfl) rfl (fun z84 e84 => ?_)
          refine g_iand 86 (gd rfl) rfl (fun z85 e85 => ?_)
          refine g_iastore 87 (gd rfl) rfl (n := 32) rfl (in_ix i71 rfl) ?_
          have hI86 := inv_sI (q := 61) (j := y65_8.toNatClampNeg) hIc65 rfl (in_w (-2147483648) 2147483647 (i_rng z85) rfl)
          refine g_iinc 90 (gd rfl) rfl rfl (Nat.le_of_ble_eq_true rfl) (fun z87 e87 => ?_)
          have i87 := in_add 1 32 e87 i71 (in_c 1 rfl) rfl rfl
          refine g_goto 65 (gd rfl) rfl ?_
          exact gg_w (by first | exact Nat.le_add_right _ _ | exact gw2 | exact gw3 | exact gwe rfl | exact gwf rfl | exact gwg rfl | exact gwh rfl | omega) (gg_f (gf_cons rfl (gf_cons rfl (gf_cons rfl (gf_cons rfl (gf_cons rfl (gf_cons rfl (gf_cons rfl (gf_cons rfl (gf_cons rfl gf_nil))))))))) (ih65 (sI sc65 61 y65_8.toNatClampNeg z85) y65_4 y65_5 y65_6 y65_7 z87 hI86 (fr_sI rfl hFc65) (in_w 0 32 j65_3 rfl) (in_w 0 32 j65_4 rfl) (in_w 0 31 j65_6 rfl) (in_w 0 32 i87 rfl) nz65_5 (m_up mm65 (t_add e87 i71 (in_c 1 rfl) rfl) (in_w 1 1 (in_c 1 rfl) rfl))))
    have ct25 : ∀ (k25 : Nat) (sc25 : GS) (y25_4 : Int32) (y25_5 : Int32) (y25_6 : Int32), Inv sc25 → Fr fm_46_60_9 s sc25 → (In x3 0 32) → (In y25_4 0 32) → (In y25_6 0 32) → 32 - (y25_6).toInt < (k25 : Int) → GG Z (d - 1) 46 post (gx xp) (29702 + k25 * 900) 25 (fun j => xlook j [(0, .ref (A 60)), (1, .ref (A 9)), (2, .int x2), (3, .int x3), (4, .int y25_4), (5, .int y25_5), (6, .int y25_6)]) [] (WW Z A sc25 ++ ex) 0 0 := by
      intro k25
      induction k25 with
      | zero => intro sc25 y25_4 y25_5 y25_6 hIc25 hFc25 j25_3 j25_4 j25_6 mm25; exact m_no mm25 j25_6 rfl
      | succ k25 ih25 =>
        intro sc25 y25_4 y25_5 y25_6 hIc25 hFc25 j25_3 j25_4 j25_6 mm25
        refine gg_w (M := 29702 + k25 * 900 + 900) gws ?_
        refine g_iload 27 (gd rfl) rfl rfl ?_
        refine g_bipush 32 29 (gd rfl) rfl rfl ?_
        refine g_cmp_ge 32 116 (gd rfl) rfl rfl (fun c29 => ?_) (fun c29 => ?_)
        · skip
          have i29 := r_le2 32 32 c29 (in_c 32 rfl) j25_6 rfl
          refine g_aload_n 117 (gd rfl) rfl rfl ?_
          refine g_aload_n 118 (gd rfl) rfl rfl ?_
          refine g_iload 120 (gd rfl) rfl rfl ?_
          refine g_callv (X := _) (As := [.ref (A 9), .int y25_4]) (r := []) (b := A 60) (q := 60) 123 (gd rfl) rfl rfl rfl rfl rfl (ww_o rfl) (Nat.le_of_ble_eq_true rfl) (Nat.zero_le _) (Nat.zero_le _) (k_50_60_9 (by first | exact dq1 hd rfl | exact dq0 hd rfl | exact dq2 hd rfl | exact dq3 hd rfl | omega) hIc25 (in_w 0 32 j25_4 rfl)) (fun e u h => h) (fun v u h => ?_)
          obtain ⟨s120, hI120, hF120, rfl, rfl⟩ := h
          show GG _ _ _ _ _ _ _ _ [] _ _ _
          refine g_iconst 1 124 (gd rfl) rfl rfl ?_
          exact g_ireturn (gd rfl) rfl (nb01 (in_w 0 1 (in_c 1 rfl) rfl)) (hP _ _ ⟨s120, hI120, (fr_tr rfl hFc25 hF120), (Int32.ofInt 1), rfl, rfl, in_w 0 1 (in_c 1 rfl) rfl⟩)
        · skip
          have i29 := r_lt1 0 31 c29 j25_6 (in_c 32 rfl) rfl
          refine g_iload 34 (gd rfl) rfl rfl ?_
          refine g_if_eq 37 116 (gd rfl) rfl rfl (fun c34 => ?_) (fun c34 => ?_)
          · skip
            have i34 := z_eq 0 0 c34 (i_rng y25_5) rfl
            refine g_aload_n 117 (gd rfl) rfl rfl ?_
            refine g_aload_n 118 (gd rfl) rfl rfl ?_
            refine g_iload 120 (gd rfl) rfl rfl ?_
            refine g_callv (X := _) (As := [.ref (A 9), .int y25_4]) (r := []) (b := A 60) (q := 60) 123 (gd rfl) rfl rfl rfl rfl rfl (ww_o rfl) (Nat.le_of_ble_eq_true rfl) (Nat.zero_le _) (Nat.zero_le _) (k_50_60_9 (by first | exact dq1 hd rfl | exact dq0 hd rfl | exact dq2 hd rfl | exact dq3 hd rfl | omega) hIc25 (in_w 0 32 j25_4 rfl)) (fun e u h => h) (fun v u h => ?_)
            obtain ⟨s120, hI120, hF120, rfl, rfl⟩ := h
            show GG _ _ _ _ _ _ _ _ [] _ _ _
            refine g_iconst 1 124 (gd rfl) rfl rfl ?_
            exact g_ireturn (gd rfl) rfl (nb01 (in_w 0 1 (in_c 1 rfl) rfl)) (hP _ _ ⟨s120, hI120, (fr_tr rfl hFc25 hF120), (Int32.ofInt 1), rfl, rfl, in_w 0 1 (in_c 1 rfl) rfl⟩)
          · skip
            refine g_aload_n 38 (gd rfl) rfl rfl ?_
            refine g_iload 40 (gd rfl) rfl rfl ?_
            refine g_iload 42 (gd rfl) rfl rfl ?_
            refine g_ineg 43 (gd rfl) rfl (fun z42 e42 => ?_)
            refine g_iand 44 (gd rfl) rfl (fun z43 e43 => ?_)
            refine g_iload 46 (gd rfl) rfl rfl ?_
            refine g_calls (As := [.ref (A 9), .int z43, .int y25_5]) (r := []) 49 (gd rfl) rfl rfl rfl rfl rfl (Nat.le_of_ble_eq_true rfl) (Nat.zero_le _) (Nat.zero_le _) (k_266_9 (by first | exact dq1 hd rfl | exact dq0 hd rfl | exact dq2 hd rfl | exact dq3 hd rfl | omega) hIc25 ) (fun v u h => ?_)
            obtain ⟨z46, rfl, rfl, i46, p46⟩ := h
            show GG _ _ _ _ _ _ _ _ [.int z46] _ _ _
            refine g_istore 51 (gd rfl) rfl (Nat.le_of_ble_eq_true rfl) ?_
            refine g_aload_n 52 (gd rfl) rfl rfl ?_
            refine g_aload_n 53 (gd rfl) rfl rfl ?_
            refine g_iload 55 (gd rfl) rfl rfl ?_
            refine g_iload_n 56 (gd rfl) rfl rfl ?_
            have nz56 : (z46).toInt ≠ 0 := by obtain ⟨k, hk⟩ := lsb_bit c34 e42 e43; exact bt_nz (p46 k hk)
            have n56 : 33 - (x3).toInt < ((kk + 1 : Nat) : Int) := by have a0 := oa4 j25_3 ro_60_3 i29 j25_4; omega
            refine g_callv (X := _) (As := [.ref (A 9), .int z46, .int x3]) (r := []) (b := A 60) (q := 60) 59 (gd rfl) rfl rfl rfl rfl rfl (ww_o rfl) (Nat.le_of_ble_eq_true rfl) (Nat.zero_le _) (Nat.zero_le _) (ihP (by omega) hIc25 (in_w 0 32 j25_3 rfl) nz56 n56) (fun e u h => h) (fun v u h => ?_)
            obtain ⟨s56, hI56, hF56, z56, rfl, rfl, i56⟩ := h
            show GG _ _ _ _ _ _ _ _ [.int z56] _ _ _
            refine g_if_ne 62 101 (gd rfl) rfl rfl (fun c59 => ?_) (fun c59 => ?_)
            · skip
              have i59 := z_ne 1 1 c59 i56 rfl
              refine g_iload 103 (gd rfl) rfl rfl ?_
              refine g_iload 105 (gd rfl) rfl rfl ?_
              refine g_iconst (-1) 106 (gd rfl) rfl rfl ?_
              refine g_ixor 107 (gd rfl) rfl (fun z106 e106 => ?_)
              refine g_iand 108 (gd rfl) rfl (fun z107 e107 => ?_)
              refine g_istore 110 (gd rfl) rfl (Nat.le_of_ble_eq_true rfl) ?_
              refine g_iinc 113 (gd rfl) rfl rfl (Nat.le_of_ble_eq_true rfl) (fun z110 e110 => ?_)
              have i110 := in_add 1 32 e110 i29 (in_c 1 rfl) rfl rfl
              refine g_goto 25 (gd rfl) rfl ?_
              exact gg_w (by first | exact Nat.le_add_right _ _ | exact gw2 | exact gw3 | exact gwe rfl | exact gwf rfl | exact gwg rfl | exact gwh rfl | omega) (gg_f (gf_cons rfl (gf_cons rfl (gf_cons rfl (gf_cons rfl (gf_cons rfl (gf_cons rfl (gf_cons rfl gf_nil))))))) (ih25 s56 y25_4 z107 z110 hI56 (fr_tr rfl hFc25 hF56) (in_w 0 32 j25_3 rfl) (in_w 0 32 j25_4 rfl) (in_w 0 32 i110 rfl) (m_up mm25 (t_add e110 i29 (in_c 1 rfl) rfl) (in_w 1 1 (in_c 1 rfl) rfl))))
            · skip
              have i59 := z_eq 0 0 c59 i56 rfl
              refine g_iconst 0 63 (gd rfl) rfl rfl ?_
              refine g_istore 65 (gd rfl) rfl (Nat.le_of_ble_eq_true rfl) ?_
              exact gg_w (by first | exact Nat.le_add_right _ _ | exact gw2 | exact gw3 | exact gwe rfl | exact gwf rfl | exact gwg rfl | exact gwh rfl | omega) (gg_f (gf_cons rfl (gf_cons rfl (gf_cons rfl (gf_cons rfl (gf_cons rfl (gf_cons rfl (gf_cons rfl (gf_cons rfl (gf_cons rfl gf_nil))))))))) (ct65 33 s56 y25_4 y25_5 y25_6 z46 (Int32.ofInt 0) hI56 (fr_tr rfl hFc25 hF56) (in_w 0 32 j25_3 rfl) (in_w 0 32 j25_4 rfl) (in_w 0 31 i29 rfl) (in_w 0 32 (in_c 0 rfl) rfl) c34 (m_in 33 (in_w 0 32 (in_c 0 rfl) rfl) rfl)))
    refine g_enter2 (k := 46) (N := 60302) (by first | exact dq1 hd rfl | exact dq0 hd rfl | exact dq2 hd rfl | exact dq3 hd rfl | omega) rfl (Nat.le_of_ble_eq_true rfl) ?_
    refine g_iload_n 1 (gd rfl) rfl rfl ?_
    refine g_bipush 32 3 (gd rfl) rfl rfl ?_
    refine g_cmp_le 6 8 (gd rfl) rfl rfl (fun c3 => ?_) (fun c3 => ?_)
    · skip
      have i3 := r_le1 0 32 c3 h3 (in_c 32 rfl) rfl
      refine g_aload_n 9 (gd rfl) rfl rfl ?_
      refine g_getI 12 (gd rfl) rfl rfl rfl (fun z9 e9 => ?_)
      have i9 := inv_F hI 0 32 rfl e9
      refine g_istore 14 (gd rfl) rfl (Nat.le_of_ble_eq_true rfl) ?_
      refine g_aload_n 15 (gd rfl) rfl rfl ?_
      refine g_aload_n 16 (gd rfl) rfl rfl ?_
      refine g_iload_n 17 (gd rfl) rfl rfl ?_
      refine g_callv (X := _) (As := [.ref (A 9), .int x2]) (r := []) (b := A 60) (q := 60) 20 (gd rfl) rfl rfl rfl rfl rfl (ww_o rfl) (Nat.le_of_ble_eq_true rfl) (Nat.zero_le _) (Nat.zero_le _) (k_49_60_9 (by first | exact dq1 hd rfl | exact dq0 hd rfl | exact dq2 hd rfl | exact dq3 hd rfl | omega) hI ) (fun e u h => h) (fun v u h => ?_)
      obtain ⟨s17, hI17, hF17, z17, rfl, rfl, i17⟩ := h
      show GG _ _ _ _ _ _ _ _ [.int z17] _ _ _
      refine g_istore 22 (gd rfl) rfl (Nat.le_of_ble_eq_true rfl) ?_
      refine g_iconst 0 23 (gd rfl) rfl rfl ?_
      refine g_istore 25 (gd rfl) rfl (Nat.le_of_ble_eq_true rfl) ?_
      exact gg_w (by first | exact Nat.le_of_ble_eq_true rfl | omega) (gg_f (gf_cons rfl (gf_cons rfl (gf_cons rfl (gf_cons rfl (gf_cons rfl (gf_cons rfl (gf_cons rfl gf_nil))))))) (ct25 33 s17 z9 z17 (Int32.ofInt 0) hI17 (fr_tr rfl fr_rf hF17) (in_w 0 32 i3 rfl) (in_w 0 32 i9 rfl) (in_w 0 32 (in_c 0 rfl) rfl) (m_in 33 (in_w 0 32 (in_c 0 rfl) rfl) rfl)))
    · skip
      have i3 := r_lt2 33 33 c3 (in_c 32 rfl) h3 rfl
      refine g_iconst 0 7 (gd rfl) rfl rfl ?_
      exact g_ireturn (gd rfl) rfl (nb01 (in_w 0 1 (in_c 0 rfl) rfl)) (hP _ _ ⟨s, hI, fr_rf, (Int32.ofInt 0), rfl, rfl, in_w 0 1 (in_c 0 rfl) rfl⟩)
theorem k_46_60_9 {Z : AmZ} {A : Nat → Nat} {s : GS} {ex : va_W} {d : Nat} {X : AmX} {x2 : Int32} {x3 : Int32} (hd : 380 ≤ d) (hI : Inv s) (h3 : (In x3 0 33)) : GC Z d 46 [.ref (A 60), .ref (A 9), .int x2, .int x3] (WW Z A s ++ ex) 0 0 (fun v u => ∃ t : GS, Inv t ∧ Fr fm_46_60_9 s t ∧ ∃ z : Int32, v = some (.int z) ∧ u = WW Z A t ++ ex ∧ In z 0 1) X := k_46_60_9_r 34 (by omega) hI h3 (m_in 34 h3 rfl)

def fm_46_60_39 : FM := ([61, 63], [], [(60, 7)], [])
def fm_47_60_39 : FM := ([61, 63], [], [(60, 7)], [])
theorem k_47_60_39_r {Z : AmZ} {A : Nat → Nat} {ex : va_W} (kk : Nat) (ihF : ∀ {s : GS} {d : Nat} {X : AmX} {x2 : Int32} {x3 : Int32}, 40 + kk * 10 ≤ d → Inv s → (In x3 0 33) → 33 - (x3).toInt < ((kk : Nat) : Int) → GC Z d 46 [.ref (A 60), .ref (A 39), .int x2, .int x3] (WW Z A s ++ ex) 0 0 (fun v u => ∃ t : GS, Inv t ∧ Fr fm_46_60_39 s t ∧ ∃ z : Int32, v = some (.int z) ∧ u = WW Z A t ++ ex ∧ In z 0 1) X) : ∀ {s : GS} {d : Nat} {X : AmX} {x2 : Int32} {x3 : Int32}, 45 + kk * 10 ≤ d → Inv s → (In x3 0 32) → (x2.toInt ≠ 0) → 33 - (x3).toInt < ((kk + 1 : Nat) : Int) → GC Z d 47 [.ref (A 60), .ref (A 39), .int x2, .int x3] (WW Z A s ++ ex) 0 0 (fun v u => ∃ t : GS, Inv t ∧ Fr fm_47_60_39 s t ∧ ∃ z : Int32, v = some (.int z) ∧ u = WW Z A t ++ ex ∧ In z 0 1) X := by
  intro s d X x2 x3 hd hI h3 nza_2 hm
  intro post xp hP hX
  obtain ⟨u_60_3, e_60_3⟩ : ∃ w, w = s.2.2.1 60 3 := ⟨_, rfl⟩
  have ro_60_3 := inv_F hI 0 32 rfl e_60_3
  have ct27 : ∀ (k27 : Nat) (sc27 : GS) (y27_4 : Int32) (y27_5 : Int32) (y27_6 : Int32) (y27_7 : Int32) (y27_8 : Int32), Inv sc27 → Fr fm_47_60_39 s sc27 → (In y27_4 0 31) → (In y27_7 0 1) → (In y27_8 0 32) → 32 - (y27_8).toInt < (k27 : Int) → GG Z (d - 1) 47 post (gx xp) (1 + k27 * 900) 27 (fun j => xlook j [(0, .ref (A 60)), (1, .ref (A 39)), (2, .int x2), (3, .int x3), (4, .int y27_4), (5, .int y27_5), (6, .int y27_6), (7, .int y27_7), (8, .int y27_8)]) [] (WW Z A sc27 ++ ex) 0 0 := by
    intro k27
    induction k27 with
    | zero => intro sc27 y27_4 y27_5 y27_6 y27_7 y27_8 hIc27 hFc27 j27_4 j27_7 j27_8 mm27; exact m_no mm27 j27_8 rfl
    | succ k27 ih27 =>
      intro sc27 y27_4 y27_5 y27_6 y27_7 y27_8 hIc27 hFc27 j27_4 j27_7 j27_8 mm27
      refine gg_w (M := 1 + k27 * 900 + 900) gws ?_
      refine g_iload 29 (gd rfl) rfl rfl ?_
      refine g_aload_n 30 (gd rfl) rfl rfl ?_
      refine g_getI 33 (gd rfl) rfl rfl rfl (fun z30 e30 => ?_)
      have q30 : u_60_3 = z30 := (fr_F e_60_3 hFc27 rfl).trans e30.symm
      subst q30
      refine g_cmp_ge 36 139 (gd rfl) rfl rfl (fun c33 => ?_) (fun c33 => ?_)
      · skip
        refine g_iconst 0 140 (gd rfl) rfl rfl ?_
        exact g_ireturn (gd rfl) rfl (nb01 (in_w 0 1 (in_c 0 rfl) rfl)) (hP _ _ ⟨sc27, hIc27, hFc27, (Int32.ofInt 0), rfl, rfl, in_w 0 1 (in_c 0 rfl) rfl⟩)
      · skip
        have i33 := r_lt1 0 31 c33 j27_8 ro_60_3 rfl
        have i33a := r_lt2 1 32 c33 j27_8 ro_60_3 rfl
        refine g_aload_n 37 (gd rfl) rfl rfl ?_
        refine g_getA (q2 := 61) 40 (gd rfl) rfl rfl rfl rfl ?_
        refine g_iload 42 (gd rfl) rfl rfl ?_
        refine g_iaload 43 (gd rfl) rfl (n := 32) rfl (in_ix i33 rfl) (fun z42 e42 => ?_)
        refine g_iload 45 (gd rfl) rfl rfl ?_
        refine g_iand 46 (gd rfl) rfl (fun z45 e45 => ?_)
        refine g_if_ne 49 53 (gd rfl) rfl rfl (fun c46 => ?_) (fun c46 => ?_)
        · skip
          refine g_iconst 0 54 (gd rfl) rfl rfl ?_
          refine g_istore 56 (gd rfl) rfl (Nat.le_of_ble_eq_true rfl) ?_
          refine g_aload_n 57 (gd rfl) rfl rfl ?_
          refine g_getA (q2 := 61) 60 (gd rfl) rfl rfl rfl rfl ?_
          refine g_iload 62 (gd rfl) rfl rfl ?_
          refine g_iaload 63 (gd rfl) rfl (n := 32) rfl (in_ix i33 rfl) (fun z62 e62 => ?_)
          have q62 : z42 = z62 := (e42).trans e62.symm
          subst q62
          refine g_aload_n 64 (gd rfl) rfl rfl ?_
          refine g_iload 66 (gd rfl) rfl rfl ?_
          refine g_iaload 67 (gd rfl) rfl (n := 32) rfl (in_ix j27_4 rfl) (fun z66 e66 => ?_)
          refine g_iand 68 (gd rfl) rfl (fun z67 e67 => ?_)
          refine g_if_ne 71 133 (gd rfl) rfl rfl (fun c68 => ?_) (fun c68 => ?_)
          · skip
            refine g_iinc 136 (gd rfl) rfl rfl (Nat.le_of_ble_eq_true rfl) (fun z133 e133 => ?_)
            have i133 := in_add 1 32 e133 i33 (in_c 1 rfl) rfl rfl
            refine g_goto 27 (gd rfl) rfl ?_
            exact gg_w (by first | exact Nat.le_add_right _ _ | exact gw2 | exact gw3 | exact gwe rfl | exact gwf rfl | exact gwg rfl | exact gwh rfl | omega) (gg_f (gf_cons rfl (gf_cons rfl (gf_cons rfl (gf_cons rfl (gf_cons rfl (gf_cons rfl (gf_cons rfl (gf_cons rfl (gf_cons rfl gf_nil))))))))) (ih27 sc27 y27_4 y27_5 y27_6 y27_7 z133 hIc27 hFc27 (in_w 0 31 j27_4 rfl) (in_w 0 1 j27_7 rfl) (in_w 0 32 i133 rfl) (m_up mm27 (t_add e133 i33 (in_c 1 rfl) rfl) (in_w 1 1 (in_c 1 rfl) rfl))))
          · skip
            have i68 := z_eq 0 0 c68 (i_rng z67) rfl
            refine g_iload 73 (gd rfl) rfl rfl ?_
            refine g_if_eq 76 81 (gd rfl) rfl rfl (fun c73 => ?_) (fun c73 => ?_)
            · skip
              refine g_iload 83 (gd rfl) rfl rfl ?_
              refine g_iload 85 (gd rfl) rfl rfl ?_
              refine g_ior 86 (gd rfl) rfl (fun z85 e85 => ?_)
              have i85 := in_or 1 e85 (in_w 0 1 j27_7 rfl) (in_w 0 1 (in_c 0 rfl) rfl) rfl
              refine g_istore 88 (gd rfl) rfl (Nat.le_of_ble_eq_true rfl) ?_
              refine g_aload_n 89 (gd rfl) rfl rfl ?_
              refine g_getA (q2 := 61) 92 (gd rfl) rfl rfl rfl rfl ?_
              refine g_iload 94 (gd rfl) rfl rfl ?_
              refine g_dup2 95 (gd rfl) rfl rfl rfl ?_
              refine g_iaload 96 (gd rfl) rfl (n := 32) rfl (in_ix i33 rfl) (fun z95 e95 => ?_)
              have q95 : z42 = z95 := (e42).trans e95.symm
              subst q95
              refine g_iload 98 (gd rfl) rfl rfl ?_
              refine g_ior 99 (gd rfl) rfl (fun z98 e98 => ?_)
              refine g_iastore 100 (gd rfl) rfl (n := 32) rfl (in_ix i33 rfl) ?_
              have hI99 := inv_sI (q := 61) (j := y27_8.toNatClampNeg) hIc27 rfl (in_w (-2147483648) 2147483647 (i_rng z98) rfl)
              refine g_aload_n 101 (gd rfl) rfl rfl ?_
              refine g_aload_n 102 (gd rfl) rfl rfl ?_
              refine g_iload_n 103 (gd rfl) rfl rfl ?_
              refine g_iload 105 (gd rfl) rfl rfl ?_
              refine g_iconst (-1) 106 (gd rfl) rfl rfl ?_
              refine g_ixor 107 (gd rfl) rfl (fun z106 e106 => ?_)
              refine g_iand 108 (gd rfl) rfl (fun z107 e107 => ?_)
              refine g_iload_n 109 (gd rfl) rfl rfl ?_
              refine g_iconst 1 110 (gd rfl) rfl rfl ?_
              refine g_iadd 111 (gd rfl) rfl (fun z110 e110 => ?_)
              have i110 := in_add 1 33 e110 h3 (in_c 1 rfl) rfl rfl
              have n111 : 33 - (z110).toInt < ((kk : Nat) : Int) := by have a0 := oa8 h3 i33a i33 j27_7 j27_4 ((in_c 0 rfl)) i85 i110; have a8 := t_add e110 h3 (in_c 1 rfl) rfl; have a9 := in_u ((in_c 1 rfl)); omega
              refine g_callv (X := _) (As := [.ref (A 39), .int z107, .int z110]) (r := []) (b := A 60) (q := 60) 114 (gd rfl) rfl rfl rfl rfl rfl (ww_o rfl) (Nat.le_of_ble_eq_true rfl) (Nat.zero_le _) (Nat.zero_le _) (ihF (by omega) hI99 (in_w 0 33 i110 rfl) n111) (fun e u h => h) (fun v u h => ?_)
              obtain ⟨s111, hI111, hF111, z111, rfl, rfl, i111⟩ := h
              show GG _ _ _ _ _ _ _ _ [.int z111] _ _ _
              refine g_if_eq 117 119 (gd rfl) rfl rfl (fun c114 => ?_) (fun c114 => ?_)
              · skip
                have i114 := z_eq 0 0 c114 i111 rfl
                refine g_aload_n 120 (gd rfl) rfl rfl ?_
                refine g_getA (q2 := 61) 123 (gd rfl) rfl rfl rfl rfl ?_
                refine g_iload 125 (gd rfl) rfl rfl ?_
                refine g_dup2 126 (gd rfl) rfl rfl rfl ?_
                refine g_iaload 127 (gd rfl) rfl (n := 32) rfl (in_ix i33 rfl) (fun z126 e126 => ?_)
                refine g_iload 129 (gd rfl) rfl rfl ?_
                refine g_iconst (-1) 130 (gd rfl) rfl rfl ?_
                refine g_ixor 131 (gd rfl) rfl (fun z130 e130 => ?_)
                refine g_iand 132 (gd rfl) rfl (fun z131 e131 => ?_)
                refine g_iastore 133 (gd rfl) rfl (n := 32) rfl (in_ix i33 rfl) ?_
                have hI132 := inv_sI (q := 61) (j := y27_8.toNatClampNeg) hI111 rfl (in_w (-2147483648) 2147483647 (i_rng z131) rfl)
                refine g_iinc 136 (gd rfl) rfl rfl (Nat.le_of_ble_eq_true rfl) (fun z133 e133 => ?_)
                have i133 := in_add 1 32 e133 i33 (in_c 1 rfl) rfl rfl
                refine g_goto 27 (gd rfl) rfl ?_
                exact gg_w (by first | exact Nat.le_add_right _ _ | exact gw2 | exact gw3 | exact gwe rfl | exact gwf rfl | exact gwg rfl | exact gwh rfl | omega) (gg_f (gf_cons rfl (gf_cons rfl (gf_cons rfl (gf_cons rfl (gf_cons rfl (gf_cons rfl (gf_cons rfl (gf_cons rfl (gf_cons rfl gf_nil))))))))) (ih27 (sI s111 61 y27_8.toNatClampNeg z131) y27_4 y27_5 y27_6 z85 z133 hI132 (fr_sI rfl (fr_tr rfl (fr_sI rfl hFc27) hF111)) (in_w 0 31 j27_4 rfl) (in_w 0 1 i85 rfl) (in_w 0 32 i133 rfl) (m_up mm27 (t_add e133 i33 (in_c 1 rfl) rfl) (in_w 1 1 (in_c 1 rfl) rfl))))
              · skip
                have i114 := z_ne 1 1 c114 i111 rfl
                refine g_iconst 1 118 (gd rfl) rfl rfl ?_
                exact g_ireturn (gd rfl) rfl (nb01 (in_w 0 1 (in_c 1 rfl) rfl)) (hP _ _ ⟨s111, hI111, (fr_tr rfl (fr_sI rfl hFc27) hF111), (Int32.ofInt 1), rfl, rfl, in_w 0 1 (in_c 1 rfl) rfl⟩)
            · skip
              exact zn_ne c73 (in_c 0 rfl) rfl
        · skip
          have i46 := z_eq 0 0 c46 (i_rng z45) rfl
          refine g_iconst 1 50 (gd rfl) rfl rfl ?_
          refine g_goto 54 (gd rfl) rfl ?_
          refine g_istore 56 (gd rfl) rfl (Nat.le_of_ble_eq_true rfl) ?_
          refine g_aload_n 57 (gd rfl) rfl rfl ?_
          refine g_getA (q2 := 61) 60 (gd rfl) rfl rfl rfl rfl ?_
          refine g_iload 62 (gd rfl) rfl rfl ?_
          refine g_iaload 63 (gd rfl) rfl (n := 32) rfl (in_ix i33 rfl) (fun z62 e62 => ?_)
          have q62 : z42 = z62 := (e42).trans e62.symm
          subst q62
          refine g_aload_n 64 (gd rfl) rfl rfl ?_
          refine g_iload 66 (gd rfl) rfl rfl ?_
          refine g_iaload 67 (gd rfl) rfl (n := 32) rfl (in_ix j27_4 rfl) (fun z66 e66 => ?_)
          refine g_iand 68 (gd rfl) rfl (fun z67 e67 => ?_)
          refine g_if_ne 71 133 (gd rfl) rfl rfl (fun c68 => ?_) (fun c68 => ?_)
          · skip
            refine g_iinc 136 (gd rfl) rfl rfl (Nat.le_of_ble_eq_true rfl) (fun z133 e133 => ?_)
            have i133 := in_add 1 32 e133 i33 (in_c 1 rfl) rfl rfl
            refine g_goto 27 (gd rfl) rfl ?_
            exact gg_w (by first | exact Nat.le_add_right _ _ | exact gw2 | exact gw3 | exact gwe rfl | exact gwf rfl | exact gwg rfl | exact gwh rfl | omega) (gg_f (gf_cons rfl (gf_cons rfl (gf_cons rfl (gf_cons rfl (gf_cons rfl (gf_cons rfl (gf_cons rfl (gf_cons rfl (gf_cons rfl gf_nil))))))))) (ih27 sc27 y27_4 y27_5 y27_6 y27_7 z133 hIc27 hFc27 (in_w 0 31 j27_4 rfl) (in_w 0 1 j27_7 rfl) (in_w 0 32 i133 rfl) (m_up mm27 (t_add e133 i33 (in_c 1 rfl) rfl) (in_w 1 1 (in_c 1 rfl) rfl))))
          · skip
            have i68 := z_eq 0 0 c68 (i_rng z67) rfl
            refine g_iload 73 (gd rfl) rfl rfl ?_
            refine g_if_eq 76 81 (gd rfl) rfl rfl (fun c73 => ?_) (fun c73 => ?_)
            · skip
              exact zn_eq c73 (in_c 1 rfl) rfl
            · skip
              refine g_iload 78 (gd rfl) rfl rfl ?_
              refine g_if_ne 81 133 (gd rfl) rfl rfl (fun c78 => ?_) (fun c78 => ?_)
              · skip
                have i78 := z_ne 1 1 c78 j27_7 rfl
                refine g_iinc 136 (gd rfl) rfl rfl (Nat.le_of_ble_eq_true rfl) (fun z133 e133 => ?_)
                have i133 := in_add 1 32 e133 i33 (in_c 1 rfl) rfl rfl
                refine g_goto 27 (gd rfl) rfl ?_
                exact gg_w (by first | exact Nat.le_add_right _ _ | exact gw2 | exact gw3 | exact gwe rfl | exact gwf rfl | exact gwg rfl | exact gwh rfl | omega) (gg_f (gf_cons rfl (gf_cons rfl (gf_cons rfl (gf_cons rfl (gf_cons rfl (gf_cons rfl (gf_cons rfl (gf_cons rfl (gf_cons rfl gf_nil))))))))) (ih27 sc27 y27_4 y27_5 y27_6 y27_7 z133 hIc27 hFc27 (in_w 0 31 j27_4 rfl) (in_w 0 1 i78 rfl) (in_w 0 32 i133 rfl) (m_up mm27 (t_add e133 i33 (in_c 1 rfl) rfl) (in_w 1 1 (in_c 1 rfl) rfl))))
              · skip
                have i78 := z_eq 0 0 c78 j27_7 rfl
                refine g_iload 83 (gd rfl) rfl rfl ?_
                refine g_iload 85 (gd rfl) rfl rfl ?_
                refine g_ior 86 (gd rfl) rfl (fun z85 e85 => ?_)
                have i85 := in_or 1 e85 (in_w 0 1 i78 rfl) (in_w 0 1 (in_c 1 rfl) rfl) rfl
                refine g_istore 88 (gd rfl) rfl (Nat.le_of_ble_eq_true rfl) ?_
                refine g_aload_n 89 (gd rfl) rfl rfl ?_
                refine g_getA (q2 := 61) 92 (gd rfl) rfl rfl rfl rfl ?_
                refine g_iload 94 (gd rfl) rfl rfl ?_
                refine g_dup2 95 (gd rfl) rfl rfl rfl ?_
                refine g_iaload 96 (gd rfl) rfl (n := 32) rfl (in_ix i33 rfl) (fun z95 e95 => ?_)
                have q95 : z42 = z95 := (e42).trans e95.symm
                subst q95
                refine g_iload 98 (gd rfl) rfl rfl ?_
                refine g_ior 99 (gd rfl) rfl (fun z98 e98 => ?_)
                refine g_iastore 100 (gd rfl) rfl (n := 32) rfl (in_ix i33 rfl) ?_
                have hI99 := inv_sI (q := 61) (j := y27_8.toNatClampNeg) hIc27 rfl (in_w (-2147483648) 2147483647 (i_rng z98) rfl)
                refine g_aload_n 101 (gd rfl) rfl rfl ?_
                refine g_aload_n 102 (gd rfl) rfl rfl ?_
                refine g_iload_n 103 (gd rfl) rfl rfl ?_
                refine g_iload 105 (gd rfl) rfl rfl ?_
                refine g_iconst (-1) 106 (gd rfl) rfl rfl ?_
                refine g_ixor 107 (gd rfl) rfl (fun z106 e106 => ?_)
                refine g_iand 108 (gd rfl) rfl (fun z107 e107 => ?_)
                refine g_iload_n 109 (gd rfl) rfl rfl ?_
                refine g_iconst 1 110 (gd rfl) rfl rfl ?_
                refine g_iadd 111 (gd rfl) rfl (fun z110 e110 => ?_)
                have i110 := in_add 1 33 e110 h3 (in_c 1 rfl) rfl rfl
                have n111 : 33 - (z110).toInt < ((kk : Nat) : Int) := by have a0 := oa8 h3 i33a i33 i78 j27_4 ((in_c 1 rfl)) i85 i110; have a8 := t_add e110 h3 (in_c 1 rfl) rfl; omega
                refine g_callv (X := _) (As := [.ref (A 39), .int z107, .int z110]) (r := []) (b := A 60) (q := 60) 114 (gd rfl) rfl rfl rfl rfl rfl (ww_o rfl) (Nat.le_of_ble_eq_true rfl) (Nat.zero_le _) (Nat.zero_le _) (ihF (by omega) hI99 (in_w 0 33 i110 rfl) n111) (fun e u h => h) (fun v u h => ?_)
                obtain ⟨s111, hI111, hF111, z111, rfl, rfl, i111⟩ := h
                show GG _ _ _ _ _ _ _ _ [.int z111] _ _ _
                refine g_if_eq 117 119 (gd rfl) rfl rfl (fun c114 => ?_) (fun c114 => ?_)
                · skip
                  have i114 := z_eq 0 0 c114 i111 rfl
                  refine g_aload_n 120 (gd rfl) rfl rfl ?_
                  refine g_getA (q2 := 61) 123 (gd rfl) rfl rfl rfl rfl ?_
                  refine g_iload 125 (gd rfl) rfl rfl ?_
                  refine g_dup2 126 (gd rfl) rfl rfl rfl ?_
                  refine g_iaload 127 (gd rfl) rfl (n := 32) rfl (in_ix i33 rfl) (fun z126 e126 => ?_)
                  refine g_iload 129 (gd rfl) rfl rfl ?_
                  refine g_iconst (-1) 130 (gd rfl) rfl rfl ?_
                  refine g_ixor 131 (gd rfl) rfl (fun z130 e130 => ?_)
                  refine g_iand 132 (gd rfl) rfl (fun z131 e131 => ?_)
                  refine g_iastore 133 (gd rfl) rfl (n := 32) rfl (in_ix i33 rfl) ?_
                  have hI132 := inv_sI (q := 61) (j := y27_8.toNatClampNeg) hI111 rfl (in_w (-2147483648) 2147483647 (i_rng z131) rfl)
                  refine g_iinc 136 (gd rfl) rfl rfl (Nat.le_of_ble_eq_true rfl) (fun z133 e133 => ?_)
                  have i133 := in_add 1 32 e133 i33 (in_c 1 rfl) rfl rfl
                  refine g_goto 27 (gd rfl) rfl ?_
                  exact gg_w (by first | exact Nat.le_add_right _ _ | exact gw2 | exact gw3 | exact gwe rfl | exact gwf rfl | exact gwg rfl | exact gwh rfl | omega) (gg_f (gf_cons rfl (gf_cons rfl (gf_cons rfl (gf_cons rfl (gf_cons rfl (gf_cons rfl (gf_cons rfl (gf_cons rfl (gf_cons rfl gf_nil))))))))) (ih27 (sI s111 61 y27_8.toNatClampNeg z131) y27_4 y27_5 y27_6 z85 z133 hI132 (fr_sI rfl (fr_tr rfl (fr_sI rfl hFc27) hF111)) (in_w 0 31 j27_4 rfl) (in_w 0 1 i85 rfl) (in_w 0 32 i133 rfl) (m_up mm27 (t_add e133 i33 (in_c 1 rfl) rfl) (in_w 1 1 (in_c 1 rfl) rfl))))
                · skip
                  have i114 := z_ne 1 1 c114 i111 rfl
                  refine g_iconst 1 118 (gd rfl) rfl rfl ?_
                  exact g_ireturn (gd rfl) rfl (nb01 (in_w 0 1 (in_c 1 rfl) rfl)) (hP _ _ ⟨s111, hI111, (fr_tr rfl (fr_sI rfl hFc27) hF111), (Int32.ofInt 1), rfl, rfl, in_w 0 1 (in_c 1 rfl) rfl⟩)
  refine g_enter2 (k := 47) (N := 30601) (by first | exact dq1 hd rfl | exact dq0 hd rfl | exact dq2 hd rfl | exact dq3 hd rfl | omega) rfl (Nat.le_of_ble_eq_true rfl) ?_
  refine g_aload_n 1 (gd rfl) rfl rfl ?_
  refine g_aload_n 2 (gd rfl) rfl rfl ?_
  refine g_iload_n 3 (gd rfl) rfl rfl ?_
  refine g_callv (X := _) (As := [.ref (A 39), .int x2]) (r := []) (b := A 60) (q := 60) 6 (gd rfl) rfl rfl rfl rfl rfl (ww_o rfl) (Nat.le_of_ble_eq_true rfl) (Nat.zero_le _) (Nat.zero_le _) (k_52_60_39 (by first | exact dq1 hd rfl | exact dq0 hd rfl | exact dq2 hd rfl | exact dq3 hd rfl | omega) hI nza_2) (fun e u h => h) (fun v u h => ?_)
  obtain ⟨z3, rfl, rfl, i3⟩ := h
  show GG _ _ _ _ _ _ _ _ [.int z3] _ _ _
  refine g_istore 8 (gd rfl) rfl (Nat.le_of_ble_eq_true rfl) ?_
  refine g_iconst 1 9 (gd rfl) rfl rfl ?_
  refine g_iload 11 (gd rfl) rfl rfl ?_
  refine g_ishl 12 (gd rfl) rfl (fun z11 e11 => ?_)
  refine g_istore 14 (gd rfl) rfl (Nat.le_of_ble_eq_true rfl) ?_
  refine g_aload_n 15 (gd rfl) rfl rfl ?_
  refine g_iload_n 16 (gd rfl) rfl rfl ?_
  refine g_calls (As := [.ref (A 39), .int x2]) (r := []) 19 (gd rfl) rfl rfl rfl rfl rfl (Nat.le_of_ble_eq_true rfl) (Nat.zero_le _) (Nat.zero_le _) (k_48_39 (by first | exact dq1 hd rfl | exact dq0 hd rfl | exact dq2 hd rfl | exact dq3 hd rfl | omega) hI ) (fun v u h => ?_)
  obtain ⟨z16, rfl, rfl, i16⟩ := h
  show GG _ _ _ _ _ _ _ _ [.int z16] _ _ _
  refine g_istore 21 (gd rfl) rfl (Nat.le_of_ble_eq_true rfl) ?_
  refine g_iconst 0 22 (gd rfl) rfl rfl ?_
  refine g_istore 24 (gd rfl) rfl (Nat.le_of_ble_eq_true rfl) ?_
  refine g_iconst 0 25 (gd rfl) rfl rfl ?_
  refine g_istore 27 (gd rfl) rfl (Nat.le_of_ble_eq_true rfl) ?_
  exact gg_w (by first | exact Nat.le_of_ble_eq_true rfl | omega) (gg_f (gf_cons rfl (gf_cons rfl (gf_cons rfl (gf_cons rfl (gf_cons rfl (gf_cons rfl (gf_cons rfl (gf_cons rfl (gf_cons rfl gf_nil))))))))) (ct27 33 s z3 z11 z16 (Int32.ofInt 0) (Int32.ofInt 0) hI fr_rf (in_w 0 31 i3 rfl) (in_w 0 1 (in_c 0 rfl) rfl) (in_w 0 32 (in_c 0 rfl) rfl) (m_in 33 (in_w 0 32 (in_c 0 rfl) rfl) rfl)))
theorem k_46_60_39_r {Z : AmZ} {A : Nat → Nat} {ex : va_W} (kk : Nat) : ∀ {s : GS} {d : Nat} {X : AmX} {x2 : Int32} {x3 : Int32}, 40 + kk * 10 ≤ d → Inv s → (In x3 0 33) → 33 - (x3).toInt < ((kk : Nat) : Int) → GC Z d 46 [.ref (A 60), .ref (A 39), .int x2, .int x3] (WW Z A s ++ ex) 0 0 (fun v u => ∃ t : GS, Inv t ∧ Fr fm_46_60_39 s t ∧ ∃ z : Int32, v = some (.int z) ∧ u = WW Z A t ++ ex ∧ In z 0 1) X := by
  induction kk with
  | zero => intro s d X x2 x3 hd hI h3 hm; exact m_no hm h3 rfl
  | succ kk ih =>
    have ihP : ∀ {s : GS} {d : Nat} {X : AmX} {x2 : Int32} {x3 : Int32}, 45 + kk * 10 ≤ d → Inv s → (In x3 0 32) → (x2.toInt ≠ 0) → 33 - (x3).toInt < ((kk + 1 : Nat) : Int) → GC Z d 47 [.ref (A 60), .ref (A 39), .int x2, .int x3] (WW Z A s ++ ex) 0 0 (fun v u => ∃ t : GS, Inv t ∧ Fr fm_47_60_39 s t ∧ ∃ z : Int32, v = some (.int z) ∧ u = WW Z A t ++ ex ∧ In z 0 1) X := k_47_60_39_r kk ih
    intro s d X x2 x3 hd hI h3 hm
    intro post xp hP hX
    obtain ⟨u_60_3, e_60_3⟩ : ∃ w, w = s.2.2.1 60 3 := ⟨_, rfl⟩
    have ro_60_3 := inv_F hI 0 32 rfl e_60_3
    have ct65 : ∀ (k65 : Nat) (sc65 : GS) (y65_4 : Int32) (y65_5 : Int32) (y65_6 : Int32) (y65_7 : Int32) (y65_8 : Int32), Inv sc65 → Fr fm_46_60_39 s sc65 → (In x3 0 32) → (In y65_4 0 32) → (In y65_6 0 31) → (In y65_8 0 32) → ((y65_5).toInt ≠ 0) → 32 - (y65_8).toInt < (k65 : Int) → GG Z (d - 1) 46 post (gx xp) (1 + k65 * 900) 65 (fun j => xlook j [(0, .ref (A 60)), (1, .ref (A 39)), (2, .int x2), (3, .int x3), (4, .int y65_4), (5, .int y65_5), (6, .int y65_6), (7, .int y65_7), (8, .int y65_8)]) [] (WW Z A sc65 ++ ex) 0 0 := by
      intro k65
      induction k65 with
      | zero => intro sc65 y65_4 y65_5 y65_6 y65_7 y65_8 hIc65 hFc65 j65_3 j65_4 j65_6 j65_8 nz65_5 mm65; exact m_no mm65 j65_8 rfl
      | succ k65 ih65 =>
        intro sc65 y65_4 y65_5 y65_6 y65_7 y65_8 hIc65 hFc65 j65_3 j65_4 j65_6 j65_8 nz65_5 mm65
        refine gg_w (M := 1 + k65 * 900 + 900) gws ?_
        refine g_iload 67 (gd rfl) rfl rfl ?_
        refine g_aload_n 68 (gd rfl) rfl rfl ?_
        refine g_getI 71 (gd rfl) rfl rfl rfl (fun z68 e68 => ?_)
        have q68 : u_60_3 = z68 := (fr_F e_60_3 hFc65 rfl).trans e68.symm
        subst q68
        refine g_cmp_ge 74 93 (gd rfl) rfl rfl (fun c71 => ?_) (fun c71 => ?_)
        · skip
          refine g_aload_n 94 (gd rfl) rfl rfl ?_
          refine g_iload 96 (gd rfl) rfl rfl ?_
          refine g_putI 99 (gd rfl) rfl rfl rfl rfl ?_
          have hI96 := inv_sF (q := 60) (j := 7) hIc65 rfl (in_w 0 32 j65_4 rfl)
          refine g_iconst 0 100 (gd rfl) rfl rfl ?_
          exact g_ireturn (gd rfl) rfl (nb01 (in_w 0 1 (in_c 0 rfl) rfl)) (hP _ _ ⟨(sF sc65 60 7 y65_4), hI96, (fr_sF rfl hFc65), (Int32.ofInt 0), rfl, rfl, in_w 0 1 (in_c 0 rfl) rfl⟩)
        · skip
          have i71 := r_lt1 0 31 c71 j65_8 ro_60_3 rfl
          have i71a := r_lt2 1 32 c71 j65_8 ro_60_3 rfl
          refine g_aload_n 75 (gd rfl) rfl rfl ?_
          refine g_getA (q2 := 61) 78 (gd rfl) rfl rfl rfl rfl ?_
          refine g_iload 80 (gd rfl) rfl rfl ?_
          refine g_dup2 81 (gd rfl) rfl rfl rfl ?_
          refine g_iaload 82 (gd rfl) rfl (n := 32) rfl (in_ix i71 rfl) (fun z81 e81 => ?_)
          refine g_iload_n 83 (gd rfl) rfl rfl ?_
          refine g_iconst (-1) 84 (gd rfl) rfl rfl ?_
          refine g_ixor 85 (gd rfl) rfl (fun z84 e84 => ?_)
          refine g_iand 86 (gd rfl) rfl (fun z85 e85 => ?_)
          refine g_iastore 87 (gd rfl) rfl (n := 32) rfl (in_ix i71 rfl) ?_
          have hI86 := inv_sI (q := 61) (j := y65_8.toNatClampNeg) hIc65 rfl (in_w (-2147483648) 2147483647 (i_rng z85) rfl)
          refine g_iinc 90 (gd rfl) rfl rfl (Nat.le_of_ble_eq_true rfl) (fun z87 e87 => ?_)
          have i87 := in_add 1 32 e87 i71 (in_c 1 rfl) rfl rfl
          refine g_goto 65 (gd rfl) rfl ?_
          exact gg_w (by first | exact Nat.le_add_right _ _ | exact gw2 | exact gw3 | exact gwe rfl | exact gwf rfl | exact gwg rfl | exact gwh rfl | omega) (gg_f (gf_cons rfl (gf_cons rfl (gf_cons rfl (gf_cons rfl (gf_cons rfl (gf_cons rfl (gf_cons rfl (gf_cons rfl (gf_cons rfl gf_nil))))))))) (ih65 (sI sc65 61 y65_8.toNatClampNeg z85) y65_4 y65_5 y65_6 y65_7 z87 hI86 (fr_sI rfl hFc65) (in_w 0 32 j65_3 rfl) (in_w 0 32 j65_4 rfl) (in_w 0 31 j65_6 rfl) (in_w 0 32 i87 rfl) nz65_5 (m_up mm65 (t_add e87 i71 (in_c 1 rfl) rfl) (in_w 1 1 (in_c 1 rfl) rfl))))
    have ct25 : ∀ (k25 : Nat) (sc25 : GS) (y25_4 : Int32) (y25_5 : Int32) (y25_6 : Int32), Inv sc25 → Fr fm_46_60_39 s sc25 → (In x3 0 32) → (In y25_4 0 32) → (In y25_6 0 32) → 32 - (y25_6).toInt < (k25 : Int) → GG Z (d - 1) 46 post (gx xp) (29702 + k25 * 900) 25 (fun j => xlook j [(0, .ref (A 60)), (1, .ref (A 39)), (2, .int x2), (3, .int x3), (4, .int y25_4), (5, .int y25_5), (6, .int y25_6)]) [] (WW Z A sc25 ++ ex) 0 0 := by
      intro k25
      induction k25 with
      | zero => intro sc25 y25_4 y25_5 y25_6 hIc25 hFc25 j25_3 j25_4 j25_6 mm25; exact m_no mm25 j25_6 rfl
      | succ k25 ih25 =>
        intro sc25 y25_4 y25_5 y25_6 hIc25 hFc25 j25_3 j25_4 j25_6 mm25
        refine gg_w (M := 29702 + k25 * 900 + 900) gws ?_
        refine g_iload 27 (gd rfl) rfl rfl ?_
        refine g_bipush 32 29 (gd rfl) rfl rfl ?_
        refine g_cmp_ge 32 116 (gd rfl) rfl rfl (fun c29 => ?_) (fun c29 => ?_)
        · skip
          have i29 := r_le2 32 32 c29 (in_c 32 rfl) j25_6 rfl
          refine g_aload_n 117 (gd rfl) rfl rfl ?_
          refine g_aload_n 118 (gd rfl) rfl rfl ?_
          refine g_iload 120 (gd rfl) rfl rfl ?_
          refine g_callv (X := _) (As := [.ref (A 39), .int y25_4]) (r := []) (b := A 60) (q := 60) 123 (gd rfl) rfl rfl rfl rfl rfl (ww_o rfl) (Nat.le_of_ble_eq_true rfl) (Nat.zero_le _) (Nat.zero_le _) (k_50_60_39 (by first | exact dq1 hd rfl | exact dq0 hd rfl | exact dq2 hd rfl | exact dq3 hd rfl | omega) hIc25 (in_w 0 32 j25_4 rfl)) (fun e u h => h) (fun v u h => ?_)
          obtain ⟨s120, hI120, hF120, rfl, rfl⟩ := h
          show GG _ _ _ _ _ _ _ _ [] _ _ _
          refine g_iconst 1 124 (gd rfl) rfl rfl ?_
          exact g_ireturn (gd rfl) rfl (nb01 (in_w 0 1 (in_c 1 rfl) rfl)) (hP _ _ ⟨s120, hI120, (fr_tr rfl hFc25 hF120), (Int32.ofInt 1), rfl, rfl, in_w 0 1 (in_c 1 rfl) rfl⟩)
        · skip
          have i29 := r_lt1 0 31 c29 j25_6 (in_c 32 rfl) rfl
          refine g_iload 34 (gd rfl) rfl rfl ?_
          refine g_if_eq 37 116 (gd rfl) rfl rfl (fun c34 => ?_) (fun c34 => ?_)
          · skip
            have i34 := z_eq 0 0 c34 (i_rng y25_5) rfl
            refine g_aload_n 117 (gd rfl) rfl rfl ?_
            refine g_aload_n 118 (gd rfl) rfl rfl ?_
            refine g_iload 120 (gd rfl) rfl rfl ?_
            refine g_callv (X := _) (As := [.ref (A 39), .int y25_4]) (r := []) (b := A 60) (q := 60) 123 (gd rfl) rfl rfl rfl rfl rfl (ww_o rfl) (Nat.le_of_ble_eq_true rfl) (Nat.zero_le _) (Nat.zero_le _) (k_50_60_39 (by first | exact dq1 hd rfl | exact dq0 hd rfl | exact dq2 hd rfl | exact dq3 hd rfl | omega) hIc25 (in_w 0 32 j25_4 rfl)) (fun e u h => h) (fun v u h => ?_)
            obtain ⟨s120, hI120, hF120, rfl, rfl⟩ := h
            show GG _ _ _ _ _ _ _ _ [] _ _ _
            refine g_iconst 1 124 (gd rfl) rfl rfl ?_
            exact g_ireturn (gd rfl) rfl (nb01 (in_w 0 1 (in_c 1 rfl) rfl)) (hP _ _ ⟨s120, hI120, (fr_tr rfl hFc25 hF120), (Int32.ofInt 1), rfl, rfl, in_w 0 1 (in_c 1 rfl) rfl⟩)
          · skip
            refine g_aload_n 38 (gd rfl) rfl rfl ?_
            refine g_iload 40 (gd rfl) rfl rfl ?_
            refine g_iload 42 (gd rfl) rfl rfl ?_
            refine g_ineg 43 (gd rfl) rfl (fun z42 e42 => ?_)
            refine g_iand 44 (gd rfl) rfl (fun z43 e43 => ?_)
            refine g_iload 46 (gd rfl) rfl rfl ?_
            refine g_calls (As := [.ref (A 39), .int z43, .int y25_5]) (r := []) 49 (gd rfl) rfl rfl rfl rfl rfl (Nat.le_of_ble_eq_true rfl) (Nat.zero_le _) (Nat.zero_le _) (k_266_39 (by first | exact dq1 hd rfl | exact dq0 hd rfl | exact dq2 hd rfl | exact dq3 hd rfl | omega) hIc25 ) (fun v u h => ?_)
            obtain ⟨z46, rfl, rfl, i46, p46⟩ := h
            show GG _ _ _ _ _ _ _ _ [.int z46] _ _ _
            refine g_istore 51 (gd rfl) rfl (Nat.le_of_ble_eq_true rfl) ?_
            refine g_aload_n 52 (gd rfl) rfl rfl ?_
            refine g_aload_n 53 (gd rfl) rfl rfl ?_
            refine g_iload 55 (gd rfl) rfl rfl ?_
            refine g_iload_n 56 (gd rfl) rfl rfl ?_
            have nz56 : (z46).toInt ≠ 0 := by obtain ⟨k, hk⟩ := lsb_bit c34 e42 e43; exact bt_nz (p46 k hk)
            have n56 : 33 - (x3).toInt < ((kk + 1 : Nat) : Int) := by have a0 := oa4 j25_3 ro_60_3 i29 j25_4; omega
            refine g_callv (X := _) (As := [.ref (A 39), .int z46, .int x3]) (r := []) (b := A 60) (q := 60) 59 (gd rfl) rfl rfl rfl rfl rfl (ww_o rfl) (Nat.le_of_ble_eq_true rfl) (Nat.zero_le _) (Nat.zero_le _) (ihP (by omega) hIc25 (in_w 0 32 j25_3 rfl) nz56 n56) (fun e u h => h) (fun v u h => ?_)
            obtain ⟨s56, hI56, hF56, z56, rfl, rfl, i56⟩ := h
            show GG _ _ _ _ _ _ _ _ [.int z56] _ _ _
            refine g_if_ne 62 101 (gd rfl) rfl rfl (fun c59 => ?_) (fun c59 => ?_)
            · skip
              have i59 := z_ne 1 1 c59 i56 rfl
              refine g_iload 103 (gd rfl) rfl rfl ?_
              refine g_iload 105 (gd rfl) rfl rfl ?_
              refine g_iconst (-1) 106 (gd rfl) rfl rfl ?_
              refine g_ixor 107 (gd rfl) rfl (fun z106 e106 => ?_)
              refine g_iand 108 (gd rfl) rfl (fun z107 e107 => ?_)
              refine g_istore 110 (gd rfl) rfl (Nat.le_of_ble_eq_true rfl) ?_
              refine g_iinc 113 (gd rfl) rfl rfl (Nat.le_of_ble_eq_true rfl) (fun z110 e110 => ?_)
              have i110 := in_add 1 32 e110 i29 (in_c 1 rfl) rfl rfl
              refine g_goto 25 (gd rfl) rfl ?_
              exact gg_w (by first | exact Nat.le_add_right _ _ | exact gw2 | exact gw3 | exact gwe rfl | exact gwf rfl | exact gwg rfl | exact gwh rfl | omega) (gg_f (gf_cons rfl (gf_cons rfl (gf_cons rfl (gf_cons rfl (gf_cons rfl (gf_cons rfl (gf_cons rfl gf_nil))))))) (ih25 s56 y25_4 z107 z110 hI56 (fr_tr rfl hFc25 hF56) (in_w 0 32 j25_3 rfl) (in_w 0 32 j25_4 rfl) (in_w 0 32 i110 rfl) (m_up mm25 (t_add e110 i29 (in_c 1 rfl) rfl) (in_w 1 1 (in_c 1 rfl) rfl))))
            · skip
              have i59 := z_eq 0 0 c59 i56 rfl
              refine g_iconst 0 63 (gd rfl) rfl rfl ?_
              refine g_istore 65 (gd rfl) rfl (Nat.le_of_ble_eq_true rfl) ?_
              exact gg_w (by first | exact Nat.le_add_right _ _ | exact gw2 | exact gw3 | exact gwe rfl | exact gwf rfl | exact gwg rfl | exact gwh rfl | omega) (gg_f (gf_cons rfl (gf_cons rfl (gf_cons rfl (gf_cons rfl (gf_cons rfl (gf_cons rfl (gf_cons rfl (gf_cons rfl (gf_cons rfl gf_nil))))))))) (ct65 33 s56 y25_4 y25_5 y25_6 z46 (Int32.ofInt 0) hI56 (fr_tr rfl hFc25 hF56) (in_w 0 32 j25_3 rfl) (in_w 0 32 j25_4 rfl) (in_w 0 31 i29 rfl) (in_w 0 32 (in_c 0 rfl) rfl) c34 (m_in 33 (in_w 0 32 (in_c 0 rfl) rfl) rfl)))
    refine g_enter2 (k := 46) (N := 60302) (by first | exact dq1 hd rfl | exact dq0 hd rfl | exact dq2 hd rfl | exact dq3 hd rfl | omega) rfl (Nat.le_of_ble_eq_true rfl) ?_
    refine g_iload_n 1 (gd rfl) rfl rfl ?_
    refine g_bipush 32 3 (gd rfl) rfl rfl ?_
    refine g_cmp_le 6 8 (gd rfl) rfl rfl (fun c3 => ?_) (fun c3 => ?_)
    · skip
      have i3 := r_le1 0 32 c3 h3 (in_c 32 rfl) rfl
      refine g_aload_n 9 (gd rfl) rfl rfl ?_
      refine g_getI 12 (gd rfl) rfl rfl rfl (fun z9 e9 => ?_)
      have i9 := inv_F hI 0 32 rfl e9
      refine g_istore 14 (gd rfl) rfl (Nat.le_of_ble_eq_true rfl) ?_
      refine g_aload_n 15 (gd rfl) rfl rfl ?_
      refine g_aload_n 16 (gd rfl) rfl rfl ?_
      refine g_iload_n 17 (gd rfl) rfl rfl ?_
      refine g_callv (X := _) (As := [.ref (A 39), .int x2]) (r := []) (b := A 60) (q := 60) 20 (gd rfl) rfl rfl rfl rfl rfl (ww_o rfl) (Nat.le_of_ble_eq_true rfl) (Nat.zero_le _) (Nat.zero_le _) (k_49_60_39 (by first | exact dq1 hd rfl | exact dq0 hd rfl | exact dq2 hd rfl | exact dq3 hd rfl | omega) hI ) (fun e u h => h) (fun v u h => ?_)
      obtain ⟨s17, hI17, hF17, z17, rfl, rfl, i17⟩ := h
      show GG _ _ _ _ _ _ _ _ [.int z17] _ _ _
      refine g_istore 22 (gd rfl) rfl (Nat.le_of_ble_eq_true rfl) ?_
      refine g_iconst 0 23 (gd rfl) rfl rfl ?_
      refine g_istore 25 (gd rfl) rfl (Nat.le_of_ble_eq_true rfl) ?_
      exact gg_w (by first | exact Nat.le_of_ble_eq_true rfl | omega) (gg_f (gf_cons rfl (gf_cons rfl (gf_cons rfl (gf_cons rfl (gf_cons rfl (gf_cons rfl (gf_cons rfl gf_nil))))))) (ct25 33 s17 z9 z17 (Int32.ofInt 0) hI17 (fr_tr rfl fr_rf hF17) (in_w 0 32 i3 rfl) (in_w 0 32 i9 rfl) (in_w 0 32 (in_c 0 rfl) rfl) (m_in 33 (in_w 0 32 (in_c 0 rfl) rfl) rfl)))
    · skip
      have i3 := r_lt2 33 33 c3 (in_c 32 rfl) h3 rfl
      refine g_iconst 0 7 (gd rfl) rfl rfl ?_
      exact g_ireturn (gd rfl) rfl (nb01 (in_w 0 1 (in_c 0 rfl) rfl)) (hP _ _ ⟨s, hI, fr_rf, (Int32.ofInt 0), rfl, rfl, in_w 0 1 (in_c 0 rfl) rfl⟩)
theorem k_46_60_39 {Z : AmZ} {A : Nat → Nat} {s : GS} {ex : va_W} {d : Nat} {X : AmX} {x2 : Int32} {x3 : Int32} (hd : 380 ≤ d) (hI : Inv s) (h3 : (In x3 0 33)) : GC Z d 46 [.ref (A 60), .ref (A 39), .int x2, .int x3] (WW Z A s ++ ex) 0 0 (fun v u => ∃ t : GS, Inv t ∧ Fr fm_46_60_39 s t ∧ ∃ z : Int32, v = some (.int z) ∧ u = WW Z A t ++ ex ∧ In z 0 1) X := k_46_60_39_r 34 (by omega) hI h3 (m_in 34 h3 rfl)

def fm_54_60_2 : FM := ([61, 62, 63], [], [(60, 7)], [])
/-- GraphHouse$Colours.canLower -/
theorem k_54_60_2 {Z : AmZ} {A : Nat → Nat} {s : GS} {ex : va_W} {d : Nat} {X : AmX} {x2 : Int32} {x3 : Int32} {x4 : Int32} (hd : 381 ≤ d) (hI : Inv s) (h2 : In x2 0 31) (h3 : In x3 0 31) (h4 : In x4 0 31) : GC Z d 54 [.ref (A 60), .ref (A 2), .int x2, .int x3, .int x4] (WW Z A s ++ ex) 0 0 (fun v u => ∃ t : GS, Inv t ∧ Fr fm_54_60_2 s t ∧ ∃ z : Int32, v = some (.int z) ∧ u = WW Z A t ++ ex ∧ In z 0 1) X := by
  intro post xp hP hX
  obtain ⟨u_2_1, e_2_1⟩ : ∃ w, w = s.2.2.1 2 1 := ⟨_, rfl⟩
  have ro_2_1 := inv_F hI 0 32 rfl e_2_1
  obtain ⟨u_60_3, e_60_3⟩ : ∃ w, w = s.2.2.1 60 3 := ⟨_, rfl⟩
  have ro_60_3 := inv_F hI 0 32 rfl e_60_3
  have ct108 : ∀ (k108 : Nat) (sc108 : GS) (y108_5 : Int32) (y108_6 : Int32) (y108_7 : Int32) (y108_8 : Int32), Inv sc108 → Fr fm_54_60_2 s sc108 → (In y108_8 0 32) → 32 - (y108_8).toInt < (k108 : Int) → GG Z (d - 1) 54 post (gx xp) (1 + k108 * 900) 108 (fun j => xlook j [(0, .ref (A 60)), (1, .ref (A 2)), (2, .int x2), (3, .int x3), (4, .int x4), (5, .int y108_5), (6, .int y108_6), (7, .int y108_7), (8, .int y108_8)]) [] (WW Z A sc108 ++ ex) 0 0 := by
    intro k108
    induction k108 with
    | zero => intro sc108 y108_5 y108_6 y108_7 y108_8 hIc108 hFc108 j108_8 mm108; exact m_no mm108 j108_8 rfl
    | succ k108 ih108 =>
      intro sc108 y108_5 y108_6 y108_7 y108_8 hIc108 hFc108 j108_8 mm108
      refine gg_w (M := 1 + k108 * 900 + 900) gws ?_
      refine g_iload 110 (gd rfl) rfl rfl ?_
      refine g_aload_n 111 (gd rfl) rfl rfl ?_
      refine g_getI 114 (gd rfl) rfl rfl rfl (fun z111 e111 => ?_)
      have q111 : u_60_3 = z111 := (fr_F e_60_3 hFc108 rfl).trans e111.symm
      subst q111
      refine g_cmp_ge 117 135 (gd rfl) rfl rfl (fun c114 => ?_) (fun c114 => ?_)
      · skip
        refine g_aload_n 136 (gd rfl) rfl rfl ?_
        refine g_getA (q2 := 61) 139 (gd rfl) rfl rfl rfl rfl ?_
        refine g_iload_n 140 (gd rfl) rfl rfl ?_
        refine g_dup2 141 (gd rfl) rfl rfl rfl ?_
        refine g_iaload 142 (gd rfl) rfl (n := 32) rfl (in_ix h3 rfl) (fun z141 e141 => ?_)
        refine g_iload 144 (gd rfl) rfl rfl ?_
        refine g_ior 145 (gd rfl) rfl (fun z144 e144 => ?_)
        refine g_iastore 146 (gd rfl) rfl (n := 32) rfl (in_ix h3 rfl) ?_
        have hI145 := inv_sI (q := 61) (j := x3.toNatClampNeg) hIc108 rfl (in_w (-2147483648) 2147483647 (i_rng z144) rfl)
        refine g_aload_n 147 (gd rfl) rfl rfl ?_
        refine g_aload_n 148 (gd rfl) rfl rfl ?_
        refine g_getA (q2 := 9) 151 (gd rfl) rfl rfl rfl rfl ?_
        refine g_aload_n 152 (gd rfl) rfl rfl ?_
        refine g_callv (X := _) (As := []) (r := [.ref (A 9), .ref (A 60)]) (b := A 2) (q := 2) 155 (gd rfl) rfl rfl rfl rfl rfl (ww_o rfl) (Nat.le_of_ble_eq_true rfl) (mc := 0) (ms := 0) (Nat.zero_le _) (Nat.zero_le _) (P := fun v u => _) ?_ (fun e u h => h) (fun v u h => h)
        intro po152 xx152 hp152 hx152
        refine g_enter2 (k := 102) (N := 300) (by first | exact dq1 hd rfl | exact dq0 hd rfl | exact dq2 hd rfl | exact dq3 hd rfl | omega) rfl (Nat.le_of_ble_eq_true rfl) ?_
        refine g_aload_n 1 (gd rfl) rfl rfl ?_
        refine g_getI 4 (gd rfl) rfl rfl rfl (fun z152x1 e152x1 => ?_)
        have q152x1 : u_2_1 = z152x1 := (sI_F (fr_F e_2_1 hFc108 rfl)).trans e152x1.symm
        subst q152x1
        refine g_bipush 32 6 (gd rfl) rfl rfl ?_
        refine g_cmp_lt 9 13 (gd rfl) rfl rfl (fun c152x6 => ?_) (fun c152x6 => ?_)
        · skip
          have i152x6 := r_lt1 0 31 c152x6 ro_2_1 (in_c 32 rfl) rfl
          refine g_iconst 1 14 (gd rfl) rfl rfl ?_
          refine g_aload_n 15 (gd rfl) rfl rfl ?_
          refine g_getI 18 (gd rfl) rfl rfl rfl (fun z152x15 e152x15 => ?_)
          have q152x15 : u_2_1 = z152x15 := (sI_F (fr_F e_2_1 hFc108 rfl)).trans e152x15.symm
          subst q152x15
          refine g_ishl 19 (gd rfl) rfl (fun z152x18 e152x18 => ?_)
          refine g_iconst 1 20 (gd rfl) rfl rfl ?_
          refine g_isub 21 (gd rfl) rfl (fun z152x20 e152x20 => ?_)
          refine g_ireturn (gd rfl) rfl rfl (hp152 _ _ ?_)
          show GG _ _ _ _ _ _ _ _ [.int z152x20, .ref (A 9), .ref (A 60)] _ _ _
          refine g_iload 157 (gd rfl) rfl rfl ?_
          refine g_iconst (-1) 158 (gd rfl) rfl rfl ?_
          refine g_ixor 159 (gd rfl) rfl (fun z158 e158 => ?_)
          refine g_iand 160 (gd rfl) rfl (fun z159 e159 => ?_)
          refine g_iload 162 (gd rfl) rfl rfl ?_
          refine g_iconst (-1) 163 (gd rfl) rfl rfl ?_
          refine g_ixor 164 (gd rfl) rfl (fun z163 e163 => ?_)
          refine g_iand 165 (gd rfl) rfl (fun z164 e164 => ?_)
          refine g_iconst 0 166 (gd rfl) rfl rfl ?_
          refine g_callv (X := _) (As := [.ref (A 9), .int z164, .int (Int32.ofInt 0)]) (r := []) (b := A 60) (q := 60) 169 (gd rfl) rfl rfl rfl rfl rfl (ww_o rfl) (Nat.le_of_ble_eq_true rfl) (Nat.zero_le _) (Nat.zero_le _) (k_46_60_9 (by first | exact dq1 hd rfl | exact dq0 hd rfl | exact dq2 hd rfl | exact dq3 hd rfl | omega) hI145 (in_w 0 33 (in_c 0 rfl) rfl)) (fun e u h => h) (fun v u h => ?_)
          obtain ⟨s166, hI166, hF166, z166, rfl, rfl, i166⟩ := h
          show GG _ _ _ _ _ _ _ _ [.int z166] _ _ _
          refine g_if_eq 172 174 (gd rfl) rfl rfl (fun c169 => ?_) (fun c169 => ?_)
          · skip
            have i169 := z_eq 0 0 c169 i166 rfl
            refine g_aload_n 175 (gd rfl) rfl rfl ?_
            refine g_getA (q2 := 62) 178 (gd rfl) rfl rfl rfl rfl ?_
            refine g_iconst 0 179 (gd rfl) rfl rfl ?_
            refine g_aload_n 180 (gd rfl) rfl rfl ?_
            refine g_getA (q2 := 61) 183 (gd rfl) rfl rfl rfl rfl ?_
            refine g_iconst 0 184 (gd rfl) rfl rfl ?_
            refine g_bipush 32 186 (gd rfl) rfl rfl ?_
            refine g_cpI (q2 := 62) (q := 61) (n0 := 32) (n1 := 32) 189 (gd rfl) rfl rfl rfl rfl (Nat.le_of_ble_eq_true rfl) (cp_0 (in_c 0 rfl) rfl) (cp_0 (in_c 0 rfl) rfl) (cp_0 (in_c 32 rfl) rfl) (cp_1 (in_c 0 rfl) (in_c 32 rfl) rfl) (cp_1 (in_c 0 rfl) (in_c 32 rfl) rfl) hI166 rfl rfl rfl rfl (fun s186 hI186 hF186 cp186 => ?_)
            refine g_iconst 0 190 (gd rfl) rfl rfl ?_
            exact g_ireturn (gd rfl) rfl (nb01 (in_w 0 1 (in_c 0 rfl) rfl)) (hP _ _ ⟨s186, hI186, (fr_tr rfl (fr_tr rfl (fr_sI rfl hFc108) hF166) hF186), (Int32.ofInt 0), rfl, rfl, in_w 0 1 (in_c 0 rfl) rfl⟩)
          · skip
            have i169 := z_ne 1 1 c169 i166 rfl
            refine g_iconst 1 173 (gd rfl) rfl rfl ?_
            exact g_ireturn (gd rfl) rfl (nb01 (in_w 0 1 (in_c 1 rfl) rfl)) (hP _ _ ⟨s166, hI166, (fr_tr rfl (fr_sI rfl hFc108) hF166), (Int32.ofInt 1), rfl, rfl, in_w 0 1 (in_c 1 rfl) rfl⟩)
        · skip
          have i152x6 := r_le2 32 32 c152x6 (in_c 32 rfl) ro_2_1 rfl
          refine g_iconst (-1) 10 (gd rfl) rfl rfl ?_
          refine g_goto 21 (gd rfl) rfl ?_
          refine g_ireturn (gd rfl) rfl rfl (hp152 _ _ ?_)
          show GG _ _ _ _ _ _ _ _ [.int (Int32.ofInt (-1)), .ref (A 9), .ref (A 60)] _ _ _
          refine g_iload 157 (gd rfl) rfl rfl ?_
          refine g_iconst (-1) 158 (gd rfl) rfl rfl ?_
          refine g_ixor 159 (gd rfl) rfl (fun z158 e158 => ?_)
          refine g_iand 160 (gd rfl) rfl (fun z159 e159 => ?_)
          refine g_iload 162 (gd rfl) rfl rfl ?_
          refine g_iconst (-1) 163 (gd rfl) rfl rfl ?_
          refine g_ixor 164 (gd rfl) rfl (fun z163 e163 => ?_)
          refine g_iand 165 (gd rfl) rfl (fun z164 e164 => ?_)
          refine g_iconst 0 166 (gd rfl) rfl rfl ?_
          refine g_callv (X := _) (As := [.ref (A 9), .int z164, .int (Int32.ofInt 0)]) (r := []) (b := A 60) (q := 60) 169 (gd rfl) rfl rfl rfl rfl rfl (ww_o rfl) (Nat.le_of_ble_eq_true rfl) (Nat.zero_le _) (Nat.zero_le _) (k_46_60_9 (by first | exact dq1 hd rfl | exact dq0 hd rfl | exact dq2 hd rfl | exact dq3 hd rfl | omega) hI145 (in_w 0 33 (in_c 0 rfl) rfl)) (fun e u h => h) (fun v u h => ?_)
          obtain ⟨s166, hI166, hF166, z166, rfl, rfl, i166⟩ := h
          show GG _ _ _ _ _ _ _ _ [.int z166] _ _ _
          refine g_if_eq 172 174 (gd rfl) rfl rfl (fun c169 => ?_) (fun c169 => ?_)
          · skip
            have i169 := z_eq 0 0 c169 i166 rfl
            refine g_aload_n 175 (gd rfl) rfl rfl ?_
            refine g_getA (q2 := 62) 178 (gd rfl) rfl rfl rfl rfl ?_
            refine g_iconst 0 179 (gd rfl) rfl rfl ?_
            refine g_aload_n 180 (gd rfl) rfl rfl ?_
            refine g_getA (q2 := 61) 183 (gd rfl) rfl rfl rfl rfl ?_
            refine g_iconst 0 184 (gd rfl) rfl rfl ?_
            refine g_bipush 32 186 (gd rfl) rfl rfl ?_
            refine g_cpI (q2 := 62) (q := 61) (n0 := 32) (n1 := 32) 189 (gd rfl) rfl rfl rfl rfl (Nat.le_of_ble_eq_true rfl) (cp_0 (in_c 0 rfl) rfl) (cp_0 (in_c 0 rfl) rfl) (cp_0 (in_c 32 rfl) rfl) (cp_1 (in_c 0 rfl) (in_c 32 rfl) rfl) (cp_1 (in_c 0 rfl) (in_c 32 rfl) rfl) hI166 rfl rfl rfl rfl (fun s186 hI186 hF186 cp186 => ?_)
            refine g_iconst 0 190 (gd rfl) rfl rfl ?_
            exact g_ireturn (gd rfl) rfl (nb01 (in_w 0 1 (in_c 0 rfl) rfl)) (hP _ _ ⟨s186, hI186, (fr_tr rfl (fr_tr rfl (fr_sI rfl hFc108) hF166) hF186), (Int32.ofInt 0), rfl, rfl, in_w 0 1 (in_c 0 rfl) rfl⟩)
          · skip
            have i169 := z_ne 1 1 c169 i166 rfl
            refine g_iconst 1 173 (gd rfl) rfl rfl ?_
            exact g_ireturn (gd rfl) rfl (nb01 (in_w 0 1 (in_c 1 rfl) rfl)) (hP _ _ ⟨s166, hI166, (fr_tr rfl (fr_sI rfl hFc108) hF166), (Int32.ofInt 1), rfl, rfl, in_w 0 1 (in_c 1 rfl) rfl⟩)
      · skip
        have i114 := r_lt1 0 31 c114 j108_8 ro_60_3 rfl
        have i114a := r_lt2 1 32 c114 j108_8 ro_60_3 rfl
        refine g_aload_n 118 (gd rfl) rfl rfl ?_
        refine g_getA (q2 := 61) 121 (gd rfl) rfl rfl rfl rfl ?_
        refine g_iload 123 (gd rfl) rfl rfl ?_
        refine g_dup2 124 (gd rfl) rfl rfl rfl ?_
        refine g_iaload 125 (gd rfl) rfl (n := 32) rfl (in_ix i114 rfl) (fun z124 e124 => ?_)
        refine g_iload 127 (gd rfl) rfl rfl ?_
        refine g_iand 128 (gd rfl) rfl (fun z127 e127 => ?_)
        refine g_iastore 129 (gd rfl) rfl (n := 32) rfl (in_ix i114 rfl) ?_
        have hI128 := inv_sI (q := 61) (j := y108_8.toNatClampNeg) hIc108 rfl (in_w (-2147483648) 2147483647 (i_rng z127) rfl)
        refine g_iinc 132 (gd rfl) rfl rfl (Nat.le_of_ble_eq_true rfl) (fun z129 e129 => ?_)
        have i129 := in_add 1 32 e129 i114 (in_c 1 rfl) rfl rfl
        refine g_goto 108 (gd rfl) rfl ?_
        exact gg_w (by first | exact Nat.le_add_right _ _ | exact gw2 | exact gw3 | exact gwe rfl | exact gwf rfl | exact gwg rfl | exact gwh rfl | omega) (gg_f (gf_cons rfl (gf_cons rfl (gf_cons rfl (gf_cons rfl (gf_cons rfl (gf_cons rfl (gf_cons rfl (gf_cons rfl (gf_cons rfl gf_nil))))))))) (ih108 (sI sc108 61 y108_8.toNatClampNeg z127) y108_5 y108_6 y108_7 z129 hI128 (fr_sI rfl hFc108) (in_w 0 32 i129 rfl) (m_up mm108 (t_add e129 i114 (in_c 1 rfl) rfl) (in_w 1 1 (in_c 1 rfl) rfl))))
  refine g_enter2 (k := 54) (N := 30601) (by first | exact dq1 hd rfl | exact dq0 hd rfl | exact dq2 hd rfl | exact dq3 hd rfl | omega) rfl (Nat.le_of_ble_eq_true rfl) ?_
  refine g_iconst 1 1 (gd rfl) rfl rfl ?_
  refine g_iload_n 2 (gd rfl) rfl rfl ?_
  refine g_ishl 3 (gd rfl) rfl (fun z2 e2 => ?_)
  refine g_istore 5 (gd rfl) rfl (Nat.le_of_ble_eq_true rfl) ?_
  refine g_iload 7 (gd rfl) rfl rfl ?_
  refine g_iconst 1 8 (gd rfl) rfl rfl ?_
  refine g_isub 9 (gd rfl) rfl (fun z8 e8 => ?_)
  refine g_istore 11 (gd rfl) rfl (Nat.le_of_ble_eq_true rfl) ?_
  refine g_aload_n 12 (gd rfl) rfl rfl ?_
  refine g_getA (q2 := 61) 15 (gd rfl) rfl rfl rfl rfl ?_
  refine g_iload_n 16 (gd rfl) rfl rfl ?_
  refine g_iaload 17 (gd rfl) rfl (n := 32) rfl (in_ix h3 rfl) (fun z16 e16 => ?_)
  refine g_aload_n 18 (gd rfl) rfl rfl ?_
  refine g_getA (q2 := 9) 21 (gd rfl) rfl rfl rfl rfl ?_
  refine g_iload_n 22 (gd rfl) rfl rfl ?_
  refine g_iaload 23 (gd rfl) rfl (n := 32) rfl (in_ix h2 rfl) (fun z22 e22 => ?_)
  refine g_iand 24 (gd rfl) rfl (fun z23 e23 => ?_)
  refine g_iload 26 (gd rfl) rfl rfl ?_
  refine g_iand 27 (gd rfl) rfl (fun z26 e26 => ?_)
  refine g_if_eq 30 32 (gd rfl) rfl rfl (fun c27 => ?_) (fun c27 => ?_)
  · skip
    have i27 := z_eq 0 0 c27 (i_rng z26) rfl
    refine g_aload_n 33 (gd rfl) rfl rfl ?_
    refine g_getA (q2 := 9) 36 (gd rfl) rfl rfl rfl rfl ?_
    refine g_iload 38 (gd rfl) rfl rfl ?_
    refine g_aload_n 39 (gd rfl) rfl rfl ?_
    refine g_getA (q2 := 61) 42 (gd rfl) rfl rfl rfl rfl ?_
    refine g_iload_n 43 (gd rfl) rfl rfl ?_
    refine g_iaload 44 (gd rfl) rfl (n := 32) rfl (in_ix h3 rfl) (fun z43 e43 => ?_)
    have q43 : z16 = z43 := (e16).trans e43.symm
    subst q43
    refine g_aload_n 45 (gd rfl) rfl rfl ?_
    refine g_getA (q2 := 61) 48 (gd rfl) rfl rfl rfl rfl ?_
    refine g_iload 50 (gd rfl) rfl rfl ?_
    refine g_iaload 51 (gd rfl) rfl (n := 32) rfl (in_ix h4 rfl) (fun z50 e50 => ?_)
    refine g_ior 52 (gd rfl) rfl (fun z51 e51 => ?_)
    refine g_calls (As := [.ref (A 9), .int z2, .int z51]) (r := []) 55 (gd rfl) rfl rfl rfl rfl rfl (Nat.le_of_ble_eq_true rfl) (Nat.zero_le _) (Nat.zero_le _) (k_266_9 (by first | exact dq1 hd rfl | exact dq0 hd rfl | exact dq2 hd rfl | exact dq3 hd rfl | omega) hI ) (fun v u h => ?_)
    obtain ⟨z52, rfl, rfl, i52, p52⟩ := h
    show GG _ _ _ _ _ _ _ _ [.int z52] _ _ _
    refine g_istore 57 (gd rfl) rfl (Nat.le_of_ble_eq_true rfl) ?_
    refine g_iload 59 (gd rfl) rfl rfl ?_
    refine g_iload 61 (gd rfl) rfl rfl ?_
    refine g_iand 62 (gd rfl) rfl (fun z61 e61 => ?_)
    refine g_if_ne 65 90 (gd rfl) rfl rfl (fun c62 => ?_) (fun c62 => ?_)
    · skip
      refine g_aload_n 91 (gd rfl) rfl rfl ?_
      refine g_getA (q2 := 61) 94 (gd rfl) rfl rfl rfl rfl ?_
      refine g_iconst 0 95 (gd rfl) rfl rfl ?_
      refine g_aload_n 96 (gd rfl) rfl rfl ?_
      refine g_getA (q2 := 62) 99 (gd rfl) rfl rfl rfl rfl ?_
      refine g_iconst 0 100 (gd rfl) rfl rfl ?_
      refine g_bipush 32 102 (gd rfl) rfl rfl ?_
      refine g_cpI (q2 := 61) (q := 62) (n0 := 32) (n1 := 32) 105 (gd rfl) rfl rfl rfl rfl (Nat.le_of_ble_eq_true rfl) (cp_0 (in_c 0 rfl) rfl) (cp_0 (in_c 0 rfl) rfl) (cp_0 (in_c 32 rfl) rfl) (cp_1 (in_c 0 rfl) (in_c 32 rfl) rfl) (cp_1 (in_c 0 rfl) (in_c 32 rfl) rfl) hI rfl rfl rfl rfl (fun s102 hI102 hF102 cp102 => ?_)
      refine g_iconst 0 106 (gd rfl) rfl rfl ?_
      refine g_istore 108 (gd rfl) rfl (Nat.le_of_ble_eq_true rfl) ?_
      exact gg_w (by first | exact Nat.le_of_ble_eq_true rfl | omega) (gg_f (gf_cons rfl (gf_cons rfl (gf_cons rfl (gf_cons rfl (gf_cons rfl (gf_cons rfl (gf_cons rfl (gf_cons rfl (gf_cons rfl gf_nil))))))))) (ct108 33 s102 z2 z8 z52 (Int32.ofInt 0) hI102 (fr_tr rfl fr_rf hF102) (in_w 0 32 (in_c 0 rfl) rfl) (m_in 33 (in_w 0 32 (in_c 0 rfl) rfl) rfl)))
    · skip
      have i62 := z_eq 0 0 c62 (i_rng z61) rfl
      refine g_aload_n 66 (gd rfl) rfl rfl ?_
      refine g_getA (q2 := 61) 69 (gd rfl) rfl rfl rfl rfl ?_
      refine g_iload_n 70 (gd rfl) rfl rfl ?_
      refine g_dup2 71 (gd rfl) rfl rfl rfl ?_
      refine g_iaload 72 (gd rfl) rfl (n := 32) rfl (in_ix h3 rfl) (fun z71 e71 => ?_)
      have q71 : z16 = z71 := (e16).trans e71.symm
      subst q71
      refine g_iload 74 (gd rfl) rfl rfl ?_
      refine g_ixor 75 (gd rfl) rfl (fun z74 e74 => ?_)
      refine g_iastore 76 (gd rfl) rfl (n := 32) rfl (in_ix h3 rfl) ?_
      have hI75 := inv_sI (q := 61) (j := x3.toNatClampNeg) hI rfl (in_w (-2147483648) 2147483647 (i_rng z74) rfl)
      refine g_aload_n 77 (gd rfl) rfl rfl ?_
      refine g_getA (q2 := 61) 80 (gd rfl) rfl rfl rfl rfl ?_
      refine g_iload 82 (gd rfl) rfl rfl ?_
      refine g_dup2 83 (gd rfl) rfl rfl rfl ?_
      refine g_iaload 84 (gd rfl) rfl (n := 32) rfl (in_ix h4 rfl) (fun z83 e83 => ?_)
      refine g_iload 86 (gd rfl) rfl rfl ?_
      refine g_ixor 87 (gd rfl) rfl (fun z86 e86 => ?_)
      refine g_iastore 88 (gd rfl) rfl (n := 32) rfl (in_ix h4 rfl) ?_
      have hI87 := inv_sI (q := 61) (j := x4.toNatClampNeg) hI75 rfl (in_w (-2147483648) 2147483647 (i_rng z86) rfl)
      refine g_iconst 1 89 (gd rfl) rfl rfl ?_
      exact g_ireturn (gd rfl) rfl (nb01 (in_w 0 1 (in_c 1 rfl) rfl)) (hP _ _ ⟨(sI (sI s 61 x3.toNatClampNeg z74) 61 x4.toNatClampNeg z86), hI87, (fr_sI rfl (fr_sI rfl fr_rf)), (Int32.ofInt 1), rfl, rfl, in_w 0 1 (in_c 1 rfl) rfl⟩)
  · skip
    refine g_iconst 0 31 (gd rfl) rfl rfl ?_
    exact g_ireturn (gd rfl) rfl (nb01 (in_w 0 1 (in_c 0 rfl) rfl)) (hP _ _ ⟨s, hI, fr_rf, (Int32.ofInt 0), rfl, rfl, in_w 0 1 (in_c 0 rfl) rfl⟩)
end
section
/-! methods, by vc.py -/
def fm_54_60_32 : FM := ([61, 62, 63], [], [(60, 7)], [])
/-- GraphHouse$Colours.canLower -/
theorem k_54_60_32 {Z : AmZ} {A : Nat → Nat} {s : GS} {ex : va_W} {d : Nat} {X : AmX} {x2 : Int32} {x3 : Int32} {x4 : Int32} (hd : 381 ≤ d) (hI : Inv s) (h2 : In x2 0 31) (h3 : In x3 0 31) (h4 : In x4 0 31) : GC Z d 54 [.ref (A 60), .ref (A 32), .int x2, .int x3, .int x4] (WW Z A s ++ ex) 0 0 (fun v u => ∃ t : GS, Inv t ∧ Fr fm_54_60_32 s t ∧ ∃ z : Int32, v = some (.int z) ∧ u = WW Z A t ++ ex ∧ In z 0 1) X := by
  intro post xp hP hX
  obtain ⟨u_32_1, e_32_1⟩ : ∃ w, w = s.2.2.1 32 1 := ⟨_, rfl⟩
  have ro_32_1 := inv_F hI 0 32 rfl e_32_1
  obtain ⟨u_60_3, e_60_3⟩ : ∃ w, w = s.2.2.1 60 3 := ⟨_, rfl⟩
  have ro_60_3 := inv_F hI 0 32 rfl e_60_3
  have ct108 : ∀ (k108 : Nat) (sc108 : GS) (y108_5 : Int32) (y108_6 : Int32) (y108_7 : Int32) (y108_8 : Int32), Inv sc108 → Fr fm_54_60_32 s sc108 → (In y108_8 0 32) → 32 - (y108_8).toInt < (k108 : Int) → GG Z (d - 1) 54 post (gx xp) (1 + k108 * 900) 108 (fun j => xlook j [(0, .ref (A 60)), (1, .ref (A 32)), (2, .int x2), (3, .int x3), (4, .int x4), (5, .int y108_5), (6, .int y108_6), (7, .int y108_7), (8, .int y108_8)]) [] (WW Z A sc108 ++ ex) 0 0 := by
    intro k108
    induction k108 with
    | zero => intro sc108 y108_5 y108_6 y108_7 y108_8 hIc108 hFc108 j108_8 mm108; exact m_no mm108 j108_8 rfl
    | succ k108 ih108 =>
      intro sc108 y108_5 y108_6 y108_7 y108_8 hIc108 hFc108 j108_8 mm108
      refine gg_w (M := 1 + k108 * 900 + 900) gws ?_
      refine g_iload 110 (gd rfl) rfl rfl ?_
      refine g_aload_n 111 (gd rfl) rfl rfl ?_
      refine g_getI 114 (gd rfl) rfl rfl rfl (fun z111 e111 => ?_)
      have q111 : u_60_3 = z111 := (fr_F e_60_3 hFc108 rfl).trans e111.symm
      subst q111
      refine g_cmp_ge 117 135 (gd rfl) rfl rfl (fun c114 => ?_) (fun c114 => ?_)
      · skip
        refine g_aload_n 136 (gd rfl) rfl rfl ?_
        refine g_getA (q2 := 61) 139 (gd rfl) rfl rfl rfl rfl ?_
        refine g_iload_n 140 (gd rfl) rfl rfl ?_
        refine g_dup2 141 (gd rfl) rfl rfl rfl ?_
        refine g_iaload 142 (gd rfl) rfl (n := 32) rfl (in_ix h3 rfl) (fun z141 e141 => ?_)
        refine g_iload 144 (gd rfl) rfl rfl ?_
        refine g_ior 145 (gd rfl) rfl (fun z144 e144 => ?_)
        refine g_iastore 146 (gd rfl) rfl (n := 32) rfl (in_ix h3 rfl) ?_
        have hI145 := inv_sI (q := 61) (j := x3.toNatClampNeg) hIc108 rfl (in_w (-2147483648) 2147483647 (i_rng z144) rfl)
        refine g_aload_n 147 (gd rfl) rfl rfl ?_
        refine g_aload_n 148 (gd rfl) rfl rfl ?_
        refine g_getA (q2 := 39) 151 (gd rfl) rfl rfl rfl rfl ?_
        refine g_aload_n 152 (gd rfl) rfl rfl ?_
        refine g_callv (X := _) (As := []) (r := [.ref (A 39), .ref (A 60)]) (b := A 32) (q := 32) 155 (gd rfl) rfl rfl rfl rfl rfl (ww_o rfl) (Nat.le_of_ble_eq_true rfl) (mc := 0) (ms := 0) (Nat.zero_le _) (Nat.zero_le _) (P := fun v u => _) ?_ (fun e u h => h) (fun v u h => h)
        intro po152 xx152 hp152 hx152
        refine g_enter2 (k := 102) (N := 300) (by first | exact dq1 hd rfl | exact dq0 hd rfl | exact dq2 hd rfl | exact dq3 hd rfl | omega) rfl (Nat.le_of_ble_eq_true rfl) ?_
        refine g_aload_n 1 (gd rfl) rfl rfl ?_
        refine g_getI 4 (gd rfl) rfl rfl rfl (fun z152x1 e152x1 => ?_)
        have q152x1 : u_32_1 = z152x1 := (sI_F (fr_F e_32_1 hFc108 rfl)).trans e152x1.symm
        subst q152x1
        refine g_bipush 32 6 (gd rfl) rfl rfl ?_
        refine g_cmp_lt 9 13 (gd rfl) rfl rfl (fun c152x6 => ?_) (fun c152x6 => ?_)
        · skip
          have i152x6 := r_lt1 0 31 c152x6 ro_32_1 (in_c 32 rfl) rfl
          refine g_iconst 1 14 (gd rfl) rfl rfl ?_
          refine g_aload_n 15 (gd rfl) rfl rfl ?_
          refine g_getI 18 (gd rfl) rfl rfl rfl (fun z152x15 e152x15 => ?_)
          have q152x15 : u_32_1 = z152x15 := (sI_F (fr_F e_32_1 hFc108 rfl)).trans e152x15.symm
          subst q152x15
          refine g_ishl 19 (gd rfl) rfl (fun z152x18 e152x18 => ?_)
          refine g_iconst 1 20 (gd rfl) rfl rfl ?_
          refine g_isub 21 (gd rfl) rfl (fun z152x20 e152x20 => ?_)
          refine g_ireturn (gd rfl) rfl rfl (hp152 _ _ ?_)
          show GG _ _ _ _ _ _ _ _ [.int z152x20, .ref (A 39), .ref (A 60)] _ _ _
          refine g_iload 157 (gd rfl) rfl rfl ?_
          refine g_iconst (-1) 158 (gd rfl) rfl rfl ?_
          refine g_ixor 159 (gd rfl) rfl (fun z158 e158 => ?_)
          refine g_iand 160 (gd rfl) rfl (fun z159 e159 => ?_)
          refine g_iload 162 (gd rfl) rfl rfl ?_
          refine g_iconst (-1) 163 (gd rfl) rfl rfl ?_
          refine g_ixor 164 (gd rfl) rfl (fun z163 e163 => ?_)
          refine g_iand 165 (gd rfl) rfl (fun z164 e164 => ?_)
          refine g_iconst 0 166 (gd rfl) rfl rfl ?_
          refine g_callv (X := _) (As := [.ref (A 39), .int z164, .int (Int32.ofInt 0)]) (r := []) (b := A 60) (q := 60) 169 (gd rfl) rfl rfl rfl rfl rfl (ww_o rfl) (Nat.le_of_ble_eq_true rfl) (Nat.zero_le _) (Nat.zero_le _) (k_46_60_39 (by first | exact dq1 hd rfl | exact dq0 hd rfl | exact dq2 hd rfl | exact dq3 hd rfl | omega) hI145 (in_w 0 33 (in_c 0 rfl) rfl)) (fun e u h => h) (fun v u h => ?_)
          obtain ⟨s166, hI166, hF166, z166, rfl, rfl, i166⟩ := h
          show GG _ _ _ _ _ _ _ _ [.int z166] _ _ _
          refine g_if_eq 172 174 (gd rfl) rfl rfl (fun c169 => ?_) (fun c169 => ?_)
          · skip
            have i169 := z_eq 0 0 c169 i166 rfl
            refine g_aload_n 175 (gd rfl) rfl rfl ?_
            refine g_getA (q2 := 62) 178 (gd rfl) rfl rfl rfl rfl ?_
            refine g_iconst 0 179 (gd rfl) rfl rfl ?_
            refine g_aload_n 180 (gd rfl) rfl rfl ?_
            refine g_getA (q2 := 61) 183 (gd rfl) rfl rfl rfl rfl ?_
            refine g_iconst 0 184 (gd rfl) rfl rfl ?_
            refine g_bipush 32 186 (gd rfl) rfl rfl ?_
            refine g_cpI (q2 := 62) (q := 61) (n0 := 32) (n1 := 32) 189 (gd rfl) rfl rfl rfl rfl (Nat.le_of_ble_eq_true rfl) (cp_0 (in_c 0 rfl) rfl) (cp_0 (in_c 0 rfl) rfl) (cp_0 (in_c 32 rfl) rfl) (cp_1 (in_c 0 rfl) (in_c 32 rfl) rfl) (cp_1 (in_c 0 rfl) (in_c 32 rfl) rfl) hI166 rfl rfl rfl rfl (fun s186 hI186 hF186 cp186 => ?_)
            refine g_iconst 0 190 (gd rfl) rfl rfl ?_
            exact g_ireturn (gd rfl) rfl (nb01 (in_w 0 1 (in_c 0 rfl) rfl)) (hP _ _ ⟨s186, hI186, (fr_tr rfl (fr_tr rfl (fr_sI rfl hFc108) hF166) hF186), (Int32.ofInt 0), rfl, rfl, in_w 0 1 (in_c 0 rfl) rfl⟩)
          · skip
            have i169 := z_ne 1 1 c169 i166 rfl
            refine g_iconst 1 173 (gd rfl) rfl rfl ?_
            exact g_ireturn (gd rfl) rfl (nb01 (in_w 0 1 (in_c 1 rfl) rfl)) (hP _ _ ⟨s166, hI166, (fr_tr rfl (fr_sI rfl hFc108) hF166), (Int32.ofInt 1), rfl, rfl, in_w 0 1 (in_c 1 rfl) rfl⟩)
        · skip
          have i152x6 := r_le2 32 32 c152x6 (in_c 32 rfl) ro_32_1 rfl
          refine g_iconst (-1) 10 (gd rfl) rfl rfl ?_
          refine g_goto 21 (gd rfl) rfl ?_
          refine g_ireturn (gd rfl) rfl rfl (hp152 _ _ ?_)
          show GG _ _ _ _ _ _ _ _ [.int (Int32.ofInt (-1)), .ref (A 39), .ref (A 60)] _ _ _
          refine g_iload 157 (gd rfl) rfl rfl ?_
          refine g_iconst (-1) 158 (gd rfl) rfl rfl ?_
          refine g_ixor 159 (gd rfl) rfl (fun z158 e158 => ?_)
          refine g_iand 160 (gd rfl) rfl (fun z159 e159 => ?_)
          refine g_iload 162 (gd rfl) rfl rfl ?_
          refine g_iconst (-1) 163 (gd rfl) rfl rfl ?_
          refine g_ixor 164 (gd rfl) rfl (fun z163 e163 => ?_)
          refine g_iand 165 (gd rfl) rfl (fun z164 e164 => ?_)
          refine g_iconst 0 166 (gd rfl) rfl rfl ?_
          refine g_callv (X := _) (As := [.ref (A 39), .int z164, .int (Int32.ofInt 0)]) (r := []) (b := A 60) (q := 60) 169 (gd rfl) rfl rfl rfl rfl rfl (ww_o rfl) (Nat.le_of_ble_eq_true rfl) (Nat.zero_le _) (Nat.zero_le _) (k_46_60_39 (by first | exact dq1 hd rfl | exact dq0 hd rfl | exact dq2 hd rfl | exact dq3 hd rfl | omega) hI145 (in_w 0 33 (in_c 0 rfl) rfl)) (fun e u h => h) (fun v u h => ?_)
          obtain ⟨s166, hI166, hF166, z166, rfl, rfl, i166⟩ := h
          show GG _ _ _ _ _ _ _ _ [.int z166] _ _ _
          refine g_if_eq 172 174 (gd rfl) rfl rfl (fun c169 => ?_) (fun c169 => ?_)
          · skip
            have i169 := z_eq 0 0 c169 i166 rfl
            refine g_aload_n 175 (gd rfl) rfl rfl ?_
            refine g_getA (q2 := 62) 178 (gd rfl) rfl rfl rfl rfl ?_
            refine g_iconst 0 179 (gd rfl) rfl rfl ?_
            refine g_aload_n 180 (gd rfl) rfl rfl ?_
            refine g_getA (q2 := 61) 183 (gd rfl) rfl rfl rfl rfl ?_
            refine g_iconst 0 184 (gd rfl) rfl rfl ?_
            refine g_bipush 32 186 (gd rfl) rfl rfl ?_
            refine g_cpI (q2 := 62) (q := 61) (n0 := 32) (n1 := 32) 189 (gd rfl) rfl rfl rfl rfl (Nat.le_of_ble_eq_true rfl) (cp_0 (in_c 0 rfl) rfl) (cp_0 (in_c 0 rfl) rfl) (cp_0 (in_c 32 rfl) rfl) (cp_1 (in_c 0 rfl) (in_c 32 rfl) rfl) (cp_1 (in_c 0 rfl) (in_c 32 rfl) rfl) hI166 rfl rfl rfl rfl (fun s186 hI186 hF186 cp186 => ?_)
            refine g_iconst 0 190 (gd rfl) rfl rfl ?_
            exact g_ireturn (gd rfl) rfl (nb01 (in_w 0 1 (in_c 0 rfl) rfl)) (hP _ _ ⟨s186, hI186, (fr_tr rfl (fr_tr rfl (fr_sI rfl hFc108) hF166) hF186), (Int32.ofInt 0), rfl, rfl, in_w 0 1 (in_c 0 rfl) rfl⟩)
          · skip
            have i169 := z_ne 1 1 c169 i166 rfl
            refine g_iconst 1 173 (gd rfl) rfl rfl ?_
            exact g_ireturn (gd rfl) rfl (nb01 (in_w 0 1 (in_c 1 rfl) rfl)) (hP _ _ ⟨s166, hI166, (fr_tr rfl (fr_sI rfl hFc108) hF166), (Int32.ofInt 1), rfl, rfl, in_w 0 1 (in_c 1 rfl) rfl⟩)
      · skip
        have i114 := r_lt1 0 31 c114 j108_8 ro_60_3 rfl
        have i114a := r_lt2 1 32 c114 j108_8 ro_60_3 rfl
        refine g_aload_n 118 (gd rfl) rfl rfl ?_
        refine g_getA (q2 := 61) 121 (gd rfl) rfl rfl rfl rfl ?_
        refine g_iload 123 (gd rfl) rfl rfl ?_
        refine g_dup2 124 (gd rfl) rfl rfl rfl ?_
        refine g_iaload 125 (gd rfl) rfl (n := 32) rfl (in_ix i114 rfl) (fun z124 e124 => ?_)
        refine g_iload 127 (gd rfl) rfl rfl ?_
        refine g_iand 128 (gd rfl) rfl (fun z127 e127 => ?_)
        refine g_iastore 129 (gd rfl) rfl (n := 32) rfl (in_ix i114 rfl) ?_
        have hI128 := inv_sI (q := 61) (j := y108_8.toNatClampNeg) hIc108 rfl (in_w (-2147483648) 2147483647 (i_rng z127) rfl)
        refine g_iinc 132 (gd rfl) rfl rfl (Nat.le_of_ble_eq_true rfl) (fun z129 e129 => ?_)
        have i129 := in_add 1 32 e129 i114 (in_c 1 rfl) rfl rfl
        refine g_goto 108 (gd rfl) rfl ?_
        exact gg_w (by first | exact Nat.le_add_right _ _ | exact gw2 | exact gw3 | exact gwe rfl | exact gwf rfl | exact gwg rfl | exact gwh rfl | omega) (gg_f (gf_cons rfl (gf_cons rfl (gf_cons rfl (gf_cons rfl (gf_cons rfl (gf_cons rfl (gf_cons rfl (gf_cons rfl (gf_cons rfl gf_nil))))))))) (ih108 (sI sc108 61 y108_8.toNatClampNeg z127) y108_5 y108_6 y108_7 z129 hI128 (fr_sI rfl hFc108) (in_w 0 32 i129 rfl) (m_up mm108 (t_add e129 i114 (in_c 1 rfl) rfl) (in_w 1 1 (in_c 1 rfl) rfl))))
  refine g_enter2 (k := 54) (N := 30601) (by first | exact dq1 hd rfl | exact dq0 hd rfl | exact dq2 hd rfl | exact dq3 hd rfl | omega) rfl (Nat.le_of_ble_eq_true rfl) ?_
  refine g_iconst 1 1 (gd rfl) rfl rfl ?_
  refine g_iload_n 2 (gd rfl) rfl rfl ?_
  refine g_ishl 3 (gd rfl) rfl (fun z2 e2 => ?_)
  refine g_istore 5 (gd rfl) rfl (Nat.le_of_ble_eq_true rfl) ?_
  refine g_iload 7 (gd rfl) rfl rfl ?_
  refine g_iconst 1 8 (gd rfl) rfl rfl ?_
  refine g_isub 9 (gd rfl) rfl (fun z8 e8 => ?_)
  refine g_istore 11 (gd rfl) rfl (Nat.le_of_ble_eq_true rfl) ?_
  refine g_aload_n 12 (gd rfl) rfl rfl ?_
  refine g_getA (q2 := 61) 15 (gd rfl) rfl rfl rfl rfl ?_
  refine g_iload_n 16 (gd rfl) rfl rfl ?_
  refine g_iaload 17 (gd rfl) rfl (n := 32) rfl (in_ix h3 rfl) (fun z16 e16 => ?_)
  refine g_aload_n 18 (gd rfl) rfl rfl ?_
  refine g_getA (q2 := 39) 21 (gd rfl) rfl rfl rfl rfl ?_
  refine g_iload_n 22 (gd rfl) rfl rfl ?_
  refine g_iaload 23 (gd rfl) rfl (n := 32) rfl (in_ix h2 rfl) (fun z22 e22 => ?_)
  refine g_iand 24 (gd rfl) rfl (fun z23 e23 => ?_)
  refine g_iload 26 (gd rfl) rfl rfl ?_
  refine g_iand 27 (gd rfl) rfl (fun z26 e26 => ?_)
  refine g_if_eq 30 32 (gd rfl) rfl rfl (fun c27 => ?_) (fun c27 => ?_)
  · skip
    have i27 := z_eq 0 0 c27 (i_rng z26) rfl
    refine g_aload_n 33 (gd rfl) rfl rfl ?_
    refine g_getA (q2 := 39) 36 (gd rfl) rfl rfl rfl rfl ?_
    refine g_iload 38 (gd rfl) rfl rfl ?_
    refine g_aload_n 39 (gd rfl) rfl rfl ?_
    refine g_getA (q2 := 61) 42 (gd rfl) rfl rfl rfl rfl ?_
    refine g_iload_n 43 (gd rfl) rfl rfl ?_
    refine g_iaload 44 (gd rfl) rfl (n := 32) rfl (in_ix h3 rfl) (fun z43 e43 => ?_)
    have q43 : z16 = z43 := (e16).trans e43.symm
    subst q43
    refine g_aload_n 45 (gd rfl) rfl rfl ?_
    refine g_getA (q2 := 61) 48 (gd rfl) rfl rfl rfl rfl ?_
    refine g_iload 50 (gd rfl) rfl rfl ?_
    refine g_iaload 51 (gd rfl) rfl (n := 32) rfl (in_ix h4 rfl) (fun z50 e50 => ?_)
    refine g_ior 52 (gd rfl) rfl (fun z51 e51 => ?_)
    refine g_calls (As := [.ref (A 39), .int z2, .int z51]) (r := []) 55 (gd rfl) rfl rfl rfl rfl rfl (Nat.le_of_ble_eq_true rfl) (Nat.zero_le _) (Nat.zero_le _) (k_266_39 (by first | exact dq1 hd rfl | exact dq0 hd rfl | exact dq2 hd rfl | exact dq3 hd rfl | omega) hI ) (fun v u h => ?_)
    obtain ⟨z52, rfl, rfl, i52, p52⟩ := h
    show GG _ _ _ _ _ _ _ _ [.int z52] _ _ _
    refine g_istore 57 (gd rfl) rfl (Nat.le_of_ble_eq_true rfl) ?_
    refine g_iload 59 (gd rfl) rfl rfl ?_
    refine g_iload 61 (gd rfl) rfl rfl ?_
    refine g_iand 62 (gd rfl) rfl (fun z61 e61 => ?_)
    refine g_if_ne 65 90 (gd rfl) rfl rfl (fun c62 => ?_) (fun c62 => ?_)
    · skip
      refine g_aload_n 91 (gd rfl) rfl rfl ?_
      refine g_getA (q2 := 61) 94 (gd rfl) rfl rfl rfl rfl ?_
      refine g_iconst 0 95 (gd rfl) rfl rfl ?_
      refine g_aload_n 96 (gd rfl) rfl rfl ?_
      refine g_getA (q2 := 62) 99 (gd rfl) rfl rfl rfl rfl ?_
      refine g_iconst 0 100 (gd rfl) rfl rfl ?_
      refine g_bipush 32 102 (gd rfl) rfl rfl ?_
      refine g_cpI (q2 := 61) (q := 62) (n0 := 32) (n1 := 32) 105 (gd rfl) rfl rfl rfl rfl (Nat.le_of_ble_eq_true rfl) (cp_0 (in_c 0 rfl) rfl) (cp_0 (in_c 0 rfl) rfl) (cp_0 (in_c 32 rfl) rfl) (cp_1 (in_c 0 rfl) (in_c 32 rfl) rfl) (cp_1 (in_c 0 rfl) (in_c 32 rfl) rfl) hI rfl rfl rfl rfl (fun s102 hI102 hF102 cp102 => ?_)
      refine g_iconst 0 106 (gd rfl) rfl rfl ?_
      refine g_istore 108 (gd rfl) rfl (Nat.le_of_ble_eq_true rfl) ?_
      exact gg_w (by first | exact Nat.le_of_ble_eq_true rfl | omega) (gg_f (gf_cons rfl (gf_cons rfl (gf_cons rfl (gf_cons rfl (gf_cons rfl (gf_cons rfl (gf_cons rfl (gf_cons rfl (gf_cons rfl gf_nil))))))))) (ct108 33 s102 z2 z8 z52 (Int32.ofInt 0) hI102 (fr_tr rfl fr_rf hF102) (in_w 0 32 (in_c 0 rfl) rfl) (m_in 33 (in_w 0 32 (in_c 0 rfl) rfl) rfl)))
    · skip
      have i62 := z_eq 0 0 c62 (i_rng z61) rfl
      refine g_aload_n 66 (gd rfl) rfl rfl ?_
      refine g_getA (q2 := 61) 69 (gd rfl) rfl rfl rfl rfl ?_
      refine g_iload_n 70 (gd rfl) rfl rfl ?_
      refine g_dup2 71 (gd rfl) rfl rfl rfl ?_
      refine g_iaload 72 (gd rfl) rfl (n := 32) rfl (in_ix h3 rfl) (fun z71 e71 => ?_)
      have q71 : z16 = z71 := (e16).trans e71.symm
      subst q71
      refine g_iload 74 (gd rfl) rfl rfl ?_
      refine g_ixor 75 (gd rfl) rfl (fun z74 e74 => ?_)
      refine g_iastore 76 (gd rfl) rfl (n := 32) rfl (in_ix h3 rfl) ?_
      have hI75 := inv_sI (q := 61) (j := x3.toNatClampNeg) hI rfl (in_w (-2147483648) 2147483647 (i_rng z74) rfl)
      refine g_aload_n 77 (gd rfl) rfl rfl ?_
      refine g_getA (q2 := 61) 80 (gd rfl) rfl rfl rfl rfl ?_
      refine g_iload 82 (gd rfl) rfl rfl ?_
      refine g_dup2 83 (gd rfl) rfl rfl rfl ?_
      refine g_iaload 84 (gd rfl) rfl (n := 32) rfl (in_ix h4 rfl) (fun z83 e83 => ?_)
      refine g_iload 86 (gd rfl) rfl rfl ?_
      refine g_ixor 87 (gd rfl) rfl (fun z86 e86 => ?_)
      refine g_iastore 88 (gd rfl) rfl (n := 32) rfl (in_ix h4 rfl) ?_
      have hI87 := inv_sI (q := 61) (j := x4.toNatClampNeg) hI75 rfl (in_w (-2147483648) 2147483647 (i_rng z86) rfl)
      refine g_iconst 1 89 (gd rfl) rfl rfl ?_
      exact g_ireturn (gd rfl) rfl (nb01 (in_w 0 1 (in_c 1 rfl) rfl)) (hP _ _ ⟨(sI (sI s 61 x3.toNatClampNeg z74) 61 x4.toNatClampNeg z86), hI87, (fr_sI rfl (fr_sI rfl fr_rf)), (Int32.ofInt 1), rfl, rfl, in_w 0 1 (in_c 1 rfl) rfl⟩)
  · skip
    refine g_iconst 0 31 (gd rfl) rfl rfl ?_
    exact g_ireturn (gd rfl) rfl (nb01 (in_w 0 1 (in_c 0 rfl) rfl)) (hP _ _ ⟨s, hI, fr_rf, (Int32.ofInt 0), rfl, rfl, in_w 0 1 (in_c 0 rfl) rfl⟩)

def fm_63_102_2 : FM := ([9, 10, 11, 12, 13, 14, 15], [105, 106, 107, 108], [(2, 4), (102, 9)], [])
/-- GraphHouse$Engine.work -/
theorem k_63_102_2 {Z : AmZ} {A : Nat → Nat} {s : GS} {ex : va_W} {d : Nat} {X : AmX} {x2 : Int32} (hd : 7 ≤ d) (hI : Inv s) (h2 : In x2 0 200) : GC Z d 63 [.ref (A 102), .ref (A 2), .int x2] (WW Z A s ++ ex) 0 0 (fun v u => ∃ t : GS, Inv t ∧ Fr fm_63_102_2 s t ∧ ∃ z : Int32, v = some (.int z) ∧ u = WW Z A t ++ ex ∧ In z 0 200) X := by
  intro post xp hP hX
  obtain ⟨u_2_1, e_2_1⟩ : ∃ w, w = s.2.2.1 2 1 := ⟨_, rfl⟩
  have ro_2_1 := inv_F hI 0 32 rfl e_2_1
  have ct29 : ∀ (k29 : Nat) (sc29 : GS) (y29_3 : Int32) (w29_2_4 : Int32) (w29_2_0 : Int32), Inv sc29 → Fr fm_63_102_2 s sc29 → (In y29_3 1 400) → (w29_2_4 = sc29.2.2.1 2 4) → (w29_2_0 = sc29.2.2.1 2 0) → ((w29_2_4).toInt = (w29_2_0).toInt) → 400 - (y29_3).toInt < (k29 : Int) → GG Z (d - 1) 63 post (gx xp) (1 + k29 * 900) 29 (fun j => xlook j [(0, .ref (A 102)), (1, .ref (A 2)), (2, .int x2), (3, .int y29_3)]) [] (WW Z A sc29 ++ ex) 0 0 := by
    intro k29
    induction k29 with
    | zero => intro sc29 y29_3 w29_2_4 w29_2_0 hIc29 hFc29 j29_3 v29_2_4 v29_2_0 n29_0 mm29; exact m_no mm29 j29_3 rfl
    | succ k29 ih29 =>
      intro sc29 y29_3 w29_2_4 w29_2_0 hIc29 hFc29 j29_3 v29_2_4 v29_2_0 n29_0 mm29
      refine gg_w (M := 1 + k29 * 900 + 900) gws ?_
      refine g_iload_n 30 (gd rfl) rfl rfl ?_
      refine g_iload_n 31 (gd rfl) rfl rfl ?_
      refine g_cmp_gt 34 66 (gd rfl) rfl rfl (fun c31 => ?_) (fun c31 => ?_)
      · skip
        refine g_iload_n 67 (gd rfl) rfl rfl ?_
        exact g_ireturn (gd rfl) rfl rfl (hP _ _ ⟨sc29, hIc29, hFc29, x2, rfl, rfl, in_w 0 200 h2 rfl⟩)
      · skip
        have i31 := r_le1 1 200 c31 j29_3 h2 rfl
        have i31a := r_le2 1 200 c31 j29_3 h2 rfl
        refine g_aload_n 35 (gd rfl) rfl rfl ?_
        refine g_getA (q2 := 107) 38 (gd rfl) rfl rfl rfl rfl ?_
        refine g_iconst 0 39 (gd rfl) rfl rfl ?_
        refine g_aload_n 40 (gd rfl) rfl rfl ?_
        refine g_getA (q2 := 108) 43 (gd rfl) rfl rfl rfl rfl ?_
        refine g_iconst 0 44 (gd rfl) rfl rfl ?_
        refine g_bipush 32 46 (gd rfl) rfl rfl ?_
        refine g_cpL (q2 := 107) (q := 108) (n0 := 32) (n1 := 32) 49 (gd rfl) rfl rfl rfl rfl (Nat.le_of_ble_eq_true rfl) (cp_0 (in_c 0 rfl) rfl) (cp_0 (in_c 0 rfl) rfl) (cp_0 (in_c 32 rfl) rfl) (cp_1 (in_c 0 rfl) (in_c 32 rfl) rfl) (cp_1 (in_c 0 rfl) (in_c 32 rfl) rfl) hIc29 rfl rfl rfl (fun s46 hI46 hF46 cp46 => ?_)
        refine g_aload_n 50 (gd rfl) rfl rfl ?_
        refine g_aload_n 51 (gd rfl) rfl rfl ?_
        refine g_iload_n 52 (gd rfl) rfl rfl ?_
        have v52 : w29_2_4 = s46.2.2.1 2 4 := fr_F (v29_2_4) hF46 rfl
        have v52a : w29_2_0 = s46.2.2.1 2 0 := fr_F (v29_2_0) hF46 rfl
        have n52 : (w29_2_4).toInt = (w29_2_0).toInt := by first | exact n29_0 | (have a0 := oa5 i31a ro_2_1 ((inv_F hIc29 0 4000 rfl v29_2_0)) ((inv_F hIc29 (-1) 4000 rfl v29_2_4)) i31; omega)
        refine g_callv (X := _) (As := [.ref (A 2), .int y29_3]) (r := []) (b := A 102) (q := 102) 55 (gd rfl) rfl rfl rfl rfl rfl (ww_o rfl) (Nat.le_of_ble_eq_true rfl) (Nat.zero_le _) (Nat.zero_le _) (k_64_102_2 (by first | exact dq1 hd rfl | exact dq0 hd rfl | exact dq2 hd rfl | exact dq3 hd rfl | omega) hI46 (in_w 0 200 i31 rfl) v52 v52a n52) (fun e u h => h) (fun v u h => ?_)
        obtain ⟨s52, hI52, hF52, z52, rfl, rfl, i52⟩ := h
        show GG _ _ _ _ _ _ _ _ [.int z52] _ _ _
        refine g_if_ne 58 60 (gd rfl) rfl rfl (fun c55 => ?_) (fun c55 => ?_)
        · skip
          have i55 := z_ne 1 1 c55 i52 rfl
          refine g_iinc 63 (gd rfl) rfl rfl (Nat.le_of_ble_eq_true rfl) (fun z60 e60 => ?_)
          have i60 := in_add 2 201 e60 i31 (in_c 1 rfl) rfl rfl
          refine g_goto 29 (gd rfl) rfl ?_
          have v29 : w29_2_4 = s52.2.2.1 2 4 := fr_F (fr_F (v29_2_4) hF46 rfl) hF52 rfl
          have v29a : w29_2_0 = s52.2.2.1 2 0 := fr_F (fr_F (v29_2_0) hF46 rfl) hF52 rfl
          have n29 : (w29_2_4).toInt = (w29_2_0).toInt := by first | exact n29_0 | (have a0 := oa6 i31a ro_2_1 ((inv_F hIc29 0 4000 rfl v29_2_0)) ((inv_F hIc29 (-1) 4000 rfl v29_2_4)) i31 i60; have a6 := t_add e60 i31 (in_c 1 rfl) rfl; have a7 := in_u ((in_c 1 rfl)); omega)
          exact gg_w (by first | exact Nat.le_add_right _ _ | exact gw2 | exact gw3 | exact gwe rfl | exact gwf rfl | exact gwg rfl | exact gwh rfl | omega) (gg_f (gf_cons rfl (gf_cons rfl (gf_cons rfl (gf_cons rfl gf_nil)))) (ih29 s52 z60 w29_2_4 w29_2_0 hI52 (fr_tr rfl (fr_tr rfl hFc29 hF46) hF52) (in_w 1 400 i60 rfl) v29 v29a n29 (m_up mm29 (t_add e60 i31 (in_c 1 rfl) rfl) (in_w 1 1 (in_c 1 rfl) rfl))))
        · skip
          have i55 := z_eq 0 0 c55 i52 rfl
          refine g_iload_n 59 (gd rfl) rfl rfl ?_
          exact g_ireturn (gd rfl) rfl rfl (hP _ _ ⟨s52, hI52, (fr_tr rfl (fr_tr rfl hFc29 hF46) hF52), y29_3, rfl, rfl, in_w 0 200 i31 rfl⟩)
  refine g_enter2 (k := 63) (N := 360901) (by first | exact dq1 hd rfl | exact dq0 hd rfl | exact dq2 hd rfl | exact dq3 hd rfl | omega) rfl (Nat.le_of_ble_eq_true rfl) ?_
  refine g_aload_n 1 (gd rfl) rfl rfl ?_
  refine g_callv (X := _) (As := []) (r := []) (b := A 2) (q := 2) 4 (gd rfl) rfl rfl rfl rfl rfl (ww_o rfl) (Nat.le_of_ble_eq_true rfl) (Nat.zero_le _) (Nat.zero_le _) (k_106_2 (by first | exact dq1 hd rfl | exact dq0 hd rfl | exact dq2 hd rfl | exact dq3 hd rfl | omega) hI ) (fun e u h => h) (fun v u h => ?_)
  obtain ⟨s1, hI1, hF1, n1, rfl, rfl⟩ := h
  obtain ⟨z1a, e1⟩ : ∃ w, w = s1.2.2.1 2 4 := ⟨_, rfl⟩
  have i1a := inv_F hI1 (-1) 4000 rfl e1
  obtain ⟨z1b, e1a⟩ : ∃ w, w = s1.2.2.1 2 0 := ⟨_, rfl⟩
  have i1b := inv_F hI1 0 4000 rfl e1a
  rw [← (show z1a = s1.2.2.1 2 4 from e1)] at n1
  rw [← (show z1b = s1.2.2.1 2 0 from e1a)] at n1
  show GG _ _ _ _ _ _ _ _ [] _ _ _
  refine g_aload_n 5 (gd rfl) rfl rfl ?_
  refine g_aload_n 6 (gd rfl) rfl rfl ?_
  refine g_getI 9 (gd rfl) rfl rfl rfl (fun z6 e6 => ?_)
  have q6 : u_2_1 = z6 := (fr_F (e_2_1) hF1 rfl).trans e6.symm
  subst q6
  refine g_putI 12 (gd rfl) rfl rfl rfl rfl ?_
  have hI9 := inv_sF (q := 102) (j := 9) hI1 rfl (in_w 0 32 ro_2_1 rfl)
  refine g_aload_n 13 (gd rfl) rfl rfl ?_
  refine g_getA (q2 := 108) 16 (gd rfl) rfl rfl rfl rfl ?_
  refine g_lconst 0 17 (gd rfl) rfl rfl ?_
  refine g_calls (As := [.ref (A 108), .long (Int64.ofInt 0)]) (r := []) 20 (gd rfl) rfl rfl rfl rfl rfl (Nat.le_of_ble_eq_true rfl) (Nat.zero_le _) (Nat.zero_le _) (k_fillL 108 (by first | exact dq1 hd rfl | exact dq0 hd rfl | exact dq2 hd rfl | exact dq3 hd rfl | omega) hI9 (n := 32) rfl rfl rfl (l_rng (Int64.ofInt 0))) (fun v u h => ?_)
  obtain ⟨s17, hI17, hF17, rfl, rfl, fl17⟩ := h
  show GG _ _ _ _ _ _ _ _ [] _ _ _
  refine g_aload_n 21 (gd rfl) rfl rfl ?_
  refine g_aload_n 22 (gd rfl) rfl rfl ?_
  refine g_iconst 0 23 (gd rfl) rfl rfl ?_
  have v23 : z1a = s17.2.2.1 2 4 := fr_F (s := (sF s1 102 9 u_2_1)) (sF_ne rfl (e1)) hF17 rfl
  have v23a : z1b = s17.2.2.1 2 0 := fr_F (s := (sF s1 102 9 u_2_1)) (sF_ne rfl (e1a)) hF17 rfl
  have n23 : (z1a).toInt = (z1b).toInt := by have a0 := oa4 ro_2_1 h2 i1b i1a; omega
  refine g_callv (X := _) (As := [.ref (A 2), .int (Int32.ofInt 0)]) (r := []) (b := A 102) (q := 102) 26 (gd rfl) rfl rfl rfl rfl rfl (ww_o rfl) (Nat.le_of_ble_eq_true rfl) (Nat.zero_le _) (Nat.zero_le _) (k_64_102_2 (by first | exact dq1 hd rfl | exact dq0 hd rfl | exact dq2 hd rfl | exact dq3 hd rfl | omega) hI17 (in_w 0 200 (in_c 0 rfl) rfl) v23 v23a n23) (fun e u h => h) (fun v u h => ?_)
  obtain ⟨s23, hI23, hF23, z23, rfl, rfl, i23⟩ := h
  show GG _ _ _ _ _ _ _ _ [.int z23] _ _ _
  refine g_pop 27 (gd rfl) rfl rfl ?_
  refine g_iconst 1 28 (gd rfl) rfl rfl ?_
  refine g_istore_n 29 (gd rfl) rfl (Nat.le_of_ble_eq_true rfl) ?_
  have v29 : z1a = s23.2.2.1 2 4 := fr_F (fr_F (s := (sF s1 102 9 u_2_1)) (sF_ne rfl (e1)) hF17 rfl) hF23 rfl
  have v29a : z1b = s23.2.2.1 2 0 := fr_F (fr_F (s := (sF s1 102 9 u_2_1)) (sF_ne rfl (e1a)) hF17 rfl) hF23 rfl
  have n29 : (z1a).toInt = (z1b).toInt := by have a0 := oa5 ro_2_1 h2 ((in_c 1 rfl)) i1b i1a; omega
  exact gg_w (by first | exact Nat.le_of_ble_eq_true rfl | omega) (gg_f (gf_cons rfl (gf_cons rfl (gf_cons rfl (gf_cons rfl gf_nil)))) (ct29 400 s23 (Int32.ofInt 1) z1a z1b hI23 (fr_tr rfl (fr_tr rfl (fr_sF rfl (fr_tr rfl fr_rf hF1)) hF17) hF23) (in_w 1 400 (in_c 1 rfl) rfl) v29 v29a n29 (m_in 400 (in_w 1 400 (in_c 1 rfl) rfl) rfl)))

def fm_63_102_32 : FM := ([39, 40, 41, 42, 43, 44, 45], [105, 106, 107, 108], [(32, 4), (102, 9)], [])
/-- GraphHouse$Engine.work -/
theorem k_63_102_32 {Z : AmZ} {A : Nat → Nat} {s : GS} {ex : va_W} {d : Nat} {X : AmX} {x2 : Int32} (hd : 7 ≤ d) (hI : Inv s) (h2 : In x2 0 200) : GC Z d 63 [.ref (A 102), .ref (A 32), .int x2] (WW Z A s ++ ex) 0 0 (fun v u => ∃ t : GS, Inv t ∧ Fr fm_63_102_32 s t ∧ ∃ z : Int32, v = some (.int z) ∧ u = WW Z A t ++ ex ∧ In z 0 200) X := by
  intro post xp hP hX
  obtain ⟨u_32_1, e_32_1⟩ : ∃ w, w = s.2.2.1 32 1 := ⟨_, rfl⟩
  have ro_32_1 := inv_F hI 0 32 rfl e_32_1
  have ct29 : ∀ (k29 : Nat) (sc29 : GS) (y29_3 : Int32) (w29_32_4 : Int32) (w29_32_0 : Int32), Inv sc29 → Fr fm_63_102_32 s sc29 → (In y29_3 1 400) → (w29_32_4 = sc29.2.2.1 32 4) → (w29_32_0 = sc29.2.2.1 32 0) → ((w29_32_4).toInt = (w29_32_0).toInt) → 400 - (y29_3).toInt < (k29 : Int) → GG Z (d - 1) 63 post (gx xp) (1 + k29 * 900) 29 (fun j => xlook j [(0, .ref (A 102)), (1, .ref (A 32)), (2, .int x2), (3, .int y29_3)]) [] (WW Z A sc29 ++ ex) 0 0 := by
    intro k29
    induction k29 with
    | zero => intro sc29 y29_3 w29_32_4 w29_32_0 hIc29 hFc29 j29_3 v29_32_4 v29_32_0 n29_0 mm29; exact m_no mm29 j29_3 rfl
    | succ k29 ih29 =>
      intro sc29 y29_3 w29_32_4 w29_32_0 hIc29 hFc29 j29_3 v29_32_4 v29_32_0 n29_0 mm29
      refine gg_w (M := 1 + k29 * 900 + 900) gws ?_
      refine g_iload_n 30 (gd rfl) rfl rfl ?_
      refine g_iload_n 31 (gd rfl) rfl rfl ?_
      refine g_cmp_gt 34 66 (gd rfl) rfl rfl (fun c31 => ?_) (fun c31 => ?_)
      · skip
        refine g_iload_n 67 (gd rfl) rfl rfl ?_
        exact g_ireturn (gd rfl) rfl rfl (hP _ _ ⟨sc29, hIc29, hFc29, x2, rfl, rfl, in_w 0 200 h2 rfl⟩)
      · skip
        have i31 := r_le1 1 200 c31 j29_3 h2 rfl
        have i31a := r_le2 1 200 c31 j29_3 h2 rfl
        refine g_aload_n 35 (gd rfl) rfl rfl ?_
        refine g_getA (q2 := 107) 38 (gd rfl) rfl rfl rfl rfl ?_
        refine g_iconst 0 39 (gd rfl) rfl rfl ?_
        refine g_aload_n 40 (gd rfl) rfl rfl ?_
        refine g_getA (q2 := 108) 43 (gd rfl) rfl rfl rfl rfl ?_
        refine g_iconst 0 44 (gd rfl) rfl rfl ?_
        refine g_bipush 32 46 (gd rfl) rfl rfl ?_
        refine g_cpL (q2 := 107) (q := 108) (n0 := 32) (n1 := 32) 49 (gd rfl) rfl rfl rfl rfl (Nat.le_of_ble_eq_true rfl) (cp_0 (in_c 0 rfl) rfl) (cp_0 (in_c 0 rfl) rfl) (cp_0 (in_c 32 rfl) rfl) (cp_1 (in_c 0 rfl) (in_c 32 rfl) rfl) (cp_1 (in_c 0 rfl) (in_c 32 rfl) rfl) hIc29 rfl rfl rfl (fun s46 hI46 hF46 cp46 => ?_)
        refine g_aload_n 50 (gd rfl) rfl rfl ?_
        refine g_aload_n 51 (gd rfl) rfl rfl ?_
        refine g_iload_n 52 (gd rfl) rfl rfl ?_
        have v52 : w29_32_4 = s46.2.2.1 32 4 := fr_F (v29_32_4) hF46 rfl
        have v52a : w29_32_0 = s46.2.2.1 32 0 := fr_F (v29_32_0) hF46 rfl
        have n52 : (w29_32_4).toInt = (w29_32_0).toInt := by first | exact n29_0 | (have a0 := oa5 i31a ro_32_1 ((inv_F hIc29 0 4000 rfl v29_32_0)) ((inv_F hIc29 (-1) 4000 rfl v29_32_4)) i31; omega)
        refine g_callv (X := _) (As := [.ref (A 32), .int y29_3]) (r := []) (b := A 102) (q := 102) 55 (gd rfl) rfl rfl rfl rfl rfl (ww_o rfl) (Nat.le_of_ble_eq_true rfl) (Nat.zero_le _) (Nat.zero_le _) (k_64_102_32 (by first | exact dq1 hd rfl | exact dq0 hd rfl | exact dq2 hd rfl | exact dq3 hd rfl | omega) hI46 (in_w 0 200 i31 rfl) v52 v52a n52) (fun e u h => h) (fun v u h => ?_)
        obtain ⟨s52, hI52, hF52, z52, rfl, rfl, i52⟩ := h
        show GG _ _ _ _ _ _ _ _ [.int z52] _ _ _
        refine g_if_ne 58 60 (gd rfl) rfl rfl (fun c55 => ?_) (fun c55 => ?_)
        · skip
          have i55 := z_ne 1 1 c55 i52 rfl
          refine g_iinc 63 (gd rfl) rfl rfl (Nat.le_of_ble_eq_true rfl) (fun z60 e60 => ?_)
          have i60 := in_add 2 201 e60 i31 (in_c 1 rfl) rfl rfl
          refine g_goto 29 (gd rfl) rfl ?_
          have v29 : w29_32_4 = s52.2.2.1 32 4 := fr_F (fr_F (v29_32_4) hF46 rfl) hF52 rfl
          have v29a : w29_32_0 = s52.2.2.1 32 0 := fr_F (fr_F (v29_32_0) hF46 rfl) hF52 rfl
          have n29 : (w29_32_4).toInt = (w29_32_0).toInt := by first | exact n29_0 | (have a0 := oa6 i31a ro_32_1 ((inv_F hIc29 0 4000 rfl v29_32_0)) ((inv_F hIc29 (-1) 4000 rfl v29_32_4)) i31 i60; have a6 := t_add e60 i31 (in_c 1 rfl) rfl; have a7 := in_u ((in_c 1 rfl)); omega)
          exact gg_w (by first | exact Nat.le_add_right _ _ | exact gw2 | exact gw3 | exact gwe rfl | exact gwf rfl | exact gwg rfl | exact gwh rfl | omega) (gg_f (gf_cons rfl (gf_cons rfl (gf_cons rfl (gf_cons rfl gf_nil)))) (ih29 s52 z60 w29_32_4 w29_32_0 hI52 (fr_tr rfl (fr_tr rfl hFc29 hF46) hF52) (in_w 1 400 i60 rfl) v29 v29a n29 (m_up mm29 (t_add e60 i31 (in_c 1 rfl) rfl) (in_w 1 1 (in_c 1 rfl) rfl))))
        · skip
          have i55 := z_eq 0 0 c55 i52 rfl
          refine g_iload_n 59 (gd rfl) rfl rfl ?_
          exact g_ireturn (gd rfl) rfl rfl (hP _ _ ⟨s52, hI52, (fr_tr rfl (fr_tr rfl hFc29 hF46) hF52), y29_3, rfl, rfl, in_w 0 200 i31 rfl⟩)
  refine g_enter2 (k := 63) (N := 360901) (by first | exact dq1 hd rfl | exact dq0 hd rfl | exact dq2 hd rfl | exact dq3 hd rfl | omega) rfl (Nat.le_of_ble_eq_true rfl) ?_
  refine g_aload_n 1 (gd rfl) rfl rfl ?_
  refine g_callv (X := _) (As := []) (r := []) (b := A 32) (q := 32) 4 (gd rfl) rfl rfl rfl rfl rfl (ww_o rfl) (Nat.le_of_ble_eq_true rfl) (Nat.zero_le _) (Nat.zero_le _) (k_106_32 (by first | exact dq1 hd rfl | exact dq0 hd rfl | exact dq2 hd rfl | exact dq3 hd rfl | omega) hI ) (fun e u h => h) (fun v u h => ?_)
  obtain ⟨s1, hI1, hF1, n1, rfl, rfl⟩ := h
  obtain ⟨z1a, e1⟩ : ∃ w, w = s1.2.2.1 32 4 := ⟨_, rfl⟩
  have i1a := inv_F hI1 (-1) 4000 rfl e1
  obtain ⟨z1b, e1a⟩ : ∃ w, w = s1.2.2.1 32 0 := ⟨_, rfl⟩
  have i1b := inv_F hI1 0 4000 rfl e1a
  rw [← (show z1a = s1.2.2.1 32 4 from e1)] at n1
  rw [← (show z1b = s1.2.2.1 32 0 from e1a)] at n1
  show GG _ _ _ _ _ _ _ _ [] _ _ _
  refine g_aload_n 5 (gd rfl) rfl rfl ?_
  refine g_aload_n 6 (gd rfl) rfl rfl ?_
  refine g_getI 9 (gd rfl) rfl rfl rfl (fun z6 e6 => ?_)
  have q6 : u_32_1 = z6 := (fr_F (e_32_1) hF1 rfl).trans e6.symm
  subst q6
  refine g_putI 12 (gd rfl) rfl rfl rfl rfl ?_
  have hI9 := inv_sF (q := 102) (j := 9) hI1 rfl (in_w 0 32 ro_32_1 rfl)
  refine g_aload_n 13 (gd rfl) rfl rfl ?_
  refine g_getA (q2 := 108) 16 (gd rfl) rfl rfl rfl rfl ?_
  refine g_lconst 0 17 (gd rfl) rfl rfl ?_
  refine g_calls (As := [.ref (A 108), .long (Int64.ofInt 0)]) (r := []) 20 (gd rfl) rfl rfl rfl rfl rfl (Nat.le_of_ble_eq_true rfl) (Nat.zero_le _) (Nat.zero_le _) (k_fillL 108 (by first | exact dq1 hd rfl | exact dq0 hd rfl | exact dq2 hd rfl | exact dq3 hd rfl | omega) hI9 (n := 32) rfl rfl rfl (l_rng (Int64.ofInt 0))) (fun v u h => ?_)
  obtain ⟨s17, hI17, hF17, rfl, rfl, fl17⟩ := h
  show GG _ _ _ _ _ _ _ _ [] _ _ _
  refine g_aload_n 21 (gd rfl) rfl rfl ?_
  refine g_aload_n 22 (gd rfl) rfl rfl ?_
  refine g_iconst 0 23 (gd rfl) rfl rfl ?_
  have v23 : z1a = s17.2.2.1 32 4 := fr_F (s := (sF s1 102 9 u_32_1)) (sF_ne rfl (e1)) hF17 rfl
  have v23a : z1b = s17.2.2.1 32 0 := fr_F (s := (sF s1 102 9 u_32_1)) (sF_ne rfl (e1a)) hF17 rfl
  have n23 : (z1a).toInt = (z1b).toInt := by have a0 := oa4 ro_32_1 h2 i1b i1a; omega
  refine g_callv (X := _) (As := [.ref (A 32), .int (Int32.ofInt 0)]) (r := []) (b := A 102) (q := 102) 26 (gd rfl) rfl rfl rfl rfl rfl (ww_o rfl) (Nat.le_of_ble_eq_true rfl) (Nat.zero_le _) (Nat.zero_le _) (k_64_102_32 (by first | exact dq1 hd rfl | exact dq0 hd rfl | exact dq2 hd rfl | exact dq3 hd rfl | omega) hI17 (in_w 0 200 (in_c 0 rfl) rfl) v23 v23a n23) (fun e u h => h) (fun v u h => ?_)
  obtain ⟨s23, hI23, hF23, z23, rfl, rfl, i23⟩ := h
  show GG _ _ _ _ _ _ _ _ [.int z23] _ _ _
  refine g_pop 27 (gd rfl) rfl rfl ?_
  refine g_iconst 1 28 (gd rfl) rfl rfl ?_
  refine g_istore_n 29 (gd rfl) rfl (Nat.le_of_ble_eq_true rfl) ?_
  have v29 : z1a = s23.2.2.1 32 4 := fr_F (fr_F (s := (sF s1 102 9 u_32_1)) (sF_ne rfl (e1)) hF17 rfl) hF23 rfl
  have v29a : z1b = s23.2.2.1 32 0 := fr_F (fr_F (s := (sF s1 102 9 u_32_1)) (sF_ne rfl (e1a)) hF17 rfl) hF23 rfl
  have n29 : (z1a).toInt = (z1b).toInt := by have a0 := oa5 ro_32_1 h2 ((in_c 1 rfl)) i1b i1a; omega
  exact gg_w (by first | exact Nat.le_of_ble_eq_true rfl | omega) (gg_f (gf_cons rfl (gf_cons rfl (gf_cons rfl (gf_cons rfl gf_nil)))) (ct29 400 s23 (Int32.ofInt 1) z1a z1b hI23 (fr_tr rfl (fr_tr rfl (fr_sF rfl (fr_tr rfl fr_rf hF1)) hF17) hF23) (in_w 1 400 (in_c 1 rfl) rfl) v29 v29a n29 (m_in 400 (in_w 1 400 (in_c 1 rfl) rfl) rfl)))

def fm_81_65 : FM := ([68, 73, 74], [75], [], [])
/-- GraphHouse$Flows.turnEarners -/
theorem k_81_65 {Z : AmZ} {A : Nat → Nat} {s : GS} {ex : va_W} {d : Nat} {X : AmX} {x1 : Int32} {x2 : Int32} {x3 : Int32} (hd : 3 ≤ d) (hI : Inv s) (h1 : In x1 0 32) (h2 : In x2 1 1048576) (h3 : In x3 1 65536) : GC Z d 81 [.ref (A 65), .int x1, .int x2, .int x3] (WW Z A s ++ ex) 0 0 (fun v u => ∃ t : GS, Inv t ∧ Fr fm_81_65 s t ∧ v = none ∧ u = WW Z A t ++ ex) X := by
  intro post xp hP hX
  obtain ⟨u_65_8, e_65_8⟩ : ∃ w, w = s.2.2.1 65 8 := ⟨_, rfl⟩
  have ro_65_8 := inv_F hI 0 160 rfl e_65_8
  have ct17 : ∀ (k17 : Nat) (sc17 : GS) (y17_4 : Int32), Inv sc17 → Fr fm_81_65 s sc17 → (In y17_4 0 160) → 160 - (y17_4).toInt < (k17 : Int) → GG Z (d - 1) 81 post (gx xp) (1 + k17 * 900) 17 (fun j => xlook j [(0, .ref (A 65)), (1, .int x1), (2, .int x2), (3, .int x3), (4, .int y17_4)]) [] (WW Z A sc17 ++ ex) 0 0 := by
    intro k17
    induction k17 with
    | zero => intro sc17 y17_4 hIc17 hFc17 j17_4 mm17; exact m_no mm17 j17_4 rfl
    | succ k17 ih17 =>
      intro sc17 y17_4 hIc17 hFc17 j17_4 mm17
      refine gg_w (M := 1 + k17 * 900 + 900) gws ?_
      refine g_iload 19 (gd rfl) rfl rfl ?_
      refine g_aload_n 20 (gd rfl) rfl rfl ?_
      refine g_getI 23 (gd rfl) rfl rfl rfl (fun z20 e20 => ?_)
      have q20 : u_65_8 = z20 := (fr_F e_65_8 hFc17 rfl).trans e20.symm
      subst q20
      refine g_cmp_ge 26 141 (gd rfl) rfl rfl (fun c23 => ?_) (fun c23 => ?_)
      · skip
        exact g_return (gd rfl) rfl (hP _ _ ⟨sc17, hIc17, hFc17, rfl, rfl⟩)
      · skip
        have i23 := r_lt1 0 159 c23 j17_4 ro_65_8 rfl
        have i23a := r_lt2 1 160 c23 j17_4 ro_65_8 rfl
        refine g_aload_n 27 (gd rfl) rfl rfl ?_
        refine g_getA (q2 := 75) 30 (gd rfl) rfl rfl rfl rfl ?_
        refine g_aload_n 31 (gd rfl) rfl rfl ?_
        refine g_getA (q2 := 69) 34 (gd rfl) rfl rfl rfl rfl ?_
        refine g_iload 36 (gd rfl) rfl rfl ?_
        refine g_iaload 37 (gd rfl) rfl (n := 160) rfl (in_ix i23 rfl) (fun z36 e36 => ?_)
        have i36 := inv_I hIc17 (n := 160) (t := 0) 0 31 rfl (in_ix i23 rfl) rfl e36
        refine g_laload 38 (gd rfl) rfl (n := 32) rfl (in_ix i36 rfl) (fun z37 e37 => ?_)
        refine g_aload_n 39 (gd rfl) rfl rfl ?_
        refine g_getA (q2 := 71) 42 (gd rfl) rfl rfl rfl rfl ?_
        refine g_iload 44 (gd rfl) rfl rfl ?_
        refine g_iaload 45 (gd rfl) rfl (n := 160) rfl (in_ix i23 rfl) (fun z44 e44 => ?_)
        have i44 := inv_I hIc17 (n := 160) (t := 0) (-1000000) 1000000 rfl (in_ix i23 rfl) rfl e44
        refine g_i2l 46 (gd rfl) rfl (fun z45 e45 => ?_)
        have i45 := l_i e45 i44
        refine g_ladd 47 (gd rfl) rfl (fun z46 e46 => ?_)
        refine g_aload_n 48 (gd rfl) rfl rfl ?_
        refine g_getA (q2 := 75) 51 (gd rfl) rfl rfl rfl rfl ?_
        refine g_aload_n 52 (gd rfl) rfl rfl ?_
        refine g_getA (q2 := 70) 55 (gd rfl) rfl rfl rfl rfl ?_
        refine g_iload 57 (gd rfl) rfl rfl ?_
        refine g_iaload 58 (gd rfl) rfl (n := 160) rfl (in_ix i23 rfl) (fun z57 e57 => ?_)
        have i57 := inv_I hIc17 (n := 160) (t := 0) 0 31 rfl (in_ix i23 rfl) rfl e57
        refine g_laload 59 (gd rfl) rfl (n := 32) rfl (in_ix i57 rfl) (fun z58 e58 => ?_)
        refine g_lsub 60 (gd rfl) rfl (fun z59 e59 => ?_)
        refine g_lstore 62 (gd rfl) rfl (Nat.le_of_ble_eq_true rfl) ?_
        refine g_aload_n 63 (gd rfl) rfl rfl ?_
        refine g_getA (q2 := 72) 66 (gd rfl) rfl rfl rfl rfl ?_
        refine g_iload 68 (gd rfl) rfl rfl ?_
        refine g_iaload 69 (gd rfl) rfl (n := 160) rfl (in_ix i23 rfl) (fun z68 e68 => ?_)
        have i68 := inv_I hIc17 (n := 160) (t := 0) 0 1000000 rfl (in_ix i23 rfl) rfl e68
        refine g_aload_n 70 (gd rfl) rfl rfl ?_
        refine g_getA (q2 := 73) 73 (gd rfl) rfl rfl rfl rfl ?_
        refine g_iload 75 (gd rfl) rfl rfl ?_
        refine g_iaload 76 (gd rfl) rfl (n := 160) rfl (in_ix i23 rfl) (fun z75 e75 => ?_)
        refine g_isub 77 (gd rfl) rfl (fun z76 e76 => ?_)
        refine g_istore 79 (gd rfl) rfl (Nat.le_of_ble_eq_true rfl) ?_
        refine g_lload 81 (gd rfl) rfl rfl ?_
        refine g_lconst 0 82 (gd rfl) rfl rfl ?_
        refine g_lcmp 83 (gd rfl) rfl (fun z82 e82 => ?_)
        have i82 := lc_in e82
        refine g_if_ge 86 103 (gd rfl) rfl rfl (fun c83 => ?_) (fun c83 => ?_)
        · skip
          have i83 := z_ge 0 1 c83 i82 rfl
          have c83a := lc_ge e82 c83
          have i83a := lr_le2 0 9223372036854775807 c83a (l_c 0 rfl) (l_rng z59) rfl
          refine g_lload 105 (gd rfl) rfl rfl ?_
          refine g_lconst 0 106 (gd rfl) rfl rfl ?_
          refine g_lcmp 107 (gd rfl) rfl (fun z106 e106 => ?_)
          have i106 := lc_in e106
          refine g_if_le 110 135 (gd rfl) rfl rfl (fun c107 => ?_) (fun c107 => ?_)
          · skip
            have i107 := z_le (-1) 0 c107 i106 rfl
            have c107a := lc_le e106 c107
            have i107a := lr_le1 0 0 c107a i83a (l_c 0 rfl) rfl
            refine g_iinc 138 (gd rfl) rfl rfl (Nat.le_of_ble_eq_true rfl) (fun z135 e135 => ?_)
            have i135 := in_add 1 160 e135 i23 (in_c 1 rfl) rfl rfl
            refine g_goto 17 (gd rfl) rfl ?_
            exact gg_w (by first | exact Nat.le_add_right _ _ | exact gw2 | exact gw3 | exact gwe rfl | exact gwf rfl | exact gwg rfl | exact gwh rfl | omega) (gg_f (gf_cons rfl (gf_cons rfl (gf_cons rfl (gf_cons rfl (gf_cons rfl gf_nil))))) (ih17 sc17 z135 hIc17 hFc17 (in_w 0 160 i135 rfl) (m_up mm17 (t_add e135 i23 (in_c 1 rfl) rfl) (in_w 1 1 (in_c 1 rfl) rfl))))
          · skip
            have i107 := z_gt 1 1 c107 i106 rfl
            have c107a := lc_gt e106 c107
            have i107a := lr_lt2 1 9223372036854775807 c107a (l_c 0 rfl) i83a rfl
            refine g_aload_n 111 (gd rfl) rfl rfl ?_
            refine g_getA (q2 := 73) 114 (gd rfl) rfl rfl rfl rfl ?_
            refine g_iload 116 (gd rfl) rfl rfl ?_
            refine g_iaload 117 (gd rfl) rfl (n := 160) rfl (in_ix i23 rfl) (fun z116 e116 => ?_)
            have q116 : z75 = z116 := (e75).trans e116.symm
            subst q116
            refine g_iload_n 118 (gd rfl) rfl rfl ?_
            refine g_cmp_lt 121 135 (gd rfl) rfl rfl (fun c118 => ?_) (fun c118 => ?_)
            · skip
              have i118 := r_lt1 (-2147483648) 65535 c118 (i_rng z75) h3 rfl
              refine g_iinc 138 (gd rfl) rfl rfl (Nat.le_of_ble_eq_true rfl) (fun z135 e135 => ?_)
              have i135 := in_add 1 160 e135 i23 (in_c 1 rfl) rfl rfl
              refine g_goto 17 (gd rfl) rfl ?_
              exact gg_w (by first | exact Nat.le_add_right _ _ | exact gw2 | exact gw3 | exact gwe rfl | exact gwf rfl | exact gwg rfl | exact gwh rfl | omega) (gg_f (gf_cons rfl (gf_cons rfl (gf_cons rfl (gf_cons rfl (gf_cons rfl gf_nil))))) (ih17 sc17 z135 hIc17 hFc17 (in_w 0 160 i135 rfl) (m_up mm17 (t_add e135 i23 (in_c 1 rfl) rfl) (in_w 1 1 (in_c 1 rfl) rfl))))
            · skip
              have i118 := r_le2 1 2147483647 c118 h3 (i_rng z75) rfl
              refine g_aload_n 122 (gd rfl) rfl rfl ?_
              refine g_iload 124 (gd rfl) rfl rfl ?_
              refine g_aload_n 125 (gd rfl) rfl rfl ?_
              refine g_getA (q2 := 73) 128 (gd rfl) rfl rfl rfl rfl ?_
              refine g_iload 130 (gd rfl) rfl rfl ?_
              refine g_iaload 131 (gd rfl) rfl (n := 160) rfl (in_ix i23 rfl) (fun z130 e130 => ?_)
              have q130 : z75 = z130 := (e75).trans e130.symm
              subst q130
              refine g_ineg 132 (gd rfl) rfl (fun z131 e131 => ?_)
              have i131 := in_neg (-2147483647) (-1) e131 i118 rfl
              refine g_callv (X := _) (As := [.int y17_4, .int z131]) (r := []) (b := A 65) (q := 65) 135 (gd rfl) rfl rfl rfl rfl rfl (ww_o rfl) (Nat.le_of_ble_eq_true rfl) (mc := 0) (ms := 0) (Nat.zero_le _) (Nat.zero_le _) (P := fun v u => _) ?_ (fun e u h => h) (fun v u h => h)
              intro po132 xx132 hp132 hx132
              refine g_enter2 (k := 82) (N := 300) (by first | exact dq1 hd rfl | exact dq0 hd rfl | exact dq2 hd rfl | exact dq3 hd rfl | omega) rfl (Nat.le_of_ble_eq_true rfl) ?_
              refine g_aload_n 1 (gd rfl) rfl rfl ?_
              refine g_getA (q2 := 73) 4 (gd rfl) rfl rfl rfl rfl ?_
              refine g_iload_n 5 (gd rfl) rfl rfl ?_
              refine g_dup2 6 (gd rfl) rfl rfl rfl ?_
              refine g_iaload 7 (gd rfl) rfl (n := 160) rfl (in_ix i23 rfl) (fun z132x6 e132x6 => ?_)
              have q132x6 : z75 = z132x6 := (e75).trans e132x6.symm
              subst q132x6
              refine g_iload_n 8 (gd rfl) rfl rfl ?_
              refine g_iadd 9 (gd rfl) rfl (fun z132x8 e132x8 => ?_)
              have i132x8 := in_add (-2147483646) 2147483646 e132x8 i118 i131 rfl rfl
              refine g_iastore 10 (gd rfl) rfl (n := 160) rfl (in_ix i23 rfl) ?_
              have hI132x9 := inv_sI (q := 73) (j := y17_4.toNatClampNeg) hIc17 rfl (in_w (-2147483648) 2147483647 i132x8 rfl)
              refine g_aload_n 11 (gd rfl) rfl rfl ?_
              refine g_getA (q2 := 74) 14 (gd rfl) rfl rfl rfl rfl ?_
              refine g_aload_n 15 (gd rfl) rfl rfl ?_
              refine g_getA (q2 := 70) 18 (gd rfl) rfl rfl rfl rfl ?_
              refine g_iload_n 19 (gd rfl) rfl rfl ?_
              refine g_iaload 20 (gd rfl) rfl (n := 160) rfl (in_ix i23 rfl) (fun z132x19 e132x19 => ?_)
              have q132x19 : z57 = z132x19 := (sI_ne rfl (e57)).trans e132x19.symm
              subst q132x19
              refine g_dup2 21 (gd rfl) rfl rfl rfl ?_
              refine g_iaload 22 (gd rfl) rfl (n := 32) rfl (in_ix i57 rfl) (fun z132x21 e132x21 => ?_)
              refine g_iload_n 23 (gd rfl) rfl rfl ?_
              refine g_iadd 24 (gd rfl) rfl (fun z132x23 e132x23 => ?_)
              refine g_iastore 25 (gd rfl) rfl (n := 32) rfl (in_ix i57 rfl) ?_
              have hI132x24 := inv_sI (q := 74) (j := z57.toNatClampNeg) hI132x9 rfl (in_w (-2147483648) 2147483647 (i_rng z132x23) rfl)
              refine g_aload_n 26 (gd rfl) rfl rfl ?_
              refine g_getA (q2 := 74) 29 (gd rfl) rfl rfl rfl rfl ?_
              refine g_aload_n 30 (gd rfl) rfl rfl ?_
              refine g_getA (q2 := 69) 33 (gd rfl) rfl rfl rfl rfl ?_
              refine g_iload_n 34 (gd rfl) rfl rfl ?_
              refine g_iaload 35 (gd rfl) rfl (n := 160) rfl (in_ix i23 rfl) (fun z132x34 e132x34 => ?_)
              have q132x34 : z36 = z132x34 := (sI_ne rfl (sI_ne rfl (e36))).trans e132x34.symm
              subst q132x34
              refine g_dup2 36 (gd rfl) rfl rfl rfl ?_
              refine g_iaload 37 (gd rfl) rfl (n := 32) rfl (in_ix i36 rfl) (fun z132x36 e132x36 => ?_)
              refine g_iload_n 38 (gd rfl) rfl rfl ?_
              refine g_isub 39 (gd rfl) rfl (fun z132x38 e132x38 => ?_)
              refine g_iastore 40 (gd rfl) rfl (n := 32) rfl (in_ix i36 rfl) ?_
              have hI132x39 := inv_sI (q := 74) (j := z36.toNatClampNeg) hI132x24 rfl (in_w (-2147483648) 2147483647 (i_rng z132x38) rfl)
              refine g_return (gd rfl) rfl (hp132 _ _ ?_)
              show GG _ _ _ _ _ _ _ _ [] _ _ _
              refine g_iinc 138 (gd rfl) rfl rfl (Nat.le_of_ble_eq_true rfl) (fun z135 e135 => ?_)
              have i135 := in_add 1 160 e135 i23 (in_c 1 rfl) rfl rfl
              refine g_goto 17 (gd rfl) rfl ?_
              exact gg_w (by first | exact Nat.le_add_right _ _ | exact gw2 | exact gw3 | exact gwe rfl | exact gwf rfl | exact gwg rfl | exact gwh rfl | omega) (gg_f (gf_cons rfl (gf_cons rfl (gf_cons rfl (gf_cons rfl (gf_cons rfl gf_nil))))) (ih17 (sI (sI (sI sc17 73 y17_4.toNatClampNeg z132x8) 74 z57.toNatClampNeg z132x23) 74 z36.toNatClampNeg z132x38) z135 hI132x39 (fr_sI rfl (fr_sI rfl (fr_sI rfl hFc17))) (in_w 0 160 i135 rfl) (m_up mm17 (t_add e135 i23 (in_c 1 rfl) rfl) (in_w 1 1 (in_c 1 rfl) rfl))))
        · skip
          have i83 := z_lt (-1) (-1) c83 i82 rfl
          have c83a := lc_lt e82 c83
          have i83a := lr_lt1 (-9223372036854775808) (-1) c83a (l_rng z59) (l_c 0 rfl) rfl
          refine g_iload 88 (gd rfl) rfl rfl ?_
          refine g_iload_n 89 (gd rfl) rfl rfl ?_
          refine g_cmp_lt 92 103 (gd rfl) rfl rfl (fun c89 => ?_) (fun c89 => ?_)
          · skip
            have i89 := r_lt1 (-2147483648) 65535 c89 (i_rng z76) h3 rfl
            refine g_lload 105 (gd rfl) rfl rfl ?_
            refine g_lconst 0 106 (gd rfl) rfl rfl ?_
            refine g_lcmp 107 (gd rfl) rfl (fun z106 e106 => ?_)
            have i106 := lc_in e106
            refine g_if_le 110 135 (gd rfl) rfl rfl (fun c107 => ?_) (fun c107 => ?_)
            · skip
              have i107 := z_le (-1) 0 c107 i106 rfl
              have c107a := lc_le e106 c107
              refine g_iinc 138 (gd rfl) rfl rfl (Nat.le_of_ble_eq_true rfl) (fun z135 e135 => ?_)
              have i135 := in_add 1 160 e135 i23 (in_c 1 rfl) rfl rfl
              refine g_goto 17 (gd rfl) rfl ?_
              exact gg_w (by first | exact Nat.le_add_right _ _ | exact gw2 | exact gw3 | exact gwe rfl | exact gwf rfl | exact gwg rfl | exact gwh rfl | omega) (gg_f (gf_cons rfl (gf_cons rfl (gf_cons rfl (gf_cons rfl (gf_cons rfl gf_nil))))) (ih17 sc17 z135 hIc17 hFc17 (in_w 0 160 i135 rfl) (m_up mm17 (t_add e135 i23 (in_c 1 rfl) rfl) (in_w 1 1 (in_c 1 rfl) rfl))))
            · skip
              have i107 := z_gt 1 1 c107 i106 rfl
              have c107a := lc_gt e106 c107
              exact ln_lt c107a (l_c 0 rfl) i83a rfl
          · skip
            have i89 := r_le2 1 2147483647 c89 h3 (i_rng z76) rfl
            refine g_aload_n 93 (gd rfl) rfl rfl ?_
            refine g_iload 95 (gd rfl) rfl rfl ?_
            refine g_iload 97 (gd rfl) rfl rfl ?_
            refine g_callv (X := _) (As := [.int y17_4, .int z76]) (r := []) (b := A 65) (q := 65) 100 (gd rfl) rfl rfl rfl rfl rfl (ww_o rfl) (Nat.le_of_ble_eq_true rfl) (mc := 0) (ms := 0) (Nat.zero_le _) (Nat.zero_le _) (P := fun v u => _) ?_ (fun e u h => h) (fun v u h => h)
            intro po97 xx97 hp97 hx97
            refine g_enter2 (k := 82) (N := 300) (by first | exact dq1 hd rfl | exact dq0 hd rfl | exact dq2 hd rfl | exact dq3 hd rfl | omega) rfl (Nat.le_of_ble_eq_true rfl) ?_
            refine g_aload_n 1 (gd rfl) rfl rfl ?_
            refine g_getA (q2 := 73) 4 (gd rfl) rfl rfl rfl rfl ?_
            refine g_iload_n 5 (gd rfl) rfl rfl ?_
            refine g_dup2 6 (gd rfl) rfl rfl rfl ?_
            refine g_iaload 7 (gd rfl) rfl (n := 160) rfl (in_ix i23 rfl) (fun z97x6 e97x6 => ?_)
            have q97x6 : z75 = z97x6 := (e75).trans e97x6.symm
            subst q97x6
            refine g_iload_n 8 (gd rfl) rfl rfl ?_
            refine g_iadd 9 (gd rfl) rfl (fun z97x8 e97x8 => ?_)
            refine g_iastore 10 (gd rfl) rfl (n := 160) rfl (in_ix i23 rfl) ?_
            have hI97x9 := inv_sI (q := 73) (j := y17_4.toNatClampNeg) hIc17 rfl (in_w (-2147483648) 2147483647 (i_rng z97x8) rfl)
            refine g_aload_n 11 (gd rfl) rfl rfl ?_
            refine g_getA (q2 := 74) 14 (gd rfl) rfl rfl rfl rfl ?_
            refine g_aload_n 15 (gd rfl) rfl rfl ?_
            refine g_getA (q2 := 70) 18 (gd rfl) rfl rfl rfl rfl ?_
            refine g_iload_n 19 (gd rfl) rfl rfl ?_
            refine g_iaload 20 (gd rfl) rfl (n := 160) rfl (in_ix i23 rfl) (fun z97x19 e97x19 => ?_)
            have q97x19 : z57 = z97x19 := (sI_ne rfl (e57)).trans e97x19.symm
            subst q97x19
            refine g_dup2 21 (gd rfl) rfl rfl rfl ?_
            refine g_iaload 22 (gd rfl) rfl (n := 32) rfl (in_ix i57 rfl) (fun z97x21 e97x21 => ?_)
            refine g_iload_n 23 (gd rfl) rfl rfl ?_
            refine g_iadd 24 (gd rfl) rfl (fun z97x23 e97x23 => ?_)
            refine g_iastore 25 (gd rfl) rfl (n := 32) rfl (in_ix i57 rfl) ?_
            have hI97x24 := inv_sI (q := 74) (j := z57.toNatClampNeg) hI97x9 rfl (in_w (-2147483648) 2147483647 (i_rng z97x23) rfl)
            refine g_aload_n 26 (gd rfl) rfl rfl ?_
            refine g_getA (q2 := 74) 29 (gd rfl) rfl rfl rfl rfl ?_
            refine g_aload_n 30 (gd rfl) rfl rfl ?_
            refine g_getA (q2 := 69) 33 (gd rfl) rfl rfl rfl rfl ?_
            refine g_iload_n 34 (gd rfl) rfl rfl ?_
            refine g_iaload 35 (gd rfl) rfl (n := 160) rfl (in_ix i23 rfl) (fun z97x34 e97x34 => ?_)
            have q97x34 : z36 = z97x34 := (sI_ne rfl (sI_ne rfl (e36))).trans e97x34.symm
            subst q97x34
            refine g_dup2 36 (gd rfl) rfl rfl rfl ?_
            refine g_iaload 37 (gd rfl) rfl (n := 32) rfl (in_ix i36 rfl) (fun z97x36 e97x36 => ?_)
            refine g_iload_n 38 (gd rfl) rfl rfl ?_
            refine g_isub 39 (gd rfl) rfl (fun z97x38 e97x38 => ?_)
            refine g_iastore 40 (gd rfl) rfl (n := 32) rfl (in_ix i36 rfl) ?_
            have hI97x39 := inv_sI (q := 74) (j := z36.toNatClampNeg) hI97x24 rfl (in_w (-2147483648) 2147483647 (i_rng z97x38) rfl)
            refine g_return (gd rfl) rfl (hp97 _ _ ?_)
            show GG _ _ _ _ _ _ _ _ [] _ _ _
            refine g_goto 135 (gd rfl) rfl ?_
            refine g_iinc 138 (gd rfl) rfl rfl (Nat.le_of_ble_eq_true rfl) (fun z135 e135 => ?_)
            have i135 := in_add 1 160 e135 i23 (in_c 1 rfl) rfl rfl
            refine g_goto 17 (gd rfl) rfl ?_
            exact gg_w (by first | exact Nat.le_add_right _ _ | exact gw2 | exact gw3 | exact gwe rfl | exact gwf rfl | exact gwg rfl | exact gwh rfl | omega) (gg_f (gf_cons rfl (gf_cons rfl (gf_cons rfl (gf_cons rfl (gf_cons rfl gf_nil))))) (ih17 (sI (sI (sI sc17 73 y17_4.toNatClampNeg z97x8) 74 z57.toNatClampNeg z97x23) 74 z36.toNatClampNeg z97x38) z135 hI97x39 (fr_sI rfl (fr_sI rfl (fr_sI rfl hFc17))) (in_w 0 160 i135 rfl) (m_up mm17 (t_add e135 i23 (in_c 1 rfl) rfl) (in_w 1 1 (in_c 1 rfl) rfl))))
  refine g_enter2 (k := 81) (N := 145801) (by first | exact dq1 hd rfl | exact dq0 hd rfl | exact dq2 hd rfl | exact dq3 hd rfl | omega) rfl (Nat.le_of_ble_eq_true rfl) ?_
  refine g_aload_n 1 (gd rfl) rfl rfl ?_
  refine g_getA (q2 := 75) 4 (gd rfl) rfl rfl rfl rfl ?_
  refine g_lconst 0 5 (gd rfl) rfl rfl ?_
  refine g_calls (As := [.ref (A 75), .long (Int64.ofInt 0)]) (r := []) 8 (gd rfl) rfl rfl rfl rfl rfl (Nat.le_of_ble_eq_true rfl) (Nat.zero_le _) (Nat.zero_le _) (k_fillL 75 (by first | exact dq1 hd rfl | exact dq0 hd rfl | exact dq2 hd rfl | exact dq3 hd rfl | omega) hI (n := 32) rfl rfl rfl (l_rng (Int64.ofInt 0))) (fun v u h => ?_)
  obtain ⟨s5, hI5, hF5, rfl, rfl, fl5⟩ := h
  show GG _ _ _ _ _ _ _ _ [] _ _ _
  refine g_aload_n 9 (gd rfl) rfl rfl ?_
  refine g_iload_n 10 (gd rfl) rfl rfl ?_
  refine g_iload_n 11 (gd rfl) rfl rfl ?_
  refine g_callv (X := _) (As := [.int x1, .int x2]) (r := []) (b := A 65) (q := 65) 14 (gd rfl) rfl rfl rfl rfl rfl (ww_o rfl) (Nat.le_of_ble_eq_true rfl) (Nat.zero_le _) (Nat.zero_le _) (k_86_65 (by first | exact dq1 hd rfl | exact dq0 hd rfl | exact dq2 hd rfl | exact dq3 hd rfl | omega) hI5 (in_w 0 32 h1 rfl) (in_w 1 1048576 h2 rfl)) (fun e u h => h) (fun v u h => ?_)
  obtain ⟨s11, hI11, hF11, rfl, rfl⟩ := h
  show GG _ _ _ _ _ _ _ _ [] _ _ _
  refine g_iconst 0 15 (gd rfl) rfl rfl ?_
  refine g_istore 17 (gd rfl) rfl (Nat.le_of_ble_eq_true rfl) ?_
  exact gg_w (by first | exact Nat.le_of_ble_eq_true rfl | omega) (gg_f (gf_cons rfl (gf_cons rfl (gf_cons rfl (gf_cons rfl (gf_cons rfl gf_nil))))) (ct17 161 s11 (Int32.ofInt 0) hI11 (fr_tr rfl (fr_tr rfl fr_rf hF5) hF11) (in_w 0 160 (in_c 0 rfl) rfl) (m_in 161 (in_w 0 160 (in_c 0 rfl) rfl) rfl)))

def fm_85_65 : FM := ([68], [75], [], [])
/-- GraphHouse$Flows.nearestLack -/
theorem k_85_65 {Z : AmZ} {A : Nat → Nat} {s : GS} {ex : va_W} {d : Nat} {X : AmX} {x1 : Int32} {x2 : Int32} (hd : 3 ≤ d) (hI : Inv s) (h1 : In x1 0 32) (h2 : In x2 1 65536) : GC Z d 85 [.ref (A 65), .int x1, .int x2] (WW Z A s ++ ex) 0 0 (fun v u => ∃ t : GS, Inv t ∧ Fr fm_85_65 s t ∧ ∃ z : Int32, v = some (.int z) ∧ u = WW Z A t ++ ex ∧ In z (-1) 31) X := by
  intro post xp hP hX
  have ct54 : ∀ (k54 : Nat) (sc54 : GS) (y54_3 : Int32) (y54_4 : Int32), Inv sc54 → Fr fm_85_65 s sc54 → (In y54_3 (-1) 31) → (In y54_4 0 32) → 32 - (y54_4).toInt < (k54 : Int) → GG Z (d - 1) 85 post (gx xp) (1 + k54 * 900) 54 (fun j => xlook j [(0, .ref (A 65)), (1, .int x1), (2, .int x2), (3, .int y54_3), (4, .int y54_4)]) [] (WW Z A sc54 ++ ex) 0 0 := by
    intro k54
    induction k54 with
    | zero => intro sc54 y54_3 y54_4 hIc54 hFc54 j54_3 j54_4 mm54; exact m_no mm54 j54_4 rfl
    | succ k54 ih54 =>
      intro sc54 y54_3 y54_4 hIc54 hFc54 j54_3 j54_4 mm54
      refine gg_w (M := 1 + k54 * 900 + 900) gws ?_
      refine g_iload 56 (gd rfl) rfl rfl ?_
      refine g_iload_n 57 (gd rfl) rfl rfl ?_
      refine g_cmp_ge 60 117 (gd rfl) rfl rfl (fun c57 => ?_) (fun c57 => ?_)
      · skip
        refine g_iload_n 118 (gd rfl) rfl rfl ?_
        exact g_ireturn (gd rfl) rfl rfl (hP _ _ ⟨sc54, hIc54, hFc54, y54_3, rfl, rfl, in_w (-1) 31 j54_3 rfl⟩)
      · skip
        have i57 := r_lt1 0 31 c57 j54_4 h1 rfl
        have i57a := r_lt2 1 32 c57 j54_4 h1 rfl
        refine g_aload_n 61 (gd rfl) rfl rfl ?_
        refine g_getA (q2 := 74) 64 (gd rfl) rfl rfl rfl rfl ?_
        refine g_iload 66 (gd rfl) rfl rfl ?_
        refine g_iaload 67 (gd rfl) rfl (n := 32) rfl (in_ix i57 rfl) (fun z66 e66 => ?_)
        refine g_iload_n 68 (gd rfl) rfl rfl ?_
        refine g_ineg 69 (gd rfl) rfl (fun z68 e68 => ?_)
        have i68 := in_neg (-65536) (-1) e68 h2 rfl
        refine g_cmp_gt 72 111 (gd rfl) rfl rfl (fun c69 => ?_) (fun c69 => ?_)
        · skip
          have i69 := r_lt2 (-65535) 2147483647 c69 i68 (i_rng z66) rfl
          refine g_iinc 114 (gd rfl) rfl rfl (Nat.le_of_ble_eq_true rfl) (fun z111 e111 => ?_)
          have i111 := in_add 1 32 e111 i57 (in_c 1 rfl) rfl rfl
          refine g_goto 54 (gd rfl) rfl ?_
          exact gg_w (by first | exact Nat.le_add_right _ _ | exact gw2 | exact gw3 | exact gwe rfl | exact gwf rfl | exact gwg rfl | exact gwh rfl | omega) (gg_f (gf_cons rfl (gf_cons rfl (gf_cons rfl (gf_cons rfl (gf_cons rfl gf_nil))))) (ih54 sc54 y54_3 z111 hIc54 hFc54 (in_w (-1) 31 j54_3 rfl) (in_w 0 32 i111 rfl) (m_up mm54 (t_add e111 i57 (in_c 1 rfl) rfl) (in_w 1 1 (in_c 1 rfl) rfl))))
        · skip
          have i69 := r_le1 (-2147483648) (-1) c69 (i_rng z66) i68 rfl
          refine g_aload_n 73 (gd rfl) rfl rfl ?_
          refine g_getA (q2 := 75) 76 (gd rfl) rfl rfl rfl rfl ?_
          refine g_iload 78 (gd rfl) rfl rfl ?_
          refine g_laload 79 (gd rfl) rfl (n := 32) rfl (in_ix i57 rfl) (fun z78 e78 => ?_)
          refine g_ldc2_w 9223372036854775807 82 (gd rfl) rfl rfl ?_
          refine g_lcmp 83 (gd rfl) rfl (fun z82 e82 => ?_)
          have i82 := lc_in e82
          refine g_if_eq 86 111 (gd rfl) rfl rfl (fun c83 => ?_) (fun c83 => ?_)
          · skip
            have i83 := z_eq 0 0 c83 i82 rfl
            have c83a := lc_eq e82 c83
            have i83a := lr_eq1 9223372036854775807 9223372036854775807 c83a (l_rng z78) (l_c 9223372036854775807 rfl) rfl
            refine g_iinc 114 (gd rfl) rfl rfl (Nat.le_of_ble_eq_true rfl) (fun z111 e111 => ?_)
            have i111 := in_add 1 32 e111 i57 (in_c 1 rfl) rfl rfl
            refine g_goto 54 (gd rfl) rfl ?_
            exact gg_w (by first | exact Nat.le_add_right _ _ | exact gw2 | exact gw3 | exact gwe rfl | exact gwf rfl | exact gwg rfl | exact gwh rfl | omega) (gg_f (gf_cons rfl (gf_cons rfl (gf_cons rfl (gf_cons rfl (gf_cons rfl gf_nil))))) (ih54 sc54 y54_3 z111 hIc54 hFc54 (in_w (-1) 31 j54_3 rfl) (in_w 0 32 i111 rfl) (m_up mm54 (t_add e111 i57 (in_c 1 rfl) rfl) (in_w 1 1 (in_c 1 rfl) rfl))))
          · skip
            have c83a := lc_ne e82 c83
            have i83 := lr_ne1 (-9223372036854775808) 9223372036854775806 c83a (l_rng z78) (l_c 9223372036854775807 rfl) rfl
            refine g_iload_n 87 (gd rfl) rfl rfl ?_
            refine g_iconst (-1) 88 (gd rfl) rfl rfl ?_
            refine g_cmp_eq 91 108 (gd rfl) rfl rfl (fun c88 => ?_) (fun c88 => ?_)
            · skip
              have i88 := r_eq1 (-1) (-1) c88 j54_3 (in_c (-1) rfl) rfl
              refine g_iload 110 (gd rfl) rfl rfl ?_
              refine g_istore_n 111 (gd rfl) rfl (Nat.le_of_ble_eq_true rfl) ?_
              refine g_iinc 114 (gd rfl) rfl rfl (Nat.le_of_ble_eq_true rfl) (fun z111 e111 => ?_)
              have i111 := in_add 1 32 e111 i57 (in_c 1 rfl) rfl rfl
              refine g_goto 54 (gd rfl) rfl ?_
              exact gg_w (by first | exact Nat.le_add_right _ _ | exact gw2 | exact gw3 | exact gwe rfl | exact gwf rfl | exact gwg rfl | exact gwh rfl | omega) (gg_f (gf_cons rfl (gf_cons rfl (gf_cons rfl (gf_cons rfl (gf_cons rfl gf_nil))))) (ih54 sc54 y54_4 z111 hIc54 hFc54 (in_w (-1) 31 i57 rfl) (in_w 0 32 i111 rfl) (m_up mm54 (t_add e111 i57 (in_c 1 rfl) rfl) (in_w 1 1 (in_c 1 rfl) rfl))))
            · skip
              have i88 := r_ne1 0 31 c88 j54_3 (in_c (-1) rfl) rfl
              refine g_aload_n 92 (gd rfl) rfl rfl ?_
              refine g_getA (q2 := 75) 95 (gd rfl) rfl rfl rfl rfl ?_
              refine g_iload 97 (gd rfl) rfl rfl ?_
              refine g_laload 98 (gd rfl) rfl (n := 32) rfl (in_ix i57 rfl) (fun z97 e97 => ?_)
              refine g_aload_n 99 (gd rfl) rfl rfl ?_
              refine g_getA (q2 := 75) 102 (gd rfl) rfl rfl rfl rfl ?_
              refine g_iload_n 103 (gd rfl) rfl rfl ?_
              refine g_laload 104 (gd rfl) rfl (n := 32) rfl (in_ix i88 rfl) (fun z103 e103 => ?_)
              refine g_lcmp 105 (gd rfl) rfl (fun z104 e104 => ?_)
              have i104 := lc_in e104
              refine g_if_ge 108 111 (gd rfl) rfl rfl (fun c105 => ?_) (fun c105 => ?_)
              · skip
                have i105 := z_ge 0 1 c105 i104 rfl
                have c105a := lc_ge e104 c105
                refine g_iinc 114 (gd rfl) rfl rfl (Nat.le_of_ble_eq_true rfl) (fun z111 e111 => ?_)
                have i111 := in_add 1 32 e111 i57 (in_c 1 rfl) rfl rfl
                refine g_goto 54 (gd rfl) rfl ?_
                exact gg_w (by first | exact Nat.le_add_right _ _ | exact gw2 | exact gw3 | exact gwe rfl | exact gwf rfl | exact gwg rfl | exact gwh rfl | omega) (gg_f (gf_cons rfl (gf_cons rfl (gf_cons rfl (gf_cons rfl (gf_cons rfl gf_nil))))) (ih54 sc54 y54_3 z111 hIc54 hFc54 (in_w (-1) 31 i88 rfl) (in_w 0 32 i111 rfl) (m_up mm54 (t_add e111 i57 (in_c 1 rfl) rfl) (in_w 1 1 (in_c 1 rfl) rfl))))
              · skip
                have i105 := z_lt (-1) (-1) c105 i104 rfl
                have c105a := lc_lt e104 c105
                have i105a := lr_lt1 (-9223372036854775808) 9223372036854775806 c105a (l_rng z97) (l_rng z103) rfl
                have i105b := lr_lt2 (-9223372036854775807) 9223372036854775807 c105a (l_rng z97) (l_rng z103) rfl
                refine g_iload 110 (gd rfl) rfl rfl ?_
                refine g_istore_n 111 (gd rfl) rfl (Nat.le_of_ble_eq_true rfl) ?_
                refine g_iinc 114 (gd rfl) rfl rfl (Nat.le_of_ble_eq_true rfl) (fun z111 e111 => ?_)
                have i111 := in_add 1 32 e111 i57 (in_c 1 rfl) rfl rfl
                refine g_goto 54 (gd rfl) rfl ?_
                exact gg_w (by first | exact Nat.le_add_right _ _ | exact gw2 | exact gw3 | exact gwe rfl | exact gwf rfl | exact gwg rfl | exact gwh rfl | omega) (gg_f (gf_cons rfl (gf_cons rfl (gf_cons rfl (gf_cons rfl (gf_cons rfl gf_nil))))) (ih54 sc54 y54_4 z111 hIc54 hFc54 (in_w (-1) 31 i57 rfl) (in_w 0 32 i111 rfl) (m_up mm54 (t_add e111 i57 (in_c 1 rfl) rfl) (in_w 1 1 (in_c 1 rfl) rfl))))
  have ct2 : ∀ (k2 : Nat) (sc2 : GS) (y2_3 : Int32), Inv sc2 → Fr fm_85_65 s sc2 → (In y2_3 0 32) → 32 - (y2_3).toInt < (k2 : Int) → GG Z (d - 1) 85 post (gx xp) (29702 + k2 * 900) 2 (fun j => xlook j [(0, .ref (A 65)), (1, .int x1), (2, .int x2), (3, .int y2_3)]) [] (WW Z A sc2 ++ ex) 0 0 := by
    intro k2
    induction k2 with
    | zero => intro sc2 y2_3 hIc2 hFc2 j2_3 mm2; exact m_no mm2 j2_3 rfl
    | succ k2 ih2 =>
      intro sc2 y2_3 hIc2 hFc2 j2_3 mm2
      refine gg_w (M := 29702 + k2 * 900 + 900) gws ?_
      refine g_iload_n 3 (gd rfl) rfl rfl ?_
      refine g_iload_n 4 (gd rfl) rfl rfl ?_
      refine g_cmp_ge 7 43 (gd rfl) rfl rfl (fun c4 => ?_) (fun c4 => ?_)
      · skip
        refine g_aload_n 44 (gd rfl) rfl rfl ?_
        refine g_iload_n 45 (gd rfl) rfl rfl ?_
        refine g_iload_n 46 (gd rfl) rfl rfl ?_
        refine g_callv (X := _) (As := [.int x1, .int x2]) (r := []) (b := A 65) (q := 65) 49 (gd rfl) rfl rfl rfl rfl rfl (ww_o rfl) (Nat.le_of_ble_eq_true rfl) (Nat.zero_le _) (Nat.zero_le _) (k_86_65 (by first | exact dq1 hd rfl | exact dq0 hd rfl | exact dq2 hd rfl | exact dq3 hd rfl | omega) hIc2 (in_w 0 32 h1 rfl) (in_w 1 1048576 h2 rfl)) (fun e u h => h) (fun v u h => ?_)
        obtain ⟨s46, hI46, hF46, rfl, rfl⟩ := h
        show GG _ _ _ _ _ _ _ _ [] _ _ _
        refine g_iconst (-1) 50 (gd rfl) rfl rfl ?_
        refine g_istore_n 51 (gd rfl) rfl (Nat.le_of_ble_eq_true rfl) ?_
        refine g_iconst 0 52 (gd rfl) rfl rfl ?_
        refine g_istore 54 (gd rfl) rfl (Nat.le_of_ble_eq_true rfl) ?_
        exact gg_w (by first | exact Nat.le_add_right _ _ | exact gw2 | exact gw3 | exact gwe rfl | exact gwf rfl | exact gwg rfl | exact gwh rfl | omega) (gg_f (gf_cons rfl (gf_cons rfl (gf_cons rfl (gf_cons rfl (gf_cons rfl gf_nil))))) (ct54 33 s46 (Int32.ofInt (-1)) (Int32.ofInt 0) hI46 (fr_tr rfl hFc2 hF46) (in_w (-1) 31 (in_c (-1) rfl) rfl) (in_w 0 32 (in_c 0 rfl) rfl) (m_in 33 (in_w 0 32 (in_c 0 rfl) rfl) rfl)))
      · skip
        have i4 := r_lt1 0 31 c4 j2_3 h1 rfl
        have i4a := r_lt2 1 32 c4 j2_3 h1 rfl
        refine g_aload_n 8 (gd rfl) rfl rfl ?_
        refine g_getA (q2 := 75) 11 (gd rfl) rfl rfl rfl rfl ?_
        refine g_iload_n 12 (gd rfl) rfl rfl ?_
        refine g_aload_n 13 (gd rfl) rfl rfl ?_
        refine g_getA (q2 := 74) 16 (gd rfl) rfl rfl rfl rfl ?_
        refine g_iload_n 17 (gd rfl) rfl rfl ?_
        refine g_iaload 18 (gd rfl) rfl (n := 32) rfl (in_ix i4 rfl) (fun z17 e17 => ?_)
        refine g_iload_n 19 (gd rfl) rfl rfl ?_
        refine g_cmp_lt 22 26 (gd rfl) rfl rfl (fun c19 => ?_) (fun c19 => ?_)
        · skip
          have i19 := r_lt1 (-2147483648) 65535 c19 (i_rng z17) h2 rfl
          refine g_ldc2_w 9223372036854775807 29 (gd rfl) rfl rfl ?_
          refine g_lastore 30 (gd rfl) rfl (n := 32) rfl (in_ix i4 rfl) ?_
          have hI29 := inv_sL (q := 75) (j := y2_3.toNatClampNeg) (x := (Int64.ofInt 9223372036854775807)) hIc2 rfl (l_rng (Int64.ofInt 9223372036854775807))
          refine g_aload_n 31 (gd rfl) rfl rfl ?_
          refine g_getA (q2 := 68) 34 (gd rfl) rfl rfl rfl rfl ?_
          refine g_iload_n 35 (gd rfl) rfl rfl ?_
          refine g_iconst (-1) 36 (gd rfl) rfl rfl ?_
          refine g_iastore 37 (gd rfl) rfl (n := 32) rfl (in_ix i4 rfl) ?_
          have hI36 := inv_sI (q := 68) (j := y2_3.toNatClampNeg) hI29 rfl (in_w (-1) 319 (in_c (-1) rfl) rfl)
          refine g_iinc 40 (gd rfl) rfl rfl (Nat.le_of_ble_eq_true rfl) (fun z37 e37 => ?_)
          have i37 := in_add 1 32 e37 i4 (in_c 1 rfl) rfl rfl
          refine g_goto 2 (gd rfl) rfl ?_
          exact gg_w (by first | exact Nat.le_add_right _ _ | exact gw2 | exact gw3 | exact gwe rfl | exact gwf rfl | exact gwg rfl | exact gwh rfl | omega) (gg_f (gf_cons rfl (gf_cons rfl (gf_cons rfl (gf_cons rfl gf_nil)))) (ih2 (sI (sL sc2 75 y2_3.toNatClampNeg (Int64.ofInt 9223372036854775807)) 68 y2_3.toNatClampNeg (Int32.ofInt (-1))) z37 hI36 (fr_sI rfl (fr_sL rfl hFc2)) (in_w 0 32 i37 rfl) (m_up mm2 (t_add e37 i4 (in_c 1 rfl) rfl) (in_w 1 1 (in_c 1 rfl) rfl))))
        · skip
          have i19 := r_le2 1 2147483647 c19 h2 (i_rng z17) rfl
          refine g_lconst 0 23 (gd rfl) rfl rfl ?_
          refine g_goto 29 (gd rfl) rfl ?_
          refine g_lastore 30 (gd rfl) rfl (n := 32) rfl (in_ix i4 rfl) ?_
          have hI29 := inv_sL (q := 75) (j := y2_3.toNatClampNeg) (x := (Int64.ofInt 0)) hIc2 rfl (l_rng (Int64.ofInt 0))
          refine g_aload_n 31 (gd rfl) rfl rfl ?_
          refine g_getA (q2 := 68) 34 (gd rfl) rfl rfl rfl rfl ?_
          refine g_iload_n 35 (gd rfl) rfl rfl ?_
          refine g_iconst (-1) 36 (gd rfl) rfl rfl ?_
          refine g_iastore 37 (gd rfl) rfl (n := 32) rfl (in_ix i4 rfl) ?_
          have hI36 := inv_sI (q := 68) (j := y2_3.toNatClampNeg) hI29 rfl (in_w (-1) 319 (in_c (-1) rfl) rfl)
          refine g_iinc 40 (gd rfl) rfl rfl (Nat.le_of_ble_eq_true rfl) (fun z37 e37 => ?_)
          have i37 := in_add 1 32 e37 i4 (in_c 1 rfl) rfl rfl
          refine g_goto 2 (gd rfl) rfl ?_
          exact gg_w (by first | exact Nat.le_add_right _ _ | exact gw2 | exact gw3 | exact gwe rfl | exact gwf rfl | exact gwg rfl | exact gwh rfl | omega) (gg_f (gf_cons rfl (gf_cons rfl (gf_cons rfl (gf_cons rfl gf_nil)))) (ih2 (sI (sL sc2 75 y2_3.toNatClampNeg (Int64.ofInt 0)) 68 y2_3.toNatClampNeg (Int32.ofInt (-1))) z37 hI36 (fr_sI rfl (fr_sL rfl hFc2)) (in_w 0 32 i37 rfl) (m_up mm2 (t_add e37 i4 (in_c 1 rfl) rfl) (in_w 1 1 (in_c 1 rfl) rfl))))
  refine g_enter2 (k := 85) (N := 60302) (by first | exact dq1 hd rfl | exact dq0 hd rfl | exact dq2 hd rfl | exact dq3 hd rfl | omega) rfl (Nat.le_of_ble_eq_true rfl) ?_
  refine g_iconst 0 1 (gd rfl) rfl rfl ?_
  refine g_istore_n 2 (gd rfl) rfl (Nat.le_of_ble_eq_true rfl) ?_
  exact gg_w (by first | exact Nat.le_of_ble_eq_true rfl | omega) (gg_f (gf_cons rfl (gf_cons rfl (gf_cons rfl (gf_cons rfl gf_nil)))) (ct2 33 s (Int32.ofInt 0) hI fr_rf (in_w 0 32 (in_c 0 rfl) rfl) (m_in 33 (in_w 0 32 (in_c 0 rfl) rfl) rfl)))

def fm_89_65_2 : FM := ([68, 69, 70, 71, 72, 73, 74], [75], [(65, 8), (65, 16), (65, 17)], [(65, 18)])
/-- GraphHouse$Flows.pair -/
theorem k_89_65_2 {Z : AmZ} {A : Nat → Nat} {s : GS} {ex : va_W} {d : Nat} {X : AmX}  (hd : 4 ≤ d) (hI : Inv s)  : GC Z d 89 [.ref (A 65), .ref (A 2)] (WW Z A s ++ ex) 0 0 (fun v u => ∃ t : GS, Inv t ∧ Fr fm_89_65_2 s t ∧ v = none ∧ u = WW Z A t ++ ex) X := by
  intro post xp hP hX
  obtain ⟨u_2_0, e_2_0⟩ : ∃ w, w = s.2.2.1 2 0 := ⟨_, rfl⟩
  have ro_2_0 := inv_F hI 0 4000 rfl e_2_0
  obtain ⟨u_2_1, e_2_1⟩ : ∃ w, w = s.2.2.1 2 1 := ⟨_, rfl⟩
  have ro_2_1 := inv_F hI 0 32 rfl e_2_1
  obtain ⟨u_2_3, e_2_3⟩ : ∃ w, w = s.2.2.1 2 3 := ⟨_, rfl⟩
  have ro_2_3 := inv_F hI 0 160 rfl e_2_3
  have ct179 : ∀ (k179 : Nat) (sc179 : GS) (y179_2 : Int32) (w179_65_17 : Int32), Inv sc179 → Fr fm_89_65_2 s sc179 → (In y179_2 0 32) → (w179_65_17 = sc179.2.2.1 65 17) → ((w179_65_17).toInt ≤ (y179_2).toInt) → 32 - (y179_2).toInt < (k179 : Int) → GG Z (d - 1) 89 post (gx xp) (1 + k179 * 900) 179 (fun j => xlook j [(0, .ref (A 65)), (1, .ref (A 2)), (2, .int y179_2)]) [] (WW Z A sc179 ++ ex) 0 0 := by
    intro k179
    induction k179 with
    | zero => intro sc179 y179_2 w179_65_17 hIc179 hFc179 j179_2 v179_65_17 n179_0 mm179; exact m_no mm179 j179_2 rfl
    | succ k179 ih179 =>
      intro sc179 y179_2 w179_65_17 hIc179 hFc179 j179_2 v179_65_17 n179_0 mm179
      refine gg_w (M := 1 + k179 * 900 + 900) gws ?_
      refine g_iload_n 180 (gd rfl) rfl rfl ?_
      refine g_bipush 32 182 (gd rfl) rfl rfl ?_
      refine g_cmp_ge 185 231 (gd rfl) rfl rfl (fun c182 => ?_) (fun c182 => ?_)
      · skip
        have i182 := r_le2 32 32 c182 (in_c 32 rfl) j179_2 rfl
        exact g_return (gd rfl) rfl (hP _ _ ⟨sc179, hIc179, hFc179, rfl, rfl⟩)
      · skip
        have i182 := r_lt1 0 31 c182 j179_2 (in_c 32 rfl) rfl
        refine g_aload_n 186 (gd rfl) rfl rfl ?_
        refine g_aload_n 187 (gd rfl) rfl rfl ?_
        refine g_getI 190 (gd rfl) rfl rfl rfl (fun z187 e187 => ?_)
        have q187 : u_2_1 = z187 := (fr_F e_2_1 hFc179 rfl).trans e187.symm
        subst q187
        refine g_iconst 1 191 (gd rfl) rfl rfl ?_
        refine g_callv (X := _) (As := [.int u_2_1, .int (Int32.ofInt 1)]) (r := []) (b := A 65) (q := 65) 194 (gd rfl) rfl rfl rfl rfl rfl (ww_o rfl) (Nat.le_of_ble_eq_true rfl) (Nat.zero_le _) (Nat.zero_le _) (k_85_65 (by first | exact dq1 hd rfl | exact dq0 hd rfl | exact dq2 hd rfl | exact dq3 hd rfl | omega) hIc179 (in_w 0 32 ro_2_1 rfl) (in_w 1 65536 (in_c 1 rfl) rfl)) (fun e u h => h) (fun v u h => ?_)
        obtain ⟨s191, hI191, hF191, z191, rfl, rfl, i191⟩ := h
        show GG _ _ _ _ _ _ _ _ [.int z191] _ _ _
        refine g_istore_n 195 (gd rfl) rfl (Nat.le_of_ble_eq_true rfl) ?_
        refine g_iload_n 196 (gd rfl) rfl rfl ?_
        refine g_iconst (-1) 197 (gd rfl) rfl rfl ?_
        refine g_cmp_ne 200 201 (gd rfl) rfl rfl (fun c197 => ?_) (fun c197 => ?_)
        · skip
          have i197 := r_ne1 0 31 c197 i191 (in_c (-1) rfl) rfl
          refine g_aload_n 202 (gd rfl) rfl rfl ?_
          refine g_dup 203 (gd rfl) rfl rfl ?_
          refine g_getL 206 (gd rfl) rfl rfl rfl (fun z203 e203 => ?_)
          refine g_aload_n 207 (gd rfl) rfl rfl ?_
          refine g_iload_n 208 (gd rfl) rfl rfl ?_
          refine g_callv (X := _) (As := [.int z191]) (r := [.long z203, .ref (A 65)]) (b := A 65) (q := 65) 211 (gd rfl) rfl rfl rfl rfl rfl (ww_o rfl) (Nat.le_of_ble_eq_true rfl) (Nat.zero_le _) (Nat.zero_le _) (k_88_65 (by first | exact dq1 hd rfl | exact dq0 hd rfl | exact dq2 hd rfl | exact dq3 hd rfl | omega) hI191 (in_w 0 31 i197 rfl)) (fun e u h => h) (fun v u h => ?_)
          obtain ⟨s208, hI208, hF208, z208, rfl, rfl⟩ := h
          show GG _ _ _ _ _ _ _ _ [.long z208, .long z203, .ref (A 65)] _ _ _
          refine g_ladd 212 (gd rfl) rfl (fun z211 e211 => ?_)
          refine g_putL 215 (gd rfl) rfl rfl rfl rfl ?_
          have hI212 := inv_sG (q := 65) (j := 18) (x := z211) hI208 rfl (l_rng z211)
          refine g_aload_n 216 (gd rfl) rfl rfl ?_
          refine g_dup 217 (gd rfl) rfl rfl ?_
          refine g_getI 220 (gd rfl) rfl rfl rfl (fun z217 e217 => ?_)
          have q217 : w179_65_17 = z217 := (sG_F (fr_F (fr_F (v179_65_17) hF191 rfl) hF208 rfl)).trans e217.symm
          subst q217
          refine g_iconst 1 221 (gd rfl) rfl rfl ?_
          refine g_iadd 222 (gd rfl) rfl (fun z221 e221 => ?_)
          have i221 := in_add 1 33 e221 (inv_F hIc179 0 32 rfl v179_65_17) (in_c 1 rfl) rfl rfl
          have i222 : In z221 0 32 := by have a0 := oa7 ro_2_3 ro_2_1 ro_2_0 ((inv_F hIc179 0 32 rfl v179_65_17)) i182 i197 i221; have a7 := t_add e221 (inv_F hIc179 0 32 rfl v179_65_17) (in_c 1 rfl) rfl; have a8 := in_u ((in_c 1 rfl)); exact ⟨by omega, by omega⟩
          refine g_putI 225 (gd rfl) rfl rfl rfl rfl ?_
          have hI222 := inv_sF (q := 65) (j := 17) hI212 rfl (in_w 0 32 i222 rfl)
          refine g_iinc 228 (gd rfl) rfl rfl (Nat.le_of_ble_eq_true rfl) (fun z225 e225 => ?_)
          have i225 := in_add 1 32 e225 i182 (in_c 1 rfl) rfl rfl
          refine g_goto 179 (gd rfl) rfl ?_
          have v179 : z221 = (sF (sG s208 65 18 z211) 65 17 z221).2.2.1 65 17 := sF_get
          have n179 : (z221).toInt ≤ (z225).toInt := by have a0 := oa7 ro_2_3 ro_2_1 ro_2_0 ((inv_F hIc179 0 32 rfl v179_65_17)) i182 i197 i225; have a7 := t_add e225 i182 (in_c 1 rfl) rfl; have a8 := oa2 ((in_c 1 rfl)) i222; have a10 := t_add e221 (inv_F hIc179 0 32 rfl v179_65_17) (in_c 1 rfl) rfl; omega
          exact gg_w (by first | exact Nat.le_add_right _ _ | exact gw2 | exact gw3 | exact gwe rfl | exact gwf rfl | exact gwg rfl | exact gwh rfl | omega) (gg_f (gf_cons rfl (gf_cons rfl (gf_cons rfl gf_nil))) (ih179 (sF (sG s208 65 18 z211) 65 17 z221) z225 z221 hI222 (fr_sF rfl (fr_sG rfl (fr_tr rfl (fr_tr rfl hFc179 hF191) hF208))) (in_w 0 32 i225 rfl) v179 n179 (m_up mm179 (t_add e225 i182 (in_c 1 rfl) rfl) (in_w 1 1 (in_c 1 rfl) rfl))))
        · skip
          have i197 := r_eq1 (-1) (-1) c197 i191 (in_c (-1) rfl) rfl
          exact g_return (gd rfl) rfl (hP _ _ ⟨s191, hI191, (fr_tr rfl hFc179 hF191), rfl, rfl⟩)
  have ct72 : ∀ (k72 : Nat) (sc72 : GS) (y72_2 : Int32) (w72_65_17 : Int32), Inv sc72 → Fr fm_89_65_2 s sc72 → (In y72_2 0 160) → (w72_65_17 = sc72.2.2.1 65 17) → ((w72_65_17).toInt = 0) → 160 - (y72_2).toInt < (k72 : Int) → GG Z (d - 1) 89 post (gx xp) (29702 + k72 * 900) 72 (fun j => xlook j [(0, .ref (A 65)), (1, .ref (A 2)), (2, .int y72_2)]) [] (WW Z A sc72 ++ ex) 0 0 := by
    intro k72
    induction k72 with
    | zero => intro sc72 y72_2 w72_65_17 hIc72 hFc72 j72_2 v72_65_17 n72_0 mm72; exact m_no mm72 j72_2 rfl
    | succ k72 ih72 =>
      intro sc72 y72_2 w72_65_17 hIc72 hFc72 j72_2 v72_65_17 n72_0 mm72
      refine gg_w (M := 29702 + k72 * 900 + 900) gws ?_
      refine g_iload_n 73 (gd rfl) rfl rfl ?_
      refine g_aload_n 74 (gd rfl) rfl rfl ?_
      refine g_getI 77 (gd rfl) rfl rfl rfl (fun z74 e74 => ?_)
      have q74 : u_2_3 = z74 := (fr_F e_2_3 hFc72 rfl).trans e74.symm
      subst q74
      refine g_cmp_ge 80 177 (gd rfl) rfl rfl (fun c77 => ?_) (fun c77 => ?_)
      · skip
        refine g_iconst 0 178 (gd rfl) rfl rfl ?_
        refine g_istore_n 179 (gd rfl) rfl (Nat.le_of_ble_eq_true rfl) ?_
        have n179 : (w72_65_17).toInt ≤ ((Int32.ofInt 0)).toInt := by have a0 := oa6 ro_2_3 ro_2_1 ro_2_0 ((inv_F hIc72 0 32 rfl v72_65_17)) j72_2 ((in_c 0 rfl)); omega
        exact gg_w (by first | exact Nat.le_add_right _ _ | exact gw2 | exact gw3 | exact gwe rfl | exact gwf rfl | exact gwg rfl | exact gwh rfl | omega) (gg_f (gf_cons rfl (gf_cons rfl (gf_cons rfl gf_nil))) (ct179 33 sc72 (Int32.ofInt 0) w72_65_17 hIc72 hFc72 (in_w 0 32 (in_c 0 rfl) rfl) v72_65_17 n179 (m_in 33 (in_w 0 32 (in_c 0 rfl) rfl) rfl)))
      · skip
        have i77 := r_lt1 0 159 c77 j72_2 ro_2_3 rfl
        have i77a := r_lt2 1 160 c77 j72_2 ro_2_3 rfl
        refine g_aload_n 81 (gd rfl) rfl rfl ?_
        refine g_iload_n 82 (gd rfl) rfl rfl ?_
        refine g_callv (X := _) (As := [.int y72_2]) (r := []) (b := A 2) (q := 2) 85 (gd rfl) rfl rfl rfl rfl rfl (ww_o rfl) (Nat.le_of_ble_eq_true rfl) (mc := 0) (ms := 0) (Nat.zero_le _) (Nat.zero_le _) (P := fun v u => _) ?_ (fun e u h => h) (fun v u h => h)
        intro po82 xx82 hp82 hx82
        refine g_enter2 (k := 97) (N := 300) (by first | exact dq1 hd rfl | exact dq0 hd rfl | exact dq2 hd rfl | exact dq3 hd rfl | omega) rfl (Nat.le_of_ble_eq_true rfl) ?_
        refine g_aload_n 1 (gd rfl) rfl rfl ?_
        refine g_getA (q2 := 4) 4 (gd rfl) rfl rfl rfl rfl ?_
        refine g_iload_n 5 (gd rfl) rfl rfl ?_
        refine g_iaload 6 (gd rfl) rfl (n := 160) rfl (in_ix i77 rfl) (fun z82x5 e82x5 => ?_)
        have i82x5 := inv_I hIc72 (n := 160) (t := 0) (-1) 31 rfl (in_ix i77 rfl) rfl e82x5
        refine g_iconst (-1) 7 (gd rfl) rfl rfl ?_
        refine g_cmp_eq 10 29 (gd rfl) rfl rfl (fun c82x7 => ?_) (fun c82x7 => ?_)
        · skip
          have i82x7 := r_eq1 (-1) (-1) c82x7 i82x5 (in_c (-1) rfl) rfl
          refine g_iconst 0 30 (gd rfl) rfl rfl ?_
          refine g_ireturn (gd rfl) rfl (nb01 (in_w 0 1 (in_c 0 rfl) rfl)) (hp82 _ _ ?_)
          show GG _ _ _ _ _ _ _ _ [.int (Int32.ofInt 0)] _ _ _
          refine g_if_eq 88 171 (gd rfl) rfl rfl (fun c85 => ?_) (fun c85 => ?_)
          · skip
            refine g_iinc 174 (gd rfl) rfl rfl (Nat.le_of_ble_eq_true rfl) (fun z171 e171 => ?_)
            have i171 := in_add 1 160 e171 i77 (in_c 1 rfl) rfl rfl
            refine g_goto 72 (gd rfl) rfl ?_
            have n72 : (w72_65_17).toInt = 0 := by first | exact n72_0 | (have a0 := oa6 i77a ro_2_1 ro_2_0 ((inv_F hIc72 0 32 rfl v72_65_17)) i77 i171; have a6 := t_add e171 i77 (in_c 1 rfl) rfl; have a7 := in_u ((in_c 1 rfl)); omega)
            exact gg_w (by first | exact Nat.le_add_right _ _ | exact gw2 | exact gw3 | exact gwe rfl | exact gwf rfl | exact gwg rfl | exact gwh rfl | omega) (gg_f (gf_cons rfl (gf_cons rfl (gf_cons rfl gf_nil))) (ih72 sc72 z171 w72_65_17 hIc72 hFc72 (in_w 0 160 i171 rfl) v72_65_17 n72 (m_up mm72 (t_add e171 i77 (in_c 1 rfl) rfl) (in_w 1 1 (in_c 1 rfl) rfl))))
          · skip
            exact zn_ne c85 (in_c 0 rfl) rfl
        · skip
          have i82x7 := r_ne1 0 31 c82x7 i82x5 (in_c (-1) rfl) rfl
          refine g_aload_n 11 (gd rfl) rfl rfl ?_
          refine g_getA (q2 := 4) 14 (gd rfl) rfl rfl rfl rfl ?_
          refine g_iload_n 15 (gd rfl) rfl rfl ?_
          refine g_iaload 16 (gd rfl) rfl (n := 160) rfl (in_ix i77 rfl) (fun z82x15 e82x15 => ?_)
          have q82x15 : z82x5 = z82x15 := (e82x5).trans e82x15.symm
          subst q82x15
          refine g_aload_n 17 (gd rfl) rfl rfl ?_
          refine g_getA (q2 := 5) 20 (gd rfl) rfl rfl rfl rfl ?_
          refine g_iload_n 21 (gd rfl) rfl rfl ?_
          refine g_iaload 22 (gd rfl) rfl (n := 160) rfl (in_ix i77 rfl) (fun z82x21 e82x21 => ?_)
          have i82x21 := inv_I hIc72 (n := 160) (t := 0) 0 31 rfl (in_ix i77 rfl) rfl e82x21
          refine g_cmp_eq 25 29 (gd rfl) rfl rfl (fun c82x22 => ?_) (fun c82x22 => ?_)
          · skip
            refine g_iconst 0 30 (gd rfl) rfl rfl ?_
            refine g_ireturn (gd rfl) rfl (nb01 (in_w 0 1 (in_c 0 rfl) rfl)) (hp82 _ _ ?_)
            show GG _ _ _ _ _ _ _ _ [.int (Int32.ofInt 0)] _ _ _
            refine g_if_eq 88 171 (gd rfl) rfl rfl (fun c85 => ?_) (fun c85 => ?_)
            · skip
              refine g_iinc 174 (gd rfl) rfl rfl (Nat.le_of_ble_eq_true rfl) (fun z171 e171 => ?_)
              have i171 := in_add 1 160 e171 i77 (in_c 1 rfl) rfl rfl
              refine g_goto 72 (gd rfl) rfl ?_
              have n72 : (w72_65_17).toInt = 0 := by first | exact n72_0 | (have a0 := oa6 i77a ro_2_1 ro_2_0 ((inv_F hIc72 0 32 rfl v72_65_17)) i77 i171; have a6 := t_add e171 i77 (in_c 1 rfl) rfl; have a7 := in_u ((in_c 1 rfl)); omega)
              exact gg_w (by first | exact Nat.le_add_right _ _ | exact gw2 | exact gw3 | exact gwe rfl | exact gwf rfl | exact gwg rfl | exact gwh rfl | omega) (gg_f (gf_cons rfl (gf_cons rfl (gf_cons rfl gf_nil))) (ih72 sc72 z171 w72_65_17 hIc72 hFc72 (in_w 0 160 i171 rfl) v72_65_17 n72 (m_up mm72 (t_add e171 i77 (in_c 1 rfl) rfl) (in_w 1 1 (in_c 1 rfl) rfl))))
            · skip
              exact zn_ne c85 (in_c 0 rfl) rfl
          · skip
            refine g_iconst 1 26 (gd rfl) rfl rfl ?_
            refine g_goto 30 (gd rfl) rfl ?_
            refine g_ireturn (gd rfl) rfl (nb01 (in_w 0 1 (in_c 1 rfl) rfl)) (hp82 _ _ ?_)
            show GG _ _ _ _ _ _ _ _ [.int (Int32.ofInt 1)] _ _ _
            refine g_if_eq 88 171 (gd rfl) rfl rfl (fun c85 => ?_) (fun c85 => ?_)
            · skip
              exact zn_eq c85 (in_c 1 rfl) rfl
            · skip
              refine g_aload_n 89 (gd rfl) rfl rfl ?_
              refine g_aload_n 90 (gd rfl) rfl rfl ?_
              refine g_getA (q2 := 4) 93 (gd rfl) rfl rfl rfl rfl ?_
              refine g_iload_n 94 (gd rfl) rfl rfl ?_
              refine g_iaload 95 (gd rfl) rfl (n := 160) rfl (in_ix i77 rfl) (fun z94 e94 => ?_)
              have q94 : z82x5 = z94 := (e82x5).trans e94.symm
              subst q94
              refine g_calls (As := [.ref (A 2), .int z82x5]) (r := []) 98 (gd rfl) rfl rfl rfl rfl rfl (Nat.le_of_ble_eq_true rfl) (mc := 0) (ms := 0) (Nat.zero_le _) (Nat.zero_le _) (P := fun v u => _) ?_ (fun v u h => h)
              intro po95 xx95 hp95 hx95
              refine g_enter2 (k := 90) (N := 300) (by first | exact dq1 hd rfl | exact dq0 hd rfl | exact dq2 hd rfl | exact dq3 hd rfl | omega) rfl (Nat.le_of_ble_eq_true rfl) ?_
              refine g_aload_n 1 (gd rfl) rfl rfl ?_
              refine g_getA (q2 := 3) 4 (gd rfl) rfl rfl rfl rfl ?_
              refine g_iload_n 5 (gd rfl) rfl rfl ?_
              refine g_iaload 6 (gd rfl) rfl (n := 32) rfl (in_ix i82x7 rfl) (fun z95x5 e95x5 => ?_)
              have i95x5 := inv_I hIc72 (n := 32) (t := 0) 0 25 rfl (in_ix i82x7 rfl) rfl e95x5
              refine g_bipush 13 8 (gd rfl) rfl rfl ?_
              refine g_cmp_ge 11 15 (gd rfl) rfl rfl (fun c95x8 => ?_) (fun c95x8 => ?_)
              · skip
                have i95x8 := r_le2 13 25 c95x8 (in_c 13 rfl) i95x5 rfl
                refine g_iconst 0 16 (gd rfl) rfl rfl ?_
                refine g_ireturn (gd rfl) rfl (nb01 (in_w 0 1 (in_c 0 rfl) rfl)) (hp95 _ _ ?_)
                show GG _ _ _ _ _ _ _ _ [.int (Int32.ofInt 0)] _ _ _
                refine g_aload_n 99 (gd rfl) rfl rfl ?_
                refine g_aload_n 100 (gd rfl) rfl rfl ?_
                refine g_getA (q2 := 5) 103 (gd rfl) rfl rfl rfl rfl ?_
                refine g_iload_n 104 (gd rfl) rfl rfl ?_
                refine g_iaload 105 (gd rfl) rfl (n := 160) rfl (in_ix i77 rfl) (fun z104 e104 => ?_)
                have q104 : z82x21 = z104 := (e82x21).trans e104.symm
                subst q104
                refine g_calls (As := [.ref (A 2), .int z82x21]) (r := [.int (Int32.ofInt 0)]) 108 (gd rfl) rfl rfl rfl rfl rfl (Nat.le_of_ble_eq_true rfl) (mc := 0) (ms := 0) (Nat.zero_le _) (Nat.zero_le _) (P := fun v u => _) ?_ (fun v u h => h)
                intro po105 xx105 hp105 hx105
                refine g_enter2 (k := 90) (N := 300) (by first | exact dq1 hd rfl | exact dq0 hd rfl | exact dq2 hd rfl | exact dq3 hd rfl | omega) rfl (Nat.le_of_ble_eq_true rfl) ?_
                refine g_aload_n 1 (gd rfl) rfl rfl ?_
                refine g_getA (q2 := 3) 4 (gd rfl) rfl rfl rfl rfl ?_
                refine g_iload_n 5 (gd rfl) rfl rfl ?_
                refine g_iaload 6 (gd rfl) rfl (n := 32) rfl (in_ix i82x21 rfl) (fun z105x5 e105x5 => ?_)
                have i105x5 := inv_I hIc72 (n := 32) (t := 0) 0 25 rfl (in_ix i82x21 rfl) rfl e105x5
                refine g_bipush 13 8 (gd rfl) rfl rfl ?_
                refine g_cmp_ge 11 15 (gd rfl) rfl rfl (fun c105x8 => ?_) (fun c105x8 => ?_)
                · skip
                  have i105x8 := r_le2 13 25 c105x8 (in_c 13 rfl) i105x5 rfl
                  refine g_iconst 0 16 (gd rfl) rfl rfl ?_
                  refine g_ireturn (gd rfl) rfl (nb01 (in_w 0 1 (in_c 0 rfl) rfl)) (hp105 _ _ ?_)
                  show GG _ _ _ _ _ _ _ _ [.int (Int32.ofInt 0), .int (Int32.ofInt 0)] _ _ _
                  refine g_cmp_eq 111 171 (gd rfl) rfl rfl (fun c108 => ?_) (fun c108 => ?_)
                  · skip
                    refine g_iinc 174 (gd rfl) rfl rfl (Nat.le_of_ble_eq_true rfl) (fun z171 e171 => ?_)
                    have i171 := in_add 1 160 e171 i77 (in_c 1 rfl) rfl rfl
                    refine g_goto 72 (gd rfl) rfl ?_
                    have n72 : (w72_65_17).toInt = 0 := by first | exact n72_0 | (have a0 := oa6 i77a ro_2_1 ro_2_0 ((inv_F hIc72 0 32 rfl v72_65_17)) i77 i171; have a6 := t_add e171 i77 (in_c 1 rfl) rfl; have a7 := in_u ((in_c 1 rfl)); omega)
                    exact gg_w (by first | exact Nat.le_add_right _ _ | exact gw2 | exact gw3 | exact gwe rfl | exact gwf rfl | exact gwg rfl | exact gwh rfl | omega) (gg_f (gf_cons rfl (gf_cons rfl (gf_cons rfl gf_nil))) (ih72 sc72 z171 w72_65_17 hIc72 hFc72 (in_w 0 160 i171 rfl) v72_65_17 n72 (m_up mm72 (t_add e171 i77 (in_c 1 rfl) rfl) (in_w 1 1 (in_c 1 rfl) rfl))))
                  · skip
                    exact n_ne c108 (in_c 0 rfl) (in_c 0 rfl) rfl
                · skip
                  have i105x8 := r_lt1 0 12 c105x8 i105x5 (in_c 13 rfl) rfl
                  refine g_iconst 1 12 (gd rfl) rfl rfl ?_
                  refine g_goto 16 (gd rfl) rfl ?_
                  refine g_ireturn (gd rfl) rfl (nb01 (in_w 0 1 (in_c 1 rfl) rfl)) (hp105 _ _ ?_)
                  show GG _ _ _ _ _ _ _ _ [.int (Int32.ofInt 1), .int (Int32.ofInt 0)] _ _ _
                  refine g_cmp_eq 111 171 (gd rfl) rfl rfl (fun c108 => ?_) (fun c108 => ?_)
                  · skip
                    exact n_eq c108 (in_c 0 rfl) (in_c 1 rfl) rfl
                  · skip
                    refine g_aload_n 112 (gd rfl) rfl rfl ?_
                    refine g_aload_n 113 (gd rfl) rfl rfl ?_
                    refine g_getA (q2 := 4) 116 (gd rfl) rfl rfl rfl rfl ?_
                    refine g_iload_n 117 (gd rfl) rfl rfl ?_
                    refine g_iaload 118 (gd rfl) rfl (n := 160) rfl (in_ix i77 rfl) (fun z117 e117 => ?_)
                    have q117 : z82x5 = z117 := (e82x5).trans e117.symm
                    subst q117
                    refine g_calls (As := [.ref (A 2), .int z82x5]) (r := []) 121 (gd rfl) rfl rfl rfl rfl rfl (Nat.le_of_ble_eq_true rfl) (mc := 0) (ms := 0) (Nat.zero_le _) (Nat.zero_le _) (P := fun v u => _) ?_ (fun v u h => h)
                    intro po118 xx118 hp118 hx118
                    refine g_enter2 (k := 90) (N := 300) (by first | exact dq1 hd rfl | exact dq0 hd rfl | exact dq2 hd rfl | exact dq3 hd rfl | omega) rfl (Nat.le_of_ble_eq_true rfl) ?_
                    refine g_aload_n 1 (gd rfl) rfl rfl ?_
                    refine g_getA (q2 := 3) 4 (gd rfl) rfl rfl rfl rfl ?_
                    refine g_iload_n 5 (gd rfl) rfl rfl ?_
                    refine g_iaload 6 (gd rfl) rfl (n := 32) rfl (in_ix i82x7 rfl) (fun z118x5 e118x5 => ?_)
                    have q118x5 : z95x5 = z118x5 := (e95x5).trans e118x5.symm
                    subst q118x5
                    refine g_bipush 13 8 (gd rfl) rfl rfl ?_
                    refine g_cmp_ge 11 15 (gd rfl) rfl rfl (fun c118x8 => ?_) (fun c118x8 => ?_)
                    · skip
                      refine g_iconst 0 16 (gd rfl) rfl rfl ?_
                      refine g_ireturn (gd rfl) rfl (nb01 (in_w 0 1 (in_c 0 rfl) rfl)) (hp118 _ _ ?_)
                      show GG _ _ _ _ _ _ _ _ [.int (Int32.ofInt 0)] _ _ _
                      refine g_istore_n 122 (gd rfl) rfl (Nat.le_of_ble_eq_true rfl) ?_
                      refine g_aload_n 123 (gd rfl) rfl rfl ?_
                      refine g_iload_n 124 (gd rfl) rfl rfl ?_
                      refine g_if_eq 127 136 (gd rfl) rfl rfl (fun c124 => ?_) (fun c124 => ?_)
                      · skip
                        refine g_aload_n 137 (gd rfl) rfl rfl ?_
                        refine g_getA (q2 := 5) 140 (gd rfl) rfl rfl rfl rfl ?_
                        refine g_iload_n 141 (gd rfl) rfl rfl ?_
                        refine g_iaload 142 (gd rfl) rfl (n := 160) rfl (in_ix i77 rfl) (fun z141 e141 => ?_)
                        have q141 : z82x21 = z141 := (e82x21).trans e141.symm
                        subst q141
                        refine g_iload_n 143 (gd rfl) rfl rfl ?_
                        refine g_if_eq 146 155 (gd rfl) rfl rfl (fun c143 => ?_) (fun c143 => ?_)
                        · skip
                          refine g_aload_n 156 (gd rfl) rfl rfl ?_
                          refine g_getA (q2 := 4) 159 (gd rfl) rfl rfl rfl rfl ?_
                          refine g_iload_n 160 (gd rfl) rfl rfl ?_
                          refine g_iaload 161 (gd rfl) rfl (n := 160) rfl (in_ix i77 rfl) (fun z160 e160 => ?_)
                          have q160 : z82x5 = z160 := (e82x5).trans e160.symm
                          subst q160
                          refine g_aload_n 162 (gd rfl) rfl rfl ?_
                          refine g_getA (q2 := 6) 165 (gd rfl) rfl rfl rfl rfl ?_
                          refine g_iload_n 166 (gd rfl) rfl rfl ?_
                          refine g_iaload 167 (gd rfl) rfl (n := 160) rfl (in_ix i77 rfl) (fun z166 e166 => ?_)
                          have i166 := inv_I hIc72 (n := 160) (t := 0) (-1000000) 1000000 rfl (in_ix i77 rfl) rfl e166
                          refine g_iconst 1 168 (gd rfl) rfl rfl ?_
                          refine g_callv (X := _) (As := [.int z82x21, .int z82x5, .int z166, .int (Int32.ofInt 1)]) (r := []) (b := A 65) (q := 65) 171 (gd rfl) rfl rfl rfl rfl rfl (ww_o rfl) (Nat.le_of_ble_eq_true rfl) (Nat.zero_le _) (Nat.zero_le _) (k_84_65 (by first | exact dq1 hd rfl | exact dq0 hd rfl | exact dq2 hd rfl | exact dq3 hd rfl | omega) hIc72 (in_w 0 31 i82x21 rfl) (in_w 0 31 i82x7 rfl) (in_w (-1000000) 1000000 i166 rfl) (in_w 0 1000000 (in_c 1 rfl) rfl)) (fun e u h => h) (fun v u h => ?_)
                          obtain ⟨s168, hI168, hF168, rfl, rfl⟩ := h
                          show GG _ _ _ _ _ _ _ _ [] _ _ _
                          refine g_iinc 174 (gd rfl) rfl rfl (Nat.le_of_ble_eq_true rfl) (fun z171 e171 => ?_)
                          have i171 := in_add 1 160 e171 i77 (in_c 1 rfl) rfl rfl
                          refine g_goto 72 (gd rfl) rfl ?_
                          have v72 : w72_65_17 = s168.2.2.1 65 17 := fr_F (v72_65_17) hF168 rfl
                          have n72 : (w72_65_17).toInt = 0 := by first | exact n72_0 | (have a0 := oa7 i77a ro_2_1 ro_2_0 ((inv_F hIc72 0 32 rfl v72_65_17)) i77 ((in_c 0 rfl)) i171; have a7 := t_add e171 i77 (in_c 1 rfl) rfl; have a8 := in_u ((in_c 1 rfl)); omega)
                          exact gg_w (by first | exact Nat.le_add_right _ _ | exact gw2 | exact gw3 | exact gwe rfl | exact gwf rfl | exact gwg rfl | exact gwh rfl | omega) (gg_f (gf_cons rfl (gf_cons rfl (gf_cons rfl gf_nil))) (ih72 s168 z171 w72_65_17 hI168 (fr_tr rfl hFc72 hF168) (in_w 0 160 i171 rfl) v72 n72 (m_up mm72 (t_add e171 i77 (in_c 1 rfl) rfl) (in_w 1 1 (in_c 1 rfl) rfl))))
                        · skip
                          exact zn_ne c143 (in_c 0 rfl) rfl
                      · skip
                        exact zn_ne c124 (in_c 0 rfl) rfl
                    · skip
                      exact n_lt c118x8 i95x8 (in_c 13 rfl) rfl
              · skip
                have i95x8 := r_lt1 0 12 c95x8 i95x5 (in_c 13 rfl) rfl
                refine g_iconst 1 12 (gd rfl) rfl rfl ?_
                refine g_goto 16 (gd rfl) rfl ?_
                refine g_ireturn (gd rfl) rfl (nb01 (in_w 0 1 (in_c 1 rfl) rfl)) (hp95 _ _ ?_)
                show GG _ _ _ _ _ _ _ _ [.int (Int32.ofInt 1)] _ _ _
                refine g_aload_n 99 (gd rfl) rfl rfl ?_
                refine g_aload_n 100 (gd rfl) rfl rfl ?_
                refine g_getA (q2 := 5) 103 (gd rfl) rfl rfl rfl rfl ?_
                refine g_iload_n 104 (gd rfl) rfl rfl ?_
                refine g_iaload 105 (gd rfl) rfl (n := 160) rfl (in_ix i77 rfl) (fun z104 e104 => ?_)
                have q104 : z82x21 = z104 := (e82x21).trans e104.symm
                subst q104
                refine g_calls (As := [.ref (A 2), .int z82x21]) (r := [.int (Int32.ofInt 1)]) 108 (gd rfl) rfl rfl rfl rfl rfl (Nat.le_of_ble_eq_true rfl) (mc := 0) (ms := 0) (Nat.zero_le _) (Nat.zero_le _) (P := fun v u => _) ?_ (fun v u h => h)
                intro po105 xx105 hp105 hx105
                refine g_enter2 (k := 90) (N := 300) (by first | exact dq1 hd rfl | exact dq0 hd rfl | exact dq2 hd rfl | exact dq3 hd rfl | omega) rfl (Nat.le_of_ble_eq_true rfl) ?_
                refine g_aload_n 1 (gd rfl) rfl rfl ?_
                refine g_getA (q2 := 3) 4 (gd rfl) rfl rfl rfl rfl ?_
                refine g_iload_n 5 (gd rfl) rfl rfl ?_
                refine g_iaload 6 (gd rfl) rfl (n := 32) rfl (in_ix i82x21 rfl) (fun z105x5 e105x5 => ?_)
                have i105x5 := inv_I hIc72 (n := 32) (t := 0) 0 25 rfl (in_ix i82x21 rfl) rfl e105x5
                refine g_bipush 13 8 (gd rfl) rfl rfl ?_
                refine g_cmp_ge 11 15 (gd rfl) rfl rfl (fun c105x8 => ?_) (fun c105x8 => ?_)
                · skip
                  have i105x8 := r_le2 13 25 c105x8 (in_c 13 rfl) i105x5 rfl
                  refine g_iconst 0 16 (gd rfl) rfl rfl ?_
                  refine g_ireturn (gd rfl) rfl (nb01 (in_w 0 1 (in_c 0 rfl) rfl)) (hp105 _ _ ?_)
                  show GG _ _ _ _ _ _ _ _ [.int (Int32.ofInt 0), .int (Int32.ofInt 1)] _ _ _
                  refine g_cmp_eq 111 171 (gd rfl) rfl rfl (fun c108 => ?_) (fun c108 => ?_)
                  · skip
                    exact n_eq c108 (in_c 1 rfl) (in_c 0 rfl) rfl
                  · skip
                    refine g_aload_n 112 (gd rfl) rfl rfl ?_
                    refine g_aload_n 113 (gd rfl) rfl rfl ?_
                    refine g_getA (q2 := 4) 116 (gd rfl) rfl rfl rfl rfl ?_
                    refine g_iload_n 117 (gd rfl) rfl rfl ?_
                    refine g_iaload 118 (gd rfl) rfl (n := 160) rfl (in_ix i77 rfl) (fun z117 e117 => ?_)
                    have q117 : z82x5 = z117 := (e82x5).trans e117.symm
                    subst q117
                    refine g_calls (As := [.ref (A 2), .int z82x5]) (r := []) 121 (gd rfl) rfl rfl rfl rfl rfl (Nat.le_of_ble_eq_true rfl) (mc := 0) (ms := 0) (Nat.zero_le _) (Nat.zero_le _) (P := fun v u => _) ?_ (fun v u h => h)
                    intro po118 xx118 hp118 hx118
                    refine g_enter2 (k := 90) (N := 300) (by first | exact dq1 hd rfl | exact dq0 hd rfl | exact dq2 hd rfl | exact dq3 hd rfl | omega) rfl (Nat.le_of_ble_eq_true rfl) ?_
                    refine g_aload_n 1 (gd rfl) rfl rfl ?_
                    refine g_getA (q2 := 3) 4 (gd rfl) rfl rfl rfl rfl ?_
                    refine g_iload_n 5 (gd rfl) rfl rfl ?_
                    refine g_iaload 6 (gd rfl) rfl (n := 32) rfl (in_ix i82x7 rfl) (fun z118x5 e118x5 => ?_)
                    have q118x5 : z95x5 = z118x5 := (e95x5).trans e118x5.symm
                    subst q118x5
                    refine g_bipush 13 8 (gd rfl) rfl rfl ?_
                    refine g_cmp_ge 11 15 (gd rfl) rfl rfl (fun c118x8 => ?_) (fun c118x8 => ?_)
                    · skip
                      exact n_le c118x8 (in_c 13 rfl) i95x8 rfl
                    · skip
                      refine g_iconst 1 12 (gd rfl) rfl rfl ?_
                      refine g_goto 16 (gd rfl) rfl ?_
                      refine g_ireturn (gd rfl) rfl (nb01 (in_w 0 1 (in_c 1 rfl) rfl)) (hp118 _ _ ?_)
                      show GG _ _ _ _ _ _ _ _ [.int (Int32.ofInt 1)] _ _ _
                      refine g_istore_n 122 (gd rfl) rfl (Nat.le_of_ble_eq_true rfl) ?_
                      refine g_aload_n 123 (gd rfl) rfl rfl ?_
                      refine g_iload_n 124 (gd rfl) rfl rfl ?_
                      refine g_if_eq 127 136 (gd rfl) rfl rfl (fun c124 => ?_) (fun c124 => ?_)
                      · skip
                        exact zn_eq c124 (in_c 1 rfl) rfl
                      · skip
                        refine g_aload_n 128 (gd rfl) rfl rfl ?_
                        refine g_getA (q2 := 4) 131 (gd rfl) rfl rfl rfl rfl ?_
                        refine g_iload_n 132 (gd rfl) rfl rfl ?_
                        refine g_iaload 133 (gd rfl) rfl (n := 160) rfl (in_ix i77 rfl) (fun z132 e132 => ?_)
                        have q132 : z82x5 = z132 := (e82x5).trans e132.symm
                        subst q132
                        refine g_goto 142 (gd rfl) rfl ?_
                        refine g_iload_n 143 (gd rfl) rfl rfl ?_
                        refine g_if_eq 146 155 (gd rfl) rfl rfl (fun c143 => ?_) (fun c143 => ?_)
                        · skip
                          exact zn_eq c143 (in_c 1 rfl) rfl
                        · skip
                          refine g_aload_n 147 (gd rfl) rfl rfl ?_
                          refine g_getA (q2 := 5) 150 (gd rfl) rfl rfl rfl rfl ?_
                          refine g_iload_n 151 (gd rfl) rfl rfl ?_
                          refine g_iaload 152 (gd rfl) rfl (n := 160) rfl (in_ix i77 rfl) (fun z151 e151 => ?_)
                          have q151 : z82x21 = z151 := (e82x21).trans e151.symm
                          subst q151
                          refine g_goto 161 (gd rfl) rfl ?_
                          refine g_aload_n 162 (gd rfl) rfl rfl ?_
                          refine g_getA (q2 := 6) 165 (gd rfl) rfl rfl rfl rfl ?_
                          refine g_iload_n 166 (gd rfl) rfl rfl ?_
                          refine g_iaload 167 (gd rfl) rfl (n := 160) rfl (in_ix i77 rfl) (fun z166 e166 => ?_)
                          have i166 := inv_I hIc72 (n := 160) (t := 0) (-1000000) 1000000 rfl (in_ix i77 rfl) rfl e166
                          refine g_iconst 1 168 (gd rfl) rfl rfl ?_
                          refine g_callv (X := _) (As := [.int z82x5, .int z82x21, .int z166, .int (Int32.ofInt 1)]) (r := []) (b := A 65) (q := 65) 171 (gd rfl) rfl rfl rfl rfl rfl (ww_o rfl) (Nat.le_of_ble_eq_true rfl) (Nat.zero_le _) (Nat.zero_le _) (k_84_65 (by first | exact dq1 hd rfl | exact dq0 hd rfl | exact dq2 hd rfl | exact dq3 hd rfl | omega) hIc72 (in_w 0 31 i82x7 rfl) (in_w 0 31 i82x21 rfl) (in_w (-1000000) 1000000 i166 rfl) (in_w 0 1000000 (in_c 1 rfl) rfl)) (fun e u h => h) (fun v u h => ?_)
                          obtain ⟨s168, hI168, hF168, rfl, rfl⟩ := h
                          show GG _ _ _ _ _ _ _ _ [] _ _ _
                          refine g_iinc 174 (gd rfl) rfl rfl (Nat.le_of_ble_eq_true rfl) (fun z171 e171 => ?_)
                          have i171 := in_add 1 160 e171 i77 (in_c 1 rfl) rfl rfl
                          refine g_goto 72 (gd rfl) rfl ?_
                          have v72 : w72_65_17 = s168.2.2.1 65 17 := fr_F (v72_65_17) hF168 rfl
                          have n72 : (w72_65_17).toInt = 0 := by first | exact n72_0 | (have a0 := oa7 i77a ro_2_1 ro_2_0 ((inv_F hIc72 0 32 rfl v72_65_17)) i77 ((in_c 1 rfl)) i171; have a7 := t_add e171 i77 (in_c 1 rfl) rfl; omega)
                          exact gg_w (by first | exact Nat.le_add_right _ _ | exact gw2 | exact gw3 | exact gwe rfl | exact gwf rfl | exact gwg rfl | exact gwh rfl | omega) (gg_f (gf_cons rfl (gf_cons rfl (gf_cons rfl gf_nil))) (ih72 s168 z171 w72_65_17 hI168 (fr_tr rfl hFc72 hF168) (in_w 0 160 i171 rfl) v72 n72 (m_up mm72 (t_add e171 i77 (in_c 1 rfl) rfl) (in_w 1 1 (in_c 1 rfl) rfl))))
                · skip
                  have i105x8 := r_lt1 0 12 c105x8 i105x5 (in_c 13 rfl) rfl
                  refine g_iconst 1 12 (gd rfl) rfl rfl ?_
                  refine g_goto 16 (gd rfl) rfl ?_
                  refine g_ireturn (gd rfl) rfl (nb01 (in_w 0 1 (in_c 1 rfl) rfl)) (hp105 _ _ ?_)
                  show GG _ _ _ _ _ _ _ _ [.int (Int32.ofInt 1), .int (Int32.ofInt 1)] _ _ _
                  refine g_cmp_eq 111 171 (gd rfl) rfl rfl (fun c108 => ?_) (fun c108 => ?_)
                  · skip
                    refine g_iinc 174 (gd rfl) rfl rfl (Nat.le_of_ble_eq_true rfl) (fun z171 e171 => ?_)
                    have i171 := in_add 1 160 e171 i77 (in_c 1 rfl) rfl rfl
                    refine g_goto 72 (gd rfl) rfl ?_
                    have n72 : (w72_65_17).toInt = 0 := by first | exact n72_0 | (have a0 := oa6 i77a ro_2_1 ro_2_0 ((inv_F hIc72 0 32 rfl v72_65_17)) i77 i171; have a6 := t_add e171 i77 (in_c 1 rfl) rfl; have a7 := in_u ((in_c 1 rfl)); omega)
                    exact gg_w (by first | exact Nat.le_add_right _ _ | exact gw2 | exact gw3 | exact gwe rfl | exact gwf rfl | exact gwg rfl | exact gwh rfl | omega) (gg_f (gf_cons rfl (gf_cons rfl (gf_cons rfl gf_nil))) (ih72 sc72 z171 w72_65_17 hIc72 hFc72 (in_w 0 160 i171 rfl) v72_65_17 n72 (m_up mm72 (t_add e171 i77 (in_c 1 rfl) rfl) (in_w 1 1 (in_c 1 rfl) rfl))))
                  · skip
                    exact n_ne c108 (in_c 1 rfl) (in_c 1 rfl) rfl
  have ct37 : ∀ (k37 : Nat) (sc37 : GS) (y37_2 : Int32) (w37_65_17 : Int32), Inv sc37 → Fr fm_89_65_2 s sc37 → (In y37_2 0 32) → (w37_65_17 = sc37.2.2.1 65 17) → ((w37_65_17).toInt = 0) → 32 - (y37_2).toInt < (k37 : Int) → GG Z (d - 1) 89 post (gx xp) (174603 + k37 * 900) 37 (fun j => xlook j [(0, .ref (A 65)), (1, .ref (A 2)), (2, .int y37_2)]) [] (WW Z A sc37 ++ ex) 0 0 := by
    intro k37
    induction k37 with
    | zero => intro sc37 y37_2 w37_65_17 hIc37 hFc37 j37_2 v37_65_17 n37_0 mm37; exact m_no mm37 j37_2 rfl
    | succ k37 ih37 =>
      intro sc37 y37_2 w37_65_17 hIc37 hFc37 j37_2 v37_65_17 n37_0 mm37
      refine gg_w (M := 174603 + k37 * 900 + 900) gws ?_
      refine g_iload_n 38 (gd rfl) rfl rfl ?_
      refine g_aload_n 39 (gd rfl) rfl rfl ?_
      refine g_getI 42 (gd rfl) rfl rfl rfl (fun z39 e39 => ?_)
      have q39 : u_2_1 = z39 := (fr_F e_2_1 hFc37 rfl).trans e39.symm
      subst q39
      refine g_cmp_ge 45 70 (gd rfl) rfl rfl (fun c42 => ?_) (fun c42 => ?_)
      · skip
        refine g_iconst 0 71 (gd rfl) rfl rfl ?_
        refine g_istore_n 72 (gd rfl) rfl (Nat.le_of_ble_eq_true rfl) ?_
        have n72 : (w37_65_17).toInt = 0 := by first | exact n37_0 | (have a0 := oa6 ro_2_3 ro_2_1 ro_2_0 ((inv_F hIc37 0 32 rfl v37_65_17)) j37_2 ((in_c 0 rfl)); omega)
        exact gg_w (by first | exact Nat.le_add_right _ _ | exact gw2 | exact gw3 | exact gwe rfl | exact gwf rfl | exact gwg rfl | exact gwh rfl | omega) (gg_f (gf_cons rfl (gf_cons rfl (gf_cons rfl gf_nil))) (ct72 161 sc37 (Int32.ofInt 0) w37_65_17 hIc37 hFc37 (in_w 0 160 (in_c 0 rfl) rfl) v37_65_17 n72 (m_in 161 (in_w 0 160 (in_c 0 rfl) rfl) rfl)))
      · skip
        have i42 := r_lt1 0 31 c42 j37_2 ro_2_1 rfl
        have i42a := r_lt2 1 32 c42 j37_2 ro_2_1 rfl
        refine g_aload_n 46 (gd rfl) rfl rfl ?_
        refine g_getA (q2 := 74) 49 (gd rfl) rfl rfl rfl rfl ?_
        refine g_iload_n 50 (gd rfl) rfl rfl ?_
        refine g_aload_n 51 (gd rfl) rfl rfl ?_
        refine g_iload_n 52 (gd rfl) rfl rfl ?_
        refine g_calls (As := [.ref (A 2), .int y37_2]) (r := [.int y37_2, .ref (A 74)]) 55 (gd rfl) rfl rfl rfl rfl rfl (Nat.le_of_ble_eq_true rfl) (mc := 0) (ms := 0) (Nat.zero_le _) (Nat.zero_le _) (P := fun v u => _) ?_ (fun v u h => h)
        intro po52 xx52 hp52 hx52
        refine g_enter2 (k := 90) (N := 300) (by first | exact dq1 hd rfl | exact dq0 hd rfl | exact dq2 hd rfl | exact dq3 hd rfl | omega) rfl (Nat.le_of_ble_eq_true rfl) ?_
        refine g_aload_n 1 (gd rfl) rfl rfl ?_
        refine g_getA (q2 := 3) 4 (gd rfl) rfl rfl rfl rfl ?_
        refine g_iload_n 5 (gd rfl) rfl rfl ?_
        refine g_iaload 6 (gd rfl) rfl (n := 32) rfl (in_ix i42 rfl) (fun z52x5 e52x5 => ?_)
        have i52x5 := inv_I hIc37 (n := 32) (t := 0) 0 25 rfl (in_ix i42 rfl) rfl e52x5
        refine g_bipush 13 8 (gd rfl) rfl rfl ?_
        refine g_cmp_ge 11 15 (gd rfl) rfl rfl (fun c52x8 => ?_) (fun c52x8 => ?_)
        · skip
          have i52x8 := r_le2 13 25 c52x8 (in_c 13 rfl) i52x5 rfl
          refine g_iconst 0 16 (gd rfl) rfl rfl ?_
          refine g_ireturn (gd rfl) rfl (nb01 (in_w 0 1 (in_c 0 rfl) rfl)) (hp52 _ _ ?_)
          show GG _ _ _ _ _ _ _ _ [.int (Int32.ofInt 0), .int y37_2, .ref (A 74)] _ _ _
          refine g_if_eq 58 62 (gd rfl) rfl rfl (fun c55 => ?_) (fun c55 => ?_)
          · skip
            refine g_iconst (-1) 63 (gd rfl) rfl rfl ?_
            refine g_iastore 64 (gd rfl) rfl (n := 32) rfl (in_ix i42 rfl) ?_
            have hI63 := inv_sI (q := 74) (j := y37_2.toNatClampNeg) hIc37 rfl (in_w (-2147483648) 2147483647 (in_c (-1) rfl) rfl)
            refine g_iinc 67 (gd rfl) rfl rfl (Nat.le_of_ble_eq_true rfl) (fun z64 e64 => ?_)
            have i64 := in_add 1 32 e64 i42 (in_c 1 rfl) rfl rfl
            refine g_goto 37 (gd rfl) rfl ?_
            have v37 : w37_65_17 = (sI sc37 74 y37_2.toNatClampNeg (Int32.ofInt (-1))).2.2.1 65 17 := sI_F (v37_65_17)
            have n37 : (w37_65_17).toInt = 0 := by first | exact n37_0 | (have a0 := oa6 ro_2_3 i42a ro_2_0 ((inv_F hIc37 0 32 rfl v37_65_17)) i42 i64; have a6 := t_add e64 i42 (in_c 1 rfl) rfl; have a7 := in_u ((in_c 1 rfl)); omega)
            exact gg_w (by first | exact Nat.le_add_right _ _ | exact gw2 | exact gw3 | exact gwe rfl | exact gwf rfl | exact gwg rfl | exact gwh rfl | omega) (gg_f (gf_cons rfl (gf_cons rfl (gf_cons rfl gf_nil))) (ih37 (sI sc37 74 y37_2.toNatClampNeg (Int32.ofInt (-1))) z64 w37_65_17 hI63 (fr_sI rfl hFc37) (in_w 0 32 i64 rfl) v37 n37 (m_up mm37 (t_add e64 i42 (in_c 1 rfl) rfl) (in_w 1 1 (in_c 1 rfl) rfl))))
          · skip
            exact zn_ne c55 (in_c 0 rfl) rfl
        · skip
          have i52x8 := r_lt1 0 12 c52x8 i52x5 (in_c 13 rfl) rfl
          refine g_iconst 1 12 (gd rfl) rfl rfl ?_
          refine g_goto 16 (gd rfl) rfl ?_
          refine g_ireturn (gd rfl) rfl (nb01 (in_w 0 1 (in_c 1 rfl) rfl)) (hp52 _ _ ?_)
          show GG _ _ _ _ _ _ _ _ [.int (Int32.ofInt 1), .int y37_2, .ref (A 74)] _ _ _
          refine g_if_eq 58 62 (gd rfl) rfl rfl (fun c55 => ?_) (fun c55 => ?_)
          · skip
            exact zn_eq c55 (in_c 1 rfl) rfl
          · skip
            refine g_iconst 1 59 (gd rfl) rfl rfl ?_
            refine g_goto 63 (gd rfl) rfl ?_
            refine g_iastore 64 (gd rfl) rfl (n := 32) rfl (in_ix i42 rfl) ?_
            have hI63 := inv_sI (q := 74) (j := y37_2.toNatClampNeg) hIc37 rfl (in_w (-2147483648) 2147483647 (in_c 1 rfl) rfl)
            refine g_iinc 67 (gd rfl) rfl rfl (Nat.le_of_ble_eq_true rfl) (fun z64 e64 => ?_)
            have i64 := in_add 1 32 e64 i42 (in_c 1 rfl) rfl rfl
            refine g_goto 37 (gd rfl) rfl ?_
            have v37 : w37_65_17 = (sI sc37 74 y37_2.toNatClampNeg (Int32.ofInt 1)).2.2.1 65 17 := sI_F (v37_65_17)
            have n37 : (w37_65_17).toInt = 0 := by first | exact n37_0 | (have a0 := oa6 ro_2_3 i42a ro_2_0 ((inv_F hIc37 0 32 rfl v37_65_17)) i42 i64; have a6 := t_add e64 i42 (in_c 1 rfl) rfl; have a7 := in_u ((in_c 1 rfl)); omega)
            exact gg_w (by first | exact Nat.le_add_right _ _ | exact gw2 | exact gw3 | exact gwe rfl | exact gwf rfl | exact gwg rfl | exact gwh rfl | omega) (gg_f (gf_cons rfl (gf_cons rfl (gf_cons rfl gf_nil))) (ih37 (sI sc37 74 y37_2.toNatClampNeg (Int32.ofInt 1)) z64 w37_65_17 hI63 (fr_sI rfl hFc37) (in_w 0 32 i64 rfl) v37 n37 (m_up mm37 (t_add e64 i42 (in_c 1 rfl) rfl) (in_w 1 1 (in_c 1 rfl) rfl))))
  refine g_enter2 (k := 89) (N := 205203) (by first | exact dq1 hd rfl | exact dq0 hd rfl | exact dq2 hd rfl | exact dq3 hd rfl | omega) rfl (Nat.le_of_ble_eq_true rfl) ?_
  refine g_aload_n 1 (gd rfl) rfl rfl ?_
  refine g_getI 4 (gd rfl) rfl rfl rfl (fun z1 e1 => ?_)
  have i1 := inv_F hI (-1) 4000 rfl e1
  refine g_aload_n 5 (gd rfl) rfl rfl ?_
  refine g_getI 8 (gd rfl) rfl rfl rfl (fun z5 e5 => ?_)
  have q5 : u_2_0 = z5 := (e_2_0).trans e5.symm
  subst q5
  refine g_cmp_ne 11 12 (gd rfl) rfl rfl (fun c8 => ?_) (fun c8 => ?_)
  · skip
    refine g_aload_n 13 (gd rfl) rfl rfl ?_
    refine g_aload_n 14 (gd rfl) rfl rfl ?_
    refine g_getI 17 (gd rfl) rfl rfl rfl (fun z14 e14 => ?_)
    have q14 : u_2_0 = z14 := (e_2_0).trans e14.symm
    subst q14
    refine g_putI 20 (gd rfl) rfl rfl rfl rfl ?_
    have hI17 := inv_sF (q := 65) (j := 16) hI rfl (in_w (-1) 4000 ro_2_0 rfl)
    refine g_aload_n 21 (gd rfl) rfl rfl ?_
    refine g_iconst 0 22 (gd rfl) rfl rfl ?_
    refine g_putI 25 (gd rfl) rfl rfl rfl rfl ?_
    have hI22 := inv_sF (q := 65) (j := 17) hI17 rfl (in_w 0 32 (in_c 0 rfl) rfl)
    refine g_aload_n 26 (gd rfl) rfl rfl ?_
    refine g_lconst 0 27 (gd rfl) rfl rfl ?_
    refine g_putL 30 (gd rfl) rfl rfl rfl rfl ?_
    have hI27 := inv_sG (q := 65) (j := 18) (x := (Int64.ofInt 0)) hI22 rfl (l_rng (Int64.ofInt 0))
    refine g_aload_n 31 (gd rfl) rfl rfl ?_
    refine g_iconst 0 32 (gd rfl) rfl rfl ?_
    refine g_putI 35 (gd rfl) rfl rfl rfl rfl ?_
    have hI32 := inv_sF (q := 65) (j := 8) hI27 rfl (in_w 0 160 (in_c 0 rfl) rfl)
    refine g_iconst 0 36 (gd rfl) rfl rfl ?_
    refine g_istore_n 37 (gd rfl) rfl (Nat.le_of_ble_eq_true rfl) ?_
    have v37 : (Int32.ofInt 0) = (sF (sG (sF (sF s 65 16 u_2_0) 65 17 (Int32.ofInt 0)) 65 18 (Int64.ofInt 0)) 65 8 (Int32.ofInt 0)).2.2.1 65 17 := sF_ne rfl (sG_F (sF_get))
    have n37 : ((Int32.ofInt 0)).toInt = 0 := by have a0 := oa4 ro_2_3 ro_2_1 ro_2_0 ((in_c 0 rfl)); omega
    exact gg_w (by first | exact Nat.le_of_ble_eq_true rfl | omega) (gg_f (gf_cons rfl (gf_cons rfl (gf_cons rfl gf_nil))) (ct37 33 (sF (sG (sF (sF s 65 16 u_2_0) 65 17 (Int32.ofInt 0)) 65 18 (Int64.ofInt 0)) 65 8 (Int32.ofInt 0)) (Int32.ofInt 0) (Int32.ofInt 0) hI32 (fr_sF rfl (fr_sG rfl (fr_sF rfl (fr_sF rfl fr_rf)))) (in_w 0 32 (in_c 0 rfl) rfl) v37 n37 (m_in 33 (in_w 0 32 (in_c 0 rfl) rfl) rfl)))
  · skip
    have i8 := r_eq1 0 4000 c8 i1 ro_2_0 rfl
    exact g_return (gd rfl) rfl (hP _ _ ⟨s, hI, fr_rf, rfl, rfl⟩)

def fm_89_65_32 : FM := ([68, 69, 70, 71, 72, 73, 74], [75], [(65, 8), (65, 16), (65, 17)], [(65, 18)])
/-- GraphHouse$Flows.pair -/
theorem k_89_65_32 {Z : AmZ} {A : Nat → Nat} {s : GS} {ex : va_W} {d : Nat} {X : AmX}  (hd : 4 ≤ d) (hI : Inv s)  : GC Z d 89 [.ref (A 65), .ref (A 32)] (WW Z A s ++ ex) 0 0 (fun v u => ∃ t : GS, Inv t ∧ Fr fm_89_65_32 s t ∧ v = none ∧ u = WW Z A t ++ ex) X := by
  intro post xp hP hX
  obtain ⟨u_32_0, e_32_0⟩ : ∃ w, w = s.2.2.1 32 0 := ⟨_, rfl⟩
  have ro_32_0 := inv_F hI 0 4000 rfl e_32_0
  obtain ⟨u_32_1, e_32_1⟩ : ∃ w, w = s.2.2.1 32 1 := ⟨_, rfl⟩
  have ro_32_1 := inv_F hI 0 32 rfl e_32_1
  obtain ⟨u_32_3, e_32_3⟩ : ∃ w, w = s.2.2.1 32 3 := ⟨_, rfl⟩
  have ro_32_3 := inv_F hI 0 160 rfl e_32_3
  have ct179 : ∀ (k179 : Nat) (sc179 : GS) (y179_2 : Int32) (w179_65_17 : Int32), Inv sc179 → Fr fm_89_65_32 s sc179 → (In y179_2 0 32) → (w179_65_17 = sc179.2.2.1 65 17) → ((w179_65_17).toInt ≤ (y179_2).toInt) → 32 - (y179_2).toInt < (k179 : Int) → GG Z (d - 1) 89 post (gx xp) (1 + k179 * 900) 179 (fun j => xlook j [(0, .ref (A 65)), (1, .ref (A 32)), (2, .int y179_2)]) [] (WW Z A sc179 ++ ex) 0 0 := by
    intro k179
    induction k179 with
    | zero => intro sc179 y179_2 w179_65_17 hIc179 hFc179 j179_2 v179_65_17 n179_0 mm179; exact m_no mm179 j179_2 rfl
    | succ k179 ih179 =>
      intro sc179 y179_2 w179_65_17 hIc179 hFc179 j179_2 v179_65_17 n179_0 mm179
      refine gg_w (M := 1 + k179 * 900 + 900) gws ?_
      refine g_iload_n 180 (gd rfl) rfl rfl ?_
      refine g_bipush 32 182 (gd rfl) rfl rfl ?_
      refine g_cmp_ge 185 231 (gd rfl) rfl rfl (fun c182 => ?_) (fun c182 => ?_)
      · skip
        have i182 := r_le2 32 32 c182 (in_c 32 rfl) j179_2 rfl
        exact g_return (gd rfl) rfl (hP _ _ ⟨sc179, hIc179, hFc179, rfl, rfl⟩)
      · skip
        have i182 := r_lt1 0 31 c182 j179_2 (in_c 32 rfl) rfl
        refine g_aload_n 186 (gd rfl) rfl rfl ?_
        refine g_aload_n 187 (gd rfl) rfl rfl ?_
        refine g_getI 190 (gd rfl) rfl rfl rfl (fun z187 e187 => ?_)
        have q187 : u_32_1 = z187 := (fr_F e_32_1 hFc179 rfl).trans e187.symm
        subst q187
        refine g_iconst 1 191 (gd rfl) rfl rfl ?_
        refine g_callv (X := _) (As := [.int u_32_1, .int (Int32.ofInt 1)]) (r := []) (b := A 65) (q := 65) 194 (gd rfl) rfl rfl rfl rfl rfl (ww_o rfl) (Nat.le_of_ble_eq_true rfl) (Nat.zero_le _) (Nat.zero_le _) (k_85_65 (by first | exact dq1 hd rfl | exact dq0 hd rfl | exact dq2 hd rfl | exact dq3 hd rfl | omega) hIc179 (in_w 0 32 ro_32_1 rfl) (in_w 1 65536 (in_c 1 rfl) rfl)) (fun e u h => h) (fun v u h => ?_)
        obtain ⟨s191, hI191, hF191, z191, rfl, rfl, i191⟩ := h
        show GG _ _ _ _ _ _ _ _ [.int z191] _ _ _
        refine g_istore_n 195 (gd rfl) rfl (Nat.le_of_ble_eq_true rfl) ?_
        refine g_iload_n 196 (gd rfl) rfl rfl ?_
        refine g_iconst (-1) 197 (gd rfl) rfl rfl ?_
        refine g_cmp_ne 200 201 (gd rfl) rfl rfl (fun c197 => ?_) (fun c197 => ?_)
        · skip
          have i197 := r_ne1 0 31 c197 i191 (in_c (-1) rfl) rfl
          refine g_aload_n 202 (gd rfl) rfl rfl ?_
          refine g_dup 203 (gd rfl) rfl rfl ?_
          refine g_getL 206 (gd rfl) rfl rfl rfl (fun z203 e203 => ?_)
          refine g_aload_n 207 (gd rfl) rfl rfl ?_
          refine g_iload_n 208 (gd rfl) rfl rfl ?_
          refine g_callv (X := _) (As := [.int z191]) (r := [.long z203, .ref (A 65)]) (b := A 65) (q := 65) 211 (gd rfl) rfl rfl rfl rfl rfl (ww_o rfl) (Nat.le_of_ble_eq_true rfl) (Nat.zero_le _) (Nat.zero_le _) (k_88_65 (by first | exact dq1 hd rfl | exact dq0 hd rfl | exact dq2 hd rfl | exact dq3 hd rfl | omega) hI191 (in_w 0 31 i197 rfl)) (fun e u h => h) (fun v u h => ?_)
          obtain ⟨s208, hI208, hF208, z208, rfl, rfl⟩ := h
          show GG _ _ _ _ _ _ _ _ [.long z208, .long z203, .ref (A 65)] _ _ _
          refine g_ladd 212 (gd rfl) rfl (fun z211 e211 => ?_)
          refine g_putL 215 (gd rfl) rfl rfl rfl rfl ?_
          have hI212 := inv_sG (q := 65) (j := 18) (x := z211) hI208 rfl (l_rng z211)
          refine g_aload_n 216 (gd rfl) rfl rfl ?_
          refine g_dup 217 (gd rfl) rfl rfl ?_
          refine g_getI 220 (gd rfl) rfl rfl rfl (fun z217 e217 => ?_)
          have q217 : w179_65_17 = z217 := (sG_F (fr_F (fr_F (v179_65_17) hF191 rfl) hF208 rfl)).trans e217.symm
          subst q217
          refine g_iconst 1 221 (gd rfl) rfl rfl ?_
          refine g_iadd 222 (gd rfl) rfl (fun z221 e221 => ?_)
          have i221 := in_add 1 33 e221 (inv_F hIc179 0 32 rfl v179_65_17) (in_c 1 rfl) rfl rfl
          have i222 : In z221 0 32 := by have a0 := oa7 ro_32_3 ro_32_1 ro_32_0 ((inv_F hIc179 0 32 rfl v179_65_17)) i182 i197 i221; have a7 := t_add e221 (inv_F hIc179 0 32 rfl v179_65_17) (in_c 1 rfl) rfl; have a8 := in_u ((in_c 1 rfl)); exact ⟨by omega, by omega⟩
          refine g_putI 225 (gd rfl) rfl rfl rfl rfl ?_
          have hI222 := inv_sF (q := 65) (j := 17) hI212 rfl (in_w 0 32 i222 rfl)
          refine g_iinc 228 (gd rfl) rfl rfl (Nat.le_of_ble_eq_true rfl) (fun z225 e225 => ?_)
          have i225 := in_add 1 32 e225 i182 (in_c 1 rfl) rfl rfl
          refine g_goto 179 (gd rfl) rfl ?_
          have v179 : z221 = (sF (sG s208 65 18 z211) 65 17 z221).2.2.1 65 17 := sF_get
          have n179 : (z221).toInt ≤ (z225).toInt := by have a0 := oa7 ro_32_3 ro_32_1 ro_32_0 ((inv_F hIc179 0 32 rfl v179_65_17)) i182 i197 i225; have a7 := t_add e225 i182 (in_c 1 rfl) rfl; have a8 := oa2 ((in_c 1 rfl)) i222; have a10 := t_add e221 (inv_F hIc179 0 32 rfl v179_65_17) (in_c 1 rfl) rfl; omega
          exact gg_w (by first | exact Nat.le_add_right _ _ | exact gw2 | exact gw3 | exact gwe rfl | exact gwf rfl | exact gwg rfl | exact gwh rfl | omega) (gg_f (gf_cons rfl (gf_cons rfl (gf_cons rfl gf_nil))) (ih179 (sF (sG s208 65 18 z211) 65 17 z221) z225 z221 hI222 (fr_sF rfl (fr_sG rfl (fr_tr rfl (fr_tr rfl hFc179 hF191) hF208))) (in_w 0 32 i225 rfl) v179 n179 (m_up mm179 (t_add e225 i182 (in_c 1 rfl) rfl) (in_w 1 1 (in_c 1 rfl) rfl))))
        · skip
          have i197 := r_eq1 (-1) (-1) c197 i191 (in_c (-1) rfl) rfl
          exact g_return (gd rfl) rfl (hP _ _ ⟨s191, hI191, (fr_tr rfl hFc179 hF191), rfl, rfl⟩)
  have ct72 : ∀ (k72 : Nat) (sc72 : GS) (y72_2 : Int32) (w72_65_17 : Int32), Inv sc72 → Fr fm_89_65_32 s sc72 → (In y72_2 0 160) → (w72_65_17 = sc72.2.2.1 65 17) → ((w72_65_17).toInt = 0) → 160 - (y72_2).toInt < (k72 : Int) → GG Z (d - 1) 89 post (gx xp) (29702 + k72 * 900) 72 (fun j => xlook j [(0, .ref (A 65)), (1, .ref (A 32)), (2, .int y72_2)]) [] (WW Z A sc72 ++ ex) 0 0 := by
    intro k72
    induction k72 with
    | zero => intro sc72 y72_2 w72_65_17 hIc72 hFc72 j72_2 v72_65_17 n72_0 mm72; exact m_no mm72 j72_2 rfl
    | succ k72 ih72 =>
      intro sc72 y72_2 w72_65_17 hIc72 hFc72 j72_2 v72_65_17 n72_0 mm72
      refine gg_w (M := 29702 + k72 * 900 + 900) gws ?_
      refine g_iload_n 73 (gd rfl) rfl rfl ?_
      refine g_aload_n 74 (gd rfl) rfl rfl ?_
      refine g_getI 77 (gd rfl) rfl rfl rfl (fun z74 e74 => ?_)
      have q74 : u_32_3 = z74 := (fr_F e_32_3 hFc72 rfl).trans e74.symm
      subst q74
      refine g_cmp_ge 80 177 (gd rfl) rfl rfl (fun c77 => ?_) (fun c77 => ?_)
      · skip
        refine g_iconst 0 178 (gd rfl) rfl rfl ?_
        refine g_istore_n 179 (gd rfl) rfl (Nat.le_of_ble_eq_true rfl) ?_
        have n179 : (w72_65_17).toInt ≤ ((Int32.ofInt 0)).toInt := by have a0 := oa6 ro_32_3 ro_32_1 ro_32_0 ((inv_F hIc72 0 32 rfl v72_65_17)) j72_2 ((in_c 0 rfl)); omega
        exact gg_w (by first | exact Nat.le_add_right _ _ | exact gw2 | exact gw3 | exact gwe rfl | exact gwf rfl | exact gwg rfl | exact gwh rfl | omega) (gg_f (gf_cons rfl (gf_cons rfl (gf_cons rfl gf_nil))) (ct179 33 sc72 (Int32.ofInt 0) w72_65_17 hIc72 hFc72 (in_w 0 32 (in_c 0 rfl) rfl) v72_65_17 n179 (m_in 33 (in_w 0 32 (in_c 0 rfl) rfl) rfl)))
      · skip
        have i77 := r_lt1 0 159 c77 j72_2 ro_32_3 rfl
        have i77a := r_lt2 1 160 c77 j72_2 ro_32_3 rfl
        refine g_aload_n 81 (gd rfl) rfl rfl ?_
        refine g_iload_n 82 (gd rfl) rfl rfl ?_
        refine g_callv (X := _) (As := [.int y72_2]) (r := []) (b := A 32) (q := 32) 85 (gd rfl) rfl rfl rfl rfl rfl (ww_o rfl) (Nat.le_of_ble_eq_true rfl) (mc := 0) (ms := 0) (Nat.zero_le _) (Nat.zero_le _) (P := fun v u => _) ?_ (fun e u h => h) (fun v u h => h)
        intro po82 xx82 hp82 hx82
        refine g_enter2 (k := 97) (N := 300) (by first | exact dq1 hd rfl | exact dq0 hd rfl | exact dq2 hd rfl | exact dq3 hd rfl | omega) rfl (Nat.le_of_ble_eq_true rfl) ?_
        refine g_aload_n 1 (gd rfl) rfl rfl ?_
        refine g_getA (q2 := 34) 4 (gd rfl) rfl rfl rfl rfl ?_
        refine g_iload_n 5 (gd rfl) rfl rfl ?_
        refine g_iaload 6 (gd rfl) rfl (n := 160) rfl (in_ix i77 rfl) (fun z82x5 e82x5 => ?_)
        have i82x5 := inv_I hIc72 (n := 160) (t := 0) (-1) 31 rfl (in_ix i77 rfl) rfl e82x5
        refine g_iconst (-1) 7 (gd rfl) rfl rfl ?_
        refine g_cmp_eq 10 29 (gd rfl) rfl rfl (fun c82x7 => ?_) (fun c82x7 => ?_)
        · skip
          have i82x7 := r_eq1 (-1) (-1) c82x7 i82x5 (in_c (-1) rfl) rfl
          refine g_iconst 0 30 (gd rfl) rfl rfl ?_
          refine g_ireturn (gd rfl) rfl (nb01 (in_w 0 1 (in_c 0 rfl) rfl)) (hp82 _ _ ?_)
          show GG _ _ _ _ _ _ _ _ [.int (Int32.ofInt 0)] _ _ _
          refine g_if_eq 88 171 (gd rfl) rfl rfl (fun c85 => ?_) (fun c85 => ?_)
          · skip
            refine g_iinc 174 (gd rfl) rfl rfl (Nat.le_of_ble_eq_true rfl) (fun z171 e171 => ?_)
            have i171 := in_add 1 160 e171 i77 (in_c 1 rfl) rfl rfl
            refine g_goto 72 (gd rfl) rfl ?_
            have n72 : (w72_65_17).toInt = 0 := by first | exact n72_0 | (have a0 := oa6 i77a ro_32_1 ro_32_0 ((inv_F hIc72 0 32 rfl v72_65_17)) i77 i171; have a6 := t_add e171 i77 (in_c 1 rfl) rfl; have a7 := in_u ((in_c 1 rfl)); omega)
            exact gg_w (by first | exact Nat.le_add_right _ _ | exact gw2 | exact gw3 | exact gwe rfl | exact gwf rfl | exact gwg rfl | exact gwh rfl | omega) (gg_f (gf_cons rfl (gf_cons rfl (gf_cons rfl gf_nil))) (ih72 sc72 z171 w72_65_17 hIc72 hFc72 (in_w 0 160 i171 rfl) v72_65_17 n72 (m_up mm72 (t_add e171 i77 (in_c 1 rfl) rfl) (in_w 1 1 (in_c 1 rfl) rfl))))
          · skip
            exact zn_ne c85 (in_c 0 rfl) rfl
        · skip
          have i82x7 := r_ne1 0 31 c82x7 i82x5 (in_c (-1) rfl) rfl
          refine g_aload_n 11 (gd rfl) rfl rfl ?_
          refine g_getA (q2 := 34) 14 (gd rfl) rfl rfl rfl rfl ?_
          refine g_iload_n 15 (gd rfl) rfl rfl ?_
          refine g_iaload 16 (gd rfl) rfl (n := 160) rfl (in_ix i77 rfl) (fun z82x15 e82x15 => ?_)
          have q82x15 : z82x5 = z82x15 := (e82x5).trans e82x15.symm
          subst q82x15
          refine g_aload_n 17 (gd rfl) rfl rfl ?_
          refine g_getA (q2 := 35) 20 (gd rfl) rfl rfl rfl rfl ?_
          refine g_iload_n 21 (gd rfl) rfl rfl ?_
          refine g_iaload 22 (gd rfl) rfl (n := 160) rfl (in_ix i77 rfl) (fun z82x21 e82x21 => ?_)
          have i82x21 := inv_I hIc72 (n := 160) (t := 0) 0 31 rfl (in_ix i77 rfl) rfl e82x21
          refine g_cmp_eq 25 29 (gd rfl) rfl rfl (fun c82x22 => ?_) (fun c82x22 => ?_)
          · skip
            refine g_iconst 0 30 (gd rfl) rfl rfl ?_
            refine g_ireturn (gd rfl) rfl (nb01 (in_w 0 1 (in_c 0 rfl) rfl)) (hp82 _ _ ?_)
            show GG _ _ _ _ _ _ _ _ [.int (Int32.ofInt 0)] _ _ _
            refine g_if_eq 88 171 (gd rfl) rfl rfl (fun c85 => ?_) (fun c85 => ?_)
            · skip
              refine g_iinc 174 (gd rfl) rfl rfl (Nat.le_of_ble_eq_true rfl) (fun z171 e171 => ?_)
              have i171 := in_add 1 160 e171 i77 (in_c 1 rfl) rfl rfl
              refine g_goto 72 (gd rfl) rfl ?_
              have n72 : (w72_65_17).toInt = 0 := by first | exact n72_0 | (have a0 := oa6 i77a ro_32_1 ro_32_0 ((inv_F hIc72 0 32 rfl v72_65_17)) i77 i171; have a6 := t_add e171 i77 (in_c 1 rfl) rfl; have a7 := in_u ((in_c 1 rfl)); omega)
              exact gg_w (by first | exact Nat.le_add_right _ _ | exact gw2 | exact gw3 | exact gwe rfl | exact gwf rfl | exact gwg rfl | exact gwh rfl | omega) (gg_f (gf_cons rfl (gf_cons rfl (gf_cons rfl gf_nil))) (ih72 sc72 z171 w72_65_17 hIc72 hFc72 (in_w 0 160 i171 rfl) v72_65_17 n72 (m_up mm72 (t_add e171 i77 (in_c 1 rfl) rfl) (in_w 1 1 (in_c 1 rfl) rfl))))
            · skip
              exact zn_ne c85 (in_c 0 rfl) rfl
          · skip
            refine g_iconst 1 26 (gd rfl) rfl rfl ?_
            refine g_goto 30 (gd rfl) rfl ?_
            refine g_ireturn (gd rfl) rfl (nb01 (in_w 0 1 (in_c 1 rfl) rfl)) (hp82 _ _ ?_)
            show GG _ _ _ _ _ _ _ _ [.int (Int32.ofInt 1)] _ _ _
            refine g_if_eq 88 171 (gd rfl) rfl rfl (fun c85 => ?_) (fun c85 => ?_)
            · skip
              exact zn_eq c85 (in_c 1 rfl) rfl
            · skip
              refine g_aload_n 89 (gd rfl) rfl rfl ?_
              refine g_aload_n 90 (gd rfl) rfl rfl ?_
              refine g_getA (q2 := 34) 93 (gd rfl) rfl rfl rfl rfl ?_
              refine g_iload_n 94 (gd rfl) rfl rfl ?_
              refine g_iaload 95 (gd rfl) rfl (n := 160) rfl (in_ix i77 rfl) (fun z94 e94 => ?_)
              have q94 : z82x5 = z94 := (e82x5).trans e94.symm
              subst q94
              refine g_calls (As := [.ref (A 32), .int z82x5]) (r := []) 98 (gd rfl) rfl rfl rfl rfl rfl (Nat.le_of_ble_eq_true rfl) (mc := 0) (ms := 0) (Nat.zero_le _) (Nat.zero_le _) (P := fun v u => _) ?_ (fun v u h => h)
              intro po95 xx95 hp95 hx95
              refine g_enter2 (k := 90) (N := 300) (by first | exact dq1 hd rfl | exact dq0 hd rfl | exact dq2 hd rfl | exact dq3 hd rfl | omega) rfl (Nat.le_of_ble_eq_true rfl) ?_
              refine g_aload_n 1 (gd rfl) rfl rfl ?_
              refine g_getA (q2 := 33) 4 (gd rfl) rfl rfl rfl rfl ?_
              refine g_iload_n 5 (gd rfl) rfl rfl ?_
              refine g_iaload 6 (gd rfl) rfl (n := 32) rfl (in_ix i82x7 rfl) (fun z95x5 e95x5 => ?_)
              have i95x5 := inv_I hIc72 (n := 32) (t := 0) 0 25 rfl (in_ix i82x7 rfl) rfl e95x5
              refine g_bipush 13 8 (gd rfl) rfl rfl ?_
              refine g_cmp_ge 11 15 (gd rfl) rfl rfl (fun c95x8 => ?_) (fun c95x8 => ?_)
              · skip
                have i95x8 := r_le2 13 25 c95x8 (in_c 13 rfl) i95x5 rfl
                refine g_iconst 0 16 (gd rfl) rfl rfl ?_
                refine g_ireturn (gd rfl) rfl (nb01 (in_w 0 1 (in_c 0 rfl) rfl)) (hp95 _ _ ?_)
                show GG _ _ _ _ _ _ _ _ [.int (Int32.ofInt 0)] _ _ _
                refine g_aload_n 99 (gd rfl) rfl rfl ?_
                refine g_aload_n 100 (gd rfl) rfl rfl ?_
                refine g_getA (q2 := 35) 103 (gd rfl) rfl rfl rfl rfl ?_
                refine g_iload_n 104 (gd rfl) rfl rfl ?_
                refine g_iaload 105 (gd rfl) rfl (n := 160) rfl (in_ix i77 rfl) (fun z104 e104 => ?_)
                have q104 : z82x21 = z104 := (e82x21).trans e104.symm
                subst q104
                refine g_calls (As := [.ref (A 32), .int z82x21]) (r := [.int (Int32.ofInt 0)]) 108 (gd rfl) rfl rfl rfl rfl rfl (Nat.le_of_ble_eq_true rfl) (mc := 0) (ms := 0) (Nat.zero_le _) (Nat.zero_le _) (P := fun v u => _) ?_ (fun v u h => h)
                intro po105 xx105 hp105 hx105
                refine g_enter2 (k := 90) (N := 300) (by first | exact dq1 hd rfl | exact dq0 hd rfl | exact dq2 hd rfl | exact dq3 hd rfl | omega) rfl (Nat.le_of_ble_eq_true rfl) ?_
                refine g_aload_n 1 (gd rfl) rfl rfl ?_
                refine g_getA (q2 := 33) 4 (gd rfl) rfl rfl rfl rfl ?_
                refine g_iload_n 5 (gd rfl) rfl rfl ?_
                refine g_iaload 6 (gd rfl) rfl (n := 32) rfl (in_ix i82x21 rfl) (fun z105x5 e105x5 => ?_)
                have i105x5 := inv_I hIc72 (n := 32) (t := 0) 0 25 rfl (in_ix i82x21 rfl) rfl e105x5
                refine g_bipush 13 8 (gd rfl) rfl rfl ?_
                refine g_cmp_ge 11 15 (gd rfl) rfl rfl (fun c105x8 => ?_) (fun c105x8 => ?_)
                · skip
                  have i105x8 := r_le2 13 25 c105x8 (in_c 13 rfl) i105x5 rfl
                  refine g_iconst 0 16 (gd rfl) rfl rfl ?_
                  refine g_ireturn (gd rfl) rfl (nb01 (in_w 0 1 (in_c 0 rfl) rfl)) (hp105 _ _ ?_)
                  show GG _ _ _ _ _ _ _ _ [.int (Int32.ofInt 0), .int (Int32.ofInt 0)] _ _ _
                  refine g_cmp_eq 111 171 (gd rfl) rfl rfl (fun c108 => ?_) (fun c108 => ?_)
                  · skip
                    refine g_iinc 174 (gd rfl) rfl rfl (Nat.le_of_ble_eq_true rfl) (fun z171 e171 => ?_)
                    have i171 := in_add 1 160 e171 i77 (in_c 1 rfl) rfl rfl
                    refine g_goto 72 (gd rfl) rfl ?_
                    have n72 : (w72_65_17).toInt = 0 := by first | exact n72_0 | (have a0 := oa6 i77a ro_32_1 ro_32_0 ((inv_F hIc72 0 32 rfl v72_65_17)) i77 i171; have a6 := t_add e171 i77 (in_c 1 rfl) rfl; have a7 := in_u ((in_c 1 rfl)); omega)
                    exact gg_w (by first | exact Nat.le_add_right _ _ | exact gw2 | exact gw3 | exact gwe rfl | exact gwf rfl | exact gwg rfl | exact gwh rfl | omega) (gg_f (gf_cons rfl (gf_cons rfl (gf_cons rfl gf_nil))) (ih72 sc72 z171 w72_65_17 hIc72 hFc72 (in_w 0 160 i171 rfl) v72_65_17 n72 (m_up mm72 (t_add e171 i77 (in_c 1 rfl) rfl) (in_w 1 1 (in_c 1 rfl) rfl))))
                  · skip
                    exact n_ne c108 (in_c 0 rfl) (in_c 0 rfl) rfl
                · skip
                  have i105x8 := r_lt1 0 12 c105x8 i105x5 (in_c 13 rfl) rfl
                  refine g_iconst 1 12 (gd rfl) rfl rfl ?_
                  refine g_goto 16 (gd rfl) rfl ?_
                  refine g_ireturn (gd rfl) rfl (nb01 (in_w 0 1 (in_c 1 rfl) rfl)) (hp105 _ _ ?_)
                  show GG _ _ _ _ _ _ _ _ [.int (Int32.ofInt 1), .int (Int32.ofInt 0)] _ _ _
                  refine g_cmp_eq 111 171 (gd rfl) rfl rfl (fun c108 => ?_) (fun c108 => ?_)
                  · skip
                    exact n_eq c108 (in_c 0 rfl) (in_c 1 rfl) rfl
                  · skip
                    refine g_aload_n 112 (gd rfl) rfl rfl ?_
                    refine g_aload_n 113 (gd rfl) rfl rfl ?_
                    refine g_getA (q2 := 34) 116 (gd rfl) rfl rfl rfl rfl ?_
                    refine g_iload_n 117 (gd rfl) rfl rfl ?_
                    refine g_iaload 118 (gd rfl) rfl (n := 160) rfl (in_ix i77 rfl) (fun z117 e117 => ?_)
                    have q117 : z82x5 = z117 := (e82x5).trans e117.symm
                    subst q117
                    refine g_calls (As := [.ref (A 32), .int z82x5]) (r := []) 121 (gd rfl) rfl rfl rfl rfl rfl (Nat.le_of_ble_eq_true rfl) (mc := 0) (ms := 0) (Nat.zero_le _) (Nat.zero_le _) (P := fun v u => _) ?_ (fun v u h => h)
                    intro po118 xx118 hp118 hx118
                    refine g_enter2 (k := 90) (N := 300) (by first | exact dq1 hd rfl | exact dq0 hd rfl | exact dq2 hd rfl | exact dq3 hd rfl | omega) rfl (Nat.le_of_ble_eq_true rfl) ?_
                    refine g_aload_n 1 (gd rfl) rfl rfl ?_
                    refine g_getA (q2 := 33) 4 (gd rfl) rfl rfl rfl rfl ?_
                    refine g_iload_n 5 (gd rfl) rfl rfl ?_
                    refine g_iaload 6 (gd rfl) rfl (n := 32) rfl (in_ix i82x7 rfl) (fun z118x5 e118x5 => ?_)
                    have q118x5 : z95x5 = z118x5 := (e95x5).trans e118x5.symm
                    subst q118x5
                    refine g_bipush 13 8 (gd rfl) rfl rfl ?_
                    refine g_cmp_ge 11 15 (gd rfl) rfl rfl (fun c118x8 => ?_) (fun c118x8 => ?_)
                    · skip
                      refine g_iconst 0 16 (gd rfl) rfl rfl ?_
                      refine g_ireturn (gd rfl) rfl (nb01 (in_w 0 1 (in_c 0 rfl) rfl)) (hp118 _ _ ?_)
                      show GG _ _ _ _ _ _ _ _ [.int (Int32.ofInt 0)] _ _ _
                      refine g_istore_n 122 (gd rfl) rfl (Nat.le_of_ble_eq_true rfl) ?_
                      refine g_aload_n 123 (gd rfl) rfl rfl ?_
                      refine g_iload_n 124 (gd rfl) rfl rfl ?_
                      refine g_if_eq 127 136 (gd rfl) rfl rfl (fun c124 => ?_) (fun c124 => ?_)
                      · skip
                        refine g_aload_n 137 (gd rfl) rfl rfl ?_
                        refine g_getA (q2 := 35) 140 (gd rfl) rfl rfl rfl rfl ?_
                        refine g_iload_n 141 (gd rfl) rfl rfl ?_
                        refine g_iaload 142 (gd rfl) rfl (n := 160) rfl (in_ix i77 rfl) (fun z141 e141 => ?_)
                        have q141 : z82x21 = z141 := (e82x21).trans e141.symm
                        subst q141
                        refine g_iload_n 143 (gd rfl) rfl rfl ?_
                        refine g_if_eq 146 155 (gd rfl) rfl rfl (fun c143 => ?_) (fun c143 => ?_)
                        · skip
                          refine g_aload_n 156 (gd rfl) rfl rfl ?_
                          refine g_getA (q2 := 34) 159 (gd rfl) rfl rfl rfl rfl ?_
                          refine g_iload_n 160 (gd rfl) rfl rfl ?_
                          refine g_iaload 161 (gd rfl) rfl (n := 160) rfl (in_ix i77 rfl) (fun z160 e160 => ?_)
                          have q160 : z82x5 = z160 := (e82x5).trans e160.symm
                          subst q160
                          refine g_aload_n 162 (gd rfl) rfl rfl ?_
                          refine g_getA (q2 := 36) 165 (gd rfl) rfl rfl rfl rfl ?_
                          refine g_iload_n 166 (gd rfl) rfl rfl ?_
                          refine g_iaload 167 (gd rfl) rfl (n := 160) rfl (in_ix i77 rfl) (fun z166 e166 => ?_)
                          have i166 := inv_I hIc72 (n := 160) (t := 0) (-1000000) 1000000 rfl (in_ix i77 rfl) rfl e166
                          refine g_iconst 1 168 (gd rfl) rfl rfl ?_
                          refine g_callv (X := _) (As := [.int z82x21, .int z82x5, .int z166, .int (Int32.ofInt 1)]) (r := []) (b := A 65) (q := 65) 171 (gd rfl) rfl rfl rfl rfl rfl (ww_o rfl) (Nat.le_of_ble_eq_true rfl) (Nat.zero_le _) (Nat.zero_le _) (k_84_65 (by first | exact dq1 hd rfl | exact dq0 hd rfl | exact dq2 hd rfl | exact dq3 hd rfl | omega) hIc72 (in_w 0 31 i82x21 rfl) (in_w 0 31 i82x7 rfl) (in_w (-1000000) 1000000 i166 rfl) (in_w 0 1000000 (in_c 1 rfl) rfl)) (fun e u h => h) (fun v u h => ?_)
                          obtain ⟨s168, hI168, hF168, rfl, rfl⟩ := h
                          show GG _ _ _ _ _ _ _ _ [] _ _ _
                          refine g_iinc 174 (gd rfl) rfl rfl (Nat.le_of_ble_eq_true rfl) (fun z171 e171 => ?_)
                          have i171 := in_add 1 160 e171 i77 (in_c 1 rfl) rfl rfl
                          refine g_goto 72 (gd rfl) rfl ?_
                          have v72 : w72_65_17 = s168.2.2.1 65 17 := fr_F (v72_65_17) hF168 rfl
                          have n72 : (w72_65_17).toInt = 0 := by first | exact n72_0 | (have a0 := oa7 i77a ro_32_1 ro_32_0 ((inv_F hIc72 0 32 rfl v72_65_17)) i77 ((in_c 0 rfl)) i171; have a7 := t_add e171 i77 (in_c 1 rfl) rfl; have a8 := in_u ((in_c 1 rfl)); omega)
                          exact gg_w (by first | exact Nat.le_add_right _ _ | exact gw2 | exact gw3 | exact gwe rfl | exact gwf rfl | exact gwg rfl | exact gwh rfl | omega) (gg_f (gf_cons rfl (gf_cons rfl (gf_cons rfl gf_nil))) (ih72 s168 z171 w72_65_17 hI168 (fr_tr rfl hFc72 hF168) (in_w 0 160 i171 rfl) v72 n72 (m_up mm72 (t_add e171 i77 (in_c 1 rfl) rfl) (in_w 1 1 (in_c 1 rfl) rfl))))
                        · skip
                          exact zn_ne c143 (in_c 0 rfl) rfl
                      · skip
                        exact zn_ne c124 (in_c 0 rfl) rfl
                    · skip
                      exact n_lt c118x8 i95x8 (in_c 13 rfl) rfl
              · skip
                have i95x8 := r_lt1 0 12 c95x8 i95x5 (in_c 13 rfl) rfl
                refine g_iconst 1 12 (gd rfl) rfl rfl ?_
                refine g_goto 16 (gd rfl) rfl ?_
                refine g_ireturn (gd rfl) rfl (nb01 (in_w 0 1 (in_c 1 rfl) rfl)) (hp95 _ _ ?_)
                show GG _ _ _ _ _ _ _ _ [.int (Int32.ofInt 1)] _ _ _
                refine g_aload_n 99 (gd rfl) rfl rfl ?_
                refine g_aload_n 100 (gd rfl) rfl rfl ?_
                refine g_getA (q2 := 35) 103 (gd rfl) rfl rfl rfl rfl ?_
                refine g_iload_n 104 (gd rfl) rfl rfl ?_
                refine g_iaload 105 (gd rfl) rfl (n := 160) rfl (in_ix i77 rfl) (fun z104 e104 => ?_)
                have q104 : z82x21 = z104 := (e82x21).trans e104.symm
                subst q104
                refine g_calls (As := [.ref (A 32), .int z82x21]) (r := [.int (Int32.ofInt 1)]) 108 (gd rfl) rfl rfl rfl rfl rfl (Nat.le_of_ble_eq_true rfl) (mc := 0) (ms := 0) (Nat.zero_le _) (Nat.zero_le _) (P := fun v u => _) ?_ (fun v u h => h)
                intro po105 xx105 hp105 hx105
                refine g_enter2 (k := 90) (N := 300) (by first | exact dq1 hd rfl | exact dq0 hd rfl | exact dq2 hd rfl | exact dq3 hd rfl | omega) rfl (Nat.le_of_ble_eq_true rfl) ?_
                refine g_aload_n 1 (gd rfl) rfl rfl ?_
                refine g_getA (q2 := 33) 4 (gd rfl) rfl rfl rfl rfl ?_
                refine g_iload_n 5 (gd rfl) rfl rfl ?_
                refine g_iaload 6 (gd rfl) rfl (n := 32) rfl (in_ix i82x21 rfl) (fun z105x5 e105x5 => ?_)
                have i105x5 := inv_I hIc72 (n := 32) (t := 0) 0 25 rfl (in_ix i82x21 rfl) rfl e105x5
                refine g_bipush 13 8 (gd rfl) rfl rfl ?_
                refine g_cmp_ge 11 15 (gd rfl) rfl rfl (fun c105x8 => ?_) (fun c105x8 => ?_)
                · skip
                  have i105x8 := r_le2 13 25 c105x8 (in_c 13 rfl) i105x5 rfl
                  refine g_iconst 0 16 (gd rfl) rfl rfl ?_
                  refine g_ireturn (gd rfl) rfl (nb01 (in_w 0 1 (in_c 0 rfl) rfl)) (hp105 _ _ ?_)
                  show GG _ _ _ _ _ _ _ _ [.int (Int32.ofInt 0), .int (Int32.ofInt 1)] _ _ _
                  refine g_cmp_eq 111 171 (gd rfl) rfl rfl (fun c108 => ?_) (fun c108 => ?_)
                  · skip
                    exact n_eq c108 (in_c 1 rfl) (in_c 0 rfl) rfl
                  · skip
                    refine g_aload_n 112 (gd rfl) rfl rfl ?_
                    refine g_aload_n 113 (gd rfl) rfl rfl ?_
                    refine g_getA (q2 := 34) 116 (gd rfl) rfl rfl rfl rfl ?_
                    refine g_iload_n 117 (gd rfl) rfl rfl ?_
                    refine g_iaload 118 (gd rfl) rfl (n := 160) rfl (in_ix i77 rfl) (fun z117 e117 => ?_)
                    have q117 : z82x5 = z117 := (e82x5).trans e117.symm
                    subst q117
                    refine g_calls (As := [.ref (A 32), .int z82x5]) (r := []) 121 (gd rfl) rfl rfl rfl rfl rfl (Nat.le_of_ble_eq_true rfl) (mc := 0) (ms := 0) (Nat.zero_le _) (Nat.zero_le _) (P := fun v u => _) ?_ (fun v u h => h)
                    intro po118 xx118 hp118 hx118
                    refine g_enter2 (k := 90) (N := 300) (by first | exact dq1 hd rfl | exact dq0 hd rfl | exact dq2 hd rfl | exact dq3 hd rfl | omega) rfl (Nat.le_of_ble_eq_true rfl) ?_
                    refine g_aload_n 1 (gd rfl) rfl rfl ?_
                    refine g_getA (q2 := 33) 4 (gd rfl) rfl rfl rfl rfl ?_
                    refine g_iload_n 5 (gd rfl) rfl rfl ?_
                    refine g_iaload 6 (gd rfl) rfl (n := 32) rfl (in_ix i82x7 rfl) (fun z118x5 e118x5 => ?_)
                    have q118x5 : z95x5 = z118x5 := (e95x5).trans e118x5.symm
                    subst q118x5
                    refine g_bipush 13 8 (gd rfl) rfl rfl ?_
                    refine g_cmp_ge 11 15 (gd rfl) rfl rfl (fun c118x8 => ?_) (fun c118x8 => ?_)
                    · skip
                      exact n_le c118x8 (in_c 13 rfl) i95x8 rfl
                    · skip
                      refine g_iconst 1 12 (gd rfl) rfl rfl ?_
                      refine g_goto 16 (gd rfl) rfl ?_
                      refine g_ireturn (gd rfl) rfl (nb01 (in_w 0 1 (in_c 1 rfl) rfl)) (hp118 _ _ ?_)
                      show GG _ _ _ _ _ _ _ _ [.int (Int32.ofInt 1)] _ _ _
                      refine g_istore_n 122 (gd rfl) rfl (Nat.le_of_ble_eq_true rfl) ?_
                      refine g_aload_n 123 (gd rfl) rfl rfl ?_
                      refine g_iload_n 124 (gd rfl) rfl rfl ?_
                      refine g_if_eq 127 136 (gd rfl) rfl rfl (fun c124 => ?_) (fun c124 => ?_)
                      · skip
                        exact zn_eq c124 (in_c 1 rfl) rfl
                      · skip
                        refine g_aload_n 128 (gd rfl) rfl rfl ?_
                        refine g_getA (q2 := 34) 131 (gd rfl) rfl rfl rfl rfl ?_
                        refine g_iload_n 132 (gd rfl) rfl rfl ?_
                        refine g_iaload 133 (gd rfl) rfl (n := 160) rfl (in_ix i77 rfl) (fun z132 e132 => ?_)
                        have q132 : z82x5 = z132 := (e82x5).trans e132.symm
                        subst q132
                        refine g_goto 142 (gd rfl) rfl ?_
                        refine g_iload_n 143 (gd rfl) rfl rfl ?_
                        refine g_if_eq 146 155 (gd rfl) rfl rfl (fun c143 => ?_) (fun c143 => ?_)
                        · skip
                          exact zn_eq c143 (in_c 1 rfl) rfl
                        · skip
                          refine g_aload_n 147 (gd rfl) rfl rfl ?_
                          refine g_getA (q2 := 35) 150 (gd rfl) rfl rfl rfl rfl ?_
                          refine g_iload_n 151 (gd rfl) rfl rfl ?_
                          refine g_iaload 152 (gd rfl) rfl (n := 160) rfl (in_ix i77 rfl) (fun z151 e151 => ?_)
                          have q151 : z82x21 = z151 := (e82x21).trans e151.symm
                          subst q151
                          refine g_goto 161 (gd rfl) rfl ?_
                          refine g_aload_n 162 (gd rfl) rfl rfl ?_
                          refine g_getA (q2 := 36) 165 (gd rfl) rfl rfl rfl rfl ?_
                          refine g_iload_n 166 (gd rfl) rfl rfl ?_
                          refine g_iaload 167 (gd rfl) rfl (n := 160) rfl (in_ix i77 rfl) (fun z166 e166 => ?_)
                          have i166 := inv_I hIc72 (n := 160) (t := 0) (-1000000) 1000000 rfl (in_ix i77 rfl) rfl e166
                          refine g_iconst 1 168 (gd rfl) rfl rfl ?_
                          refine g_callv (X := _) (As := [.int z82x5, .int z82x21, .int z166, .int (Int32.ofInt 1)]) (r := []) (b := A 65) (q := 65) 171 (gd rfl) rfl rfl rfl rfl rfl (ww_o rfl) (Nat.le_of_ble_eq_true rfl) (Nat.zero_le _) (Nat.zero_le _) (k_84_65 (by first | exact dq1 hd rfl | exact dq0 hd rfl | exact dq2 hd rfl | exact dq3 hd rfl | omega) hIc72 (in_w 0 31 i82x7 rfl) (in_w 0 31 i82x21 rfl) (in_w (-1000000) 1000000 i166 rfl) (in_w 0 1000000 (in_c 1 rfl) rfl)) (fun e u h => h) (fun v u h => ?_)
                          obtain ⟨s168, hI168, hF168, rfl, rfl⟩ := h
                          show GG _ _ _ _ _ _ _ _ [] _ _ _
                          refine g_iinc 174 (gd rfl) rfl rfl (Nat.le_of_ble_eq_true rfl) (fun z171 e171 => ?_)
                          have i171 := in_add 1 160 e171 i77 (in_c 1 rfl) rfl rfl
                          refine g_goto 72 (gd rfl) rfl ?_
                          have v72 : w72_65_17 = s168.2.2.1 65 17 := fr_F (v72_65_17) hF168 rfl
                          have n72 : (w72_65_17).toInt = 0 := by first | exact n72_0 | (have a0 := oa7 i77a ro_32_1 ro_32_0 ((inv_F hIc72 0 32 rfl v72_65_17)) i77 ((in_c 1 rfl)) i171; have a7 := t_add e171 i77 (in_c 1 rfl) rfl; omega)
                          exact gg_w (by first | exact Nat.le_add_right _ _ | exact gw2 | exact gw3 | exact gwe rfl | exact gwf rfl | exact gwg rfl | exact gwh rfl | omega) (gg_f (gf_cons rfl (gf_cons rfl (gf_cons rfl gf_nil))) (ih72 s168 z171 w72_65_17 hI168 (fr_tr rfl hFc72 hF168) (in_w 0 160 i171 rfl) v72 n72 (m_up mm72 (t_add e171 i77 (in_c 1 rfl) rfl) (in_w 1 1 (in_c 1 rfl) rfl))))
                · skip
                  have i105x8 := r_lt1 0 12 c105x8 i105x5 (in_c 13 rfl) rfl
                  refine g_iconst 1 12 (gd rfl) rfl rfl ?_
                  refine g_goto 16 (gd rfl) rfl ?_
                  refine g_ireturn (gd rfl) rfl (nb01 (in_w 0 1 (in_c 1 rfl) rfl)) (hp105 _ _ ?_)
                  show GG _ _ _ _ _ _ _ _ [.int (Int32.ofInt 1), .int (Int32.ofInt 1)] _ _ _
                  refine g_cmp_eq 111 171 (gd rfl) rfl rfl (fun c108 => ?_) (fun c108 => ?_)
                  · skip
                    refine g_iinc 174 (gd rfl) rfl rfl (Nat.le_of_ble_eq_true rfl) (fun z171 e171 => ?_)
                    have i171 := in_add 1 160 e171 i77 (in_c 1 rfl) rfl rfl
                    refine g_goto 72 (gd rfl) rfl ?_
                    have n72 : (w72_65_17).toInt = 0 := by first | exact n72_0 | (have a0 := oa6 i77a ro_32_1 ro_32_0 ((inv_F hIc72 0 32 rfl v72_65_17)) i77 i171; have a6 := t_add e171 i77 (in_c 1 rfl) rfl; have a7 := in_u ((in_c 1 rfl)); omega)
                    exact gg_w (by first | exact Nat.le_add_right _ _ | exact gw2 | exact gw3 | exact gwe rfl | exact gwf rfl | exact gwg rfl | exact gwh rfl | omega) (gg_f (gf_cons rfl (gf_cons rfl (gf_cons rfl gf_nil))) (ih72 sc72 z171 w72_65_17 hIc72 hFc72 (in_w 0 160 i171 rfl) v72_65_17 n72 (m_up mm72 (t_add e171 i77 (in_c 1 rfl) rfl) (in_w 1 1 (in_c 1 rfl) rfl))))
                  · skip
                    exact n_ne c108 (in_c 1 rfl) (in_c 1 rfl) rfl
  have ct37 : ∀ (k37 : Nat) (sc37 : GS) (y37_2 : Int32) (w37_65_17 : Int32), Inv sc37 → Fr fm_89_65_32 s sc37 → (In y37_2 0 32) → (w37_65_17 = sc37.2.2.1 65 17) → ((w37_65_17).toInt = 0) → 32 - (y37_2).toInt < (k37 : Int) → GG Z (d - 1) 89 post (gx xp) (174603 + k37 * 900) 37 (fun j => xlook j [(0, .ref (A 65)), (1, .ref (A 32)), (2, .int y37_2)]) [] (WW Z A sc37 ++ ex) 0 0 := by
    intro k37
    induction k37 with
    | zero => intro sc37 y37_2 w37_65_17 hIc37 hFc37 j37_2 v37_65_17 n37_0 mm37; exact m_no mm37 j37_2 rfl
    | succ k37 ih37 =>
      intro sc37 y37_2 w37_65_17 hIc37 hFc37 j37_2 v37_65_17 n37_0 mm37
      refine gg_w (M := 174603 + k37 * 900 + 900) gws ?_
      refine g_iload_n 38 (gd rfl) rfl rfl ?_
      refine g_aload_n 39 (gd rfl) rfl rfl ?_
      refine g_getI 42 (gd rfl) rfl rfl rfl (fun z39 e39 => ?_)
      have q39 : u_32_1 = z39 := (fr_F e_32_1 hFc37 rfl).trans e39.symm
      subst q39
      refine g_cmp_ge 45 70 (gd rfl) rfl rfl (fun c42 => ?_) (fun c42 => ?_)
      · skip
        refine g_iconst 0 71 (gd rfl) rfl rfl ?_
        refine g_istore_n 72 (gd rfl) rfl (Nat.le_of_ble_eq_true rfl) ?_
        have n72 : (w37_65_17).toInt = 0 := by first | exact n37_0 | (have a0 := oa6 ro_32_3 ro_32_1 ro_32_0 ((inv_F hIc37 0 32 rfl v37_65_17)) j37_2 ((in_c 0 rfl)); omega)
        exact gg_w (by first | exact Nat.le_add_right _ _ | exact gw2 | exact gw3 | exact gwe rfl | exact gwf rfl | exact gwg rfl | exact gwh rfl | omega) (gg_f (gf_cons rfl (gf_cons rfl (gf_cons rfl gf_nil))) (ct72 161 sc37 (Int32.ofInt 0) w37_65_17 hIc37 hFc37 (in_w 0 160 (in_c 0 rfl) rfl) v37_65_17 n72 (m_in 161 (in_w 0 160 (in_c 0 rfl) rfl) rfl)))
      · skip
        have i42 := r_lt1 0 31 c42 j37_2 ro_32_1 rfl
        have i42a := r_lt2 1 32 c42 j37_2 ro_32_1 rfl
        refine g_aload_n 46 (gd rfl) rfl rfl ?_
        refine g_getA (q2 := 74) 49 (gd rfl) rfl rfl rfl rfl ?_
        refine g_iload_n 50 (gd rfl) rfl rfl ?_
        refine g_aload_n 51 (gd rfl) rfl rfl ?_
        refine g_iload_n 52 (gd rfl) rfl rfl ?_
        refine g_calls (As := [.ref (A 32), .int y37_2]) (r := [.int y37_2, .ref (A 74)]) 55 (gd rfl) rfl rfl rfl rfl rfl (Nat.le_of_ble_eq_true rfl) (mc := 0) (ms := 0) (Nat.zero_le _) (Nat.zero_le _) (P := fun v u => _) ?_ (fun v u h => h)
        intro po52 xx52 hp52 hx52
        refine g_enter2 (k := 90) (N := 300) (by first | exact dq1 hd rfl | exact dq0 hd rfl | exact dq2 hd rfl | exact dq3 hd rfl | omega) rfl (Nat.le_of_ble_eq_true rfl) ?_
        refine g_aload_n 1 (gd rfl) rfl rfl ?_
        refine g_getA (q2 := 33) 4 (gd rfl) rfl rfl rfl rfl ?_
        refine g_iload_n 5 (gd rfl) rfl rfl ?_
        refine g_iaload 6 (gd rfl) rfl (n := 32) rfl (in_ix i42 rfl) (fun z52x5 e52x5 => ?_)
        have i52x5 := inv_I hIc37 (n := 32) (t := 0) 0 25 rfl (in_ix i42 rfl) rfl e52x5
        refine g_bipush 13 8 (gd rfl) rfl rfl ?_
        refine g_cmp_ge 11 15 (gd rfl) rfl rfl (fun c52x8 => ?_) (fun c52x8 => ?_)
        · skip
          have i52x8 := r_le2 13 25 c52x8 (in_c 13 rfl) i52x5 rfl
          refine g_iconst 0 16 (gd rfl) rfl rfl ?_
          refine g_ireturn (gd rfl) rfl (nb01 (in_w 0 1 (in_c 0 rfl) rfl)) (hp52 _ _ ?_)
          show GG _ _ _ _ _ _ _ _ [.int (Int32.ofInt 0), .int y37_2, .ref (A 74)] _ _ _
          refine g_if_eq 58 62 (gd rfl) rfl rfl (fun c55 => ?_) (fun c55 => ?_)
          · skip
            refine g_iconst (-1) 63 (gd rfl) rfl rfl ?_
            refine g_iastore 64 (gd rfl) rfl (n := 32) rfl (in_ix i42 rfl) ?_
            have hI63 := inv_sI (q := 74) (j := y37_2.toNatClampNeg) hIc37 rfl (in_w (-2147483648) 2147483647 (in_c (-1) rfl) rfl)
            refine g_iinc 67 (gd rfl) rfl rfl (Nat.le_of_ble_eq_true rfl) (fun z64 e64 => ?_)
            have i64 := in_add 1 32 e64 i42 (in_c 1 rfl) rfl rfl
            refine g_goto 37 (gd rfl) rfl ?_
            have v37 : w37_65_17 = (sI sc37 74 y37_2.toNatClampNeg (Int32.ofInt (-1))).2.2.1 65 17 := sI_F (v37_65_17)
            have n37 : (w37_65_17).toInt = 0 := by first | exact n37_0 | (have a0 := oa6 ro_32_3 i42a ro_32_0 ((inv_F hIc37 0 32 rfl v37_65_17)) i42 i64; have a6 := t_add e64 i42 (in_c 1 rfl) rfl; have a7 := in_u ((in_c 1 rfl)); omega)
            exact gg_w (by first | exact Nat.le_add_right _ _ | exact gw2 | exact gw3 | exact gwe rfl | exact gwf rfl | exact gwg rfl | exact gwh rfl | omega) (gg_f (gf_cons rfl (gf_cons rfl (gf_cons rfl gf_nil))) (ih37 (sI sc37 74 y37_2.toNatClampNeg (Int32.ofInt (-1))) z64 w37_65_17 hI63 (fr_sI rfl hFc37) (in_w 0 32 i64 rfl) v37 n37 (m_up mm37 (t_add e64 i42 (in_c 1 rfl) rfl) (in_w 1 1 (in_c 1 rfl) rfl))))
          · skip
            exact zn_ne c55 (in_c 0 rfl) rfl
        · skip
          have i52x8 := r_lt1 0 12 c52x8 i52x5 (in_c 13 rfl) rfl
          refine g_iconst 1 12 (gd rfl) rfl rfl ?_
          refine g_goto 16 (gd rfl) rfl ?_
          refine g_ireturn (gd rfl) rfl (nb01 (in_w 0 1 (in_c 1 rfl) rfl)) (hp52 _ _ ?_)
          show GG _ _ _ _ _ _ _ _ [.int (Int32.ofInt 1), .int y37_2, .ref (A 74)] _ _ _
          refine g_if_eq 58 62 (gd rfl) rfl rfl (fun c55 => ?_) (fun c55 => ?_)
          · skip
            exact zn_eq c55 (in_c 1 rfl) rfl
          · skip
            refine g_iconst 1 59 (gd rfl) rfl rfl ?_
            refine g_goto 63 (gd rfl) rfl ?_
            refine g_iastore 64 (gd rfl) rfl (n := 32) rfl (in_ix i42 rfl) ?_
            have hI63 := inv_sI (q := 74) (j := y37_2.toNatClampNeg) hIc37 rfl (in_w (-2147483648) 2147483647 (in_c 1 rfl) rfl)
            refine g_iinc 67 (gd rfl) rfl rfl (Nat.le_of_ble_eq_true rfl) (fun z64 e64 => ?_)
            have i64 := in_add 1 32 e64 i42 (in_c 1 rfl) rfl rfl
            refine g_goto 37 (gd rfl) rfl ?_
            have v37 : w37_65_17 = (sI sc37 74 y37_2.toNatClampNeg (Int32.ofInt 1)).2.2.1 65 17 := sI_F (v37_65_17)
            have n37 : (w37_65_17).toInt = 0 := by first | exact n37_0 | (have a0 := oa6 ro_32_3 i42a ro_32_0 ((inv_F hIc37 0 32 rfl v37_65_17)) i42 i64; have a6 := t_add e64 i42 (in_c 1 rfl) rfl; have a7 := in_u ((in_c 1 rfl)); omega)
            exact gg_w (by first | exact Nat.le_add_right _ _ | exact gw2 | exact gw3 | exact gwe rfl | exact gwf rfl | exact gwg rfl | exact gwh rfl | omega) (gg_f (gf_cons rfl (gf_cons rfl (gf_cons rfl gf_nil))) (ih37 (sI sc37 74 y37_2.toNatClampNeg (Int32.ofInt 1)) z64 w37_65_17 hI63 (fr_sI rfl hFc37) (in_w 0 32 i64 rfl) v37 n37 (m_up mm37 (t_add e64 i42 (in_c 1 rfl) rfl) (in_w 1 1 (in_c 1 rfl) rfl))))
  refine g_enter2 (k := 89) (N := 205203) (by first | exact dq1 hd rfl | exact dq0 hd rfl | exact dq2 hd rfl | exact dq3 hd rfl | omega) rfl (Nat.le_of_ble_eq_true rfl) ?_
  refine g_aload_n 1 (gd rfl) rfl rfl ?_
  refine g_getI 4 (gd rfl) rfl rfl rfl (fun z1 e1 => ?_)
  have i1 := inv_F hI (-1) 4000 rfl e1
  refine g_aload_n 5 (gd rfl) rfl rfl ?_
  refine g_getI 8 (gd rfl) rfl rfl rfl (fun z5 e5 => ?_)
  have q5 : u_32_0 = z5 := (e_32_0).trans e5.symm
  subst q5
  refine g_cmp_ne 11 12 (gd rfl) rfl rfl (fun c8 => ?_) (fun c8 => ?_)
  · skip
    refine g_aload_n 13 (gd rfl) rfl rfl ?_
    refine g_aload_n 14 (gd rfl) rfl rfl ?_
    refine g_getI 17 (gd rfl) rfl rfl rfl (fun z14 e14 => ?_)
    have q14 : u_32_0 = z14 := (e_32_0).trans e14.symm
    subst q14
    refine g_putI 20 (gd rfl) rfl rfl rfl rfl ?_
    have hI17 := inv_sF (q := 65) (j := 16) hI rfl (in_w (-1) 4000 ro_32_0 rfl)
    refine g_aload_n 21 (gd rfl) rfl rfl ?_
    refine g_iconst 0 22 (gd rfl) rfl rfl ?_
    refine g_putI 25 (gd rfl) rfl rfl rfl rfl ?_
    have hI22 := inv_sF (q := 65) (j := 17) hI17 rfl (in_w 0 32 (in_c 0 rfl) rfl)
    refine g_aload_n 26 (gd rfl) rfl rfl ?_
    refine g_lconst 0 27 (gd rfl) rfl rfl ?_
    refine g_putL 30 (gd rfl) rfl rfl rfl rfl ?_
    have hI27 := inv_sG (q := 65) (j := 18) (x := (Int64.ofInt 0)) hI22 rfl (l_rng (Int64.ofInt 0))
    refine g_aload_n 31 (gd rfl) rfl rfl ?_
    refine g_iconst 0 32 (gd rfl) rfl rfl ?_
    refine g_putI 35 (gd rfl) rfl rfl rfl rfl ?_
    have hI32 := inv_sF (q := 65) (j := 8) hI27 rfl (in_w 0 160 (in_c 0 rfl) rfl)
    refine g_iconst 0 36 (gd rfl) rfl rfl ?_
    refine g_istore_n 37 (gd rfl) rfl (Nat.le_of_ble_eq_true rfl) ?_
    have v37 : (Int32.ofInt 0) = (sF (sG (sF (sF s 65 16 u_32_0) 65 17 (Int32.ofInt 0)) 65 18 (Int64.ofInt 0)) 65 8 (Int32.ofInt 0)).2.2.1 65 17 := sF_ne rfl (sG_F (sF_get))
    have n37 : ((Int32.ofInt 0)).toInt = 0 := by have a0 := oa4 ro_32_3 ro_32_1 ro_32_0 ((in_c 0 rfl)); omega
    exact gg_w (by first | exact Nat.le_of_ble_eq_true rfl | omega) (gg_f (gf_cons rfl (gf_cons rfl (gf_cons rfl gf_nil))) (ct37 33 (sF (sG (sF (sF s 65 16 u_32_0) 65 17 (Int32.ofInt 0)) 65 18 (Int64.ofInt 0)) 65 8 (Int32.ofInt 0)) (Int32.ofInt 0) (Int32.ofInt 0) hI32 (fr_sF rfl (fr_sG rfl (fr_sF rfl (fr_sF rfl fr_rf)))) (in_w 0 32 (in_c 0 rfl) rfl) v37 n37 (m_in 33 (in_w 0 32 (in_c 0 rfl) rfl) rfl)))
  · skip
    have i8 := r_eq1 0 4000 c8 i1 ro_32_0 rfl
    exact g_return (gd rfl) rfl (hP _ _ ⟨s, hI, fr_rf, rfl, rfl⟩)

def fm_113_86_2 : FM := ([9, 10, 11, 12, 13, 14, 15, 89, 90, 91, 92, 93], [], [(2, 4), (86, 4), (86, 5)], [])
/-- GraphHouse$Groups.settle -/
theorem k_113_86_2 {Z : AmZ} {A : Nat → Nat} {s : GS} {ex : va_W} {d : Nat} {X : AmX}  (hd : 6 ≤ d) (hI : Inv s)  : GC Z d 113 [.ref (A 86), .ref (A 2)] (WW Z A s ++ ex) 0 0 (fun v u => ∃ t : GS, Inv t ∧ Fr fm_113_86_2 s t ∧ v = none ∧ u = WW Z A t ++ ex) X := by
  intro post xp hP hX
  obtain ⟨u_2_0, e_2_0⟩ : ∃ w, w = s.2.2.1 2 0 := ⟨_, rfl⟩
  have ro_2_0 := inv_F hI 0 4000 rfl e_2_0
  obtain ⟨u_2_1, e_2_1⟩ : ∃ w, w = s.2.2.1 2 1 := ⟨_, rfl⟩
  have ro_2_1 := inv_F hI 0 32 rfl e_2_1
  have ct29 : ∀ (k29 : Nat) (sc29 : GS) (y29_2 : Int32) (y29_3 : Int32) (w29_2_4 : Int32) (w29_2_0 : Int32), Inv sc29 → Fr fm_113_86_2 s sc29 → (In y29_2 0 1) → (In y29_3 0 20) → (w29_2_4 = sc29.2.2.1 2 4) → (w29_2_0 = sc29.2.2.1 2 0) → ((w29_2_4).toInt = (w29_2_0).toInt) → 20 - (y29_3).toInt < (k29 : Int) → GG Z (d - 1) 113 post (gx xp) (1 + k29 * 32401) 29 (fun j => xlook j [(0, .ref (A 86)), (1, .ref (A 2)), (2, .int y29_2), (3, .int y29_3)]) [] (WW Z A sc29 ++ ex) 0 0 := by
    intro k29
    induction k29 with
    | zero => intro sc29 y29_2 y29_3 w29_2_4 w29_2_0 hIc29 hFc29 j29_2 j29_3 v29_2_4 v29_2_0 n29_0 mm29; exact m_no mm29 j29_3 rfl
    | succ k29 ih29 =>
      intro sc29 y29_2 y29_3 w29_2_4 w29_2_0 hIc29 hFc29 j29_2 j29_3 v29_2_4 v29_2_0 n29_0 mm29
      refine gg_w (M := 1 + k29 * 32401 + 32401) gws ?_
      have ct44 : ∀ (k44 : Nat) (sc44 : GS) (y44_2 : Int32) (y44_4 : Int32) (w44_2_4 : Int32) (w44_2_0 : Int32), Inv sc44 → Fr fm_113_86_2 s sc44 → (In y44_2 0 1) → (In y29_3 0 19) → (In y44_4 0 32) → (w44_2_4 = sc44.2.2.1 2 4) → (w44_2_0 = sc44.2.2.1 2 0) → ((w44_2_4).toInt = (w44_2_0).toInt) → 32 - (y44_4).toInt < (k44 : Int) → GG Z (d - 1) 113 post (gx xp) (1 + k29 * 32401 + 1 + k44 * 900) 44 (fun j => xlook j [(0, .ref (A 86)), (1, .ref (A 2)), (2, .int y44_2), (3, .int y29_3), (4, .int y44_4)]) [] (WW Z A sc44 ++ ex) 0 0 := by
        intro k44
        induction k44 with
        | zero => intro sc44 y44_2 y44_4 w44_2_4 w44_2_0 hIc44 hFc44 j44_2 j44_3 j44_4 v44_2_4 v44_2_0 n44_0 mm44; exact m_no mm44 j44_4 rfl
        | succ k44 ih44 =>
          intro sc44 y44_2 y44_4 w44_2_4 w44_2_0 hIc44 hFc44 j44_2 j44_3 j44_4 v44_2_4 v44_2_0 n44_0 mm44
          refine gg_w (M := 1 + k29 * 32401 + 1 + k44 * 900 + 900) gws ?_
          refine g_iload 46 (gd rfl) rfl rfl ?_
          refine g_aload_n 47 (gd rfl) rfl rfl ?_
          refine g_getI 50 (gd rfl) rfl rfl rfl (fun z47 e47 => ?_)
          have q47 : u_2_1 = z47 := (fr_F e_2_1 hFc44 rfl).trans e47.symm
          subst q47
          refine g_cmp_ge 53 69 (gd rfl) rfl rfl (fun c50 => ?_) (fun c50 => ?_)
          · skip
            refine g_iinc 72 (gd rfl) rfl rfl (Nat.le_of_ble_eq_true rfl) (fun z69 e69 => ?_)
            have i69 := in_add 1 20 e69 j44_3 (in_c 1 rfl) rfl rfl
            refine g_goto 29 (gd rfl) rfl ?_
            have n29 : (w44_2_4).toInt = (w44_2_0).toInt := by first | exact n44_0 | (have a0 := oa7 j44_3 ro_2_1 ((inv_F hIc44 0 4000 rfl v44_2_0)) ((inv_F hIc44 (-1) 4000 rfl v44_2_4)) j44_4 j44_2 i69; have a7 := t_add e69 j44_3 (in_c 1 rfl) rfl; have a8 := in_u ((in_c 1 rfl)); omega)
            exact gg_w (by first | exact Nat.le_add_right _ _ | exact gw2 | exact gw3 | exact gwe rfl | exact gwf rfl | exact gwg rfl | exact gwh rfl | omega) (gg_f (gf_cons rfl (gf_cons rfl (gf_cons rfl (gf_cons rfl gf_nil)))) (ih29 sc44 y44_2 z69 w44_2_4 w44_2_0 hIc44 hFc44 (in_w 0 1 j44_2 rfl) (in_w 0 20 i69 rfl) v44_2_4 v44_2_0 n29 (m_up mm29 (t_add e69 j44_3 (in_c 1 rfl) rfl) (in_w 1 1 (in_c 1 rfl) rfl))))
          · skip
            have i50 := r_lt1 0 31 c50 j44_4 ro_2_1 rfl
            have i50a := r_lt2 1 32 c50 j44_4 ro_2_1 rfl
            refine g_iload_n 54 (gd rfl) rfl rfl ?_
            refine g_aload_n 55 (gd rfl) rfl rfl ?_
            refine g_aload_n 56 (gd rfl) rfl rfl ?_
            refine g_iload 58 (gd rfl) rfl rfl ?_
            have n58 : (w44_2_4).toInt = (w44_2_0).toInt := by first | exact n44_0 | (have a0 := oa6 j44_3 i50a ((inv_F hIc44 0 4000 rfl v44_2_0)) ((inv_F hIc44 (-1) 4000 rfl v44_2_4)) i50 j44_2; omega)
            refine g_callv (X := _) (As := [.ref (A 2), .int y44_4]) (r := [.int y44_2]) (b := A 86) (q := 86) 61 (gd rfl) rfl rfl rfl rfl rfl (ww_o rfl) (Nat.le_of_ble_eq_true rfl) (Nat.zero_le _) (Nat.zero_le _) (k_115_86_2 (by first | exact dq1 hd rfl | exact dq0 hd rfl | exact dq2 hd rfl | exact dq3 hd rfl | omega) hIc44 (in_w 0 31 i50 rfl) v44_2_4 v44_2_0 n58) (fun e u h => h) (fun v u h => ?_)
            obtain ⟨s58, hI58, hF58, z58, rfl, rfl, i58⟩ := h
            show GG _ _ _ _ _ _ _ _ [.int z58, .int y44_2] _ _ _
            refine g_ior 62 (gd rfl) rfl (fun z61 e61 => ?_)
            have i61 := in_or 1 e61 (in_w 0 1 j44_2 rfl) (in_w 0 1 i58 rfl) rfl
            refine g_istore_n 63 (gd rfl) rfl (Nat.le_of_ble_eq_true rfl) ?_
            refine g_iinc 66 (gd rfl) rfl rfl (Nat.le_of_ble_eq_true rfl) (fun z63 e63 => ?_)
            have i63 := in_add 1 32 e63 i50 (in_c 1 rfl) rfl rfl
            refine g_goto 44 (gd rfl) rfl ?_
            have v44 : w44_2_4 = s58.2.2.1 2 4 := fr_F (v44_2_4) hF58 rfl
            have v44a : w44_2_0 = s58.2.2.1 2 0 := fr_F (v44_2_0) hF58 rfl
            have n44 : (w44_2_4).toInt = (w44_2_0).toInt := by first | exact n44_0 | (have a0 := oa7 j44_3 i50a ((inv_F hIc44 0 4000 rfl v44_2_0)) ((inv_F hIc44 (-1) 4000 rfl v44_2_4)) i50 j44_2 i63; have a7 := t_add e63 i50 (in_c 1 rfl) rfl; have a8 := oa2 ((in_c 1 rfl)) i61; omega)
            exact gg_w (by first | exact Nat.le_add_right _ _ | exact gw2 | exact gw3 | exact gwe rfl | exact gwf rfl | exact gwg rfl | exact gwh rfl | omega) (gg_f (gf_cons rfl (gf_cons rfl (gf_cons rfl (gf_cons rfl (gf_cons rfl gf_nil))))) (ih44 s58 z61 z63 w44_2_4 w44_2_0 hI58 (fr_tr rfl hFc44 hF58) (in_w 0 1 i61 rfl) (in_w 0 19 j44_3 rfl) (in_w 0 32 i63 rfl) v44 v44a n44 (m_up mm44 (t_add e63 i50 (in_c 1 rfl) rfl) (in_w 1 1 (in_c 1 rfl) rfl))))
      refine g_iload_n 30 (gd rfl) rfl rfl ?_
      refine g_bipush 20 32 (gd rfl) rfl rfl ?_
      refine g_cmp_ge 35 75 (gd rfl) rfl rfl (fun c32 => ?_) (fun c32 => ?_)
      · skip
        have i32 := r_le2 20 20 c32 (in_c 20 rfl) j29_3 rfl
        exact g_return (gd rfl) rfl (hP _ _ ⟨sc29, hIc29, hFc29, rfl, rfl⟩)
      · skip
        have i32 := r_lt1 0 19 c32 j29_3 (in_c 20 rfl) rfl
        refine g_iload_n 36 (gd rfl) rfl rfl ?_
        refine g_if_eq 39 75 (gd rfl) rfl rfl (fun c36 => ?_) (fun c36 => ?_)
        · skip
          have i36 := z_eq 0 0 c36 j29_2 rfl
          exact g_return (gd rfl) rfl (hP _ _ ⟨sc29, hIc29, hFc29, rfl, rfl⟩)
        · skip
          have i36 := z_ne 1 1 c36 j29_2 rfl
          refine g_iconst 0 40 (gd rfl) rfl rfl ?_
          refine g_istore_n 41 (gd rfl) rfl (Nat.le_of_ble_eq_true rfl) ?_
          refine g_iconst 0 42 (gd rfl) rfl rfl ?_
          refine g_istore 44 (gd rfl) rfl (Nat.le_of_ble_eq_true rfl) ?_
          have n44 : (w29_2_4).toInt = (w29_2_0).toInt := by first | exact n29_0 | (have a0 := oa6 ro_2_1 ((inv_F hIc29 0 4000 rfl v29_2_0)) ((inv_F hIc29 (-1) 4000 rfl v29_2_4)) i32 i36 ((in_c 0 rfl)); omega)
          exact gg_w (by first | exact Nat.le_add_right _ _ | exact gw2 | exact gw3 | exact gwe rfl | exact gwf rfl | exact gwg rfl | exact gwh rfl | omega) (gg_f (gf_cons rfl (gf_cons rfl (gf_cons rfl (gf_cons rfl (gf_cons rfl gf_nil))))) (ct44 33 sc29 (Int32.ofInt 0) (Int32.ofInt 0) w29_2_4 w29_2_0 hIc29 hFc29 (in_w 0 1 (in_c 0 rfl) rfl) (in_w 0 19 i32 rfl) (in_w 0 32 (in_c 0 rfl) rfl) v29_2_4 v29_2_0 n44 (m_in 33 (in_w 0 32 (in_c 0 rfl) rfl) rfl)))
  refine g_enter2 (k := 113) (N := 681322) (by first | exact dq1 hd rfl | exact dq0 hd rfl | exact dq2 hd rfl | exact dq3 hd rfl | omega) rfl (Nat.le_of_ble_eq_true rfl) ?_
  refine g_aload_n 1 (gd rfl) rfl rfl ?_
  refine g_getI 4 (gd rfl) rfl rfl rfl (fun z1 e1 => ?_)
  have i1 := inv_F hI (-1) 4000 rfl e1
  refine g_aload_n 5 (gd rfl) rfl rfl ?_
  refine g_getI 8 (gd rfl) rfl rfl rfl (fun z5 e5 => ?_)
  have q5 : u_2_0 = z5 := (e_2_0).trans e5.symm
  subst q5
  refine g_cmp_ne 11 12 (gd rfl) rfl rfl (fun c8 => ?_) (fun c8 => ?_)
  · skip
    refine g_aload_n 13 (gd rfl) rfl rfl ?_
    refine g_aload_n 14 (gd rfl) rfl rfl ?_
    refine g_getI 17 (gd rfl) rfl rfl rfl (fun z14 e14 => ?_)
    have q14 : u_2_0 = z14 := (e_2_0).trans e14.symm
    subst q14
    refine g_putI 20 (gd rfl) rfl rfl rfl rfl ?_
    have hI17 := inv_sF (q := 86) (j := 4) hI rfl (in_w (-1) 4000 ro_2_0 rfl)
    refine g_aload_n 21 (gd rfl) rfl rfl ?_
    refine g_aload_n 22 (gd rfl) rfl rfl ?_
    refine g_callv (X := _) (As := [.ref (A 2)]) (r := []) (b := A 86) (q := 86) 25 (gd rfl) rfl rfl rfl rfl rfl (ww_o rfl) (Nat.le_of_ble_eq_true rfl) (Nat.zero_le _) (Nat.zero_le _) (k_114_86_2 (by first | exact dq1 hd rfl | exact dq0 hd rfl | exact dq2 hd rfl | exact dq3 hd rfl | omega) hI17 ) (fun e u h => h) (fun v u h => ?_)
    obtain ⟨s22, hI22, hF22, n22, rfl, rfl⟩ := h
    obtain ⟨z22a, e22⟩ : ∃ w, w = s22.2.2.1 2 4 := ⟨_, rfl⟩
    have i22a := inv_F hI22 (-1) 4000 rfl e22
    rw [← (show z22a = s22.2.2.1 2 4 from e22)] at n22
    rw [← (show u_2_0 = s22.2.2.1 2 0 from fr_F (s := (sF s 86 4 u_2_0)) (sF_ne rfl (e_2_0)) hF22 rfl)] at n22
    show GG _ _ _ _ _ _ _ _ [] _ _ _
    refine g_iconst 1 26 (gd rfl) rfl rfl ?_
    refine g_istore_n 27 (gd rfl) rfl (Nat.le_of_ble_eq_true rfl) ?_
    refine g_iconst 0 28 (gd rfl) rfl rfl ?_
    refine g_istore_n 29 (gd rfl) rfl (Nat.le_of_ble_eq_true rfl) ?_
    have v29 : u_2_0 = s22.2.2.1 2 0 := fr_F (s := (sF s 86 4 u_2_0)) (sF_ne rfl (e_2_0)) hF22 rfl
    have n29 : (z22a).toInt = (u_2_0).toInt := by have a0 := oa5 ro_2_1 ro_2_0 ((in_c 0 rfl)) ((in_c 1 rfl)) i22a; omega
    exact gg_w (by first | exact Nat.le_of_ble_eq_true rfl | omega) (gg_f (gf_cons rfl (gf_cons rfl (gf_cons rfl (gf_cons rfl gf_nil)))) (ct29 21 s22 (Int32.ofInt 1) (Int32.ofInt 0) z22a u_2_0 hI22 (fr_tr rfl (fr_sF rfl fr_rf) hF22) (in_w 0 1 (in_c 1 rfl) rfl) (in_w 0 20 (in_c 0 rfl) rfl) e22 v29 n29 (m_in 21 (in_w 0 20 (in_c 0 rfl) rfl) rfl)))
  · skip
    have i8 := r_eq1 0 4000 c8 i1 ro_2_0 rfl
    exact g_return (gd rfl) rfl (hP _ _ ⟨s, hI, fr_rf, rfl, rfl⟩)

def fm_113_86_32 : FM := ([39, 40, 41, 42, 43, 44, 45, 89, 90, 91, 92, 93], [], [(32, 4), (86, 4), (86, 5)], [])
/-- GraphHouse$Groups.settle -/
theorem k_113_86_32 {Z : AmZ} {A : Nat → Nat} {s : GS} {ex : va_W} {d : Nat} {X : AmX}  (hd : 6 ≤ d) (hI : Inv s)  : GC Z d 113 [.ref (A 86), .ref (A 32)] (WW Z A s ++ ex) 0 0 (fun v u => ∃ t : GS, Inv t ∧ Fr fm_113_86_32 s t ∧ v = none ∧ u = WW Z A t ++ ex) X := by
  intro post xp hP hX
  obtain ⟨u_32_0, e_32_0⟩ : ∃ w, w = s.2.2.1 32 0 := ⟨_, rfl⟩
  have ro_32_0 := inv_F hI 0 4000 rfl e_32_0
  obtain ⟨u_32_1, e_32_1⟩ : ∃ w, w = s.2.2.1 32 1 := ⟨_, rfl⟩
  have ro_32_1 := inv_F hI 0 32 rfl e_32_1
  have ct29 : ∀ (k29 : Nat) (sc29 : GS) (y29_2 : Int32) (y29_3 : Int32) (w29_32_4 : Int32) (w29_32_0 : Int32), Inv sc29 → Fr fm_113_86_32 s sc29 → (In y29_2 0 1) → (In y29_3 0 20) → (w29_32_4 = sc29.2.2.1 32 4) → (w29_32_0 = sc29.2.2.1 32 0) → ((w29_32_4).toInt = (w29_32_0).toInt) → 20 - (y29_3).toInt < (k29 : Int) → GG Z (d - 1) 113 post (gx xp) (1 + k29 * 32401) 29 (fun j => xlook j [(0, .ref (A 86)), (1, .ref (A 32)), (2, .int y29_2), (3, .int y29_3)]) [] (WW Z A sc29 ++ ex) 0 0 := by
    intro k29
    induction k29 with
    | zero => intro sc29 y29_2 y29_3 w29_32_4 w29_32_0 hIc29 hFc29 j29_2 j29_3 v29_32_4 v29_32_0 n29_0 mm29; exact m_no mm29 j29_3 rfl
    | succ k29 ih29 =>
      intro sc29 y29_2 y29_3 w29_32_4 w29_32_0 hIc29 hFc29 j29_2 j29_3 v29_32_4 v29_32_0 n29_0 mm29
      refine gg_w (M := 1 + k29 * 32401 + 32401) gws ?_
      have ct44 : ∀ (k44 : Nat) (sc44 : GS) (y44_2 : Int32) (y44_4 : Int32) (w44_32_4 : Int32) (w44_32_0 : Int32), Inv sc44 → Fr fm_113_86_32 s sc44 → (In y44_2 0 1) → (In y29_3 0 19) → (In y44_4 0 32) → (w44_32_4 = sc44.2.2.1 32 4) → (w44_32_0 = sc44.2.2.1 32 0) → ((w44_32_4).toInt = (w44_32_0).toInt) → 32 - (y44_4).toInt < (k44 : Int) → GG Z (d - 1) 113 post (gx xp) (1 + k29 * 32401 + 1 + k44 * 900) 44 (fun j => xlook j [(0, .ref (A 86)), (1, .ref (A 32)), (2, .int y44_2), (3, .int y29_3), (4, .int y44_4)]) [] (WW Z A sc44 ++ ex) 0 0 := by
        intro k44
        induction k44 with
        | zero => intro sc44 y44_2 y44_4 w44_32_4 w44_32_0 hIc44 hFc44 j44_2 j44_3 j44_4 v44_32_4 v44_32_0 n44_0 mm44; exact m_no mm44 j44_4 rfl
        | succ k44 ih44 =>
          intro sc44 y44_2 y44_4 w44_32_4 w44_32_0 hIc44 hFc44 j44_2 j44_3 j44_4 v44_32_4 v44_32_0 n44_0 mm44
          refine gg_w (M := 1 + k29 * 32401 + 1 + k44 * 900 + 900) gws ?_
          refine g_iload 46 (gd rfl) rfl rfl ?_
          refine g_aload_n 47 (gd rfl) rfl rfl ?_
          refine g_getI 50 (gd rfl) rfl rfl rfl (fun z47 e47 => ?_)
          have q47 : u_32_1 = z47 := (fr_F e_32_1 hFc44 rfl).trans e47.symm
          subst q47
          refine g_cmp_ge 53 69 (gd rfl) rfl rfl (fun c50 => ?_) (fun c50 => ?_)
          · skip
            refine g_iinc 72 (gd rfl) rfl rfl (Nat.le_of_ble_eq_true rfl) (fun z69 e69 => ?_)
            have i69 := in_add 1 20 e69 j44_3 (in_c 1 rfl) rfl rfl
            refine g_goto 29 (gd rfl) rfl ?_
            have n29 : (w44_32_4).toInt = (w44_32_0).toInt := by first | exact n44_0 | (have a0 := oa7 j44_3 ro_32_1 ((inv_F hIc44 0 4000 rfl v44_32_0)) ((inv_F hIc44 (-1) 4000 rfl v44_32_4)) j44_4 j44_2 i69; have a7 := t_add e69 j44_3 (in_c 1 rfl) rfl; have a8 := in_u ((in_c 1 rfl)); omega)
            exact gg_w (by first | exact Nat.le_add_right _ _ | exact gw2 | exact gw3 | exact gwe rfl | exact gwf rfl | exact gwg rfl | exact gwh rfl | omega) (gg_f (gf_cons rfl (gf_cons rfl (gf_cons rfl (gf_cons rfl gf_nil)))) (ih29 sc44 y44_2 z69 w44_32_4 w44_32_0 hIc44 hFc44 (in_w 0 1 j44_2 rfl) (in_w 0 20 i69 rfl) v44_32_4 v44_32_0 n29 (m_up mm29 (t_add e69 j44_3 (in_c 1 rfl) rfl) (in_w 1 1 (in_c 1 rfl) rfl))))
          · skip
            have i50 := r_lt1 0 31 c50 j44_4 ro_32_1 rfl
            have i50a := r_lt2 1 32 c50 j44_4 ro_32_1 rfl
            refine g_iload_n 54 (gd rfl) rfl rfl ?_
            refine g_aload_n 55 (gd rfl) rfl rfl ?_
            refine g_aload_n 56 (gd rfl) rfl rfl ?_
            refine g_iload 58 (gd rfl) rfl rfl ?_
            have n58 : (w44_32_4).toInt = (w44_32_0).toInt := by first | exact n44_0 | (have a0 := oa6 j44_3 i50a ((inv_F hIc44 0 4000 rfl v44_32_0)) ((inv_F hIc44 (-1) 4000 rfl v44_32_4)) i50 j44_2; omega)
            refine g_callv (X := _) (As := [.ref (A 32), .int y44_4]) (r := [.int y44_2]) (b := A 86) (q := 86) 61 (gd rfl) rfl rfl rfl rfl rfl (ww_o rfl) (Nat.le_of_ble_eq_true rfl) (Nat.zero_le _) (Nat.zero_le _) (k_115_86_32 (by first | exact dq1 hd rfl | exact dq0 hd rfl | exact dq2 hd rfl | exact dq3 hd rfl | omega) hIc44 (in_w 0 31 i50 rfl) v44_32_4 v44_32_0 n58) (fun e u h => h) (fun v u h => ?_)
            obtain ⟨s58, hI58, hF58, z58, rfl, rfl, i58⟩ := h
            show GG _ _ _ _ _ _ _ _ [.int z58, .int y44_2] _ _ _
            refine g_ior 62 (gd rfl) rfl (fun z61 e61 => ?_)
            have i61 := in_or 1 e61 (in_w 0 1 j44_2 rfl) (in_w 0 1 i58 rfl) rfl
            refine g_istore_n 63 (gd rfl) rfl (Nat.le_of_ble_eq_true rfl) ?_
            refine g_iinc 66 (gd rfl) rfl rfl (Nat.le_of_ble_eq_true rfl) (fun z63 e63 => ?_)
            have i63 := in_add 1 32 e63 i50 (in_c 1 rfl) rfl rfl
            refine g_goto 44 (gd rfl) rfl ?_
            have v44 : w44_32_4 = s58.2.2.1 32 4 := fr_F (v44_32_4) hF58 rfl
            have v44a : w44_32_0 = s58.2.2.1 32 0 := fr_F (v44_32_0) hF58 rfl
            have n44 : (w44_32_4).toInt = (w44_32_0).toInt := by first | exact n44_0 | (have a0 := oa7 j44_3 i50a ((inv_F hIc44 0 4000 rfl v44_32_0)) ((inv_F hIc44 (-1) 4000 rfl v44_32_4)) i50 j44_2 i63; have a7 := t_add e63 i50 (in_c 1 rfl) rfl; have a8 := oa2 ((in_c 1 rfl)) i61; omega)
            exact gg_w (by first | exact Nat.le_add_right _ _ | exact gw2 | exact gw3 | exact gwe rfl | exact gwf rfl | exact gwg rfl | exact gwh rfl | omega) (gg_f (gf_cons rfl (gf_cons rfl (gf_cons rfl (gf_cons rfl (gf_cons rfl gf_nil))))) (ih44 s58 z61 z63 w44_32_4 w44_32_0 hI58 (fr_tr rfl hFc44 hF58) (in_w 0 1 i61 rfl) (in_w 0 19 j44_3 rfl) (in_w 0 32 i63 rfl) v44 v44a n44 (m_up mm44 (t_add e63 i50 (in_c 1 rfl) rfl) (in_w 1 1 (in_c 1 rfl) rfl))))
      refine g_iload_n 30 (gd rfl) rfl rfl ?_
      refine g_bipush 20 32 (gd rfl) rfl rfl ?_
      refine g_cmp_ge 35 75 (gd rfl) rfl rfl (fun c32 => ?_) (fun c32 => ?_)
      · skip
        have i32 := r_le2 20 20 c32 (in_c 20 rfl) j29_3 rfl
        exact g_return (gd rfl) rfl (hP _ _ ⟨sc29, hIc29, hFc29, rfl, rfl⟩)
      · skip
        have i32 := r_lt1 0 19 c32 j29_3 (in_c 20 rfl) rfl
        refine g_iload_n 36 (gd rfl) rfl rfl ?_
        refine g_if_eq 39 75 (gd rfl) rfl rfl (fun c36 => ?_) (fun c36 => ?_)
        · skip
          have i36 := z_eq 0 0 c36 j29_2 rfl
          exact g_return (gd rfl) rfl (hP _ _ ⟨sc29, hIc29, hFc29, rfl, rfl⟩)
        · skip
          have i36 := z_ne 1 1 c36 j29_2 rfl
          refine g_iconst 0 40 (gd rfl) rfl rfl ?_
          refine g_istore_n 41 (gd rfl) rfl (Nat.le_of_ble_eq_true rfl) ?_
          refine g_iconst 0 42 (gd rfl) rfl rfl ?_
          refine g_istore 44 (gd rfl) rfl (Nat.le_of_ble_eq_true rfl) ?_
          have n44 : (w29_32_4).toInt = (w29_32_0).toInt := by first | exact n29_0 | (have a0 := oa6 ro_32_1 ((inv_F hIc29 0 4000 rfl v29_32_0)) ((inv_F hIc29 (-1) 4000 rfl v29_32_4)) i32 i36 ((in_c 0 rfl)); omega)
          exact gg_w (by first | exact Nat.le_add_right _ _ | exact gw2 | exact gw3 | exact gwe rfl | exact gwf rfl | exact gwg rfl | exact gwh rfl | omega) (gg_f (gf_cons rfl (gf_cons rfl (gf_cons rfl (gf_cons rfl (gf_cons rfl gf_nil))))) (ct44 33 sc29 (Int32.ofInt 0) (Int32.ofInt 0) w29_32_4 w29_32_0 hIc29 hFc29 (in_w 0 1 (in_c 0 rfl) rfl) (in_w 0 19 i32 rfl) (in_w 0 32 (in_c 0 rfl) rfl) v29_32_4 v29_32_0 n44 (m_in 33 (in_w 0 32 (in_c 0 rfl) rfl) rfl)))
  refine g_enter2 (k := 113) (N := 681322) (by first | exact dq1 hd rfl | exact dq0 hd rfl | exact dq2 hd rfl | exact dq3 hd rfl | omega) rfl (Nat.le_of_ble_eq_true rfl) ?_
  refine g_aload_n 1 (gd rfl) rfl rfl ?_
  refine g_getI 4 (gd rfl) rfl rfl rfl (fun z1 e1 => ?_)
  have i1 := inv_F hI (-1) 4000 rfl e1
  refine g_aload_n 5 (gd rfl) rfl rfl ?_
  refine g_getI 8 (gd rfl) rfl rfl rfl (fun z5 e5 => ?_)
  have q5 : u_32_0 = z5 := (e_32_0).trans e5.symm
  subst q5
  refine g_cmp_ne 11 12 (gd rfl) rfl rfl (fun c8 => ?_) (fun c8 => ?_)
  · skip
    refine g_aload_n 13 (gd rfl) rfl rfl ?_
    refine g_aload_n 14 (gd rfl) rfl rfl ?_
    refine g_getI 17 (gd rfl) rfl rfl rfl (fun z14 e14 => ?_)
    have q14 : u_32_0 = z14 := (e_32_0).trans e14.symm
    subst q14
    refine g_putI 20 (gd rfl) rfl rfl rfl rfl ?_
    have hI17 := inv_sF (q := 86) (j := 4) hI rfl (in_w (-1) 4000 ro_32_0 rfl)
    refine g_aload_n 21 (gd rfl) rfl rfl ?_
    refine g_aload_n 22 (gd rfl) rfl rfl ?_
    refine g_callv (X := _) (As := [.ref (A 32)]) (r := []) (b := A 86) (q := 86) 25 (gd rfl) rfl rfl rfl rfl rfl (ww_o rfl) (Nat.le_of_ble_eq_true rfl) (Nat.zero_le _) (Nat.zero_le _) (k_114_86_32 (by first | exact dq1 hd rfl | exact dq0 hd rfl | exact dq2 hd rfl | exact dq3 hd rfl | omega) hI17 ) (fun e u h => h) (fun v u h => ?_)
    obtain ⟨s22, hI22, hF22, n22, rfl, rfl⟩ := h
    obtain ⟨z22a, e22⟩ : ∃ w, w = s22.2.2.1 32 4 := ⟨_, rfl⟩
    have i22a := inv_F hI22 (-1) 4000 rfl e22
    rw [← (show z22a = s22.2.2.1 32 4 from e22)] at n22
    rw [← (show u_32_0 = s22.2.2.1 32 0 from fr_F (s := (sF s 86 4 u_32_0)) (sF_ne rfl (e_32_0)) hF22 rfl)] at n22
    show GG _ _ _ _ _ _ _ _ [] _ _ _
    refine g_iconst 1 26 (gd rfl) rfl rfl ?_
    refine g_istore_n 27 (gd rfl) rfl (Nat.le_of_ble_eq_true rfl) ?_
    refine g_iconst 0 28 (gd rfl) rfl rfl ?_
    refine g_istore_n 29 (gd rfl) rfl (Nat.le_of_ble_eq_true rfl) ?_
    have v29 : u_32_0 = s22.2.2.1 32 0 := fr_F (s := (sF s 86 4 u_32_0)) (sF_ne rfl (e_32_0)) hF22 rfl
    have n29 : (z22a).toInt = (u_32_0).toInt := by have a0 := oa5 ro_32_1 ro_32_0 ((in_c 0 rfl)) ((in_c 1 rfl)) i22a; omega
    exact gg_w (by first | exact Nat.le_of_ble_eq_true rfl | omega) (gg_f (gf_cons rfl (gf_cons rfl (gf_cons rfl (gf_cons rfl gf_nil)))) (ct29 21 s22 (Int32.ofInt 1) (Int32.ofInt 0) z22a u_32_0 hI22 (fr_tr rfl (fr_sF rfl fr_rf) hF22) (in_w 0 1 (in_c 1 rfl) rfl) (in_w 0 20 (in_c 0 rfl) rfl) e22 v29 n29 (m_in 21 (in_w 0 20 (in_c 0 rfl) rfl) rfl)))
  · skip
    have i8 := r_eq1 0 4000 c8 i1 ro_32_0 rfl
    exact g_return (gd rfl) rfl (hP _ _ ⟨s, hI, fr_rf, rfl, rfl⟩)

def fm_163_94_2 : FM := ([9, 10, 11, 12, 13, 14, 15], [99, 100, 101], [(2, 4)], [])
/-- GraphHouse$Question.leastFit -/
theorem k_163_94_2 {Z : AmZ} {A : Nat → Nat} {s : GS} {ex : va_W} {d : Nat} {X : AmX} {x2 : Int32} {x3 : Int32} (hd : 6 ≤ d) (hI : Inv s) (h2 : In x2 0 31) (h3 : In x3 0 31) : GC Z d 163 [.ref (A 94), .ref (A 2), .int x2, .int x3] (WW Z A s ++ ex) 0 0 (fun v u => ∃ t : GS, Inv t ∧ Fr fm_163_94_2 s t ∧ ∃ z : Int32, v = some (.int z) ∧ u = WW Z A t ++ ex ∧ In z (-1) 1952) X := by
  intro post xp hP hX
  have ct43 : ∀ (k43 : Nat) (sc43 : GS) (y43_4 : Int32), Inv sc43 → Fr fm_163_94_2 s sc43 → (In y43_4 0 2001) → 2001 - (y43_4).toInt < (k43 : Int) → GG Z (d - 1) 163 post (gx xp) (1 + k43 * 900) 43 (fun j => xlook j [(0, .ref (A 94)), (1, .ref (A 2)), (2, .int x2), (3, .int x3), (4, .int y43_4)]) [] (WW Z A sc43 ++ ex) 0 0 := by
    intro k43
    induction k43 with
    | zero => intro sc43 y43_4 hIc43 hFc43 j43_4 mm43; exact m_no mm43 j43_4 rfl
    | succ k43 ih43 =>
      intro sc43 y43_4 hIc43 hFc43 j43_4 mm43
      refine gg_w (M := 1 + k43 * 900 + 900) gws ?_
      refine g_iload 45 (gd rfl) rfl rfl ?_
      refine g_sipush 1952 48 (gd rfl) rfl rfl ?_
      refine g_cmp_gt 51 86 (gd rfl) rfl rfl (fun c48 => ?_) (fun c48 => ?_)
      · skip
        have i48 := r_lt2 1953 2001 c48 (in_c 1952 rfl) j43_4 rfl
        refine g_iconst (-1) 87 (gd rfl) rfl rfl ?_
        exact g_ireturn (gd rfl) rfl rfl (hP _ _ ⟨sc43, hIc43, hFc43, (Int32.ofInt (-1)), rfl, rfl, in_w (-1) 1952 (in_c (-1) rfl) rfl⟩)
      · skip
        have i48 := r_le1 0 1952 c48 j43_4 (in_c 1952 rfl) rfl
        refine g_aload_n 52 (gd rfl) rfl rfl ?_
        refine g_getA (q2 := 101) 55 (gd rfl) rfl rfl rfl rfl ?_
        refine g_iload_n 56 (gd rfl) rfl rfl ?_
        refine g_laload 57 (gd rfl) rfl (n := 32) rfl (in_ix h3 rfl) (fun z56 e56 => ?_)
        have i56 := inv_L hIc43 (n := 32) 0 2305843009213693951 rfl (in_ix h3 rfl) rfl e56
        refine g_aload_n 58 (gd rfl) rfl rfl ?_
        refine g_getL 61 (gd rfl) rfl rfl rfl (fun z58 e58 => ?_)
        have i58 := inv_G hIc43 0 2305843009213693951 rfl e58
        refine g_land 62 (gd rfl) rfl (fun z61 e61 => ?_)
        have i61 := inl_and2 e61 i58 rfl
        refine g_lconst 0 63 (gd rfl) rfl rfl ?_
        refine g_lcmp 64 (gd rfl) rfl (fun z63 e63 => ?_)
        have i63 := lc_in e63
        refine g_if_eq 67 70 (gd rfl) rfl rfl (fun c64 => ?_) (fun c64 => ?_)
        · skip
          have i64 := z_eq 0 0 c64 i63 rfl
          have c64a := lc_eq e63 c64
          have i64a := lr_eq1 0 0 c64a i61 (l_c 0 rfl) rfl
          refine g_aload_n 71 (gd rfl) rfl rfl ?_
          refine g_aload_n 72 (gd rfl) rfl rfl ?_
          refine g_callv (X := _) (As := [.ref (A 2)]) (r := []) (b := A 94) (q := 94) 75 (gd rfl) rfl rfl rfl rfl rfl (ww_o rfl) (Nat.le_of_ble_eq_true rfl) (Nat.zero_le _) (Nat.zero_le _) (k_164_94_2 (by first | exact dq1 hd rfl | exact dq0 hd rfl | exact dq2 hd rfl | exact dq3 hd rfl | omega) hIc43 ) (fun e u h => h) (fun v u h => ?_)
          obtain ⟨s72, hI72, hF72, z72, rfl, rfl, i72⟩ := h
          show GG _ _ _ _ _ _ _ _ [.int z72] _ _ _
          refine g_if_ne 78 80 (gd rfl) rfl rfl (fun c75 => ?_) (fun c75 => ?_)
          · skip
            have i75 := z_ne 1 1 c75 i72 rfl
            refine g_iinc 83 (gd rfl) rfl rfl (Nat.le_of_ble_eq_true rfl) (fun z80 e80 => ?_)
            have i80 := in_add 1 1953 e80 i48 (in_c 1 rfl) rfl rfl
            refine g_goto 43 (gd rfl) rfl ?_
            exact gg_w (by first | exact Nat.le_add_right _ _ | exact gw2 | exact gw3 | exact gwe rfl | exact gwf rfl | exact gwg rfl | exact gwh rfl | omega) (gg_f (gf_cons rfl (gf_cons rfl (gf_cons rfl (gf_cons rfl (gf_cons rfl gf_nil))))) (ih43 s72 z80 hI72 (fr_tr rfl hFc43 hF72) (in_w 0 2001 i80 rfl) (m_up mm43 (t_add e80 i48 (in_c 1 rfl) rfl) (in_w 1 1 (in_c 1 rfl) rfl))))
          · skip
            have i75 := z_eq 0 0 c75 i72 rfl
            refine g_iconst (-1) 79 (gd rfl) rfl rfl ?_
            exact g_ireturn (gd rfl) rfl rfl (hP _ _ ⟨s72, hI72, (fr_tr rfl hFc43 hF72), (Int32.ofInt (-1)), rfl, rfl, in_w (-1) 1952 (in_c (-1) rfl) rfl⟩)
        · skip
          have c64a := lc_ne e63 c64
          have i64 := lr_ne1 1 2305843009213693951 c64a i61 (l_c 0 rfl) rfl
          refine g_iload 69 (gd rfl) rfl rfl ?_
          exact g_ireturn (gd rfl) rfl rfl (hP _ _ ⟨sc43, hIc43, hFc43, y43_4, rfl, rfl, in_w (-1) 1952 i48 rfl⟩)
  refine g_enter2 (k := 163) (N := 1802701) (by first | exact dq1 hd rfl | exact dq0 hd rfl | exact dq2 hd rfl | exact dq3 hd rfl | omega) rfl (Nat.le_of_ble_eq_true rfl) ?_
  refine g_aload_n 1 (gd rfl) rfl rfl ?_
  refine g_callv (X := _) (As := []) (r := []) (b := A 2) (q := 2) 4 (gd rfl) rfl rfl rfl rfl rfl (ww_o rfl) (Nat.le_of_ble_eq_true rfl) (Nat.zero_le _) (Nat.zero_le _) (k_106_2 (by first | exact dq1 hd rfl | exact dq0 hd rfl | exact dq2 hd rfl | exact dq3 hd rfl | omega) hI ) (fun e u h => h) (fun v u h => ?_)
  obtain ⟨s1, hI1, hF1, n1, rfl, rfl⟩ := h
  obtain ⟨z1a, e1⟩ : ∃ w, w = s1.2.2.1 2 4 := ⟨_, rfl⟩
  have i1a := inv_F hI1 (-1) 4000 rfl e1
  obtain ⟨z1b, e1a⟩ : ∃ w, w = s1.2.2.1 2 0 := ⟨_, rfl⟩
  have i1b := inv_F hI1 0 4000 rfl e1a
  rw [← (show z1a = s1.2.2.1 2 4 from e1)] at n1
  rw [← (show z1b = s1.2.2.1 2 0 from e1a)] at n1
  show GG _ _ _ _ _ _ _ _ [] _ _ _
  refine g_aload_n 5 (gd rfl) rfl rfl ?_
  refine g_getA (q2 := 99) 8 (gd rfl) rfl rfl rfl rfl ?_
  refine g_lconst 0 9 (gd rfl) rfl rfl ?_
  refine g_calls (As := [.ref (A 99), .long (Int64.ofInt 0)]) (r := []) 12 (gd rfl) rfl rfl rfl rfl rfl (Nat.le_of_ble_eq_true rfl) (Nat.zero_le _) (Nat.zero_le _) (k_fillL 99 (by first | exact dq1 hd rfl | exact dq0 hd rfl | exact dq2 hd rfl | exact dq3 hd rfl | omega) hI1 (n := 32) rfl rfl rfl (lw 0 2305843009213693951 (l_c 0 rfl) rfl)) (fun v u h => ?_)
  obtain ⟨s9, hI9, hF9, rfl, rfl, fl9⟩ := h
  show GG _ _ _ _ _ _ _ _ [] _ _ _
  refine g_aload_n 13 (gd rfl) rfl rfl ?_
  refine g_getA (q2 := 101) 16 (gd rfl) rfl rfl rfl rfl ?_
  refine g_lconst 0 17 (gd rfl) rfl rfl ?_
  refine g_calls (As := [.ref (A 101), .long (Int64.ofInt 0)]) (r := []) 20 (gd rfl) rfl rfl rfl rfl rfl (Nat.le_of_ble_eq_true rfl) (Nat.zero_le _) (Nat.zero_le _) (k_fillL 101 (by first | exact dq1 hd rfl | exact dq0 hd rfl | exact dq2 hd rfl | exact dq3 hd rfl | omega) hI9 (n := 32) rfl rfl rfl (lw 0 2305843009213693951 (l_c 0 rfl) rfl)) (fun v u h => ?_)
  obtain ⟨s17, hI17, hF17, rfl, rfl, fl17⟩ := h
  show GG _ _ _ _ _ _ _ _ [] _ _ _
  refine g_aload_n 21 (gd rfl) rfl rfl ?_
  refine g_getA (q2 := 99) 24 (gd rfl) rfl rfl rfl rfl ?_
  refine g_iload_n 25 (gd rfl) rfl rfl ?_
  refine g_aload_n 26 (gd rfl) rfl rfl ?_
  refine g_getL 29 (gd rfl) rfl rfl rfl (fun z26 e26 => ?_)
  have i26 := inv_G hI17 0 2305843009213693951 rfl e26
  refine g_lastore 30 (gd rfl) rfl (n := 32) rfl (in_ix h2 rfl) ?_
  have hI29 := inv_sL (q := 99) (j := x2.toNatClampNeg) (x := z26) hI17 rfl (lw 0 2305843009213693951 i26 rfl)
  refine g_aload_n 31 (gd rfl) rfl rfl ?_
  refine g_getA (q2 := 101) 34 (gd rfl) rfl rfl rfl rfl ?_
  refine g_iload_n 35 (gd rfl) rfl rfl ?_
  refine g_aload_n 36 (gd rfl) rfl rfl ?_
  refine g_getL 39 (gd rfl) rfl rfl rfl (fun z36 e36 => ?_)
  have i36 := inv_G hI29 0 2305843009213693951 rfl e36
  refine g_lastore 40 (gd rfl) rfl (n := 32) rfl (in_ix h2 rfl) ?_
  have hI39 := inv_sL (q := 101) (j := x2.toNatClampNeg) (x := z36) hI29 rfl (lw 0 2305843009213693951 i36 rfl)
  refine g_iconst 0 41 (gd rfl) rfl rfl ?_
  refine g_istore 43 (gd rfl) rfl (Nat.le_of_ble_eq_true rfl) ?_
  exact gg_w (by first | exact Nat.le_of_ble_eq_true rfl | omega) (gg_f (gf_cons rfl (gf_cons rfl (gf_cons rfl (gf_cons rfl (gf_cons rfl gf_nil))))) (ct43 2002 (sL (sL s17 99 x2.toNatClampNeg z26) 101 x2.toNatClampNeg z36) (Int32.ofInt 0) hI39 (fr_sL rfl (fr_sL rfl (fr_tr rfl (fr_tr rfl (fr_tr rfl fr_rf hF1) hF9) hF17))) (in_w 0 2001 (in_c 0 rfl) rfl) (m_in 2002 (in_w 0 2001 (in_c 0 rfl) rfl) rfl)))

def fm_163_94_32 : FM := ([39, 40, 41, 42, 43, 44, 45], [99, 100, 101], [(32, 4)], [])
/-- GraphHouse$Question.leastFit -/
theorem k_163_94_32 {Z : AmZ} {A : Nat → Nat} {s : GS} {ex : va_W} {d : Nat} {X : AmX} {x2 : Int32} {x3 : Int32} (hd : 6 ≤ d) (hI : Inv s) (h2 : In x2 0 31) (h3 : In x3 0 31) : GC Z d 163 [.ref (A 94), .ref (A 32), .int x2, .int x3] (WW Z A s ++ ex) 0 0 (fun v u => ∃ t : GS, Inv t ∧ Fr fm_163_94_32 s t ∧ ∃ z : Int32, v = some (.int z) ∧ u = WW Z A t ++ ex ∧ In z (-1) 1952) X := by
  intro post xp hP hX
  have ct43 : ∀ (k43 : Nat) (sc43 : GS) (y43_4 : Int32), Inv sc43 → Fr fm_163_94_32 s sc43 → (In y43_4 0 2001) → 2001 - (y43_4).toInt < (k43 : Int) → GG Z (d - 1) 163 post (gx xp) (1 + k43 * 900) 43 (fun j => xlook j [(0, .ref (A 94)), (1, .ref (A 32)), (2, .int x2), (3, .int x3), (4, .int y43_4)]) [] (WW Z A sc43 ++ ex) 0 0 := by
    intro k43
    induction k43 with
    | zero => intro sc43 y43_4 hIc43 hFc43 j43_4 mm43; exact m_no mm43 j43_4 rfl
    | succ k43 ih43 =>
      intro sc43 y43_4 hIc43 hFc43 j43_4 mm43
      refine gg_w (M := 1 + k43 * 900 + 900) gws ?_
      refine g_iload 45 (gd rfl) rfl rfl ?_
      refine g_sipush 1952 48 (gd rfl) rfl rfl ?_
      refine g_cmp_gt 51 86 (gd rfl) rfl rfl (fun c48 => ?_) (fun c48 => ?_)
      · skip
        have i48 := r_lt2 1953 2001 c48 (in_c 1952 rfl) j43_4 rfl
        refine g_iconst (-1) 87 (gd rfl) rfl rfl ?_
        exact g_ireturn (gd rfl) rfl rfl (hP _ _ ⟨sc43, hIc43, hFc43, (Int32.ofInt (-1)), rfl, rfl, in_w (-1) 1952 (in_c (-1) rfl) rfl⟩)
      · skip
        have i48 := r_le1 0 1952 c48 j43_4 (in_c 1952 rfl) rfl
        refine g_aload_n 52 (gd rfl) rfl rfl ?_
        refine g_getA (q2 := 101) 55 (gd rfl) rfl rfl rfl rfl ?_
        refine g_iload_n 56 (gd rfl) rfl rfl ?_
        refine g_laload 57 (gd rfl) rfl (n := 32) rfl (in_ix h3 rfl) (fun z56 e56 => ?_)
        have i56 := inv_L hIc43 (n := 32) 0 2305843009213693951 rfl (in_ix h3 rfl) rfl e56
        refine g_aload_n 58 (gd rfl) rfl rfl ?_
        refine g_getL 61 (gd rfl) rfl rfl rfl (fun z58 e58 => ?_)
        have i58 := inv_G hIc43 0 2305843009213693951 rfl e58
        refine g_land 62 (gd rfl) rfl (fun z61 e61 => ?_)
        have i61 := inl_and2 e61 i58 rfl
        refine g_lconst 0 63 (gd rfl) rfl rfl ?_
        refine g_lcmp 64 (gd rfl) rfl (fun z63 e63 => ?_)
        have i63 := lc_in e63
        refine g_if_eq 67 70 (gd rfl) rfl rfl (fun c64 => ?_) (fun c64 => ?_)
        · skip
          have i64 := z_eq 0 0 c64 i63 rfl
          have c64a := lc_eq e63 c64
          have i64a := lr_eq1 0 0 c64a i61 (l_c 0 rfl) rfl
          refine g_aload_n 71 (gd rfl) rfl rfl ?_
          refine g_aload_n 72 (gd rfl) rfl rfl ?_
          refine g_callv (X := _) (As := [.ref (A 32)]) (r := []) (b := A 94) (q := 94) 75 (gd rfl) rfl rfl rfl rfl rfl (ww_o rfl) (Nat.le_of_ble_eq_true rfl) (Nat.zero_le _) (Nat.zero_le _) (k_164_94_32 (by first | exact dq1 hd rfl | exact dq0 hd rfl | exact dq2 hd rfl | exact dq3 hd rfl | omega) hIc43 ) (fun e u h => h) (fun v u h => ?_)
          obtain ⟨s72, hI72, hF72, z72, rfl, rfl, i72⟩ := h
          show GG _ _ _ _ _ _ _ _ [.int z72] _ _ _
          refine g_if_ne 78 80 (gd rfl) rfl rfl (fun c75 => ?_) (fun c75 => ?_)
          · skip
            have i75 := z_ne 1 1 c75 i72 rfl
            refine g_iinc 83 (gd rfl) rfl rfl (Nat.le_of_ble_eq_true rfl) (fun z80 e80 => ?_)
            have i80 := in_add 1 1953 e80 i48 (in_c 1 rfl) rfl rfl
            refine g_goto 43 (gd rfl) rfl ?_
            exact gg_w (by first | exact Nat.le_add_right _ _ | exact gw2 | exact gw3 | exact gwe rfl | exact gwf rfl | exact gwg rfl | exact gwh rfl | omega) (gg_f (gf_cons rfl (gf_cons rfl (gf_cons rfl (gf_cons rfl (gf_cons rfl gf_nil))))) (ih43 s72 z80 hI72 (fr_tr rfl hFc43 hF72) (in_w 0 2001 i80 rfl) (m_up mm43 (t_add e80 i48 (in_c 1 rfl) rfl) (in_w 1 1 (in_c 1 rfl) rfl))))
          · skip
            have i75 := z_eq 0 0 c75 i72 rfl
            refine g_iconst (-1) 79 (gd rfl) rfl rfl ?_
            exact g_ireturn (gd rfl) rfl rfl (hP _ _ ⟨s72, hI72, (fr_tr rfl hFc43 hF72), (Int32.ofInt (-1)), rfl, rfl, in_w (-1) 1952 (in_c (-1) rfl) rfl⟩)
        · skip
          have c64a := lc_ne e63 c64
          have i64 := lr_ne1 1 2305843009213693951 c64a i61 (l_c 0 rfl) rfl
          refine g_iload 69 (gd rfl) rfl rfl ?_
          exact g_ireturn (gd rfl) rfl rfl (hP _ _ ⟨sc43, hIc43, hFc43, y43_4, rfl, rfl, in_w (-1) 1952 i48 rfl⟩)
  refine g_enter2 (k := 163) (N := 1802701) (by first | exact dq1 hd rfl | exact dq0 hd rfl | exact dq2 hd rfl | exact dq3 hd rfl | omega) rfl (Nat.le_of_ble_eq_true rfl) ?_
  refine g_aload_n 1 (gd rfl) rfl rfl ?_
  refine g_callv (X := _) (As := []) (r := []) (b := A 32) (q := 32) 4 (gd rfl) rfl rfl rfl rfl rfl (ww_o rfl) (Nat.le_of_ble_eq_true rfl) (Nat.zero_le _) (Nat.zero_le _) (k_106_32 (by first | exact dq1 hd rfl | exact dq0 hd rfl | exact dq2 hd rfl | exact dq3 hd rfl | omega) hI ) (fun e u h => h) (fun v u h => ?_)
  obtain ⟨s1, hI1, hF1, n1, rfl, rfl⟩ := h
  obtain ⟨z1a, e1⟩ : ∃ w, w = s1.2.2.1 32 4 := ⟨_, rfl⟩
  have i1a := inv_F hI1 (-1) 4000 rfl e1
  obtain ⟨z1b, e1a⟩ : ∃ w, w = s1.2.2.1 32 0 := ⟨_, rfl⟩
  have i1b := inv_F hI1 0 4000 rfl e1a
  rw [← (show z1a = s1.2.2.1 32 4 from e1)] at n1
  rw [← (show z1b = s1.2.2.1 32 0 from e1a)] at n1
  show GG _ _ _ _ _ _ _ _ [] _ _ _
  refine g_aload_n 5 (gd rfl) rfl rfl ?_
  refine g_getA (q2 := 99) 8 (gd rfl) rfl rfl rfl rfl ?_
  refine g_lconst 0 9 (gd rfl) rfl rfl ?_
  refine g_calls (As := [.ref (A 99), .long (Int64.ofInt 0)]) (r := []) 12 (gd rfl) rfl rfl rfl rfl rfl (Nat.le_of_ble_eq_true rfl) (Nat.zero_le _) (Nat.zero_le _) (k_fillL 99 (by first | exact dq1 hd rfl | exact dq0 hd rfl | exact dq2 hd rfl | exact dq3 hd rfl | omega) hI1 (n := 32) rfl rfl rfl (lw 0 2305843009213693951 (l_c 0 rfl) rfl)) (fun v u h => ?_)
  obtain ⟨s9, hI9, hF9, rfl, rfl, fl9⟩ := h
  show GG _ _ _ _ _ _ _ _ [] _ _ _
  refine g_aload_n 13 (gd rfl) rfl rfl ?_
  refine g_getA (q2 := 101) 16 (gd rfl) rfl rfl rfl rfl ?_
  refine g_lconst 0 17 (gd rfl) rfl rfl ?_
  refine g_calls (As := [.ref (A 101), .long (Int64.ofInt 0)]) (r := []) 20 (gd rfl) rfl rfl rfl rfl rfl (Nat.le_of_ble_eq_true rfl) (Nat.zero_le _) (Nat.zero_le _) (k_fillL 101 (by first | exact dq1 hd rfl | exact dq0 hd rfl | exact dq2 hd rfl | exact dq3 hd rfl | omega) hI9 (n := 32) rfl rfl rfl (lw 0 2305843009213693951 (l_c 0 rfl) rfl)) (fun v u h => ?_)
  obtain ⟨s17, hI17, hF17, rfl, rfl, fl17⟩ := h
  show GG _ _ _ _ _ _ _ _ [] _ _ _
  refine g_aload_n 21 (gd rfl) rfl rfl ?_
  refine g_getA (q2 := 99) 24 (gd rfl) rfl rfl rfl rfl ?_
  refine g_iload_n 25 (gd rfl) rfl rfl ?_
  refine g_aload_n 26 (gd rfl) rfl rfl ?_
  refine g_getL 29 (gd rfl) rfl rfl rfl (fun z26 e26 => ?_)
  have i26 := inv_G hI17 0 2305843009213693951 rfl e26
  refine g_lastore 30 (gd rfl) rfl (n := 32) rfl (in_ix h2 rfl) ?_
  have hI29 := inv_sL (q := 99) (j := x2.toNatClampNeg) (x := z26) hI17 rfl (lw 0 2305843009213693951 i26 rfl)
  refine g_aload_n 31 (gd rfl) rfl rfl ?_
  refine g_getA (q2 := 101) 34 (gd rfl) rfl rfl rfl rfl ?_
  refine g_iload_n 35 (gd rfl) rfl rfl ?_
  refine g_aload_n 36 (gd rfl) rfl rfl ?_
  refine g_getL 39 (gd rfl) rfl rfl rfl (fun z36 e36 => ?_)
  have i36 := inv_G hI29 0 2305843009213693951 rfl e36
  refine g_lastore 40 (gd rfl) rfl (n := 32) rfl (in_ix h2 rfl) ?_
  have hI39 := inv_sL (q := 101) (j := x2.toNatClampNeg) (x := z36) hI29 rfl (lw 0 2305843009213693951 i36 rfl)
  refine g_iconst 0 41 (gd rfl) rfl rfl ?_
  refine g_istore 43 (gd rfl) rfl (Nat.le_of_ble_eq_true rfl) ?_
  exact gg_w (by first | exact Nat.le_of_ble_eq_true rfl | omega) (gg_f (gf_cons rfl (gf_cons rfl (gf_cons rfl (gf_cons rfl (gf_cons rfl gf_nil))))) (ct43 2002 (sL (sL s17 99 x2.toNatClampNeg z26) 101 x2.toNatClampNeg z36) (Int32.ofInt 0) hI39 (fr_sL rfl (fr_sL rfl (fr_tr rfl (fr_tr rfl (fr_tr rfl fr_rf hF1) hF9) hF17))) (in_w 0 2001 (in_c 0 rfl) rfl) (m_in 2002 (in_w 0 2001 (in_c 0 rfl) rfl) rfl)))

def fm_189_76_2 : FM := ([], [85], [], [])
/-- GraphHouse$Trees.countTrees -/
theorem k_189_76_2 {Z : AmZ} {A : Nat → Nat} {s : GS} {ex : va_W} {d : Nat} {X : AmX}  (hd : 3 ≤ d) (hI : Inv s)  : GC Z d 189 [.ref (A 76), .ref (A 2)] (WW Z A s ++ ex) 0 0 (fun v u => ∃ t : GS, Inv t ∧ Fr fm_189_76_2 s t ∧ ∃ z : Int32, v = some (.int z) ∧ u = WW Z A t ++ ex ∧ In z (-2147483648) 2147483647) X := by
  intro post xp hP hX
  obtain ⟨u_2_1, e_2_1⟩ : ∃ w, w = s.2.2.1 2 1 := ⟨_, rfl⟩
  have ro_2_1 := inv_F hI 0 32 rfl e_2_1
  obtain ⟨u_2_3, e_2_3⟩ : ∃ w, w = s.2.2.1 2 3 := ⟨_, rfl⟩
  have ro_2_3 := inv_F hI 0 160 rfl e_2_3
  have ct179 : ∀ (k179 : Nat) (sc179 : GS) (y179_2 : Int32) (y179_3 : Int64) (y179_5 : Int32), Inv sc179 → Fr fm_189_76_2 s sc179 → (In y179_2 (-1) 31) → (In y179_5 0 31) → 31 - (y179_5).toInt < (k179 : Int) → GG Z (d - 1) 189 post (gx xp) (1 + k179 * 900) 179 (fun j => xlook j [(0, .ref (A 76)), (1, .ref (A 2)), (2, .int y179_2), (3, .long y179_3), (5, .int y179_5)]) [] (WW Z A sc179 ++ ex) 0 0 := by
    intro k179
    induction k179 with
    | zero => intro sc179 y179_2 y179_3 y179_5 hIc179 hFc179 j179_2 j179_5 mm179; exact m_no mm179 j179_5 rfl
    | succ k179 ih179 =>
      intro sc179 y179_2 y179_3 y179_5 hIc179 hFc179 j179_2 j179_5 mm179
      refine gg_w (M := 1 + k179 * 900 + 900) gws ?_
      refine g_iload 181 (gd rfl) rfl rfl ?_
      refine g_iload_n 182 (gd rfl) rfl rfl ?_
      refine g_cmp_ge 185 211 (gd rfl) rfl rfl (fun c182 => ?_) (fun c182 => ?_)
      · skip
        refine g_lload_n 212 (gd rfl) rfl rfl ?_
        refine g_l2i 213 (gd rfl) rfl (fun z212 e212 => ?_)
        exact g_ireturn (gd rfl) rfl rfl (hP _ _ ⟨sc179, hIc179, hFc179, z212, rfl, rfl, in_w (-2147483648) 2147483647 (i_rng z212) rfl⟩)
      · skip
        have i182 := r_lt1 0 30 c182 j179_5 j179_2 rfl
        have i182a := r_lt2 1 31 c182 j179_5 j179_2 rfl
        refine g_lload_n 186 (gd rfl) rfl rfl ?_
        refine g_lconst 0 187 (gd rfl) rfl rfl ?_
        refine g_lcmp 188 (gd rfl) rfl (fun z187 e187 => ?_)
        have i187 := lc_in e187
        refine g_if_eq 191 211 (gd rfl) rfl rfl (fun c188 => ?_) (fun c188 => ?_)
        · skip
          have i188 := z_eq 0 0 c188 i187 rfl
          have c188a := lc_eq e187 c188
          have i188a := lr_eq1 0 0 c188a (l_rng y179_3) (l_c 0 rfl) rfl
          refine g_lload_n 212 (gd rfl) rfl rfl ?_
          refine g_l2i 213 (gd rfl) rfl (fun z212 e212 => ?_)
          exact g_ireturn (gd rfl) rfl rfl (hP _ _ ⟨sc179, hIc179, hFc179, z212, rfl, rfl, in_w (-2147483648) 2147483647 (i_rng z212) rfl⟩)
        · skip
          have c188a := lc_ne e187 c188
          refine g_lload_n 192 (gd rfl) rfl rfl ?_
          refine g_aload_n 193 (gd rfl) rfl rfl ?_
          refine g_iload 195 (gd rfl) rfl rfl ?_
          refine g_iload_n 196 (gd rfl) rfl rfl ?_
          refine g_callv (X := _) (As := [.int y179_5, .int y179_2]) (r := [.long y179_3]) (b := A 76) (q := 76) 199 (gd rfl) rfl rfl rfl rfl rfl (ww_o rfl) (Nat.le_of_ble_eq_true rfl) (Nat.zero_le _) (Nat.zero_le _) (k_190_76 (by first | exact dq1 hd rfl | exact dq0 hd rfl | exact dq2 hd rfl | exact dq3 hd rfl | omega) hIc179 (in_w 0 30 i182 rfl) (in_w 1 31 i182a rfl)) (fun e u h => h) (fun v u h => ?_)
          obtain ⟨s196, hI196, hF196, z196, rfl, rfl⟩ := h
          show GG _ _ _ _ _ _ _ _ [.long z196, .long y179_3] _ _ _
          refine g_lmul 200 (gd rfl) rfl (fun z199 e199 => ?_)
          refine g_ldc2_w 1000000007 203 (gd rfl) rfl rfl ?_
          refine g_lrem 204 (gd rfl) rfl (by decide) (fun z203 e203 => ?_)
          have i203 := l_rem (-1000000006) 1000000006 e203 rfl
          refine g_lstore_n 205 (gd rfl) rfl (Nat.le_of_ble_eq_true rfl) ?_
          refine g_iinc 208 (gd rfl) rfl rfl (Nat.le_of_ble_eq_true rfl) (fun z205 e205 => ?_)
          have i205 := in_add 1 31 e205 i182 (in_c 1 rfl) rfl rfl
          refine g_goto 179 (gd rfl) rfl ?_
          exact gg_w (by first | exact Nat.le_add_right _ _ | exact gw2 | exact gw3 | exact gwe rfl | exact gwf rfl | exact gwg rfl | exact gwh rfl | omega) (gg_f (gf_cons rfl (gf_cons rfl (gf_cons rfl (gf_cons rfl (gf_cons rfl gf_nil))))) (ih179 s196 y179_2 z203 z205 hI196 (fr_tr rfl hFc179 hF196) (in_w (-1) 31 i182a rfl) (in_w 0 31 i205 rfl) (m_up mm179 (t_add e205 i182 (in_c 1 rfl) rfl) (in_w 1 1 (in_c 1 rfl) rfl))))
  have ct134 : ∀ (k134 : Nat) (sc134 : GS) (y134_2 : Int32), Inv sc134 → Fr fm_189_76_2 s sc134 → (In y134_2 0 2001) → 2001 - (y134_2).toInt < (k134 : Int) → GG Z (d - 1) 189 post (gx xp) (28802 + k134 * 900) 134 (fun j => xlook j [(0, .ref (A 76)), (1, .ref (A 2)), (2, .int y134_2)]) [] (WW Z A sc134 ++ ex) 0 0 := by
    intro k134
    induction k134 with
    | zero => intro sc134 y134_2 hIc134 hFc134 j134_2 mm134; exact m_no mm134 j134_2 rfl
    | succ k134 ih134 =>
      intro sc134 y134_2 hIc134 hFc134 j134_2 mm134
      refine gg_w (M := 28802 + k134 * 900 + 900) gws ?_
      refine g_iload_n 135 (gd rfl) rfl rfl ?_
      refine g_aload_n 136 (gd rfl) rfl rfl ?_
      refine g_getA (q2 := 85) 139 (gd rfl) rfl rfl rfl rfl ?_
      refine g_alen (n := 1024) (t := 1) 1024 140 (gd rfl) rfl rfl (Nat.le_of_ble_eq_true rfl) rfl ?_
      refine g_cmp_ge 143 167 (gd rfl) rfl rfl (fun c140 => ?_) (fun c140 => ?_)
      · skip
        have i140 := r_le2 1024 2001 c140 (in_c 1024 rfl) j134_2 rfl
        refine g_aload_n 168 (gd rfl) rfl rfl ?_
        refine g_getI 171 (gd rfl) rfl rfl rfl (fun z168 e168 => ?_)
        have q168 : u_2_1 = z168 := (fr_F e_2_1 hFc134 rfl).trans e168.symm
        subst q168
        refine g_iconst 1 172 (gd rfl) rfl rfl ?_
        refine g_isub 173 (gd rfl) rfl (fun z172 e172 => ?_)
        have i172 := in_sub (-1) 31 e172 ro_2_1 (in_c 1 rfl) rfl rfl
        refine g_istore_n 174 (gd rfl) rfl (Nat.le_of_ble_eq_true rfl) ?_
        refine g_lconst 1 175 (gd rfl) rfl rfl ?_
        refine g_lstore_n 176 (gd rfl) rfl (Nat.le_of_ble_eq_true rfl) ?_
        refine g_iconst 0 177 (gd rfl) rfl rfl ?_
        refine g_istore 179 (gd rfl) rfl (Nat.le_of_ble_eq_true rfl) ?_
        exact gg_w (by first | exact Nat.le_add_right _ _ | exact gw2 | exact gw3 | exact gwe rfl | exact gwf rfl | exact gwg rfl | exact gwh rfl | omega) (gg_f (gf_cons rfl (gf_cons rfl (gf_cons rfl (gf_cons rfl (gf_cons rfl gf_nil))))) (ct179 32 sc134 z172 (Int64.ofInt 1) (Int32.ofInt 0) hIc134 hFc134 (in_w (-1) 31 i172 rfl) (in_w 0 31 (in_c 0 rfl) rfl) (m_in 32 (in_w 0 31 (in_c 0 rfl) rfl) rfl)))
      · skip
        have i140 := r_lt1 0 1023 c140 j134_2 (in_c 1024 rfl) rfl
        refine g_aload_n 144 (gd rfl) rfl rfl ?_
        refine g_getA (q2 := 85) 147 (gd rfl) rfl rfl rfl rfl ?_
        refine g_iload_n 148 (gd rfl) rfl rfl ?_
        refine g_aload_n 149 (gd rfl) rfl rfl ?_
        refine g_getA (q2 := 85) 152 (gd rfl) rfl rfl rfl rfl ?_
        refine g_iload_n 153 (gd rfl) rfl rfl ?_
        refine g_laload 154 (gd rfl) rfl (n := 1024) rfl (in_ix i140 rfl) (fun z153 e153 => ?_)
        refine g_ldc2_w 1000000007 157 (gd rfl) rfl rfl ?_
        refine g_calls (As := [.long z153, .long (Int64.ofInt 1000000007)]) (r := [.int y134_2, .ref (A 85)]) 160 (gd rfl) rfl rfl rfl rfl rfl (Nat.le_of_ble_eq_true rfl) (mc := 0) (ms := 0) (Nat.zero_le _) (Nat.zero_le _) (P := fun v u => _) ?_ (fun v u h => h)
        intro po157 xx157 hp157 hx157
        refine g_enter2 (k := 419) (N := 300) (by first | exact dq1 hd rfl | exact dq0 hd rfl | exact dq2 hd rfl | exact dq3 hd rfl | omega) rfl (Nat.le_of_ble_eq_true rfl) ?_
        refine g_lload_n 1 (gd rfl) rfl rfl ?_
        refine g_lload_n 2 (gd rfl) rfl rfl ?_
        refine g_lrem 3 (gd rfl) rfl (by decide) (fun z157x2 e157x2 => ?_)
        have i157x2 := l_rem (-1000000006) 1000000006 e157x2 rfl
        refine g_lstore 5 (gd rfl) rfl (Nat.le_of_ble_eq_true rfl) ?_
        refine g_lload_n 6 (gd rfl) rfl rfl ?_
        refine g_lload_n 7 (gd rfl) rfl rfl ?_
        refine g_lxor 8 (gd rfl) rfl (fun z157x7 e157x7 => ?_)
        refine g_lconst 0 9 (gd rfl) rfl rfl ?_
        refine g_lcmp 10 (gd rfl) rfl (fun z157x9 e157x9 => ?_)
        have i157x9 := lc_in e157x9
        refine g_if_ge 13 25 (gd rfl) rfl rfl (fun c157x10 => ?_) (fun c157x10 => ?_)
        · skip
          have i157x10 := z_ge 0 1 c157x10 i157x9 rfl
          have c157x10a := lc_ge e157x9 c157x10
          have i157x10a := lr_le2 0 9223372036854775807 c157x10a (l_c 0 rfl) (l_rng z157x7) rfl
          refine g_lload 27 (gd rfl) rfl rfl ?_
          refine g_lreturn (gd rfl) rfl (hp157 _ _ ?_)
          show GG _ _ _ _ _ _ _ _ [.long z157x2, .int y134_2, .ref (A 85)] _ _ _
          refine g_lastore 161 (gd rfl) rfl (n := 1024) rfl (in_ix i140 rfl) ?_
          have hI160 := inv_sL (q := 85) (j := y134_2.toNatClampNeg) (x := z157x2) hIc134 rfl (l_rng z157x2)
          refine g_iinc 164 (gd rfl) rfl rfl (Nat.le_of_ble_eq_true rfl) (fun z161 e161 => ?_)
          have i161 := in_add 1 1024 e161 i140 (in_c 1 rfl) rfl rfl
          refine g_goto 134 (gd rfl) rfl ?_
          exact gg_w (by first | exact Nat.le_add_right _ _ | exact gw2 | exact gw3 | exact gwe rfl | exact gwf rfl | exact gwg rfl | exact gwh rfl | omega) (gg_f (gf_cons rfl (gf_cons rfl (gf_cons rfl gf_nil))) (ih134 (sL sc134 85 y134_2.toNatClampNeg z157x2) z161 hI160 (fr_sL rfl hFc134) (in_w 0 2001 i161 rfl) (m_up mm134 (t_add e161 i140 (in_c 1 rfl) rfl) (in_w 1 1 (in_c 1 rfl) rfl))))
        · skip
          have i157x10 := z_lt (-1) (-1) c157x10 i157x9 rfl
          have c157x10a := lc_lt e157x9 c157x10
          have i157x10a := lr_lt1 (-9223372036854775808) (-1) c157x10a (l_rng z157x7) (l_c 0 rfl) rfl
          refine g_lload 15 (gd rfl) rfl rfl ?_
          refine g_lconst 0 16 (gd rfl) rfl rfl ?_
          refine g_lcmp 17 (gd rfl) rfl (fun z157x16 e157x16 => ?_)
          have i157x16 := lc_in e157x16
          refine g_if_eq 20 25 (gd rfl) rfl rfl (fun c157x17 => ?_) (fun c157x17 => ?_)
          · skip
            have i157x17 := z_eq 0 0 c157x17 i157x16 rfl
            have c157x17a := lc_eq e157x16 c157x17
            have i157x17a := lr_eq1 0 0 c157x17a i157x2 (l_c 0 rfl) rfl
            refine g_lload 27 (gd rfl) rfl rfl ?_
            refine g_lreturn (gd rfl) rfl (hp157 _ _ ?_)
            show GG _ _ _ _ _ _ _ _ [.long z157x2, .int y134_2, .ref (A 85)] _ _ _
            refine g_lastore 161 (gd rfl) rfl (n := 1024) rfl (in_ix i140 rfl) ?_
            have hI160 := inv_sL (q := 85) (j := y134_2.toNatClampNeg) (x := z157x2) hIc134 rfl (l_rng z157x2)
            refine g_iinc 164 (gd rfl) rfl rfl (Nat.le_of_ble_eq_true rfl) (fun z161 e161 => ?_)
            have i161 := in_add 1 1024 e161 i140 (in_c 1 rfl) rfl rfl
            refine g_goto 134 (gd rfl) rfl ?_
            exact gg_w (by first | exact Nat.le_add_right _ _ | exact gw2 | exact gw3 | exact gwe rfl | exact gwf rfl | exact gwg rfl | exact gwh rfl | omega) (gg_f (gf_cons rfl (gf_cons rfl (gf_cons rfl gf_nil))) (ih134 (sL sc134 85 y134_2.toNatClampNeg z157x2) z161 hI160 (fr_sL rfl hFc134) (in_w 0 2001 i161 rfl) (m_up mm134 (t_add e161 i140 (in_c 1 rfl) rfl) (in_w 1 1 (in_c 1 rfl) rfl))))
          · skip
            have c157x17a := lc_ne e157x16 c157x17
            refine g_lload 22 (gd rfl) rfl rfl ?_
            refine g_lload_n 23 (gd rfl) rfl rfl ?_
            refine g_ladd 24 (gd rfl) rfl (fun z157x23 e157x23 => ?_)
            have i157x23 := l_add 1 2000000013 e157x23 i157x2 (l_c 1000000007 rfl) rfl
            refine g_lreturn (gd rfl) rfl (hp157 _ _ ?_)
            show GG _ _ _ _ _ _ _ _ [.long z157x23, .int y134_2, .ref (A 85)] _ _ _
            refine g_lastore 161 (gd rfl) rfl (n := 1024) rfl (in_ix i140 rfl) ?_
            have hI160 := inv_sL (q := 85) (j := y134_2.toNatClampNeg) (x := z157x23) hIc134 rfl (l_rng z157x23)
            refine g_iinc 164 (gd rfl) rfl rfl (Nat.le_of_ble_eq_true rfl) (fun z161 e161 => ?_)
            have i161 := in_add 1 1024 e161 i140 (in_c 1 rfl) rfl rfl
            refine g_goto 134 (gd rfl) rfl ?_
            exact gg_w (by first | exact Nat.le_add_right _ _ | exact gw2 | exact gw3 | exact gwe rfl | exact gwf rfl | exact gwg rfl | exact gwh rfl | omega) (gg_f (gf_cons rfl (gf_cons rfl (gf_cons rfl gf_nil))) (ih134 (sL sc134 85 y134_2.toNatClampNeg z157x23) z161 hI160 (fr_sL rfl hFc134) (in_w 0 2001 i161 rfl) (m_up mm134 (t_add e161 i140 (in_c 1 rfl) rfl) (in_w 1 1 (in_c 1 rfl) rfl))))
  have ct10 : ∀ (k10 : Nat) (sc10 : GS) (y10_2 : Int32), Inv sc10 → Fr fm_189_76_2 s sc10 → (In y10_2 0 160) → 160 - (y10_2).toInt < (k10 : Int) → GG Z (d - 1) 189 post (gx xp) (1830603 + k10 * 900) 10 (fun j => xlook j [(0, .ref (A 76)), (1, .ref (A 2)), (2, .int y10_2)]) [] (WW Z A sc10 ++ ex) 0 0 := by
    intro k10
    induction k10 with
    | zero => intro sc10 y10_2 hIc10 hFc10 j10_2 mm10; exact m_no mm10 j10_2 rfl
    | succ k10 ih10 =>
      intro sc10 y10_2 hIc10 hFc10 j10_2 mm10
      refine gg_w (M := 1830603 + k10 * 900 + 900) gws ?_
      refine g_iload_n 11 (gd rfl) rfl rfl ?_
      refine g_aload_n 12 (gd rfl) rfl rfl ?_
      refine g_getI 15 (gd rfl) rfl rfl rfl (fun z12 e12 => ?_)
      have q12 : u_2_3 = z12 := (fr_F e_2_3 hFc10 rfl).trans e12.symm
      subst q12
      refine g_cmp_ge 18 132 (gd rfl) rfl rfl (fun c15 => ?_) (fun c15 => ?_)
      · skip
        refine g_iconst 0 133 (gd rfl) rfl rfl ?_
        refine g_istore_n 134 (gd rfl) rfl (Nat.le_of_ble_eq_true rfl) ?_
        exact gg_w (by first | exact Nat.le_add_right _ _ | exact gw2 | exact gw3 | exact gwe rfl | exact gwf rfl | exact gwg rfl | exact gwh rfl | omega) (gg_f (gf_cons rfl (gf_cons rfl (gf_cons rfl gf_nil))) (ct134 2002 sc10 (Int32.ofInt 0) hIc10 hFc10 (in_w 0 2001 (in_c 0 rfl) rfl) (m_in 2002 (in_w 0 2001 (in_c 0 rfl) rfl) rfl)))
      · skip
        have i15 := r_lt1 0 159 c15 j10_2 ro_2_3 rfl
        have i15a := r_lt2 1 160 c15 j10_2 ro_2_3 rfl
        refine g_aload_n 19 (gd rfl) rfl rfl ?_
        refine g_iload_n 20 (gd rfl) rfl rfl ?_
        refine g_callv (X := _) (As := [.int y10_2]) (r := []) (b := A 2) (q := 2) 23 (gd rfl) rfl rfl rfl rfl rfl (ww_o rfl) (Nat.le_of_ble_eq_true rfl) (mc := 0) (ms := 0) (Nat.zero_le _) (Nat.zero_le _) (P := fun v u => _) ?_ (fun e u h => h) (fun v u h => h)
        intro po20 xx20 hp20 hx20
        refine g_enter2 (k := 97) (N := 300) (by first | exact dq1 hd rfl | exact dq0 hd rfl | exact dq2 hd rfl | exact dq3 hd rfl | omega) rfl (Nat.le_of_ble_eq_true rfl) ?_
        refine g_aload_n 1 (gd rfl) rfl rfl ?_
        refine g_getA (q2 := 4) 4 (gd rfl) rfl rfl rfl rfl ?_
        refine g_iload_n 5 (gd rfl) rfl rfl ?_
        refine g_iaload 6 (gd rfl) rfl (n := 160) rfl (in_ix i15 rfl) (fun z20x5 e20x5 => ?_)
        have i20x5 := inv_I hIc10 (n := 160) (t := 0) (-1) 31 rfl (in_ix i15 rfl) rfl e20x5
        refine g_iconst (-1) 7 (gd rfl) rfl rfl ?_
        refine g_cmp_eq 10 29 (gd rfl) rfl rfl (fun c20x7 => ?_) (fun c20x7 => ?_)
        · skip
          have i20x7 := r_eq1 (-1) (-1) c20x7 i20x5 (in_c (-1) rfl) rfl
          refine g_iconst 0 30 (gd rfl) rfl rfl ?_
          refine g_ireturn (gd rfl) rfl (nb01 (in_w 0 1 (in_c 0 rfl) rfl)) (hp20 _ _ ?_)
          show GG _ _ _ _ _ _ _ _ [.int (Int32.ofInt 0)] _ _ _
          refine g_if_eq 26 126 (gd rfl) rfl rfl (fun c23 => ?_) (fun c23 => ?_)
          · skip
            refine g_iinc 129 (gd rfl) rfl rfl (Nat.le_of_ble_eq_true rfl) (fun z126 e126 => ?_)
            have i126 := in_add 1 160 e126 i15 (in_c 1 rfl) rfl rfl
            refine g_goto 10 (gd rfl) rfl ?_
            exact gg_w (by first | exact Nat.le_add_right _ _ | exact gw2 | exact gw3 | exact gwe rfl | exact gwf rfl | exact gwg rfl | exact gwh rfl | omega) (gg_f (gf_cons rfl (gf_cons rfl (gf_cons rfl gf_nil))) (ih10 sc10 z126 hIc10 hFc10 (in_w 0 160 i126 rfl) (m_up mm10 (t_add e126 i15 (in_c 1 rfl) rfl) (in_w 1 1 (in_c 1 rfl) rfl))))
          · skip
            exact zn_ne c23 (in_c 0 rfl) rfl
        · skip
          have i20x7 := r_ne1 0 31 c20x7 i20x5 (in_c (-1) rfl) rfl
          refine g_aload_n 11 (gd rfl) rfl rfl ?_
          refine g_getA (q2 := 4) 14 (gd rfl) rfl rfl rfl rfl ?_
          refine g_iload_n 15 (gd rfl) rfl rfl ?_
          refine g_iaload 16 (gd rfl) rfl (n := 160) rfl (in_ix i15 rfl) (fun z20x15 e20x15 => ?_)
          have q20x15 : z20x5 = z20x15 := (e20x5).trans e20x15.symm
          subst q20x15
          refine g_aload_n 17 (gd rfl) rfl rfl ?_
          refine g_getA (q2 := 5) 20 (gd rfl) rfl rfl rfl rfl ?_
          refine g_iload_n 21 (gd rfl) rfl rfl ?_
          refine g_iaload 22 (gd rfl) rfl (n := 160) rfl (in_ix i15 rfl) (fun z20x21 e20x21 => ?_)
          have i20x21 := inv_I hIc10 (n := 160) (t := 0) 0 31 rfl (in_ix i15 rfl) rfl e20x21
          refine g_cmp_eq 25 29 (gd rfl) rfl rfl (fun c20x22 => ?_) (fun c20x22 => ?_)
          · skip
            refine g_iconst 0 30 (gd rfl) rfl rfl ?_
            refine g_ireturn (gd rfl) rfl (nb01 (in_w 0 1 (in_c 0 rfl) rfl)) (hp20 _ _ ?_)
            show GG _ _ _ _ _ _ _ _ [.int (Int32.ofInt 0)] _ _ _
            refine g_if_eq 26 126 (gd rfl) rfl rfl (fun c23 => ?_) (fun c23 => ?_)
            · skip
              refine g_iinc 129 (gd rfl) rfl rfl (Nat.le_of_ble_eq_true rfl) (fun z126 e126 => ?_)
              have i126 := in_add 1 160 e126 i15 (in_c 1 rfl) rfl rfl
              refine g_goto 10 (gd rfl) rfl ?_
              exact gg_w (by first | exact Nat.le_add_right _ _ | exact gw2 | exact gw3 | exact gwe rfl | exact gwf rfl | exact gwg rfl | exact gwh rfl | omega) (gg_f (gf_cons rfl (gf_cons rfl (gf_cons rfl gf_nil))) (ih10 sc10 z126 hIc10 hFc10 (in_w 0 160 i126 rfl) (m_up mm10 (t_add e126 i15 (in_c 1 rfl) rfl) (in_w 1 1 (in_c 1 rfl) rfl))))
            · skip
              exact zn_ne c23 (in_c 0 rfl) rfl
          · skip
            refine g_iconst 1 26 (gd rfl) rfl rfl ?_
            refine g_goto 30 (gd rfl) rfl ?_
            refine g_ireturn (gd rfl) rfl (nb01 (in_w 0 1 (in_c 1 rfl) rfl)) (hp20 _ _ ?_)
            show GG _ _ _ _ _ _ _ _ [.int (Int32.ofInt 1)] _ _ _
            refine g_if_eq 26 126 (gd rfl) rfl rfl (fun c23 => ?_) (fun c23 => ?_)
            · skip
              exact zn_eq c23 (in_c 1 rfl) rfl
            · skip
              refine g_aload_n 27 (gd rfl) rfl rfl ?_
              refine g_getA (q2 := 85) 30 (gd rfl) rfl rfl rfl rfl ?_
              refine g_aload_n 31 (gd rfl) rfl rfl ?_
              refine g_getA (q2 := 4) 34 (gd rfl) rfl rfl rfl rfl ?_
              refine g_iload_n 35 (gd rfl) rfl rfl ?_
              refine g_iaload 36 (gd rfl) rfl (n := 160) rfl (in_ix i15 rfl) (fun z35 e35 => ?_)
              have q35 : z20x5 = z35 := (e20x5).trans e35.symm
              subst q35
              refine g_bipush 32 38 (gd rfl) rfl rfl ?_
              refine g_imul 39 (gd rfl) rfl (fun z38 e38 => ?_)
              have i38 := in_mulc 32 0 992 (Or.inr e38) i20x7 rfl rfl
              refine g_aload_n 40 (gd rfl) rfl rfl ?_
              refine g_getA (q2 := 4) 43 (gd rfl) rfl rfl rfl rfl ?_
              refine g_iload_n 44 (gd rfl) rfl rfl ?_
              refine g_iaload 45 (gd rfl) rfl (n := 160) rfl (in_ix i15 rfl) (fun z44 e44 => ?_)
              have q44 : z20x5 = z44 := (e20x5).trans e44.symm
              subst q44
              refine g_iadd 46 (gd rfl) rfl (fun z45 e45 => ?_)
              have i45 := in_add 0 1023 e45 i38 i20x7 rfl rfl
              refine g_dup2 47 (gd rfl) rfl rfl rfl ?_
              refine g_laload 48 (gd rfl) rfl (n := 1024) rfl (in_ix i45 rfl) (fun z47 e47 => ?_)
              refine g_lconst 1 49 (gd rfl) rfl rfl ?_
              refine g_ladd 50 (gd rfl) rfl (fun z49 e49 => ?_)
              refine g_lastore 51 (gd rfl) rfl (n := 1024) rfl (in_ix i45 rfl) ?_
              have hI50 := inv_sL (q := 85) (j := z45.toNatClampNeg) (x := z49) hIc10 rfl (l_rng z49)
              refine g_aload_n 52 (gd rfl) rfl rfl ?_
              refine g_getA (q2 := 85) 55 (gd rfl) rfl rfl rfl rfl ?_
              refine g_aload_n 56 (gd rfl) rfl rfl ?_
              refine g_getA (q2 := 5) 59 (gd rfl) rfl rfl rfl rfl ?_
              refine g_iload_n 60 (gd rfl) rfl rfl ?_
              refine g_iaload 61 (gd rfl) rfl (n := 160) rfl (in_ix i15 rfl) (fun z60 e60 => ?_)
              have q60 : z20x21 = z60 := (sL_I (e20x21)).trans e60.symm
              subst q60
              refine g_bipush 32 63 (gd rfl) rfl rfl ?_
              refine g_imul 64 (gd rfl) rfl (fun z63 e63 => ?_)
              have i63 := in_mulc 32 0 992 (Or.inr e63) i20x21 rfl rfl
              refine g_aload_n 65 (gd rfl) rfl rfl ?_
              refine g_getA (q2 := 5) 68 (gd rfl) rfl rfl rfl rfl ?_
              refine g_iload_n 69 (gd rfl) rfl rfl ?_
              refine g_iaload 70 (gd rfl) rfl (n := 160) rfl (in_ix i15 rfl) (fun z69 e69 => ?_)
              have q69 : z20x21 = z69 := (sL_I (e20x21)).trans e69.symm
              subst q69
              refine g_iadd 71 (gd rfl) rfl (fun z70 e70 => ?_)
              have i70 := in_add 0 1023 e70 i63 i20x21 rfl rfl
              refine g_dup2 72 (gd rfl) rfl rfl rfl ?_
              refine g_laload 73 (gd rfl) rfl (n := 1024) rfl (in_ix i70 rfl) (fun z72 e72 => ?_)
              refine g_lconst 1 74 (gd rfl) rfl rfl ?_
              refine g_ladd 75 (gd rfl) rfl (fun z74 e74 => ?_)
              refine g_lastore 76 (gd rfl) rfl (n := 1024) rfl (in_ix i70 rfl) ?_
              have hI75 := inv_sL (q := 85) (j := z70.toNatClampNeg) (x := z74) hI50 rfl (l_rng z74)
              refine g_aload_n 77 (gd rfl) rfl rfl ?_
              refine g_getA (q2 := 85) 80 (gd rfl) rfl rfl rfl rfl ?_
              refine g_aload_n 81 (gd rfl) rfl rfl ?_
              refine g_getA (q2 := 4) 84 (gd rfl) rfl rfl rfl rfl ?_
              refine g_iload_n 85 (gd rfl) rfl rfl ?_
              refine g_iaload 86 (gd rfl) rfl (n := 160) rfl (in_ix i15 rfl) (fun z85 e85 => ?_)
              have q85 : z20x5 = z85 := (sL_I (sL_I (e20x5))).trans e85.symm
              subst q85
              refine g_bipush 32 88 (gd rfl) rfl rfl ?_
              refine g_imul 89 (gd rfl) rfl (fun z88 e88 => ?_)
              have i88 := in_mulc 32 0 992 (Or.inr e88) i20x7 rfl rfl
              refine g_aload_n 90 (gd rfl) rfl rfl ?_
              refine g_getA (q2 := 5) 93 (gd rfl) rfl rfl rfl rfl ?_
              refine g_iload_n 94 (gd rfl) rfl rfl ?_
              refine g_iaload 95 (gd rfl) rfl (n := 160) rfl (in_ix i15 rfl) (fun z94 e94 => ?_)
              have q94 : z20x21 = z94 := (sL_I (sL_I (e20x21))).trans e94.symm
              subst q94
              refine g_iadd 96 (gd rfl) rfl (fun z95 e95 => ?_)
              have i95 := in_add 0 1023 e95 i88 i20x21 rfl rfl
              refine g_dup2 97 (gd rfl) rfl rfl rfl ?_
              refine g_laload 98 (gd rfl) rfl (n := 1024) rfl (in_ix i95 rfl) (fun z97 e97 => ?_)
              refine g_lconst 1 99 (gd rfl) rfl rfl ?_
              refine g_lsub 100 (gd rfl) rfl (fun z99 e99 => ?_)
              refine g_lastore 101 (gd rfl) rfl (n := 1024) rfl (in_ix i95 rfl) ?_
              have hI100 := inv_sL (q := 85) (j := z95.toNatClampNeg) (x := z99) hI75 rfl (l_rng z99)
              refine g_aload_n 102 (gd rfl) rfl rfl ?_
              refine g_getA (q2 := 85) 105 (gd rfl) rfl rfl rfl rfl ?_
              refine g_aload_n 106 (gd rfl) rfl rfl ?_
              refine g_getA (q2 := 5) 109 (gd rfl) rfl rfl rfl rfl ?_
              refine g_iload_n 110 (gd rfl) rfl rfl ?_
              refine g_iaload 111 (gd rfl) rfl (n := 160) rfl (in_ix i15 rfl) (fun z110 e110 => ?_)
              have q110 : z20x21 = z110 := (sL_I (sL_I (sL_I (e20x21)))).trans e110.symm
              subst q110
              refine g_bipush 32 113 (gd rfl) rfl rfl ?_
              refine g_imul 114 (gd rfl) rfl (fun z113 e113 => ?_)
              have i113 := in_mulc 32 0 992 (Or.inr e113) i20x21 rfl rfl
              refine g_aload_n 115 (gd rfl) rfl rfl ?_
              refine g_getA (q2 := 4) 118 (gd rfl) rfl rfl rfl rfl ?_
              refine g_iload_n 119 (gd rfl) rfl rfl ?_
              refine g_iaload 120 (gd rfl) rfl (n := 160) rfl (in_ix i15 rfl) (fun z119 e119 => ?_)
              have q119 : z20x5 = z119 := (sL_I (sL_I (sL_I (e20x5)))).trans e119.symm
              subst q119
              refine g_iadd 121 (gd rfl) rfl (fun z120 e120 => ?_)
              have i120 := in_add 0 1023 e120 i113 i20x7 rfl rfl
              refine g_dup2 122 (gd rfl) rfl rfl rfl ?_
              refine g_laload 123 (gd rfl) rfl (n := 1024) rfl (in_ix i120 rfl) (fun z122 e122 => ?_)
              refine g_lconst 1 124 (gd rfl) rfl rfl ?_
              refine g_lsub 125 (gd rfl) rfl (fun z124 e124 => ?_)
              refine g_lastore 126 (gd rfl) rfl (n := 1024) rfl (in_ix i120 rfl) ?_
              have hI125 := inv_sL (q := 85) (j := z120.toNatClampNeg) (x := z124) hI100 rfl (l_rng z124)
              refine g_iinc 129 (gd rfl) rfl rfl (Nat.le_of_ble_eq_true rfl) (fun z126 e126 => ?_)
              have i126 := in_add 1 160 e126 i15 (in_c 1 rfl) rfl rfl
              refine g_goto 10 (gd rfl) rfl ?_
              exact gg_w (by first | exact Nat.le_add_right _ _ | exact gw2 | exact gw3 | exact gwe rfl | exact gwf rfl | exact gwg rfl | exact gwh rfl | omega) (gg_f (gf_cons rfl (gf_cons rfl (gf_cons rfl gf_nil))) (ih10 (sL (sL (sL (sL sc10 85 z45.toNatClampNeg z49) 85 z70.toNatClampNeg z74) 85 z95.toNatClampNeg z99) 85 z120.toNatClampNeg z124) z126 hI125 (fr_sL rfl (fr_sL rfl (fr_sL rfl (fr_sL rfl hFc10)))) (in_w 0 160 i126 rfl) (m_up mm10 (t_add e126 i15 (in_c 1 rfl) rfl) (in_w 1 1 (in_c 1 rfl) rfl))))
  refine g_enter2 (k := 189) (N := 1976403) (by first | exact dq1 hd rfl | exact dq0 hd rfl | exact dq2 hd rfl | exact dq3 hd rfl | omega) rfl (Nat.le_of_ble_eq_true rfl) ?_
  refine g_aload_n 1 (gd rfl) rfl rfl ?_
  refine g_getA (q2 := 85) 4 (gd rfl) rfl rfl rfl rfl ?_
  refine g_lconst 0 5 (gd rfl) rfl rfl ?_
  refine g_calls (As := [.ref (A 85), .long (Int64.ofInt 0)]) (r := []) 8 (gd rfl) rfl rfl rfl rfl rfl (Nat.le_of_ble_eq_true rfl) (Nat.zero_le _) (Nat.zero_le _) (k_fillL 85 (by first | exact dq1 hd rfl | exact dq0 hd rfl | exact dq2 hd rfl | exact dq3 hd rfl | omega) hI (n := 1024) rfl rfl rfl (l_rng (Int64.ofInt 0))) (fun v u h => ?_)
  obtain ⟨s5, hI5, hF5, rfl, rfl, fl5⟩ := h
  show GG _ _ _ _ _ _ _ _ [] _ _ _
  refine g_iconst 0 9 (gd rfl) rfl rfl ?_
  refine g_istore_n 10 (gd rfl) rfl (Nat.le_of_ble_eq_true rfl) ?_
  exact gg_w (by first | exact Nat.le_of_ble_eq_true rfl | omega) (gg_f (gf_cons rfl (gf_cons rfl (gf_cons rfl gf_nil))) (ct10 161 s5 (Int32.ofInt 0) hI5 (fr_tr rfl fr_rf hF5) (in_w 0 160 (in_c 0 rfl) rfl) (m_in 161 (in_w 0 160 (in_c 0 rfl) rfl) rfl)))

def fm_189_76_32 : FM := ([], [85], [], [])
/-- GraphHouse$Trees.countTrees -/
theorem k_189_76_32 {Z : AmZ} {A : Nat → Nat} {s : GS} {ex : va_W} {d : Nat} {X : AmX}  (hd : 3 ≤ d) (hI : Inv s)  : GC Z d 189 [.ref (A 76), .ref (A 32)] (WW Z A s ++ ex) 0 0 (fun v u => ∃ t : GS, Inv t ∧ Fr fm_189_76_32 s t ∧ ∃ z : Int32, v = some (.int z) ∧ u = WW Z A t ++ ex ∧ In z (-2147483648) 2147483647) X := by
  intro post xp hP hX
  obtain ⟨u_32_1, e_32_1⟩ : ∃ w, w = s.2.2.1 32 1 := ⟨_, rfl⟩
  have ro_32_1 := inv_F hI 0 32 rfl e_32_1
  obtain ⟨u_32_3, e_32_3⟩ : ∃ w, w = s.2.2.1 32 3 := ⟨_, rfl⟩
  have ro_32_3 := inv_F hI 0 160 rfl e_32_3
  have ct179 : ∀ (k179 : Nat) (sc179 : GS) (y179_2 : Int32) (y179_3 : Int64) (y179_5 : Int32), Inv sc179 → Fr fm_189_76_32 s sc179 → (In y179_2 (-1) 31) → (In y179_5 0 31) → 31 - (y179_5).toInt < (k179 : Int) → GG Z (d - 1) 189 post (gx xp) (1 + k179 * 900) 179 (fun j => xlook j [(0, .ref (A 76)), (1, .ref (A 32)), (2, .int y179_2), (3, .long y179_3), (5, .int y179_5)]) [] (WW Z A sc179 ++ ex) 0 0 := by
    intro k179
    induction k179 with
    | zero => intro sc179 y179_2 y179_3 y179_5 hIc179 hFc179 j179_2 j179_5 mm179; exact m_no mm179 j179_5 rfl
    | succ k179 ih179 =>
      intro sc179 y179_2 y179_3 y179_5 hIc179 hFc179 j179_2 j179_5 mm179
      refine gg_w (M := 1 + k179 * 900 + 900) gws ?_
      refine g_iload 181 (gd rfl) rfl rfl ?_
      refine g_iload_n 182 (gd rfl) rfl rfl ?_
      refine g_cmp_ge 185 211 (gd rfl) rfl rfl (fun c182 => ?_) (fun c182 => ?_)
      · skip
        refine g_lload_n 212 (gd rfl) rfl rfl ?_
        refine g_l2i 213 (gd rfl) rfl (fun z212 e212 => ?_)
        exact g_ireturn (gd rfl) rfl rfl (hP _ _ ⟨sc179, hIc179, hFc179, z212, rfl, rfl, in_w (-2147483648) 2147483647 (i_rng z212) rfl⟩)
      · skip
        have i182 := r_lt1 0 30 c182 j179_5 j179_2 rfl
        have i182a := r_lt2 1 31 c182 j179_5 j179_2 rfl
        refine g_lload_n 186 (gd rfl) rfl rfl ?_
        refine g_lconst 0 187 (gd rfl) rfl rfl ?_
        refine g_lcmp 188 (gd rfl) rfl (fun z187 e187 => ?_)
        have i187 := lc_in e187
        refine g_if_eq 191 211 (gd rfl) rfl rfl (fun c188 => ?_) (fun c188 => ?_)
        · skip
          have i188 := z_eq 0 0 c188 i187 rfl
          have c188a := lc_eq e187 c188
          have i188a := lr_eq1 0 0 c188a (l_rng y179_3) (l_c 0 rfl) rfl
          refine g_lload_n 212 (gd rfl) rfl rfl ?_
          refine g_l2i 213 (gd rfl) rfl (fun z212 e212 => ?_)
          exact g_ireturn (gd rfl) rfl rfl (hP _ _ ⟨sc179, hIc179, hFc179, z212, rfl, rfl, in_w (-2147483648) 2147483647 (i_rng z212) rfl⟩)
        · skip
          have c188a := lc_ne e187 c188
          refine g_lload_n 192 (gd rfl) rfl rfl ?_
          refine g_aload_n 193 (gd rfl) rfl rfl ?_
          refine g_iload 195 (gd rfl) rfl rfl ?_
          refine g_iload_n 196 (gd rfl) rfl rfl ?_
          refine g_callv (X := _) (As := [.int y179_5, .int y179_2]) (r := [.long y179_3]) (b := A 76) (q := 76) 199 (gd rfl) rfl rfl rfl rfl rfl (ww_o rfl) (Nat.le_of_ble_eq_true rfl) (Nat.zero_le _) (Nat.zero_le _) (k_190_76 (by first | exact dq1 hd rfl | exact dq0 hd rfl | exact dq2 hd rfl | exact dq3 hd rfl | omega) hIc179 (in_w 0 30 i182 rfl) (in_w 1 31 i182a rfl)) (fun e u h => h) (fun v u h => ?_)
          obtain ⟨s196, hI196, hF196, z196, rfl, rfl⟩ := h
          show GG _ _ _ _ _ _ _ _ [.long z196, .long y179_3] _ _ _
          refine g_lmul 200 (gd rfl) rfl (fun z199 e199 => ?_)
          refine g_ldc2_w 1000000007 203 (gd rfl) rfl rfl ?_
          refine g_lrem 204 (gd rfl) rfl (by decide) (fun z203 e203 => ?_)
          have i203 := l_rem (-1000000006) 1000000006 e203 rfl
          refine g_lstore_n 205 (gd rfl) rfl (Nat.le_of_ble_eq_true rfl) ?_
          refine g_iinc 208 (gd rfl) rfl rfl (Nat.le_of_ble_eq_true rfl) (fun z205 e205 => ?_)
          have i205 := in_add 1 31 e205 i182 (in_c 1 rfl) rfl rfl
          refine g_goto 179 (gd rfl) rfl ?_
          exact gg_w (by first | exact Nat.le_add_right _ _ | exact gw2 | exact gw3 | exact gwe rfl | exact gwf rfl | exact gwg rfl | exact gwh rfl | omega) (gg_f (gf_cons rfl (gf_cons rfl (gf_cons rfl (gf_cons rfl (gf_cons rfl gf_nil))))) (ih179 s196 y179_2 z203 z205 hI196 (fr_tr rfl hFc179 hF196) (in_w (-1) 31 i182a rfl) (in_w 0 31 i205 rfl) (m_up mm179 (t_add e205 i182 (in_c 1 rfl) rfl) (in_w 1 1 (in_c 1 rfl) rfl))))
  have ct134 : ∀ (k134 : Nat) (sc134 : GS) (y134_2 : Int32), Inv sc134 → Fr fm_189_76_32 s sc134 → (In y134_2 0 2001) → 2001 - (y134_2).toInt < (k134 : Int) → GG Z (d - 1) 189 post (gx xp) (28802 + k134 * 900) 134 (fun j => xlook j [(0, .ref (A 76)), (1, .ref (A 32)), (2, .int y134_2)]) [] (WW Z A sc134 ++ ex) 0 0 := by
    intro k134
    induction k134 with
    | zero => intro sc134 y134_2 hIc134 hFc134 j134_2 mm134; exact m_no mm134 j134_2 rfl
    | succ k134 ih134 =>
      intro sc134 y134_2 hIc134 hFc134 j134_2 mm134
      refine gg_w (M := 28802 + k134 * 900 + 900) gws ?_
      refine g_iload_n 135 (gd rfl) rfl rfl ?_
      refine g_aload_n 136 (gd rfl) rfl rfl ?_
      refine g_getA (q2 := 85) 139 (gd rfl) rfl rfl rfl rfl ?_
      refine g_alen (n := 1024) (t := 1) 1024 140 (gd rfl) rfl rfl (Nat.le_of_ble_eq_true rfl) rfl ?_
      refine g_cmp_ge 143 167 (gd rfl) rfl rfl (fun c140 => ?_) (fun c140 => ?_)
      · skip
        have i140 := r_le2 1024 2001 c140 (in_c 1024 rfl) j134_2 rfl
        refine g_aload_n 168 (gd rfl) rfl rfl ?_
        refine g_getI 171 (gd rfl) rfl rfl rfl (fun z168 e168 => ?_)
        have q168 : u_32_1 = z168 := (fr_F e_32_1 hFc134 rfl).trans e168.symm
        subst q168
        refine g_iconst 1 172 (gd rfl) rfl rfl ?_
        refine g_isub 173 (gd rfl) rfl (fun z172 e172 => ?_)
        have i172 := in_sub (-1) 31 e172 ro_32_1 (in_c 1 rfl) rfl rfl
        refine g_istore_n 174 (gd rfl) rfl (Nat.le_of_ble_eq_true rfl) ?_
        refine g_lconst 1 175 (gd rfl) rfl rfl ?_
        refine g_lstore_n 176 (gd rfl) rfl (Nat.le_of_ble_eq_true rfl) ?_
        refine g_iconst 0 177 (gd rfl) rfl rfl ?_
        refine g_istore 179 (gd rfl) rfl (Nat.le_of_ble_eq_true rfl) ?_
        exact gg_w (by first | exact Nat.le_add_right _ _ | exact gw2 | exact gw3 | exact gwe rfl | exact gwf rfl | exact gwg rfl | exact gwh rfl | omega) (gg_f (gf_cons rfl (gf_cons rfl (gf_cons rfl (gf_cons rfl (gf_cons rfl gf_nil))))) (ct179 32 sc134 z172 (Int64.ofInt 1) (Int32.ofInt 0) hIc134 hFc134 (in_w (-1) 31 i172 rfl) (in_w 0 31 (in_c 0 rfl) rfl) (m_in 32 (in_w 0 31 (in_c 0 rfl) rfl) rfl)))
      · skip
        have i140 := r_lt1 0 1023 c140 j134_2 (in_c 1024 rfl) rfl
        refine g_aload_n 144 (gd rfl) rfl rfl ?_
        refine g_getA (q2 := 85) 147 (gd rfl) rfl rfl rfl rfl ?_
        refine g_iload_n 148 (gd rfl) rfl rfl ?_
        refine g_aload_n 149 (gd rfl) rfl rfl ?_
        refine g_getA (q2 := 85) 152 (gd rfl) rfl rfl rfl rfl ?_
        refine g_iload_n 153 (gd rfl) rfl rfl ?_
        refine g_laload 154 (gd rfl) rfl (n := 1024) rfl (in_ix i140 rfl) (fun z153 e153 => ?_)
        refine g_ldc2_w 1000000007 157 (gd rfl) rfl rfl ?_
        refine g_calls (As := [.long z153, .long (Int64.ofInt 1000000007)]) (r := [.int y134_2, .ref (A 85)]) 160 (gd rfl) rfl rfl rfl rfl rfl (Nat.le_of_ble_eq_true rfl) (mc := 0) (ms := 0) (Nat.zero_le _) (Nat.zero_le _) (P := fun v u => _) ?_ (fun v u h => h)
        intro po157 xx157 hp157 hx157
        refine g_enter2 (k := 419) (N := 300) (by first | exact dq1 hd rfl | exact dq0 hd rfl | exact dq2 hd rfl | exact dq3 hd rfl | omega) rfl (Nat.le_of_ble_eq_true rfl) ?_
        refine g_lload_n 1 (gd rfl) rfl rfl ?_
        refine g_lload_n 2 (gd rfl) rfl rfl ?_
        refine g_lrem 3 (gd rfl) rfl (by decide) (fun z157x2 e157x2 => ?_)
        have i157x2 := l_rem (-1000000006) 1000000006 e157x2 rfl
        refine g_lstore 5 (gd rfl) rfl (Nat.le_of_ble_eq_true rfl) ?_
        refine g_lload_n 6 (gd rfl) rfl rfl ?_
        refine g_lload_n 7 (gd rfl) rfl rfl ?_
        refine g_lxor 8 (gd rfl) rfl (fun z157x7 e157x7 => ?_)
        refine g_lconst 0 9 (gd rfl) rfl rfl ?_
        refine g_lcmp 10 (gd rfl) rfl (fun z157x9 e157x9 => ?_)
        have i157x9 := lc_in e157x9
        refine g_if_ge 13 25 (gd rfl) rfl rfl (fun c157x10 => ?_) (fun c157x10 => ?_)
        · skip
          have i157x10 := z_ge 0 1 c157x10 i157x9 rfl
          have c157x10a := lc_ge e157x9 c157x10
          have i157x10a := lr_le2 0 9223372036854775807 c157x10a (l_c 0 rfl) (l_rng z157x7) rfl
          refine g_lload 27 (gd rfl) rfl rfl ?_
          refine g_lreturn (gd rfl) rfl (hp157 _ _ ?_)
          show GG _ _ _ _ _ _ _ _ [.long z157x2, .int y134_2, .ref (A 85)] _ _ _
          refine g_lastore 161 (gd rfl) rfl (n := 1024) rfl (in_ix i140 rfl) ?_
          have hI160 := inv_sL (q := 85) (j := y134_2.toNatClampNeg) (x := z157x2) hIc134 rfl (l_rng z157x2)
          refine g_iinc 164 (gd rfl) rfl rfl (Nat.le_of_ble_eq_true rfl) (fun z161 e161 => ?_)
          have i161 := in_add 1 1024 e161 i140 (in_c 1 rfl) rfl rfl
          refine g_goto 134 (gd rfl) rfl ?_
          exact gg_w (by first | exact Nat.le_add_right _ _ | exact gw2 | exact gw3 | exact gwe rfl | exact gwf rfl | exact gwg rfl | exact gwh rfl | omega) (gg_f (gf_cons rfl (gf_cons rfl (gf_cons rfl gf_nil))) (ih134 (sL sc134 85 y134_2.toNatClampNeg z157x2) z161 hI160 (fr_sL rfl hFc134) (in_w 0 2001 i161 rfl) (m_up mm134 (t_add e161 i140 (in_c 1 rfl) rfl) (in_w 1 1 (in_c 1 rfl) rfl))))
        · skip
          have i157x10 := z_lt (-1) (-1) c157x10 i157x9 rfl
          have c157x10a := lc_lt e157x9 c157x10
          have i157x10a := lr_lt1 (-9223372036854775808) (-1) c157x10a (l_rng z157x7) (l_c 0 rfl) rfl
          refine g_lload 15 (gd rfl) rfl rfl ?_
          refine g_lconst 0 16 (gd rfl) rfl rfl ?_
          refine g_lcmp 17 (gd rfl) rfl (fun z157x16 e157x16 => ?_)
          have i157x16 := lc_in e157x16
          refine g_if_eq 20 25 (gd rfl) rfl rfl (fun c157x17 => ?_) (fun c157x17 => ?_)
          · skip
            have i157x17 := z_eq 0 0 c157x17 i157x16 rfl
            have c157x17a := lc_eq e157x16 c157x17
            have i157x17a := lr_eq1 0 0 c157x17a i157x2 (l_c 0 rfl) rfl
            refine g_lload 27 (gd rfl) rfl rfl ?_
            refine g_lreturn (gd rfl) rfl (hp157 _ _ ?_)
            show GG _ _ _ _ _ _ _ _ [.long z157x2, .int y134_2, .ref (A 85)] _ _ _
            refine g_lastore 161 (gd rfl) rfl (n := 1024) rfl (in_ix i140 rfl) ?_
            have hI160 := inv_sL (q := 85) (j := y134_2.toNatClampNeg) (x := z157x2) hIc134 rfl (l_rng z157x2)
            refine g_iinc 164 (gd rfl) rfl rfl (Nat.le_of_ble_eq_true rfl) (fun z161 e161 => ?_)
            have i161 := in_add 1 1024 e161 i140 (in_c 1 rfl) rfl rfl
            refine g_goto 134 (gd rfl) rfl ?_
            exact gg_w (by first | exact Nat.le_add_right _ _ | exact gw2 | exact gw3 | exact gwe rfl | exact gwf rfl | exact gwg rfl | exact gwh rfl | omega) (gg_f (gf_cons rfl (gf_cons rfl (gf_cons rfl gf_nil))) (ih134 (sL sc134 85 y134_2.toNatClampNeg z157x2) z161 hI160 (fr_sL rfl hFc134) (in_w 0 2001 i161 rfl) (m_up mm134 (t_add e161 i140 (in_c 1 rfl) rfl) (in_w 1 1 (in_c 1 rfl) rfl))))
          · skip
            have c157x17a := lc_ne e157x16 c157x17
            refine g_lload 22 (gd rfl) rfl rfl ?_
            refine g_lload_n 23 (gd rfl) rfl rfl ?_
            refine g_ladd 24 (gd rfl) rfl (fun z157x23 e157x23 => ?_)
            have i157x23 := l_add 1 2000000013 e157x23 i157x2 (l_c 1000000007 rfl) rfl
            refine g_lreturn (gd rfl) rfl (hp157 _ _ ?_)
            show GG _ _ _ _ _ _ _ _ [.long z157x23, .int y134_2, .ref (A 85)] _ _ _
            refine g_lastore 161 (gd rfl) rfl (n := 1024) rfl (in_ix i140 rfl) ?_
            have hI160 := inv_sL (q := 85) (j := y134_2.toNatClampNeg) (x := z157x23) hIc134 rfl (l_rng z157x23)
            refine g_iinc 164 (gd rfl) rfl rfl (Nat.le_of_ble_eq_true rfl) (fun z161 e161 => ?_)
            have i161 := in_add 1 1024 e161 i140 (in_c 1 rfl) rfl rfl
            refine g_goto 134 (gd rfl) rfl ?_
            exact gg_w (by first | exact Nat.le_add_right _ _ | exact gw2 | exact gw3 | exact gwe rfl | exact gwf rfl | exact gwg rfl | exact gwh rfl | omega) (gg_f (gf_cons rfl (gf_cons rfl (gf_cons rfl gf_nil))) (ih134 (sL sc134 85 y134_2.toNatClampNeg z157x23) z161 hI160 (fr_sL rfl hFc134) (in_w 0 2001 i161 rfl) (m_up mm134 (t_add e161 i140 (in_c 1 rfl) rfl) (in_w 1 1 (in_c 1 rfl) rfl))))
  have ct10 : ∀ (k10 : Nat) (sc10 : GS) (y10_2 : Int32), Inv sc10 → Fr fm_189_76_32 s sc10 → (In y10_2 0 160) → 160 - (y10_2).toInt < (k10 : Int) → GG Z (d - 1) 189 post (gx xp) (1830603 + k10 * 900) 10 (fun j => xlook j [(0, .ref (A 76)), (1, .ref (A 32)), (2, .int y10_2)]) [] (WW Z A sc10 ++ ex) 0 0 := by
    intro k10
    induction k10 with
    | zero => intro sc10 y10_2 hIc10 hFc10 j10_2 mm10; exact m_no mm10 j10_2 rfl
    | succ k10 ih10 =>
      intro sc10 y10_2 hIc10 hFc10 j10_2 mm10
      refine gg_w (M := 1830603 + k10 * 900 + 900) gws ?_
      refine g_iload_n 11 (gd rfl) rfl rfl ?_
      refine g_aload_n 12 (gd rfl) rfl rfl ?_
      refine g_getI 15 (gd rfl) rfl rfl rfl (fun z12 e12 => ?_)
      have q12 : u_32_3 = z12 := (fr_F e_32_3 hFc10 rfl).trans e12.symm
      subst q12
      refine g_cmp_ge 18 132 (gd rfl) rfl rfl (fun c15 => ?_) (fun c15 => ?_)
      · skip
        refine g_iconst 0 133 (gd rfl) rfl rfl ?_
        refine g_istore_n 134 (gd rfl) rfl (Nat.le_of_ble_eq_true rfl) ?_
        exact gg_w (by first | exact Nat.le_add_right _ _ | exact gw2 | exact gw3 | exact gwe rfl | exact gwf rfl | exact gwg rfl | exact gwh rfl | omega) (gg_f (gf_cons rfl (gf_cons rfl (gf_cons rfl gf_nil))) (ct134 2002 sc10 (Int32.ofInt 0) hIc10 hFc10 (in_w 0 2001 (in_c 0 rfl) rfl) (m_in 2002 (in_w 0 2001 (in_c 0 rfl) rfl) rfl)))
      · skip
        have i15 := r_lt1 0 159 c15 j10_2 ro_32_3 rfl
        have i15a := r_lt2 1 160 c15 j10_2 ro_32_3 rfl
        refine g_aload_n 19 (gd rfl) rfl rfl ?_
        refine g_iload_n 20 (gd rfl) rfl rfl ?_
        refine g_callv (X := _) (As := [.int y10_2]) (r := []) (b := A 32) (q := 32) 23 (gd rfl) rfl rfl rfl rfl rfl (ww_o rfl) (Nat.le_of_ble_eq_true rfl) (mc := 0) (ms := 0) (Nat.zero_le _) (Nat.zero_le _) (P := fun v u => _) ?_ (fun e u h => h) (fun v u h => h)
        intro po20 xx20 hp20 hx20
        refine g_enter2 (k := 97) (N := 300) (by first | exact dq1 hd rfl | exact dq0 hd rfl | exact dq2 hd rfl | exact dq3 hd rfl | omega) rfl (Nat.le_of_ble_eq_true rfl) ?_
        refine g_aload_n 1 (gd rfl) rfl rfl ?_
        refine g_getA (q2 := 34) 4 (gd rfl) rfl rfl rfl rfl ?_
        refine g_iload_n 5 (gd rfl) rfl rfl ?_
        refine g_iaload 6 (gd rfl) rfl (n := 160) rfl (in_ix i15 rfl) (fun z20x5 e20x5 => ?_)
        have i20x5 := inv_I hIc10 (n := 160) (t := 0) (-1) 31 rfl (in_ix i15 rfl) rfl e20x5
        refine g_iconst (-1) 7 (gd rfl) rfl rfl ?_
        refine g_cmp_eq 10 29 (gd rfl) rfl rfl (fun c20x7 => ?_) (fun c20x7 => ?_)
        · skip
          have i20x7 := r_eq1 (-1) (-1) c20x7 i20x5 (in_c (-1) rfl) rfl
          refine g_iconst 0 30 (gd rfl) rfl rfl ?_
          refine g_ireturn (gd rfl) rfl (nb01 (in_w 0 1 (in_c 0 rfl) rfl)) (hp20 _ _ ?_)
          show GG _ _ _ _ _ _ _ _ [.int (Int32.ofInt 0)] _ _ _
          refine g_if_eq 26 126 (gd rfl) rfl rfl (fun c23 => ?_) (fun c23 => ?_)
          · skip
            refine g_iinc 129 (gd rfl) rfl rfl (Nat.le_of_ble_eq_true rfl) (fun z126 e126 => ?_)
            have i126 := in_add 1 160 e126 i15 (in_c 1 rfl) rfl rfl
            refine g_goto 10 (gd rfl) rfl ?_
            exact gg_w (by first | exact Nat.le_add_right _ _ | exact gw2 | exact gw3 | exact gwe rfl | exact gwf rfl | exact gwg rfl | exact gwh rfl | omega) (gg_f (gf_cons rfl (gf_cons rfl (gf_cons rfl gf_nil))) (ih10 sc10 z126 hIc10 hFc10 (in_w 0 160 i126 rfl) (m_up mm10 (t_add e126 i15 (in_c 1 rfl) rfl) (in_w 1 1 (in_c 1 rfl) rfl))))
          · skip
            exact zn_ne c23 (in_c 0 rfl) rfl
        · skip
          have i20x7 := r_ne1 0 31 c20x7 i20x5 (in_c (-1) rfl) rfl
          refine g_aload_n 11 (gd rfl) rfl rfl ?_
          refine g_getA (q2 := 34) 14 (gd rfl) rfl rfl rfl rfl ?_
          refine g_iload_n 15 (gd rfl) rfl rfl ?_
          refine g_iaload 16 (gd rfl) rfl (n := 160) rfl (in_ix i15 rfl) (fun z20x15 e20x15 => ?_)
          have q20x15 : z20x5 = z20x15 := (e20x5).trans e20x15.symm
          subst q20x15
          refine g_aload_n 17 (gd rfl) rfl rfl ?_
          refine g_getA (q2 := 35) 20 (gd rfl) rfl rfl rfl rfl ?_
          refine g_iload_n 21 (gd rfl) rfl rfl ?_
          refine g_iaload 22 (gd rfl) rfl (n := 160) rfl (in_ix i15 rfl) (fun z20x21 e20x21 => ?_)
          have i20x21 := inv_I hIc10 (n := 160) (t := 0) 0 31 rfl (in_ix i15 rfl) rfl e20x21
          refine g_cmp_eq 25 29 (gd rfl) rfl rfl (fun c20x22 => ?_) (fun c20x22 => ?_)
          · skip
            refine g_iconst 0 30 (gd rfl) rfl rfl ?_
            refine g_ireturn (gd rfl) rfl (nb01 (in_w 0 1 (in_c 0 rfl) rfl)) (hp20 _ _ ?_)
            show GG _ _ _ _ _ _ _ _ [.int (Int32.ofInt 0)] _ _ _
            refine g_if_eq 26 126 (gd rfl) rfl rfl (fun c23 => ?_) (fun c23 => ?_)
            · skip
              refine g_iinc 129 (gd rfl) rfl rfl (Nat.le_of_ble_eq_true rfl) (fun z126 e126 => ?_)
              have i126 := in_add 1 160 e126 i15 (in_c 1 rfl) rfl rfl
              refine g_goto 10 (gd rfl) rfl ?_
              exact gg_w (by first | exact Nat.le_add_right _ _ | exact gw2 | exact gw3 | exact gwe rfl | exact gwf rfl | exact gwg rfl | exact gwh rfl | omega) (gg_f (gf_cons rfl (gf_cons rfl (gf_cons rfl gf_nil))) (ih10 sc10 z126 hIc10 hFc10 (in_w 0 160 i126 rfl) (m_up mm10 (t_add e126 i15 (in_c 1 rfl) rfl) (in_w 1 1 (in_c 1 rfl) rfl))))
            · skip
              exact zn_ne c23 (in_c 0 rfl) rfl
          · skip
            refine g_iconst 1 26 (gd rfl) rfl rfl ?_
            refine g_goto 30 (gd rfl) rfl ?_
            refine g_ireturn (gd rfl) rfl (nb01 (in_w 0 1 (in_c 1 rfl) rfl)) (hp20 _ _ ?_)
            show GG _ _ _ _ _ _ _ _ [.int (Int32.ofInt 1)] _ _ _
            refine g_if_eq 26 126 (gd rfl) rfl rfl (fun c23 => ?_) (fun c23 => ?_)
            · skip
              exact zn_eq c23 (in_c 1 rfl) rfl
            · skip
              refine g_aload_n 27 (gd rfl) rfl rfl ?_
              refine g_getA (q2 := 85) 30 (gd rfl) rfl rfl rfl rfl ?_
              refine g_aload_n 31 (gd rfl) rfl rfl ?_
              refine g_getA (q2 := 34) 34 (gd rfl) rfl rfl rfl rfl ?_
              refine g_iload_n 35 (gd rfl) rfl rfl ?_
              refine g_iaload 36 (gd rfl) rfl (n := 160) rfl (in_ix i15 rfl) (fun z35 e35 => ?_)
              have q35 : z20x5 = z35 := (e20x5).trans e35.symm
              subst q35
              refine g_bipush 32 38 (gd rfl) rfl rfl ?_
              refine g_imul 39 (gd rfl) rfl (fun z38 e38 => ?_)
              have i38 := in_mulc 32 0 992 (Or.inr e38) i20x7 rfl rfl
              refine g_aload_n 40 (gd rfl) rfl rfl ?_
              refine g_getA (q2 := 34) 43 (gd rfl) rfl rfl rfl rfl ?_
              refine g_iload_n 44 (gd rfl) rfl rfl ?_
              refine g_iaload 45 (gd rfl) rfl (n := 160) rfl (in_ix i15 rfl) (fun z44 e44 => ?_)
              have q44 : z20x5 = z44 := (e20x5).trans e44.symm
              subst q44
              refine g_iadd 46 (gd rfl) rfl (fun z45 e45 => ?_)
              have i45 := in_add 0 1023 e45 i38 i20x7 rfl rfl
              refine g_dup2 47 (gd rfl) rfl rfl rfl ?_
              refine g_laload 48 (gd rfl) rfl (n := 1024) rfl (in_ix i45 rfl) (fun z47 e47 => ?_)
              refine g_lconst 1 49 (gd rfl) rfl rfl ?_
              refine g_ladd 50 (gd rfl) rfl (fun z49 e49 => ?_)
              refine g_lastore 51 (gd rfl) rfl (n := 1024) rfl (in_ix i45 rfl) ?_
              have hI50 := inv_sL (q := 85) (j := z45.toNatClampNeg) (x := z49) hIc10 rfl (l_rng z49)
              refine g_aload_n 52 (gd rfl) rfl rfl ?_
              refine g_getA (q2 := 85) 55 (gd rfl) rfl rfl rfl rfl ?_
              refine g_aload_n 56 (gd rfl) rfl rfl ?_
              refine g_getA (q2 := 35) 59 (gd rfl) rfl rfl rfl rfl ?_
              refine g_iload_n 60 (gd rfl) rfl rfl ?_
              refine g_iaload 61 (gd rfl) rfl (n := 160) rfl (in_ix i15 rfl) (fun z60 e60 => ?_)
              have q60 : z20x21 = z60 := (sL_I (e20x21)).trans e60.symm
              subst q60
              refine g_bipush 32 63 (gd rfl) rfl rfl ?_
              refine g_imul 64 (gd rfl) rfl (fun z63 e63 => ?_)
              have i63 := in_mulc 32 0 992 (Or.inr e63) i20x21 rfl rfl
              refine g_aload_n 65 (gd rfl) rfl rfl ?_
              refine g_getA (q2 := 35) 68 (gd rfl) rfl rfl rfl rfl ?_
              refine g_iload_n 69 (gd rfl) rfl rfl ?_
              refine g_iaload 70 (gd rfl) rfl (n := 160) rfl (in_ix i15 rfl) (fun z69 e69 => ?_)
              have q69 : z20x21 = z69 := (sL_I (e20x21)).trans e69.symm
              subst q69
              refine g_iadd 71 (gd rfl) rfl (fun z70 e70 => ?_)
              have i70 := in_add 0 1023 e70 i63 i20x21 rfl rfl
              refine g_dup2 72 (gd rfl) rfl rfl rfl ?_
              refine g_laload 73 (gd rfl) rfl (n := 1024) rfl (in_ix i70 rfl) (fun z72 e72 => ?_)
              refine g_lconst 1 74 (gd rfl) rfl rfl ?_
              refine g_ladd 75 (gd rfl) rfl (fun z74 e74 => ?_)
              refine g_lastore 76 (gd rfl) rfl (n := 1024) rfl (in_ix i70 rfl) ?_
              have hI75 := inv_sL (q := 85) (j := z70.toNatClampNeg) (x := z74) hI50 rfl (l_rng z74)
              refine g_aload_n 77 (gd rfl) rfl rfl ?_
              refine g_getA (q2 := 85) 80 (gd rfl) rfl rfl rfl rfl ?_
              refine g_aload_n 81 (gd rfl) rfl rfl ?_
              refine g_getA (q2 := 34) 84 (gd rfl) rfl rfl rfl rfl ?_
              refine g_iload_n 85 (gd rfl) rfl rfl ?_
              refine g_iaload 86 (gd rfl) rfl (n := 160) rfl (in_ix i15 rfl) (fun z85 e85 => ?_)
              have q85 : z20x5 = z85 := (sL_I (sL_I (e20x5))).trans e85.symm
              subst q85
              refine g_bipush 32 88 (gd rfl) rfl rfl ?_
              refine g_imul 89 (gd rfl) rfl (fun z88 e88 => ?_)
              have i88 := in_mulc 32 0 992 (Or.inr e88) i20x7 rfl rfl
              refine g_aload_n 90 (gd rfl) rfl rfl ?_
              refine g_getA (q2 := 35) 93 (gd rfl) rfl rfl rfl rfl ?_
              refine g_iload_n 94 (gd rfl) rfl rfl ?_
              refine g_iaload 95 (gd rfl) rfl (n := 160) rfl (in_ix i15 rfl) (fun z94 e94 => ?_)
              have q94 : z20x21 = z94 := (sL_I (sL_I (e20x21))).trans e94.symm
              subst q94
              refine g_iadd 96 (gd rfl) rfl (fun z95 e95 => ?_)
              have i95 := in_add 0 1023 e95 i88 i20x21 rfl rfl
              refine g_dup2 97 (gd rfl) rfl rfl rfl ?_
              refine g_laload 98 (gd rfl) rfl (n := 1024) rfl (in_ix i95 rfl) (fun z97 e97 => ?_)
              refine g_lconst 1 99 (gd rfl) rfl rfl ?_
              refine g_lsub 100 (gd rfl) rfl (fun z99 e99 => ?_)
              refine g_lastore 101 (gd rfl) rfl (n := 1024) rfl (in_ix i95 rfl) ?_
              have hI100 := inv_sL (q := 85) (j := z95.toNatClampNeg) (x := z99) hI75 rfl (l_rng z99)
              refine g_aload_n 102 (gd rfl) rfl rfl ?_
              refine g_getA (q2 := 85) 105 (gd rfl) rfl rfl rfl rfl ?_
              refine g_aload_n 106 (gd rfl) rfl rfl ?_
              refine g_getA (q2 := 35) 109 (gd rfl) rfl rfl rfl rfl ?_
              refine g_iload_n 110 (gd rfl) rfl rfl ?_
              refine g_iaload 111 (gd rfl) rfl (n := 160) rfl (in_ix i15 rfl) (fun z110 e110 => ?_)
              have q110 : z20x21 = z110 := (sL_I (sL_I (sL_I (e20x21)))).trans e110.symm
              subst q110
              refine g_bipush 32 113 (gd rfl) rfl rfl ?_
              refine g_imul 114 (gd rfl) rfl (fun z113 e113 => ?_)
              have i113 := in_mulc 32 0 992 (Or.inr e113) i20x21 rfl rfl
              refine g_aload_n 115 (gd rfl) rfl rfl ?_
              refine g_getA (q2 := 34) 118 (gd rfl) rfl rfl rfl rfl ?_
              refine g_iload_n 119 (gd rfl) rfl rfl ?_
              refine g_iaload 120 (gd rfl) rfl (n := 160) rfl (in_ix i15 rfl) (fun z119 e119 => ?_)
              have q119 : z20x5 = z119 := (sL_I (sL_I (sL_I (e20x5)))).trans e119.symm
              subst q119
              refine g_iadd 121 (gd rfl) rfl (fun z120 e120 => ?_)
              have i120 := in_add 0 1023 e120 i113 i20x7 rfl rfl
              refine g_dup2 122 (gd rfl) rfl rfl rfl ?_
              refine g_laload 123 (gd rfl) rfl (n := 1024) rfl (in_ix i120 rfl) (fun z122 e122 => ?_)
              refine g_lconst 1 124 (gd rfl) rfl rfl ?_
              refine g_lsub 125 (gd rfl) rfl (fun z124 e124 => ?_)
              refine g_lastore 126 (gd rfl) rfl (n := 1024) rfl (in_ix i120 rfl) ?_
              have hI125 := inv_sL (q := 85) (j := z120.toNatClampNeg) (x := z124) hI100 rfl (l_rng z124)
              refine g_iinc 129 (gd rfl) rfl rfl (Nat.le_of_ble_eq_true rfl) (fun z126 e126 => ?_)
              have i126 := in_add 1 160 e126 i15 (in_c 1 rfl) rfl rfl
              refine g_goto 10 (gd rfl) rfl ?_
              exact gg_w (by first | exact Nat.le_add_right _ _ | exact gw2 | exact gw3 | exact gwe rfl | exact gwf rfl | exact gwg rfl | exact gwh rfl | omega) (gg_f (gf_cons rfl (gf_cons rfl (gf_cons rfl gf_nil))) (ih10 (sL (sL (sL (sL sc10 85 z45.toNatClampNeg z49) 85 z70.toNatClampNeg z74) 85 z95.toNatClampNeg z99) 85 z120.toNatClampNeg z124) z126 hI125 (fr_sL rfl (fr_sL rfl (fr_sL rfl (fr_sL rfl hFc10)))) (in_w 0 160 i126 rfl) (m_up mm10 (t_add e126 i15 (in_c 1 rfl) rfl) (in_w 1 1 (in_c 1 rfl) rfl))))
  refine g_enter2 (k := 189) (N := 1976403) (by first | exact dq1 hd rfl | exact dq0 hd rfl | exact dq2 hd rfl | exact dq3 hd rfl | omega) rfl (Nat.le_of_ble_eq_true rfl) ?_
  refine g_aload_n 1 (gd rfl) rfl rfl ?_
  refine g_getA (q2 := 85) 4 (gd rfl) rfl rfl rfl rfl ?_
  refine g_lconst 0 5 (gd rfl) rfl rfl ?_
  refine g_calls (As := [.ref (A 85), .long (Int64.ofInt 0)]) (r := []) 8 (gd rfl) rfl rfl rfl rfl rfl (Nat.le_of_ble_eq_true rfl) (Nat.zero_le _) (Nat.zero_le _) (k_fillL 85 (by first | exact dq1 hd rfl | exact dq0 hd rfl | exact dq2 hd rfl | exact dq3 hd rfl | omega) hI (n := 1024) rfl rfl rfl (l_rng (Int64.ofInt 0))) (fun v u h => ?_)
  obtain ⟨s5, hI5, hF5, rfl, rfl, fl5⟩ := h
  show GG _ _ _ _ _ _ _ _ [] _ _ _
  refine g_iconst 0 9 (gd rfl) rfl rfl ?_
  refine g_istore_n 10 (gd rfl) rfl (Nat.le_of_ble_eq_true rfl) ?_
  exact gg_w (by first | exact Nat.le_of_ble_eq_true rfl | omega) (gg_f (gf_cons rfl (gf_cons rfl (gf_cons rfl gf_nil))) (ct10 161 s5 (Int32.ofInt 0) hI5 (fr_tr rfl fr_rf hF5) (in_w 0 160 (in_c 0 rfl) rfl) (m_in 161 (in_w 0 160 (in_c 0 rfl) rfl) rfl)))

def fm_195_49_2 : FM := ([9, 10, 11, 12, 13, 14, 15], [50], [(2, 4), (49, 0), (49, 1), (49, 2)], [])
/-- GraphHouse$Ways.leastArc -/
theorem k_195_49_2 {Z : AmZ} {A : Nat → Nat} {s : GS} {ex : va_W} {d : Nat} {X : AmX} {x2 : Int32} {x3 : Int32} {x4 : Int32} (hd : 6 ≤ d) (hI : Inv s) (h2 : In x2 0 31) (h3 : In x3 0 31) (h4 : In x4 0 2147483647) : GC Z d 195 [.ref (A 49), .ref (A 2), .int x2, .int x3, .int x4] (WW Z A s ++ ex) 0 0 (fun v u => ∃ t : GS, Inv t ∧ Fr fm_195_49_2 s t ∧ ∃ z : Int32, v = some (.int z) ∧ u = WW Z A t ++ ex ∧ In z (-1) 159) X := by
  intro post xp hP hX
  have ct60 : ∀ (k60 : Nat) (sc60 : GS) (y60_5 : Int32) (y60_6 : Int32) (y60_7 : Int32), Inv sc60 → Fr fm_195_49_2 s sc60 → (In x4 0 2046) → (In y60_5 (-1) 159) → (In y60_6 0 31) → (In y60_7 0 4000) → 4000 - (y60_7).toInt < (k60 : Int) → GG Z (d - 1) 195 post (gx xp) (1 + k60 * 900) 60 (fun j => xlook j [(0, .ref (A 49)), (1, .ref (A 2)), (2, .int x2), (3, .int x3), (4, .int x4), (5, .int y60_5), (6, .int y60_6), (7, .int y60_7)]) [] (WW Z A sc60 ++ ex) 0 0 := by
    intro k60
    induction k60 with
    | zero => intro sc60 y60_5 y60_6 y60_7 hIc60 hFc60 j60_4 j60_5 j60_6 j60_7 mm60; exact m_no mm60 j60_7 rfl
    | succ k60 ih60 =>
      intro sc60 y60_5 y60_6 y60_7 hIc60 hFc60 j60_4 j60_5 j60_6 j60_7 mm60
      refine gg_w (M := 1 + k60 * 900 + 900) gws ?_
      refine g_iload 62 (gd rfl) rfl rfl ?_
      refine g_iload 64 (gd rfl) rfl rfl ?_
      refine g_cmp_gt 67 99 (gd rfl) rfl rfl (fun c64 => ?_) (fun c64 => ?_)
      · skip
        have i64 := r_lt2 1 4000 c64 j60_4 j60_7 rfl
        refine g_iload 101 (gd rfl) rfl rfl ?_
        exact g_ireturn (gd rfl) rfl rfl (hP _ _ ⟨sc60, hIc60, hFc60, y60_5, rfl, rfl, in_w (-1) 159 j60_5 rfl⟩)
      · skip
        have i64 := r_le1 0 2046 c64 j60_7 j60_4 rfl
        refine g_aload_n 68 (gd rfl) rfl rfl ?_
        refine g_aload_n 69 (gd rfl) rfl rfl ?_
        refine g_iload 71 (gd rfl) rfl rfl ?_
        refine g_callv (X := _) (As := [.ref (A 2), .int y60_6]) (r := []) (b := A 49) (q := 49) 74 (gd rfl) rfl rfl rfl rfl rfl (ww_o rfl) (Nat.le_of_ble_eq_true rfl) (Nat.zero_le _) (Nat.zero_le _) (k_196_49_2 (by first | exact dq1 hd rfl | exact dq0 hd rfl | exact dq2 hd rfl | exact dq3 hd rfl | omega) hIc60 (in_w 0 31 j60_6 rfl)) (fun e u h => h) (fun v u h => ?_)
        obtain ⟨z71, rfl, rfl, i71⟩ := h
        show GG _ _ _ _ _ _ _ _ [.int z71] _ _ _
        refine g_istore 76 (gd rfl) rfl (Nat.le_of_ble_eq_true rfl) ?_
        refine g_iload 78 (gd rfl) rfl rfl ?_
        refine g_iconst (-1) 79 (gd rfl) rfl rfl ?_
        refine g_cmp_ne 82 84 (gd rfl) rfl rfl (fun c79 => ?_) (fun c79 => ?_)
        · skip
          have i79 := r_ne1 0 159 c79 i71 (in_c (-1) rfl) rfl
          refine g_aload_n 85 (gd rfl) rfl rfl ?_
          refine g_getA (q2 := 5) 88 (gd rfl) rfl rfl rfl rfl ?_
          refine g_iload 90 (gd rfl) rfl rfl ?_
          refine g_iaload 91 (gd rfl) rfl (n := 160) rfl (in_ix i79 rfl) (fun z90 e90 => ?_)
          have i90 := inv_I hIc60 (n := 160) (t := 0) 0 31 rfl (in_ix i79 rfl) rfl e90
          refine g_istore 93 (gd rfl) rfl (Nat.le_of_ble_eq_true rfl) ?_
          refine g_iinc 96 (gd rfl) rfl rfl (Nat.le_of_ble_eq_true rfl) (fun z93 e93 => ?_)
          have i93 := in_add 1 2047 e93 i64 (in_c 1 rfl) rfl rfl
          refine g_goto 60 (gd rfl) rfl ?_
          exact gg_w (by first | exact Nat.le_add_right _ _ | exact gw2 | exact gw3 | exact gwe rfl | exact gwf rfl | exact gwg rfl | exact gwh rfl | omega) (gg_f (gf_cons rfl (gf_cons rfl (gf_cons rfl (gf_cons rfl (gf_cons rfl (gf_cons rfl (gf_cons rfl (gf_cons rfl gf_nil)))))))) (ih60 sc60 z71 z90 z93 hIc60 hFc60 (in_w 0 2046 j60_4 rfl) (in_w (-1) 159 i79 rfl) (in_w 0 31 i90 rfl) (in_w 0 4000 i93 rfl) (m_up mm60 (t_add e93 i64 (in_c 1 rfl) rfl) (in_w 1 1 (in_c 1 rfl) rfl))))
        · skip
          have i79 := r_eq1 (-1) (-1) c79 i71 (in_c (-1) rfl) rfl
          refine g_iconst (-1) 83 (gd rfl) rfl rfl ?_
          exact g_ireturn (gd rfl) rfl rfl (hP _ _ ⟨sc60, hIc60, hFc60, (Int32.ofInt (-1)), rfl, rfl, in_w (-1) 159 (in_c (-1) rfl) rfl⟩)
  refine g_enter2 (k := 195) (N := 3601801) (by first | exact dq1 hd rfl | exact dq0 hd rfl | exact dq2 hd rfl | exact dq3 hd rfl | omega) rfl (Nat.le_of_ble_eq_true rfl) ?_
  refine g_aload_n 1 (gd rfl) rfl rfl ?_
  refine g_aload_n 2 (gd rfl) rfl rfl ?_
  refine g_iload_n 3 (gd rfl) rfl rfl ?_
  refine g_callv (X := _) (As := [.ref (A 2), .int x3]) (r := []) (b := A 49) (q := 49) 6 (gd rfl) rfl rfl rfl rfl rfl (ww_o rfl) (Nat.le_of_ble_eq_true rfl) (Nat.zero_le _) (Nat.zero_le _) (k_198_49_2 (by first | exact dq1 hd rfl | exact dq0 hd rfl | exact dq2 hd rfl | exact dq3 hd rfl | omega) hI (in_w 0 31 h3 rfl)) (fun e u h => h) (fun v u h => ?_)
  obtain ⟨s3, hI3, hF3, rfl, rfl⟩ := h
  show GG _ _ _ _ _ _ _ _ [] _ _ _
  refine g_aload_n 7 (gd rfl) rfl rfl ?_
  refine g_getI 10 (gd rfl) rfl rfl rfl (fun z7 e7 => ?_)
  refine g_iload_n 11 (gd rfl) rfl rfl ?_
  refine g_ishr 12 (gd rfl) rfl (fun z11 e11 => ?_)
  refine g_iconst 1 13 (gd rfl) rfl rfl ?_
  refine g_iand 14 (gd rfl) rfl (fun z13 e13 => ?_)
  have i13 := in_and2 e13 (in_c 1 rfl) rfl
  refine g_if_ne 17 49 (gd rfl) rfl rfl (fun c14 => ?_) (fun c14 => ?_)
  · skip
    have i14 := z_ne 1 1 c14 i13 rfl
    refine g_iconst (-1) 50 (gd rfl) rfl rfl ?_
    exact g_ireturn (gd rfl) rfl rfl (hP _ _ ⟨s3, hI3, (fr_tr rfl fr_rf hF3), (Int32.ofInt (-1)), rfl, rfl, in_w (-1) 159 (in_c (-1) rfl) rfl⟩)
  · skip
    have i14 := z_eq 0 0 c14 i13 rfl
    refine g_aload_n 18 (gd rfl) rfl rfl ?_
    refine g_getA (q2 := 50) 21 (gd rfl) rfl rfl rfl rfl ?_
    refine g_iload_n 22 (gd rfl) rfl rfl ?_
    refine g_laload 23 (gd rfl) rfl (n := 32) rfl (in_ix h2 rfl) (fun z22 e22 => ?_)
    refine g_ldc2_w 9223372036854775807 26 (gd rfl) rfl rfl ?_
    refine g_lcmp 27 (gd rfl) rfl (fun z26 e26 => ?_)
    have i26 := lc_in e26
    refine g_if_eq 30 49 (gd rfl) rfl rfl (fun c27 => ?_) (fun c27 => ?_)
    · skip
      have i27 := z_eq 0 0 c27 i26 rfl
      have c27a := lc_eq e26 c27
      have i27a := lr_eq1 9223372036854775807 9223372036854775807 c27a (l_rng z22) (l_c 9223372036854775807 rfl) rfl
      refine g_iconst (-1) 50 (gd rfl) rfl rfl ?_
      exact g_ireturn (gd rfl) rfl rfl (hP _ _ ⟨s3, hI3, (fr_tr rfl fr_rf hF3), (Int32.ofInt (-1)), rfl, rfl, in_w (-1) 159 (in_c (-1) rfl) rfl⟩)
    · skip
      have c27a := lc_ne e26 c27
      have i27 := lr_ne1 (-9223372036854775808) 9223372036854775806 c27a (l_rng z22) (l_c 9223372036854775807 rfl) rfl
      refine g_iload 32 (gd rfl) rfl rfl ?_
      refine g_i2l 33 (gd rfl) rfl (fun z32 e32 => ?_)
      have i32 := l_i e32 h4
      refine g_aload_n 34 (gd rfl) rfl rfl ?_
      refine g_getA (q2 := 50) 37 (gd rfl) rfl rfl rfl rfl ?_
      refine g_iload_n 38 (gd rfl) rfl rfl ?_
      refine g_laload 39 (gd rfl) rfl (n := 32) rfl (in_ix h2 rfl) (fun z38 e38 => ?_)
      refine g_ldc2_w 1024 42 (gd rfl) rfl rfl ?_
      refine g_calls (As := [.long z38, .long (Int64.ofInt 1024)]) (r := [.long z32]) 45 (gd rfl) rfl rfl rfl rfl rfl (Nat.le_of_ble_eq_true rfl) (mc := 0) (ms := 0) (Nat.zero_le _) (Nat.zero_le _) (P := fun v u => _) ?_ (fun v u h => h)
      intro po42 xx42 hp42 hx42
      refine g_enter2 (k := 419) (N := 300) (by first | exact dq1 hd rfl | exact dq0 hd rfl | exact dq2 hd rfl | exact dq3 hd rfl | omega) rfl (Nat.le_of_ble_eq_true rfl) ?_
      refine g_lload_n 1 (gd rfl) rfl rfl ?_
      refine g_lload_n 2 (gd rfl) rfl rfl ?_
      refine g_lrem 3 (gd rfl) rfl (by decide) (fun z42x2 e42x2 => ?_)
      have i42x2 := l_rem (-1023) 1023 e42x2 rfl
      refine g_lstore 5 (gd rfl) rfl (Nat.le_of_ble_eq_true rfl) ?_
      refine g_lload_n 6 (gd rfl) rfl rfl ?_
      refine g_lload_n 7 (gd rfl) rfl rfl ?_
      refine g_lxor 8 (gd rfl) rfl (fun z42x7 e42x7 => ?_)
      refine g_lconst 0 9 (gd rfl) rfl rfl ?_
      refine g_lcmp 10 (gd rfl) rfl (fun z42x9 e42x9 => ?_)
      have i42x9 := lc_in e42x9
      refine g_if_ge 13 25 (gd rfl) rfl rfl (fun c42x10 => ?_) (fun c42x10 => ?_)
      · skip
        have i42x10 := z_ge 0 1 c42x10 i42x9 rfl
        have c42x10a := lc_ge e42x9 c42x10
        have i42x10a := lr_le2 0 9223372036854775807 c42x10a (l_c 0 rfl) (l_rng z42x7) rfl
        refine g_lload 27 (gd rfl) rfl rfl ?_
        refine g_lreturn (gd rfl) rfl (hp42 _ _ ?_)
        show GG _ _ _ _ _ _ _ _ [.long z42x2, .long z32] _ _ _
        refine g_lcmp 46 (gd rfl) rfl (fun z45 e45 => ?_)
        have i45 := lc_in e45
        refine g_if_lt 49 51 (gd rfl) rfl rfl (fun c46 => ?_) (fun c46 => ?_)
        · skip
          have i46 := z_lt (-1) (-1) c46 i45 rfl
          have c46a := lc_lt e45 c46
          have i46a := lr_lt1 0 1022 c46a i32 i42x2 rfl
          have i46b := l_b e32 i46a
          have i46c := lr_lt2 1 1023 c46a i32 i42x2 rfl
          refine g_iconst (-1) 52 (gd rfl) rfl rfl ?_
          refine g_istore 54 (gd rfl) rfl (Nat.le_of_ble_eq_true rfl) ?_
          refine g_iload_n 55 (gd rfl) rfl rfl ?_
          refine g_istore 57 (gd rfl) rfl (Nat.le_of_ble_eq_true rfl) ?_
          refine g_iconst 0 58 (gd rfl) rfl rfl ?_
          refine g_istore 60 (gd rfl) rfl (Nat.le_of_ble_eq_true rfl) ?_
          exact gg_w (by first | exact Nat.le_of_ble_eq_true rfl | omega) (gg_f (gf_cons rfl (gf_cons rfl (gf_cons rfl (gf_cons rfl (gf_cons rfl (gf_cons rfl (gf_cons rfl (gf_cons rfl gf_nil)))))))) (ct60 4001 s3 (Int32.ofInt (-1)) x2 (Int32.ofInt 0) hI3 (fr_tr rfl fr_rf hF3) (in_w 0 2046 i46b rfl) (in_w (-1) 159 (in_c (-1) rfl) rfl) (in_w 0 31 h2 rfl) (in_w 0 4000 (in_c 0 rfl) rfl) (m_in 4001 (in_w 0 4000 (in_c 0 rfl) rfl) rfl)))
        · skip
          have i46 := z_ge 0 1 c46 i45 rfl
          have c46a := lc_ge e45 c46
          refine g_iconst (-1) 50 (gd rfl) rfl rfl ?_
          exact g_ireturn (gd rfl) rfl rfl (hP _ _ ⟨s3, hI3, (fr_tr rfl fr_rf hF3), (Int32.ofInt (-1)), rfl, rfl, in_w (-1) 159 (in_c (-1) rfl) rfl⟩)
      · skip
        have i42x10 := z_lt (-1) (-1) c42x10 i42x9 rfl
        have c42x10a := lc_lt e42x9 c42x10
        have i42x10a := lr_lt1 (-9223372036854775808) (-1) c42x10a (l_rng z42x7) (l_c 0 rfl) rfl
        refine g_lload 15 (gd rfl) rfl rfl ?_
        refine g_lconst 0 16 (gd rfl) rfl rfl ?_
        refine g_lcmp 17 (gd rfl) rfl (fun z42x16 e42x16 => ?_)
        have i42x16 := lc_in e42x16
        refine g_if_eq 20 25 (gd rfl) rfl rfl (fun c42x17 => ?_) (fun c42x17 => ?_)
        · skip
          have i42x17 := z_eq 0 0 c42x17 i42x16 rfl
          have c42x17a := lc_eq e42x16 c42x17
          have i42x17a := lr_eq1 0 0 c42x17a i42x2 (l_c 0 rfl) rfl
          refine g_lload 27 (gd rfl) rfl rfl ?_
          refine g_lreturn (gd rfl) rfl (hp42 _ _ ?_)
          show GG _ _ _ _ _ _ _ _ [.long z42x2, .long z32] _ _ _
          refine g_lcmp 46 (gd rfl) rfl (fun z45 e45 => ?_)
          have i45 := lc_in e45
          refine g_if_lt 49 51 (gd rfl) rfl rfl (fun c46 => ?_) (fun c46 => ?_)
          · skip
            have i46 := z_lt (-1) (-1) c46 i45 rfl
            have c46a := lc_lt e45 c46
            exact ln_lt c46a i32 i42x17a rfl
          · skip
            have i46 := z_ge 0 1 c46 i45 rfl
            have c46a := lc_ge e45 c46
            refine g_iconst (-1) 50 (gd rfl) rfl rfl ?_
            exact g_ireturn (gd rfl) rfl rfl (hP _ _ ⟨s3, hI3, (fr_tr rfl fr_rf hF3), (Int32.ofInt (-1)), rfl, rfl, in_w (-1) 159 (in_c (-1) rfl) rfl⟩)
        · skip
          have c42x17a := lc_ne e42x16 c42x17
          refine g_lload 22 (gd rfl) rfl rfl ?_
          refine g_lload_n 23 (gd rfl) rfl rfl ?_
          refine g_ladd 24 (gd rfl) rfl (fun z42x23 e42x23 => ?_)
          have i42x23 := l_add 1 2047 e42x23 i42x2 (l_c 1024 rfl) rfl
          refine g_lreturn (gd rfl) rfl (hp42 _ _ ?_)
          show GG _ _ _ _ _ _ _ _ [.long z42x23, .long z32] _ _ _
          refine g_lcmp 46 (gd rfl) rfl (fun z45 e45 => ?_)
          have i45 := lc_in e45
          refine g_if_lt 49 51 (gd rfl) rfl rfl (fun c46 => ?_) (fun c46 => ?_)
          · skip
            have i46 := z_lt (-1) (-1) c46 i45 rfl
            have c46a := lc_lt e45 c46
            have i46a := lr_lt1 0 2046 c46a i32 i42x23 rfl
            have i46b := l_b e32 i46a
            refine g_iconst (-1) 52 (gd rfl) rfl rfl ?_
            refine g_istore 54 (gd rfl) rfl (Nat.le_of_ble_eq_true rfl) ?_
            refine g_iload_n 55 (gd rfl) rfl rfl ?_
            refine g_istore 57 (gd rfl) rfl (Nat.le_of_ble_eq_true rfl) ?_
            refine g_iconst 0 58 (gd rfl) rfl rfl ?_
            refine g_istore 60 (gd rfl) rfl (Nat.le_of_ble_eq_true rfl) ?_
            exact gg_w (by first | exact Nat.le_of_ble_eq_true rfl | omega) (gg_f (gf_cons rfl (gf_cons rfl (gf_cons rfl (gf_cons rfl (gf_cons rfl (gf_cons rfl (gf_cons rfl (gf_cons rfl gf_nil)))))))) (ct60 4001 s3 (Int32.ofInt (-1)) x2 (Int32.ofInt 0) hI3 (fr_tr rfl fr_rf hF3) (in_w 0 2046 i46b rfl) (in_w (-1) 159 (in_c (-1) rfl) rfl) (in_w 0 31 h2 rfl) (in_w 0 4000 (in_c 0 rfl) rfl) (m_in 4001 (in_w 0 4000 (in_c 0 rfl) rfl) rfl)))
          · skip
            have i46 := z_ge 0 1 c46 i45 rfl
            have c46a := lc_ge e45 c46
            have i46a := lr_le2 1 2147483647 c46a i42x23 i32 rfl
            have i46b := l_b e32 i46a
            refine g_iconst (-1) 50 (gd rfl) rfl rfl ?_
            exact g_ireturn (gd rfl) rfl rfl (hP _ _ ⟨s3, hI3, (fr_tr rfl fr_rf hF3), (Int32.ofInt (-1)), rfl, rfl, in_w (-1) 159 (in_c (-1) rfl) rfl⟩)
end
section
/-! methods, by vc.py -/
def fm_195_49_32 : FM := ([39, 40, 41, 42, 43, 44, 45], [50], [(32, 4), (49, 0), (49, 1), (49, 2)], [])
/-- GraphHouse$Ways.leastArc -/
theorem k_195_49_32 {Z : AmZ} {A : Nat → Nat} {s : GS} {ex : va_W} {d : Nat} {X : AmX} {x2 : Int32} {x3 : Int32} {x4 : Int32} (hd : 6 ≤ d) (hI : Inv s) (h2 : In x2 0 31) (h3 : In x3 0 31) (h4 : In x4 0 2147483647) : GC Z d 195 [.ref (A 49), .ref (A 32), .int x2, .int x3, .int x4] (WW Z A s ++ ex) 0 0 (fun v u => ∃ t : GS, Inv t ∧ Fr fm_195_49_32 s t ∧ ∃ z : Int32, v = some (.int z) ∧ u = WW Z A t ++ ex ∧ In z (-1) 159) X := by
  intro post xp hP hX
  have ct60 : ∀ (k60 : Nat) (sc60 : GS) (y60_5 : Int32) (y60_6 : Int32) (y60_7 : Int32), Inv sc60 → Fr fm_195_49_32 s sc60 → (In x4 0 2046) → (In y60_5 (-1) 159) → (In y60_6 0 31) → (In y60_7 0 4000) → 4000 - (y60_7).toInt < (k60 : Int) → GG Z (d - 1) 195 post (gx xp) (1 + k60 * 900) 60 (fun j => xlook j [(0, .ref (A 49)), (1, .ref (A 32)), (2, .int x2), (3, .int x3), (4, .int x4), (5, .int y60_5), (6, .int y60_6), (7, .int y60_7)]) [] (WW Z A sc60 ++ ex) 0 0 := by
    intro k60
    induction k60 with
    | zero => intro sc60 y60_5 y60_6 y60_7 hIc60 hFc60 j60_4 j60_5 j60_6 j60_7 mm60; exact m_no mm60 j60_7 rfl
    | succ k60 ih60 =>
      intro sc60 y60_5 y60_6 y60_7 hIc60 hFc60 j60_4 j60_5 j60_6 j60_7 mm60
      refine gg_w (M := 1 + k60 * 900 + 900) gws ?_
      refine g_iload 62 (gd rfl) rfl rfl ?_
      refine g_iload 64 (gd rfl) rfl rfl ?_
      refine g_cmp_gt 67 99 (gd rfl) rfl rfl (fun c64 => ?_) (fun c64 => ?_)
      · skip
        have i64 := r_lt2 1 4000 c64 j60_4 j60_7 rfl
        refine g_iload 101 (gd rfl) rfl rfl ?_
        exact g_ireturn (gd rfl) rfl rfl (hP _ _ ⟨sc60, hIc60, hFc60, y60_5, rfl, rfl, in_w (-1) 159 j60_5 rfl⟩)
      · skip
        have i64 := r_le1 0 2046 c64 j60_7 j60_4 rfl
        refine g_aload_n 68 (gd rfl) rfl rfl ?_
        refine g_aload_n 69 (gd rfl) rfl rfl ?_
        refine g_iload 71 (gd rfl) rfl rfl ?_
        refine g_callv (X := _) (As := [.ref (A 32), .int y60_6]) (r := []) (b := A 49) (q := 49) 74 (gd rfl) rfl rfl rfl rfl rfl (ww_o rfl) (Nat.le_of_ble_eq_true rfl) (Nat.zero_le _) (Nat.zero_le _) (k_196_49_32 (by first | exact dq1 hd rfl | exact dq0 hd rfl | exact dq2 hd rfl | exact dq3 hd rfl | omega) hIc60 (in_w 0 31 j60_6 rfl)) (fun e u h => h) (fun v u h => ?_)
        obtain ⟨z71, rfl, rfl, i71⟩ := h
        show GG _ _ _ _ _ _ _ _ [.int z71] _ _ _
        refine g_istore 76 (gd rfl) rfl (Nat.le_of_ble_eq_true rfl) ?_
        refine g_iload 78 (gd rfl) rfl rfl ?_
        refine g_iconst (-1) 79 (gd rfl) rfl rfl ?_
        refine g_cmp_ne 82 84 (gd rfl) rfl rfl (fun c79 => ?_) (fun c79 => ?_)
        · skip
          have i79 := r_ne1 0 159 c79 i71 (in_c (-1) rfl) rfl
          refine g_aload_n 85 (gd rfl) rfl rfl ?_
          refine g_getA (q2 := 35) 88 (gd rfl) rfl rfl rfl rfl ?_
          refine g_iload 90 (gd rfl) rfl rfl ?_
          refine g_iaload 91 (gd rfl) rfl (n := 160) rfl (in_ix i79 rfl) (fun z90 e90 => ?_)
          have i90 := inv_I hIc60 (n := 160) (t := 0) 0 31 rfl (in_ix i79 rfl) rfl e90
          refine g_istore 93 (gd rfl) rfl (Nat.le_of_ble_eq_true rfl) ?_
          refine g_iinc 96 (gd rfl) rfl rfl (Nat.le_of_ble_eq_true rfl) (fun z93 e93 => ?_)
          have i93 := in_add 1 2047 e93 i64 (in_c 1 rfl) rfl rfl
          refine g_goto 60 (gd rfl) rfl ?_
          exact gg_w (by first | exact Nat.le_add_right _ _ | exact gw2 | exact gw3 | exact gwe rfl | exact gwf rfl | exact gwg rfl | exact gwh rfl | omega) (gg_f (gf_cons rfl (gf_cons rfl (gf_cons rfl (gf_cons rfl (gf_cons rfl (gf_cons rfl (gf_cons rfl (gf_cons rfl gf_nil)))))))) (ih60 sc60 z71 z90 z93 hIc60 hFc60 (in_w 0 2046 j60_4 rfl) (in_w (-1) 159 i79 rfl) (in_w 0 31 i90 rfl) (in_w 0 4000 i93 rfl) (m_up mm60 (t_add e93 i64 (in_c 1 rfl) rfl) (in_w 1 1 (in_c 1 rfl) rfl))))
        · skip
          have i79 := r_eq1 (-1) (-1) c79 i71 (in_c (-1) rfl) rfl
          refine g_iconst (-1) 83 (gd rfl) rfl rfl ?_
          exact g_ireturn (gd rfl) rfl rfl (hP _ _ ⟨sc60, hIc60, hFc60, (Int32.ofInt (-1)), rfl, rfl, in_w (-1) 159 (in_c (-1) rfl) rfl⟩)
  refine g_enter2 (k := 195) (N := 3601801) (by first | exact dq1 hd rfl | exact dq0 hd rfl | exact dq2 hd rfl | exact dq3 hd rfl | omega) rfl (Nat.le_of_ble_eq_true rfl) ?_
  refine g_aload_n 1 (gd rfl) rfl rfl ?_
  refine g_aload_n 2 (gd rfl) rfl rfl ?_
  refine g_iload_n 3 (gd rfl) rfl rfl ?_
  refine g_callv (X := _) (As := [.ref (A 32), .int x3]) (r := []) (b := A 49) (q := 49) 6 (gd rfl) rfl rfl rfl rfl rfl (ww_o rfl) (Nat.le_of_ble_eq_true rfl) (Nat.zero_le _) (Nat.zero_le _) (k_198_49_32 (by first | exact dq1 hd rfl | exact dq0 hd rfl | exact dq2 hd rfl | exact dq3 hd rfl | omega) hI (in_w 0 31 h3 rfl)) (fun e u h => h) (fun v u h => ?_)
  obtain ⟨s3, hI3, hF3, rfl, rfl⟩ := h
  show GG _ _ _ _ _ _ _ _ [] _ _ _
  refine g_aload_n 7 (gd rfl) rfl rfl ?_
  refine g_getI 10 (gd rfl) rfl rfl rfl (fun z7 e7 => ?_)
  refine g_iload_n 11 (gd rfl) rfl rfl ?_
  refine g_ishr 12 (gd rfl) rfl (fun z11 e11 => ?_)
  refine g_iconst 1 13 (gd rfl) rfl rfl ?_
  refine g_iand 14 (gd rfl) rfl (fun z13 e13 => ?_)
  have i13 := in_and2 e13 (in_c 1 rfl) rfl
  refine g_if_ne 17 49 (gd rfl) rfl rfl (fun c14 => ?_) (fun c14 => ?_)
  · skip
    have i14 := z_ne 1 1 c14 i13 rfl
    refine g_iconst (-1) 50 (gd rfl) rfl rfl ?_
    exact g_ireturn (gd rfl) rfl rfl (hP _ _ ⟨s3, hI3, (fr_tr rfl fr_rf hF3), (Int32.ofInt (-1)), rfl, rfl, in_w (-1) 159 (in_c (-1) rfl) rfl⟩)
  · skip
    have i14 := z_eq 0 0 c14 i13 rfl
    refine g_aload_n 18 (gd rfl) rfl rfl ?_
    refine g_getA (q2 := 50) 21 (gd rfl) rfl rfl rfl rfl ?_
    refine g_iload_n 22 (gd rfl) rfl rfl ?_
    refine g_laload 23 (gd rfl) rfl (n := 32) rfl (in_ix h2 rfl) (fun z22 e22 => ?_)
    refine g_ldc2_w 9223372036854775807 26 (gd rfl) rfl rfl ?_
    refine g_lcmp 27 (gd rfl) rfl (fun z26 e26 => ?_)
    have i26 := lc_in e26
    refine g_if_eq 30 49 (gd rfl) rfl rfl (fun c27 => ?_) (fun c27 => ?_)
    · skip
      have i27 := z_eq 0 0 c27 i26 rfl
      have c27a := lc_eq e26 c27
      have i27a := lr_eq1 9223372036854775807 9223372036854775807 c27a (l_rng z22) (l_c 9223372036854775807 rfl) rfl
      refine g_iconst (-1) 50 (gd rfl) rfl rfl ?_
      exact g_ireturn (gd rfl) rfl rfl (hP _ _ ⟨s3, hI3, (fr_tr rfl fr_rf hF3), (Int32.ofInt (-1)), rfl, rfl, in_w (-1) 159 (in_c (-1) rfl) rfl⟩)
    · skip
      have c27a := lc_ne e26 c27
      have i27 := lr_ne1 (-9223372036854775808) 9223372036854775806 c27a (l_rng z22) (l_c 9223372036854775807 rfl) rfl
      refine g_iload 32 (gd rfl) rfl rfl ?_
      refine g_i2l 33 (gd rfl) rfl (fun z32 e32 => ?_)
      have i32 := l_i e32 h4
      refine g_aload_n 34 (gd rfl) rfl rfl ?_
      refine g_getA (q2 := 50) 37 (gd rfl) rfl rfl rfl rfl ?_
      refine g_iload_n 38 (gd rfl) rfl rfl ?_
      refine g_laload 39 (gd rfl) rfl (n := 32) rfl (in_ix h2 rfl) (fun z38 e38 => ?_)
      refine g_ldc2_w 1024 42 (gd rfl) rfl rfl ?_
      refine g_calls (As := [.long z38, .long (Int64.ofInt 1024)]) (r := [.long z32]) 45 (gd rfl) rfl rfl rfl rfl rfl (Nat.le_of_ble_eq_true rfl) (mc := 0) (ms := 0) (Nat.zero_le _) (Nat.zero_le _) (P := fun v u => _) ?_ (fun v u h => h)
      intro po42 xx42 hp42 hx42
      refine g_enter2 (k := 419) (N := 300) (by first | exact dq1 hd rfl | exact dq0 hd rfl | exact dq2 hd rfl | exact dq3 hd rfl | omega) rfl (Nat.le_of_ble_eq_true rfl) ?_
      refine g_lload_n 1 (gd rfl) rfl rfl ?_
      refine g_lload_n 2 (gd rfl) rfl rfl ?_
      refine g_lrem 3 (gd rfl) rfl (by decide) (fun z42x2 e42x2 => ?_)
      have i42x2 := l_rem (-1023) 1023 e42x2 rfl
      refine g_lstore 5 (gd rfl) rfl (Nat.le_of_ble_eq_true rfl) ?_
      refine g_lload_n 6 (gd rfl) rfl rfl ?_
      refine g_lload_n 7 (gd rfl) rfl rfl ?_
      refine g_lxor 8 (gd rfl) rfl (fun z42x7 e42x7 => ?_)
      refine g_lconst 0 9 (gd rfl) rfl rfl ?_
      refine g_lcmp 10 (gd rfl) rfl (fun z42x9 e42x9 => ?_)
      have i42x9 := lc_in e42x9
      refine g_if_ge 13 25 (gd rfl) rfl rfl (fun c42x10 => ?_) (fun c42x10 => ?_)
      · skip
        have i42x10 := z_ge 0 1 c42x10 i42x9 rfl
        have c42x10a := lc_ge e42x9 c42x10
        have i42x10a := lr_le2 0 9223372036854775807 c42x10a (l_c 0 rfl) (l_rng z42x7) rfl
        refine g_lload 27 (gd rfl) rfl rfl ?_
        refine g_lreturn (gd rfl) rfl (hp42 _ _ ?_)
        show GG _ _ _ _ _ _ _ _ [.long z42x2, .long z32] _ _ _
        refine g_lcmp 46 (gd rfl) rfl (fun z45 e45 => ?_)
        have i45 := lc_in e45
        refine g_if_lt 49 51 (gd rfl) rfl rfl (fun c46 => ?_) (fun c46 => ?_)
        · skip
          have i46 := z_lt (-1) (-1) c46 i45 rfl
          have c46a := lc_lt e45 c46
          have i46a := lr_lt1 0 1022 c46a i32 i42x2 rfl
          have i46b := l_b e32 i46a
          have i46c := lr_lt2 1 1023 c46a i32 i42x2 rfl
          refine g_iconst (-1) 52 (gd rfl) rfl rfl ?_
          refine g_istore 54 (gd rfl) rfl (Nat.le_of_ble_eq_true rfl) ?_
          refine g_iload_n 55 (gd rfl) rfl rfl ?_
          refine g_istore 57 (gd rfl) rfl (Nat.le_of_ble_eq_true rfl) ?_
          refine g_iconst 0 58 (gd rfl) rfl rfl ?_
          refine g_istore 60 (gd rfl) rfl (Nat.le_of_ble_eq_true rfl) ?_
          exact gg_w (by first | exact Nat.le_of_ble_eq_true rfl | omega) (gg_f (gf_cons rfl (gf_cons rfl (gf_cons rfl (gf_cons rfl (gf_cons rfl (gf_cons rfl (gf_cons rfl (gf_cons rfl gf_nil)))))))) (ct60 4001 s3 (Int32.ofInt (-1)) x2 (Int32.ofInt 0) hI3 (fr_tr rfl fr_rf hF3) (in_w 0 2046 i46b rfl) (in_w (-1) 159 (in_c (-1) rfl) rfl) (in_w 0 31 h2 rfl) (in_w 0 4000 (in_c 0 rfl) rfl) (m_in 4001 (in_w 0 4000 (in_c 0 rfl) rfl) rfl)))
        · skip
          have i46 := z_ge 0 1 c46 i45 rfl
          have c46a := lc_ge e45 c46
          refine g_iconst (-1) 50 (gd rfl) rfl rfl ?_
          exact g_ireturn (gd rfl) rfl rfl (hP _ _ ⟨s3, hI3, (fr_tr rfl fr_rf hF3), (Int32.ofInt (-1)), rfl, rfl, in_w (-1) 159 (in_c (-1) rfl) rfl⟩)
      · skip
        have i42x10 := z_lt (-1) (-1) c42x10 i42x9 rfl
        have c42x10a := lc_lt e42x9 c42x10
        have i42x10a := lr_lt1 (-9223372036854775808) (-1) c42x10a (l_rng z42x7) (l_c 0 rfl) rfl
        refine g_lload 15 (gd rfl) rfl rfl ?_
        refine g_lconst 0 16 (gd rfl) rfl rfl ?_
        refine g_lcmp 17 (gd rfl) rfl (fun z42x16 e42x16 => ?_)
        have i42x16 := lc_in e42x16
        refine g_if_eq 20 25 (gd rfl) rfl rfl (fun c42x17 => ?_) (fun c42x17 => ?_)
        · skip
          have i42x17 := z_eq 0 0 c42x17 i42x16 rfl
          have c42x17a := lc_eq e42x16 c42x17
          have i42x17a := lr_eq1 0 0 c42x17a i42x2 (l_c 0 rfl) rfl
          refine g_lload 27 (gd rfl) rfl rfl ?_
          refine g_lreturn (gd rfl) rfl (hp42 _ _ ?_)
          show GG _ _ _ _ _ _ _ _ [.long z42x2, .long z32] _ _ _
          refine g_lcmp 46 (gd rfl) rfl (fun z45 e45 => ?_)
          have i45 := lc_in e45
          refine g_if_lt 49 51 (gd rfl) rfl rfl (fun c46 => ?_) (fun c46 => ?_)
          · skip
            have i46 := z_lt (-1) (-1) c46 i45 rfl
            have c46a := lc_lt e45 c46
            exact ln_lt c46a i32 i42x17a rfl
          · skip
            have i46 := z_ge 0 1 c46 i45 rfl
            have c46a := lc_ge e45 c46
            refine g_iconst (-1) 50 (gd rfl) rfl rfl ?_
            exact g_ireturn (gd rfl) rfl rfl (hP _ _ ⟨s3, hI3, (fr_tr rfl fr_rf hF3), (Int32.ofInt (-1)), rfl, rfl, in_w (-1) 159 (in_c (-1) rfl) rfl⟩)
        · skip
          have c42x17a := lc_ne e42x16 c42x17
          refine g_lload 22 (gd rfl) rfl rfl ?_
          refine g_lload_n 23 (gd rfl) rfl rfl ?_
          refine g_ladd 24 (gd rfl) rfl (fun z42x23 e42x23 => ?_)
          have i42x23 := l_add 1 2047 e42x23 i42x2 (l_c 1024 rfl) rfl
          refine g_lreturn (gd rfl) rfl (hp42 _ _ ?_)
          show GG _ _ _ _ _ _ _ _ [.long z42x23, .long z32] _ _ _
          refine g_lcmp 46 (gd rfl) rfl (fun z45 e45 => ?_)
          have i45 := lc_in e45
          refine g_if_lt 49 51 (gd rfl) rfl rfl (fun c46 => ?_) (fun c46 => ?_)
          · skip
            have i46 := z_lt (-1) (-1) c46 i45 rfl
            have c46a := lc_lt e45 c46
            have i46a := lr_lt1 0 2046 c46a i32 i42x23 rfl
            have i46b := l_b e32 i46a
            refine g_iconst (-1) 52 (gd rfl) rfl rfl ?_
            refine g_istore 54 (gd rfl) rfl (Nat.le_of_ble_eq_true rfl) ?_
            refine g_iload_n 55 (gd rfl) rfl rfl ?_
            refine g_istore 57 (gd rfl) rfl (Nat.le_of_ble_eq_true rfl) ?_
            refine g_iconst 0 58 (gd rfl) rfl rfl ?_
            refine g_istore 60 (gd rfl) rfl (Nat.le_of_ble_eq_true rfl) ?_
            exact gg_w (by first | exact Nat.le_of_ble_eq_true rfl | omega) (gg_f (gf_cons rfl (gf_cons rfl (gf_cons rfl (gf_cons rfl (gf_cons rfl (gf_cons rfl (gf_cons rfl (gf_cons rfl gf_nil)))))))) (ct60 4001 s3 (Int32.ofInt (-1)) x2 (Int32.ofInt 0) hI3 (fr_tr rfl fr_rf hF3) (in_w 0 2046 i46b rfl) (in_w (-1) 159 (in_c (-1) rfl) rfl) (in_w 0 31 h2 rfl) (in_w 0 4000 (in_c 0 rfl) rfl) (m_in 4001 (in_w 0 4000 (in_c 0 rfl) rfl) rfl)))
          · skip
            have i46 := z_ge 0 1 c46 i45 rfl
            have c46a := lc_ge e45 c46
            have i46a := lr_le2 1 2147483647 c46a i42x23 i32 rfl
            have i46b := l_b e32 i46a
            refine g_iconst (-1) 50 (gd rfl) rfl rfl ?_
            exact g_ireturn (gd rfl) rfl rfl (hP _ _ ⟨s3, hI3, (fr_tr rfl fr_rf hF3), (Int32.ofInt (-1)), rfl, rfl, in_w (-1) 159 (in_c (-1) rfl) rfl⟩)

def fm_207_49_2 : FM := ([9, 10, 11, 12, 13, 14, 15], [55], [(2, 4), (49, 8), (49, 9), (49, 10), (49, 11)], [])
/-- GraphHouse$Ways.collect -/
theorem k_207_49_2 {Z : AmZ} {A : Nat → Nat} {s : GS} {ex : va_W} {d : Nat} {X : AmX} {x2 : Int32} {x3 : Int32} (hd : 22 ≤ d) (hI : Inv s) (h2 : In x2 0 31) (h3 : In x3 0 31) : GC Z d 207 [.ref (A 49), .ref (A 2), .int x2, .int x3] (WW Z A s ++ ex) 0 0 (fun v u => ∃ t : GS, Inv t ∧ Fr fm_207_49_2 s t ∧ v = none ∧ u = WW Z A t ++ ex) X := by
  intro post xp hP hX
  obtain ⟨u_2_0, e_2_0⟩ : ∃ w, w = s.2.2.1 2 0 := ⟨_, rfl⟩
  have ro_2_0 := inv_F hI 0 4000 rfl e_2_0
  refine g_enter2 (k := 207) (N := 900) (by first | exact dq1 hd rfl | exact dq0 hd rfl | exact dq2 hd rfl | exact dq3 hd rfl | omega) rfl (Nat.le_of_ble_eq_true rfl) ?_
  refine g_aload_n 1 (gd rfl) rfl rfl ?_
  refine g_getI 4 (gd rfl) rfl rfl rfl (fun z1 e1 => ?_)
  have i1 := inv_F hI (-1) 4000 rfl e1
  refine g_aload_n 5 (gd rfl) rfl rfl ?_
  refine g_getI 8 (gd rfl) rfl rfl rfl (fun z5 e5 => ?_)
  have q5 : u_2_0 = z5 := (e_2_0).trans e5.symm
  subst q5
  refine g_cmp_ne 11 28 (gd rfl) rfl rfl (fun c8 => ?_) (fun c8 => ?_)
  · skip
    refine g_aload_n 29 (gd rfl) rfl rfl ?_
    refine g_callv (X := _) (As := []) (r := []) (b := A 2) (q := 2) 32 (gd rfl) rfl rfl rfl rfl rfl (ww_o rfl) (Nat.le_of_ble_eq_true rfl) (Nat.zero_le _) (Nat.zero_le _) (k_106_2 (by first | exact dq1 hd rfl | exact dq0 hd rfl | exact dq2 hd rfl | exact dq3 hd rfl | omega) hI ) (fun e u h => h) (fun v u h => ?_)
    obtain ⟨s29, hI29, hF29, n29, rfl, rfl⟩ := h
    obtain ⟨z29a, e29⟩ : ∃ w, w = s29.2.2.1 2 4 := ⟨_, rfl⟩
    have i29a := inv_F hI29 (-1) 4000 rfl e29
    rw [← (show z29a = s29.2.2.1 2 4 from e29)] at n29
    rw [← (show u_2_0 = s29.2.2.1 2 0 from fr_F (e_2_0) hF29 rfl)] at n29
    show GG _ _ _ _ _ _ _ _ [] _ _ _
    refine g_aload_n 33 (gd rfl) rfl rfl ?_
    refine g_aload_n 34 (gd rfl) rfl rfl ?_
    refine g_getI 37 (gd rfl) rfl rfl rfl (fun z34 e34 => ?_)
    have q34 : u_2_0 = z34 := (fr_F (e_2_0) hF29 rfl).trans e34.symm
    subst q34
    refine g_putI 40 (gd rfl) rfl rfl rfl rfl ?_
    have hI37 := inv_sF (q := 49) (j := 8) hI29 rfl (in_w (-1) 4000 ro_2_0 rfl)
    refine g_aload_n 41 (gd rfl) rfl rfl ?_
    refine g_iload_n 42 (gd rfl) rfl rfl ?_
    refine g_putI 45 (gd rfl) rfl rfl rfl rfl ?_
    have hI42 := inv_sF (q := 49) (j := 9) hI37 rfl (in_w 0 31 h2 rfl)
    refine g_aload_n 46 (gd rfl) rfl rfl ?_
    refine g_iload_n 47 (gd rfl) rfl rfl ?_
    refine g_putI 50 (gd rfl) rfl rfl rfl rfl ?_
    have hI47 := inv_sF (q := 49) (j := 10) hI42 rfl (in_w 0 31 h3 rfl)
    refine g_aload_n 51 (gd rfl) rfl rfl ?_
    refine g_iconst 0 52 (gd rfl) rfl rfl ?_
    refine g_putI 55 (gd rfl) rfl rfl rfl rfl ?_
    have hI52 := inv_sF (q := 49) (j := 11) hI47 rfl (in_w 0 2001 (in_c 0 rfl) rfl)
    refine g_aload_n 56 (gd rfl) rfl rfl ?_
    refine g_aload_n 57 (gd rfl) rfl rfl ?_
    refine g_iload_n 58 (gd rfl) rfl rfl ?_
    refine g_iconst 1 59 (gd rfl) rfl rfl ?_
    refine g_iload_n 60 (gd rfl) rfl rfl ?_
    refine g_ishl 61 (gd rfl) rfl (fun z60 e60 => ?_)
    refine g_iconst 0 62 (gd rfl) rfl rfl ?_
    refine g_lconst 0 63 (gd rfl) rfl rfl ?_
    refine g_callv (X := _) (As := [.ref (A 2), .int x2, .int z60, .int (Int32.ofInt 0), .long (Int64.ofInt 0)]) (r := []) (b := A 49) (q := 49) 66 (gd rfl) rfl rfl rfl rfl rfl (ww_o rfl) (Nat.le_of_ble_eq_true rfl) (Nat.zero_le _) (Nat.zero_le _) (k_208_49_2 (by first | exact dq1 hd rfl | exact dq0 hd rfl | exact dq2 hd rfl | exact dq3 hd rfl | omega) hI52 (in_w 0 31 h2 rfl) (in_w 0 4 (in_c 0 rfl) rfl)) (fun e u h => h) (fun v u h => ?_)
    obtain ⟨s63, hI63, hF63, rfl, rfl⟩ := h
    show GG _ _ _ _ _ _ _ _ [] _ _ _
    refine g_aload_n 67 (gd rfl) rfl rfl ?_
    refine g_getI 70 (gd rfl) rfl rfl rfl (fun z67 e67 => ?_)
    have i67 := inv_F hI63 0 2001 rfl e67
    refine g_sipush 2000 73 (gd rfl) rfl rfl ?_
    refine g_cmp_gt 76 80 (gd rfl) rfl rfl (fun c73 => ?_) (fun c73 => ?_)
    · skip
      have i73 := r_lt2 2001 2001 c73 (in_c 2000 rfl) i67 rfl
      exact g_return (gd rfl) rfl (hP _ _ ⟨s63, hI63, (fr_tr rfl (fr_sF rfl (fr_sF rfl (fr_sF rfl (fr_sF rfl (fr_tr rfl fr_rf hF29))))) hF63), rfl, rfl⟩)
    · skip
      have i73 := r_le1 0 2000 c73 i67 (in_c 2000 rfl) rfl
      refine g_aload_n 77 (gd rfl) rfl rfl ?_
      refine g_callv (X := _) (As := []) (r := []) (b := A 49) (q := 49) 80 (gd rfl) rfl rfl rfl rfl rfl (ww_o rfl) (Nat.le_of_ble_eq_true rfl) (Nat.zero_le _) (Nat.zero_le _) (k_210_49 (by first | exact dq1 hd rfl | exact dq0 hd rfl | exact dq2 hd rfl | exact dq3 hd rfl | omega) hI63 ) (fun e u h => h) (fun v u h => ?_)
      obtain ⟨s77, hI77, hF77, rfl, rfl⟩ := h
      show GG _ _ _ _ _ _ _ _ [] _ _ _
      exact g_return (gd rfl) rfl (hP _ _ ⟨s77, hI77, (fr_tr rfl (fr_tr rfl (fr_sF rfl (fr_sF rfl (fr_sF rfl (fr_sF rfl (fr_tr rfl fr_rf hF29))))) hF63) hF77), rfl, rfl⟩)
  · skip
    have i8 := r_eq1 0 4000 c8 i1 ro_2_0 rfl
    refine g_aload_n 12 (gd rfl) rfl rfl ?_
    refine g_getI 15 (gd rfl) rfl rfl rfl (fun z12 e12 => ?_)
    have i12 := inv_F hI 0 31 rfl e12
    refine g_iload_n 16 (gd rfl) rfl rfl ?_
    refine g_cmp_ne 19 28 (gd rfl) rfl rfl (fun c16 => ?_) (fun c16 => ?_)
    · skip
      refine g_aload_n 29 (gd rfl) rfl rfl ?_
      refine g_callv (X := _) (As := []) (r := []) (b := A 2) (q := 2) 32 (gd rfl) rfl rfl rfl rfl rfl (ww_o rfl) (Nat.le_of_ble_eq_true rfl) (Nat.zero_le _) (Nat.zero_le _) (k_106_2 (by first | exact dq1 hd rfl | exact dq0 hd rfl | exact dq2 hd rfl | exact dq3 hd rfl | omega) hI ) (fun e u h => h) (fun v u h => ?_)
      obtain ⟨s29, hI29, hF29, n29, rfl, rfl⟩ := h
      obtain ⟨z29a, e29⟩ : ∃ w, w = s29.2.2.1 2 4 := ⟨_, rfl⟩
      have i29a := inv_F hI29 (-1) 4000 rfl e29
      rw [← (show z29a = s29.2.2.1 2 4 from e29)] at n29
      rw [← (show u_2_0 = s29.2.2.1 2 0 from fr_F (e_2_0) hF29 rfl)] at n29
      show GG _ _ _ _ _ _ _ _ [] _ _ _
      refine g_aload_n 33 (gd rfl) rfl rfl ?_
      refine g_aload_n 34 (gd rfl) rfl rfl ?_
      refine g_getI 37 (gd rfl) rfl rfl rfl (fun z34 e34 => ?_)
      have q34 : u_2_0 = z34 := (fr_F (e_2_0) hF29 rfl).trans e34.symm
      subst q34
      refine g_putI 40 (gd rfl) rfl rfl rfl rfl ?_
      have hI37 := inv_sF (q := 49) (j := 8) hI29 rfl (in_w (-1) 4000 ro_2_0 rfl)
      refine g_aload_n 41 (gd rfl) rfl rfl ?_
      refine g_iload_n 42 (gd rfl) rfl rfl ?_
      refine g_putI 45 (gd rfl) rfl rfl rfl rfl ?_
      have hI42 := inv_sF (q := 49) (j := 9) hI37 rfl (in_w 0 31 h2 rfl)
      refine g_aload_n 46 (gd rfl) rfl rfl ?_
      refine g_iload_n 47 (gd rfl) rfl rfl ?_
      refine g_putI 50 (gd rfl) rfl rfl rfl rfl ?_
      have hI47 := inv_sF (q := 49) (j := 10) hI42 rfl (in_w 0 31 h3 rfl)
      refine g_aload_n 51 (gd rfl) rfl rfl ?_
      refine g_iconst 0 52 (gd rfl) rfl rfl ?_
      refine g_putI 55 (gd rfl) rfl rfl rfl rfl ?_
      have hI52 := inv_sF (q := 49) (j := 11) hI47 rfl (in_w 0 2001 (in_c 0 rfl) rfl)
      refine g_aload_n 56 (gd rfl) rfl rfl ?_
      refine g_aload_n 57 (gd rfl) rfl rfl ?_
      refine g_iload_n 58 (gd rfl) rfl rfl ?_
      refine g_iconst 1 59 (gd rfl) rfl rfl ?_
      refine g_iload_n 60 (gd rfl) rfl rfl ?_
      refine g_ishl 61 (gd rfl) rfl (fun z60 e60 => ?_)
      refine g_iconst 0 62 (gd rfl) rfl rfl ?_
      refine g_lconst 0 63 (gd rfl) rfl rfl ?_
      refine g_callv (X := _) (As := [.ref (A 2), .int x2, .int z60, .int (Int32.ofInt 0), .long (Int64.ofInt 0)]) (r := []) (b := A 49) (q := 49) 66 (gd rfl) rfl rfl rfl rfl rfl (ww_o rfl) (Nat.le_of_ble_eq_true rfl) (Nat.zero_le _) (Nat.zero_le _) (k_208_49_2 (by first | exact dq1 hd rfl | exact dq0 hd rfl | exact dq2 hd rfl | exact dq3 hd rfl | omega) hI52 (in_w 0 31 h2 rfl) (in_w 0 4 (in_c 0 rfl) rfl)) (fun e u h => h) (fun v u h => ?_)
      obtain ⟨s63, hI63, hF63, rfl, rfl⟩ := h
      show GG _ _ _ _ _ _ _ _ [] _ _ _
      refine g_aload_n 67 (gd rfl) rfl rfl ?_
      refine g_getI 70 (gd rfl) rfl rfl rfl (fun z67 e67 => ?_)
      have i67 := inv_F hI63 0 2001 rfl e67
      refine g_sipush 2000 73 (gd rfl) rfl rfl ?_
      refine g_cmp_gt 76 80 (gd rfl) rfl rfl (fun c73 => ?_) (fun c73 => ?_)
      · skip
        have i73 := r_lt2 2001 2001 c73 (in_c 2000 rfl) i67 rfl
        exact g_return (gd rfl) rfl (hP _ _ ⟨s63, hI63, (fr_tr rfl (fr_sF rfl (fr_sF rfl (fr_sF rfl (fr_sF rfl (fr_tr rfl fr_rf hF29))))) hF63), rfl, rfl⟩)
      · skip
        have i73 := r_le1 0 2000 c73 i67 (in_c 2000 rfl) rfl
        refine g_aload_n 77 (gd rfl) rfl rfl ?_
        refine g_callv (X := _) (As := []) (r := []) (b := A 49) (q := 49) 80 (gd rfl) rfl rfl rfl rfl rfl (ww_o rfl) (Nat.le_of_ble_eq_true rfl) (Nat.zero_le _) (Nat.zero_le _) (k_210_49 (by first | exact dq1 hd rfl | exact dq0 hd rfl | exact dq2 hd rfl | exact dq3 hd rfl | omega) hI63 ) (fun e u h => h) (fun v u h => ?_)
        obtain ⟨s77, hI77, hF77, rfl, rfl⟩ := h
        show GG _ _ _ _ _ _ _ _ [] _ _ _
        exact g_return (gd rfl) rfl (hP _ _ ⟨s77, hI77, (fr_tr rfl (fr_tr rfl (fr_sF rfl (fr_sF rfl (fr_sF rfl (fr_sF rfl (fr_tr rfl fr_rf hF29))))) hF63) hF77), rfl, rfl⟩)
    · skip
      refine g_aload_n 20 (gd rfl) rfl rfl ?_
      refine g_getI 23 (gd rfl) rfl rfl rfl (fun z20 e20 => ?_)
      have i20 := inv_F hI 0 31 rfl e20
      refine g_iload_n 24 (gd rfl) rfl rfl ?_
      refine g_cmp_ne 27 28 (gd rfl) rfl rfl (fun c24 => ?_) (fun c24 => ?_)
      · skip
        refine g_aload_n 29 (gd rfl) rfl rfl ?_
        refine g_callv (X := _) (As := []) (r := []) (b := A 2) (q := 2) 32 (gd rfl) rfl rfl rfl rfl rfl (ww_o rfl) (Nat.le_of_ble_eq_true rfl) (Nat.zero_le _) (Nat.zero_le _) (k_106_2 (by first | exact dq1 hd rfl | exact dq0 hd rfl | exact dq2 hd rfl | exact dq3 hd rfl | omega) hI ) (fun e u h => h) (fun v u h => ?_)
        obtain ⟨s29, hI29, hF29, n29, rfl, rfl⟩ := h
        obtain ⟨z29a, e29⟩ : ∃ w, w = s29.2.2.1 2 4 := ⟨_, rfl⟩
        have i29a := inv_F hI29 (-1) 4000 rfl e29
        rw [← (show z29a = s29.2.2.1 2 4 from e29)] at n29
        rw [← (show u_2_0 = s29.2.2.1 2 0 from fr_F (e_2_0) hF29 rfl)] at n29
        show GG _ _ _ _ _ _ _ _ [] _ _ _
        refine g_aload_n 33 (gd rfl) rfl rfl ?_
        refine g_aload_n 34 (gd rfl) rfl rfl ?_
        refine g_getI 37 (gd rfl) rfl rfl rfl (fun z34 e34 => ?_)
        have q34 : u_2_0 = z34 := (fr_F (e_2_0) hF29 rfl).trans e34.symm
        subst q34
        refine g_putI 40 (gd rfl) rfl rfl rfl rfl ?_
        have hI37 := inv_sF (q := 49) (j := 8) hI29 rfl (in_w (-1) 4000 ro_2_0 rfl)
        refine g_aload_n 41 (gd rfl) rfl rfl ?_
        refine g_iload_n 42 (gd rfl) rfl rfl ?_
        refine g_putI 45 (gd rfl) rfl rfl rfl rfl ?_
        have hI42 := inv_sF (q := 49) (j := 9) hI37 rfl (in_w 0 31 h2 rfl)
        refine g_aload_n 46 (gd rfl) rfl rfl ?_
        refine g_iload_n 47 (gd rfl) rfl rfl ?_
        refine g_putI 50 (gd rfl) rfl rfl rfl rfl ?_
        have hI47 := inv_sF (q := 49) (j := 10) hI42 rfl (in_w 0 31 h3 rfl)
        refine g_aload_n 51 (gd rfl) rfl rfl ?_
        refine g_iconst 0 52 (gd rfl) rfl rfl ?_
        refine g_putI 55 (gd rfl) rfl rfl rfl rfl ?_
        have hI52 := inv_sF (q := 49) (j := 11) hI47 rfl (in_w 0 2001 (in_c 0 rfl) rfl)
        refine g_aload_n 56 (gd rfl) rfl rfl ?_
        refine g_aload_n 57 (gd rfl) rfl rfl ?_
        refine g_iload_n 58 (gd rfl) rfl rfl ?_
        refine g_iconst 1 59 (gd rfl) rfl rfl ?_
        refine g_iload_n 60 (gd rfl) rfl rfl ?_
        refine g_ishl 61 (gd rfl) rfl (fun z60 e60 => ?_)
        refine g_iconst 0 62 (gd rfl) rfl rfl ?_
        refine g_lconst 0 63 (gd rfl) rfl rfl ?_
        refine g_callv (X := _) (As := [.ref (A 2), .int x2, .int z60, .int (Int32.ofInt 0), .long (Int64.ofInt 0)]) (r := []) (b := A 49) (q := 49) 66 (gd rfl) rfl rfl rfl rfl rfl (ww_o rfl) (Nat.le_of_ble_eq_true rfl) (Nat.zero_le _) (Nat.zero_le _) (k_208_49_2 (by first | exact dq1 hd rfl | exact dq0 hd rfl | exact dq2 hd rfl | exact dq3 hd rfl | omega) hI52 (in_w 0 31 h2 rfl) (in_w 0 4 (in_c 0 rfl) rfl)) (fun e u h => h) (fun v u h => ?_)
        obtain ⟨s63, hI63, hF63, rfl, rfl⟩ := h
        show GG _ _ _ _ _ _ _ _ [] _ _ _
        refine g_aload_n 67 (gd rfl) rfl rfl ?_
        refine g_getI 70 (gd rfl) rfl rfl rfl (fun z67 e67 => ?_)
        have i67 := inv_F hI63 0 2001 rfl e67
        refine g_sipush 2000 73 (gd rfl) rfl rfl ?_
        refine g_cmp_gt 76 80 (gd rfl) rfl rfl (fun c73 => ?_) (fun c73 => ?_)
        · skip
          have i73 := r_lt2 2001 2001 c73 (in_c 2000 rfl) i67 rfl
          exact g_return (gd rfl) rfl (hP _ _ ⟨s63, hI63, (fr_tr rfl (fr_sF rfl (fr_sF rfl (fr_sF rfl (fr_sF rfl (fr_tr rfl fr_rf hF29))))) hF63), rfl, rfl⟩)
        · skip
          have i73 := r_le1 0 2000 c73 i67 (in_c 2000 rfl) rfl
          refine g_aload_n 77 (gd rfl) rfl rfl ?_
          refine g_callv (X := _) (As := []) (r := []) (b := A 49) (q := 49) 80 (gd rfl) rfl rfl rfl rfl rfl (ww_o rfl) (Nat.le_of_ble_eq_true rfl) (Nat.zero_le _) (Nat.zero_le _) (k_210_49 (by first | exact dq1 hd rfl | exact dq0 hd rfl | exact dq2 hd rfl | exact dq3 hd rfl | omega) hI63 ) (fun e u h => h) (fun v u h => ?_)
          obtain ⟨s77, hI77, hF77, rfl, rfl⟩ := h
          show GG _ _ _ _ _ _ _ _ [] _ _ _
          exact g_return (gd rfl) rfl (hP _ _ ⟨s77, hI77, (fr_tr rfl (fr_tr rfl (fr_sF rfl (fr_sF rfl (fr_sF rfl (fr_sF rfl (fr_tr rfl fr_rf hF29))))) hF63) hF77), rfl, rfl⟩)
      · skip
        exact g_return (gd rfl) rfl (hP _ _ ⟨s, hI, fr_rf, rfl, rfl⟩)

def fm_207_49_32 : FM := ([39, 40, 41, 42, 43, 44, 45], [55], [(32, 4), (49, 8), (49, 9), (49, 10), (49, 11)], [])
/-- GraphHouse$Ways.collect -/
theorem k_207_49_32 {Z : AmZ} {A : Nat → Nat} {s : GS} {ex : va_W} {d : Nat} {X : AmX} {x2 : Int32} {x3 : Int32} (hd : 22 ≤ d) (hI : Inv s) (h2 : In x2 0 31) (h3 : In x3 0 31) : GC Z d 207 [.ref (A 49), .ref (A 32), .int x2, .int x3] (WW Z A s ++ ex) 0 0 (fun v u => ∃ t : GS, Inv t ∧ Fr fm_207_49_32 s t ∧ v = none ∧ u = WW Z A t ++ ex) X := by
  intro post xp hP hX
  obtain ⟨u_32_0, e_32_0⟩ : ∃ w, w = s.2.2.1 32 0 := ⟨_, rfl⟩
  have ro_32_0 := inv_F hI 0 4000 rfl e_32_0
  refine g_enter2 (k := 207) (N := 900) (by first | exact dq1 hd rfl | exact dq0 hd rfl | exact dq2 hd rfl | exact dq3 hd rfl | omega) rfl (Nat.le_of_ble_eq_true rfl) ?_
  refine g_aload_n 1 (gd rfl) rfl rfl ?_
  refine g_getI 4 (gd rfl) rfl rfl rfl (fun z1 e1 => ?_)
  have i1 := inv_F hI (-1) 4000 rfl e1
  refine g_aload_n 5 (gd rfl) rfl rfl ?_
  refine g_getI 8 (gd rfl) rfl rfl rfl (fun z5 e5 => ?_)
  have q5 : u_32_0 = z5 := (e_32_0).trans e5.symm
  subst q5
  refine g_cmp_ne 11 28 (gd rfl) rfl rfl (fun c8 => ?_) (fun c8 => ?_)
  · skip
    refine g_aload_n 29 (gd rfl) rfl rfl ?_
    refine g_callv (X := _) (As := []) (r := []) (b := A 32) (q := 32) 32 (gd rfl) rfl rfl rfl rfl rfl (ww_o rfl) (Nat.le_of_ble_eq_true rfl) (Nat.zero_le _) (Nat.zero_le _) (k_106_32 (by first | exact dq1 hd rfl | exact dq0 hd rfl | exact dq2 hd rfl | exact dq3 hd rfl | omega) hI ) (fun e u h => h) (fun v u h => ?_)
    obtain ⟨s29, hI29, hF29, n29, rfl, rfl⟩ := h
    obtain ⟨z29a, e29⟩ : ∃ w, w = s29.2.2.1 32 4 := ⟨_, rfl⟩
    have i29a := inv_F hI29 (-1) 4000 rfl e29
    rw [← (show z29a = s29.2.2.1 32 4 from e29)] at n29
    rw [← (show u_32_0 = s29.2.2.1 32 0 from fr_F (e_32_0) hF29 rfl)] at n29
    show GG _ _ _ _ _ _ _ _ [] _ _ _
    refine g_aload_n 33 (gd rfl) rfl rfl ?_
    refine g_aload_n 34 (gd rfl) rfl rfl ?_
    refine g_getI 37 (gd rfl) rfl rfl rfl (fun z34 e34 => ?_)
    have q34 : u_32_0 = z34 := (fr_F (e_32_0) hF29 rfl).trans e34.symm
    subst q34
    refine g_putI 40 (gd rfl) rfl rfl rfl rfl ?_
    have hI37 := inv_sF (q := 49) (j := 8) hI29 rfl (in_w (-1) 4000 ro_32_0 rfl)
    refine g_aload_n 41 (gd rfl) rfl rfl ?_
    refine g_iload_n 42 (gd rfl) rfl rfl ?_
    refine g_putI 45 (gd rfl) rfl rfl rfl rfl ?_
    have hI42 := inv_sF (q := 49) (j := 9) hI37 rfl (in_w 0 31 h2 rfl)
    refine g_aload_n 46 (gd rfl) rfl rfl ?_
    refine g_iload_n 47 (gd rfl) rfl rfl ?_
    refine g_putI 50 (gd rfl) rfl rfl rfl rfl ?_
    have hI47 := inv_sF (q := 49) (j := 10) hI42 rfl (in_w 0 31 h3 rfl)
    refine g_aload_n 51 (gd rfl) rfl rfl ?_
    refine g_iconst 0 52 (gd rfl) rfl rfl ?_
    refine g_putI 55 (gd rfl) rfl rfl rfl rfl ?_
    have hI52 := inv_sF (q := 49) (j := 11) hI47 rfl (in_w 0 2001 (in_c 0 rfl) rfl)
    refine g_aload_n 56 (gd rfl) rfl rfl ?_
    refine g_aload_n 57 (gd rfl) rfl rfl ?_
    refine g_iload_n 58 (gd rfl) rfl rfl ?_
    refine g_iconst 1 59 (gd rfl) rfl rfl ?_
    refine g_iload_n 60 (gd rfl) rfl rfl ?_
    refine g_ishl 61 (gd rfl) rfl (fun z60 e60 => ?_)
    refine g_iconst 0 62 (gd rfl) rfl rfl ?_
    refine g_lconst 0 63 (gd rfl) rfl rfl ?_
    refine g_callv (X := _) (As := [.ref (A 32), .int x2, .int z60, .int (Int32.ofInt 0), .long (Int64.ofInt 0)]) (r := []) (b := A 49) (q := 49) 66 (gd rfl) rfl rfl rfl rfl rfl (ww_o rfl) (Nat.le_of_ble_eq_true rfl) (Nat.zero_le _) (Nat.zero_le _) (k_208_49_32 (by first | exact dq1 hd rfl | exact dq0 hd rfl | exact dq2 hd rfl | exact dq3 hd rfl | omega) hI52 (in_w 0 31 h2 rfl) (in_w 0 4 (in_c 0 rfl) rfl)) (fun e u h => h) (fun v u h => ?_)
    obtain ⟨s63, hI63, hF63, rfl, rfl⟩ := h
    show GG _ _ _ _ _ _ _ _ [] _ _ _
    refine g_aload_n 67 (gd rfl) rfl rfl ?_
    refine g_getI 70 (gd rfl) rfl rfl rfl (fun z67 e67 => ?_)
    have i67 := inv_F hI63 0 2001 rfl e67
    refine g_sipush 2000 73 (gd rfl) rfl rfl ?_
    refine g_cmp_gt 76 80 (gd rfl) rfl rfl (fun c73 => ?_) (fun c73 => ?_)
    · skip
      have i73 := r_lt2 2001 2001 c73 (in_c 2000 rfl) i67 rfl
      exact g_return (gd rfl) rfl (hP _ _ ⟨s63, hI63, (fr_tr rfl (fr_sF rfl (fr_sF rfl (fr_sF rfl (fr_sF rfl (fr_tr rfl fr_rf hF29))))) hF63), rfl, rfl⟩)
    · skip
      have i73 := r_le1 0 2000 c73 i67 (in_c 2000 rfl) rfl
      refine g_aload_n 77 (gd rfl) rfl rfl ?_
      refine g_callv (X := _) (As := []) (r := []) (b := A 49) (q := 49) 80 (gd rfl) rfl rfl rfl rfl rfl (ww_o rfl) (Nat.le_of_ble_eq_true rfl) (Nat.zero_le _) (Nat.zero_le _) (k_210_49 (by first | exact dq1 hd rfl | exact dq0 hd rfl | exact dq2 hd rfl | exact dq3 hd rfl | omega) hI63 ) (fun e u h => h) (fun v u h => ?_)
      obtain ⟨s77, hI77, hF77, rfl, rfl⟩ := h
      show GG _ _ _ _ _ _ _ _ [] _ _ _
      exact g_return (gd rfl) rfl (hP _ _ ⟨s77, hI77, (fr_tr rfl (fr_tr rfl (fr_sF rfl (fr_sF rfl (fr_sF rfl (fr_sF rfl (fr_tr rfl fr_rf hF29))))) hF63) hF77), rfl, rfl⟩)
  · skip
    have i8 := r_eq1 0 4000 c8 i1 ro_32_0 rfl
    refine g_aload_n 12 (gd rfl) rfl rfl ?_
    refine g_getI 15 (gd rfl) rfl rfl rfl (fun z12 e12 => ?_)
    have i12 := inv_F hI 0 31 rfl e12
    refine g_iload_n 16 (gd rfl) rfl rfl ?_
    refine g_cmp_ne 19 28 (gd rfl) rfl rfl (fun c16 => ?_) (fun c16 => ?_)
    · skip
      refine g_aload_n 29 (gd rfl) rfl rfl ?_
      refine g_callv (X := _) (As := []) (r := []) (b := A 32) (q := 32) 32 (gd rfl) rfl rfl rfl rfl rfl (ww_o rfl) (Nat.le_of_ble_eq_true rfl) (Nat.zero_le _) (Nat.zero_le _) (k_106_32 (by first | exact dq1 hd rfl | exact dq0 hd rfl | exact dq2 hd rfl | exact dq3 hd rfl | omega) hI ) (fun e u h => h) (fun v u h => ?_)
      obtain ⟨s29, hI29, hF29, n29, rfl, rfl⟩ := h
      obtain ⟨z29a, e29⟩ : ∃ w, w = s29.2.2.1 32 4 := ⟨_, rfl⟩
      have i29a := inv_F hI29 (-1) 4000 rfl e29
      rw [← (show z29a = s29.2.2.1 32 4 from e29)] at n29
      rw [← (show u_32_0 = s29.2.2.1 32 0 from fr_F (e_32_0) hF29 rfl)] at n29
      show GG _ _ _ _ _ _ _ _ [] _ _ _
      refine g_aload_n 33 (gd rfl) rfl rfl ?_
      refine g_aload_n 34 (gd rfl) rfl rfl ?_
      refine g_getI 37 (gd rfl) rfl rfl rfl (fun z34 e34 => ?_)
      have q34 : u_32_0 = z34 := (fr_F (e_32_0) hF29 rfl).trans e34.symm
      subst q34
      refine g_putI 40 (gd rfl) rfl rfl rfl rfl ?_
      have hI37 := inv_sF (q := 49) (j := 8) hI29 rfl (in_w (-1) 4000 ro_32_0 rfl)
      refine g_aload_n 41 (gd rfl) rfl rfl ?_
      refine g_iload_n 42 (gd rfl) rfl rfl ?_
      refine g_putI 45 (gd rfl) rfl rfl rfl rfl ?_
      have hI42 := inv_sF (q := 49) (j := 9) hI37 rfl (in_w 0 31 h2 rfl)
      refine g_aload_n 46 (gd rfl) rfl rfl ?_
      refine g_iload_n 47 (gd rfl) rfl rfl ?_
      refine g_putI 50 (gd rfl) rfl rfl rfl rfl ?_
      have hI47 := inv_sF (q := 49) (j := 10) hI42 rfl (in_w 0 31 h3 rfl)
      refine g_aload_n 51 (gd rfl) rfl rfl ?_
      refine g_iconst 0 52 (gd rfl) rfl rfl ?_
      refine g_putI 55 (gd rfl) rfl rfl rfl rfl ?_
      have hI52 := inv_sF (q := 49) (j := 11) hI47 rfl (in_w 0 2001 (in_c 0 rfl) rfl)
      refine g_aload_n 56 (gd rfl) rfl rfl ?_
      refine g_aload_n 57 (gd rfl) rfl rfl ?_
      refine g_iload_n 58 (gd rfl) rfl rfl ?_
      refine g_iconst 1 59 (gd rfl) rfl rfl ?_
      refine g_iload_n 60 (gd rfl) rfl rfl ?_
      refine g_ishl 61 (gd rfl) rfl (fun z60 e60 => ?_)
      refine g_iconst 0 62 (gd rfl) rfl rfl ?_
      refine g_lconst 0 63 (gd rfl) rfl rfl ?_
      refine g_callv (X := _) (As := [.ref (A 32), .int x2, .int z60, .int (Int32.ofInt 0), .long (Int64.ofInt 0)]) (r := []) (b := A 49) (q := 49) 66 (gd rfl) rfl rfl rfl rfl rfl (ww_o rfl) (Nat.le_of_ble_eq_true rfl) (Nat.zero_le _) (Nat.zero_le _) (k_208_49_32 (by first | exact dq1 hd rfl | exact dq0 hd rfl | exact dq2 hd rfl | exact dq3 hd rfl | omega) hI52 (in_w 0 31 h2 rfl) (in_w 0 4 (in_c 0 rfl) rfl)) (fun e u h => h) (fun v u h => ?_)
      obtain ⟨s63, hI63, hF63, rfl, rfl⟩ := h
      show GG _ _ _ _ _ _ _ _ [] _ _ _
      refine g_aload_n 67 (gd rfl) rfl rfl ?_
      refine g_getI 70 (gd rfl) rfl rfl rfl (fun z67 e67 => ?_)
      have i67 := inv_F hI63 0 2001 rfl e67
      refine g_sipush 2000 73 (gd rfl) rfl rfl ?_
      refine g_cmp_gt 76 80 (gd rfl) rfl rfl (fun c73 => ?_) (fun c73 => ?_)
      · skip
        have i73 := r_lt2 2001 2001 c73 (in_c 2000 rfl) i67 rfl
        exact g_return (gd rfl) rfl (hP _ _ ⟨s63, hI63, (fr_tr rfl (fr_sF rfl (fr_sF rfl (fr_sF rfl (fr_sF rfl (fr_tr rfl fr_rf hF29))))) hF63), rfl, rfl⟩)
      · skip
        have i73 := r_le1 0 2000 c73 i67 (in_c 2000 rfl) rfl
        refine g_aload_n 77 (gd rfl) rfl rfl ?_
        refine g_callv (X := _) (As := []) (r := []) (b := A 49) (q := 49) 80 (gd rfl) rfl rfl rfl rfl rfl (ww_o rfl) (Nat.le_of_ble_eq_true rfl) (Nat.zero_le _) (Nat.zero_le _) (k_210_49 (by first | exact dq1 hd rfl | exact dq0 hd rfl | exact dq2 hd rfl | exact dq3 hd rfl | omega) hI63 ) (fun e u h => h) (fun v u h => ?_)
        obtain ⟨s77, hI77, hF77, rfl, rfl⟩ := h
        show GG _ _ _ _ _ _ _ _ [] _ _ _
        exact g_return (gd rfl) rfl (hP _ _ ⟨s77, hI77, (fr_tr rfl (fr_tr rfl (fr_sF rfl (fr_sF rfl (fr_sF rfl (fr_sF rfl (fr_tr rfl fr_rf hF29))))) hF63) hF77), rfl, rfl⟩)
    · skip
      refine g_aload_n 20 (gd rfl) rfl rfl ?_
      refine g_getI 23 (gd rfl) rfl rfl rfl (fun z20 e20 => ?_)
      have i20 := inv_F hI 0 31 rfl e20
      refine g_iload_n 24 (gd rfl) rfl rfl ?_
      refine g_cmp_ne 27 28 (gd rfl) rfl rfl (fun c24 => ?_) (fun c24 => ?_)
      · skip
        refine g_aload_n 29 (gd rfl) rfl rfl ?_
        refine g_callv (X := _) (As := []) (r := []) (b := A 32) (q := 32) 32 (gd rfl) rfl rfl rfl rfl rfl (ww_o rfl) (Nat.le_of_ble_eq_true rfl) (Nat.zero_le _) (Nat.zero_le _) (k_106_32 (by first | exact dq1 hd rfl | exact dq0 hd rfl | exact dq2 hd rfl | exact dq3 hd rfl | omega) hI ) (fun e u h => h) (fun v u h => ?_)
        obtain ⟨s29, hI29, hF29, n29, rfl, rfl⟩ := h
        obtain ⟨z29a, e29⟩ : ∃ w, w = s29.2.2.1 32 4 := ⟨_, rfl⟩
        have i29a := inv_F hI29 (-1) 4000 rfl e29
        rw [← (show z29a = s29.2.2.1 32 4 from e29)] at n29
        rw [← (show u_32_0 = s29.2.2.1 32 0 from fr_F (e_32_0) hF29 rfl)] at n29
        show GG _ _ _ _ _ _ _ _ [] _ _ _
        refine g_aload_n 33 (gd rfl) rfl rfl ?_
        refine g_aload_n 34 (gd rfl) rfl rfl ?_
        refine g_getI 37 (gd rfl) rfl rfl rfl (fun z34 e34 => ?_)
        have q34 : u_32_0 = z34 := (fr_F (e_32_0) hF29 rfl).trans e34.symm
        subst q34
        refine g_putI 40 (gd rfl) rfl rfl rfl rfl ?_
        have hI37 := inv_sF (q := 49) (j := 8) hI29 rfl (in_w (-1) 4000 ro_32_0 rfl)
        refine g_aload_n 41 (gd rfl) rfl rfl ?_
        refine g_iload_n 42 (gd rfl) rfl rfl ?_
        refine g_putI 45 (gd rfl) rfl rfl rfl rfl ?_
        have hI42 := inv_sF (q := 49) (j := 9) hI37 rfl (in_w 0 31 h2 rfl)
        refine g_aload_n 46 (gd rfl) rfl rfl ?_
        refine g_iload_n 47 (gd rfl) rfl rfl ?_
        refine g_putI 50 (gd rfl) rfl rfl rfl rfl ?_
        have hI47 := inv_sF (q := 49) (j := 10) hI42 rfl (in_w 0 31 h3 rfl)
        refine g_aload_n 51 (gd rfl) rfl rfl ?_
        refine g_iconst 0 52 (gd rfl) rfl rfl ?_
        refine g_putI 55 (gd rfl) rfl rfl rfl rfl ?_
        have hI52 := inv_sF (q := 49) (j := 11) hI47 rfl (in_w 0 2001 (in_c 0 rfl) rfl)
        refine g_aload_n 56 (gd rfl) rfl rfl ?_
        refine g_aload_n 57 (gd rfl) rfl rfl ?_
        refine g_iload_n 58 (gd rfl) rfl rfl ?_
        refine g_iconst 1 59 (gd rfl) rfl rfl ?_
        refine g_iload_n 60 (gd rfl) rfl rfl ?_
        refine g_ishl 61 (gd rfl) rfl (fun z60 e60 => ?_)
        refine g_iconst 0 62 (gd rfl) rfl rfl ?_
        refine g_lconst 0 63 (gd rfl) rfl rfl ?_
        refine g_callv (X := _) (As := [.ref (A 32), .int x2, .int z60, .int (Int32.ofInt 0), .long (Int64.ofInt 0)]) (r := []) (b := A 49) (q := 49) 66 (gd rfl) rfl rfl rfl rfl rfl (ww_o rfl) (Nat.le_of_ble_eq_true rfl) (Nat.zero_le _) (Nat.zero_le _) (k_208_49_32 (by first | exact dq1 hd rfl | exact dq0 hd rfl | exact dq2 hd rfl | exact dq3 hd rfl | omega) hI52 (in_w 0 31 h2 rfl) (in_w 0 4 (in_c 0 rfl) rfl)) (fun e u h => h) (fun v u h => ?_)
        obtain ⟨s63, hI63, hF63, rfl, rfl⟩ := h
        show GG _ _ _ _ _ _ _ _ [] _ _ _
        refine g_aload_n 67 (gd rfl) rfl rfl ?_
        refine g_getI 70 (gd rfl) rfl rfl rfl (fun z67 e67 => ?_)
        have i67 := inv_F hI63 0 2001 rfl e67
        refine g_sipush 2000 73 (gd rfl) rfl rfl ?_
        refine g_cmp_gt 76 80 (gd rfl) rfl rfl (fun c73 => ?_) (fun c73 => ?_)
        · skip
          have i73 := r_lt2 2001 2001 c73 (in_c 2000 rfl) i67 rfl
          exact g_return (gd rfl) rfl (hP _ _ ⟨s63, hI63, (fr_tr rfl (fr_sF rfl (fr_sF rfl (fr_sF rfl (fr_sF rfl (fr_tr rfl fr_rf hF29))))) hF63), rfl, rfl⟩)
        · skip
          have i73 := r_le1 0 2000 c73 i67 (in_c 2000 rfl) rfl
          refine g_aload_n 77 (gd rfl) rfl rfl ?_
          refine g_callv (X := _) (As := []) (r := []) (b := A 49) (q := 49) 80 (gd rfl) rfl rfl rfl rfl rfl (ww_o rfl) (Nat.le_of_ble_eq_true rfl) (Nat.zero_le _) (Nat.zero_le _) (k_210_49 (by first | exact dq1 hd rfl | exact dq0 hd rfl | exact dq2 hd rfl | exact dq3 hd rfl | omega) hI63 ) (fun e u h => h) (fun v u h => ?_)
          obtain ⟨s77, hI77, hF77, rfl, rfl⟩ := h
          show GG _ _ _ _ _ _ _ _ [] _ _ _
          exact g_return (gd rfl) rfl (hP _ _ ⟨s77, hI77, (fr_tr rfl (fr_tr rfl (fr_sF rfl (fr_sF rfl (fr_sF rfl (fr_sF rfl (fr_tr rfl fr_rf hF29))))) hF63) hF77), rfl, rfl⟩)
      · skip
        exact g_return (gd rfl) rfl (hP _ _ ⟨s, hI, fr_rf, rfl, rfl⟩)

def fm_230_0 : FM := ([9, 10, 11, 12, 13, 14, 15, 39, 40, 41, 42, 43, 44, 45], [50], [(2, 4), (32, 4), (49, 0), (49, 1), (49, 2)], [])
/-- GraphHouse.way -/
theorem k_230_0 {Z : AmZ} {A : Nat → Nat} {s : GS} {ex : va_W} {d : Nat} {x1 : Int32} {x2 : Int32} {x3 : Int32} (hd : 7 ≤ d) (hI : Inv s)  : GC Z d 230 [.ref (A 0), .int x1, .int x2, .int x3] (WW Z A s ++ ex) 3 18 (fun v u => ∃ t : GS, Inv t ∧ Fr fm_230_0 s t ∧ ∃ z : Int32, v = some (.int z) ∧ u = WW Z A t ++ ex ∧ In z (-1) 159) (gE1 Z A ex fm_230_0 s) := by
  intro post xp hP hX
  obtain ⟨u_0_2, e_0_2⟩ : ∃ w, w = s.2.2.1 0 2 := ⟨_, rfl⟩
  have ro_0_2 := inv_F hI (-1) 4000 rfl e_0_2
  obtain ⟨u_2_1, e_2_1⟩ : ∃ w, w = s.2.2.1 2 1 := ⟨_, rfl⟩
  have ro_2_1 := inv_F hI 0 32 rfl e_2_1
  obtain ⟨u_32_1, e_32_1⟩ : ∃ w, w = s.2.2.1 32 1 := ⟨_, rfl⟩
  have ro_32_1 := inv_F hI 0 32 rfl e_32_1
  refine g_enter2 (k := 230) (N := 900) (by first | exact dq1 hd rfl | exact dq0 hd rfl | exact dq2 hd rfl | exact dq3 hd rfl | omega) rfl (Nat.le_of_ble_eq_true rfl) ?_
  refine g_aload_n 1 (gd rfl) rfl rfl ?_
  refine g_callv (X := _) (As := []) (r := []) (b := A 0) (q := 0) 4 (gd rfl) rfl rfl rfl rfl rfl (ww_o rfl) (Nat.le_of_ble_eq_true rfl) (mc := 0) (ms := 0) (Nat.zero_le _) (Nat.zero_le _) (P := fun v u => _) ?_ (fun e u h => h) (fun v u h => h)
  intro po1 xx1 hp1 hx1
  refine g_enter2 (k := 259) (N := 300) (by first | exact dq1 hd rfl | exact dq0 hd rfl | exact dq2 hd rfl | exact dq3 hd rfl | omega) rfl (Nat.le_of_ble_eq_true rfl) ?_
  refine g_aload_n 1 (gd rfl) rfl rfl ?_
  refine g_getI 4 (gd rfl) rfl rfl rfl (fun z1x1 e1x1 => ?_)
  have q1x1 : u_0_2 = z1x1 := (e_0_2).trans e1x1.symm
  subst q1x1
  refine g_iconst (-1) 5 (gd rfl) rfl rfl ?_
  refine g_cmp_ne 8 18 (gd rfl) rfl rfl (fun c1x5 => ?_) (fun c1x5 => ?_)
  · skip
    have i1x5 := r_ne1 0 4000 c1x5 ro_0_2 (in_c (-1) rfl) rfl
    refine g_aload_n 19 (gd rfl) rfl rfl ?_
    refine g_getA (q2 := 32) 22 (gd rfl) rfl rfl rfl rfl ?_
    refine g_areturn (gd rfl) rfl (hp1 _ _ ?_)
    show GG _ _ _ _ _ _ _ _ [.ref (A 32)] _ _ _
    refine g_astore 6 (gd rfl) rfl (Nat.le_of_ble_eq_true rfl) ?_
    refine g_aload 8 (gd rfl) rfl rfl ?_
    refine g_iload_n 9 (gd rfl) rfl rfl ?_
    refine g_callv (X := _) (As := [.int x1]) (r := []) (b := A 32) (q := 32) 12 (gd rfl) rfl rfl rfl rfl rfl (ww_o rfl) (Nat.le_of_ble_eq_true rfl) (mc := 0) (ms := 0) (Nat.zero_le _) (Nat.zero_le _) (P := fun v u => _) ?_ (fun e u h => h) (fun v u h => h)
    intro po9 xx9 hp9 hx9
    refine g_enter2 (k := 94) (N := 300) (by first | exact dq1 hd rfl | exact dq0 hd rfl | exact dq2 hd rfl | exact dq3 hd rfl | omega) rfl (Nat.le_of_ble_eq_true rfl) ?_
    refine g_iload_n 1 (gd rfl) rfl rfl ?_
    refine g_if_lt 4 16 (gd rfl) rfl rfl (fun c9x1 => ?_) (fun c9x1 => ?_)
    · skip
      have i9x1 := z_lt (-2147483648) (-1) c9x1 (i_rng x1) rfl
      refine g_iconst 0 17 (gd rfl) rfl rfl ?_
      refine g_ireturn (gd rfl) rfl (nb01 (in_w 0 1 (in_c 0 rfl) rfl)) (hp9 _ _ ?_)
      show GG _ _ _ _ _ _ _ _ [.int (Int32.ofInt 0)] _ _ _
      refine g_if_eq 15 32 (gd rfl) rfl rfl (fun c12 => ?_) (fun c12 => ?_)
      · skip
        refine g_iconst 0 33 (gd rfl) rfl rfl ?_
        refine g_thr (E := am_IA) (y := yX11_allow) 36 (gd rfl) rfl rfl (Or.inl ⟨rfl, rfl, rfl⟩) (by first | exact dq1 hd rfl | exact dq0 hd rfl | exact dq2 hd rfl | exact dq3 hd rfl | omega) (Nat.le_of_ble_eq_true rfl) (Nat.le_of_ble_eq_true rfl) (Nat.le_of_ble_eq_true rfl) (fun c33 => ?_) (fun c33 => ?_)
        · skip
          exact zn_ne c33 (in_c 0 rfl) rfl
        · skip
          exact (hX _ _ ⟨rfl, s, hI, fr_rf, rfl⟩)
      · skip
        exact zn_ne c12 (in_c 0 rfl) rfl
    · skip
      have i9x1 := z_ge 0 2147483647 c9x1 (i_rng x1) rfl
      refine g_iload_n 5 (gd rfl) rfl rfl ?_
      refine g_aload_n 6 (gd rfl) rfl rfl ?_
      refine g_getI 9 (gd rfl) rfl rfl rfl (fun z9x6 e9x6 => ?_)
      have q9x6 : u_32_1 = z9x6 := (e_32_1).trans e9x6.symm
      subst q9x6
      refine g_cmp_ge 12 16 (gd rfl) rfl rfl (fun c9x9 => ?_) (fun c9x9 => ?_)
      · skip
        refine g_iconst 0 17 (gd rfl) rfl rfl ?_
        refine g_ireturn (gd rfl) rfl (nb01 (in_w 0 1 (in_c 0 rfl) rfl)) (hp9 _ _ ?_)
        show GG _ _ _ _ _ _ _ _ [.int (Int32.ofInt 0)] _ _ _
        refine g_if_eq 15 32 (gd rfl) rfl rfl (fun c12 => ?_) (fun c12 => ?_)
        · skip
          refine g_iconst 0 33 (gd rfl) rfl rfl ?_
          refine g_thr (E := am_IA) (y := yX11_allow) 36 (gd rfl) rfl rfl (Or.inl ⟨rfl, rfl, rfl⟩) (by first | exact dq1 hd rfl | exact dq0 hd rfl | exact dq2 hd rfl | exact dq3 hd rfl | omega) (Nat.le_of_ble_eq_true rfl) (Nat.le_of_ble_eq_true rfl) (Nat.le_of_ble_eq_true rfl) (fun c33 => ?_) (fun c33 => ?_)
          · skip
            exact zn_ne c33 (in_c 0 rfl) rfl
          · skip
            exact (hX _ _ ⟨rfl, s, hI, fr_rf, rfl⟩)
        · skip
          exact zn_ne c12 (in_c 0 rfl) rfl
      · skip
        have i9x9 := r_lt1 0 31 c9x9 i9x1 ro_32_1 rfl
        have i9x9a := r_lt2 1 32 c9x9 i9x1 ro_32_1 rfl
        refine g_iconst 1 13 (gd rfl) rfl rfl ?_
        refine g_goto 17 (gd rfl) rfl ?_
        refine g_ireturn (gd rfl) rfl (nb01 (in_w 0 1 (in_c 1 rfl) rfl)) (hp9 _ _ ?_)
        show GG _ _ _ _ _ _ _ _ [.int (Int32.ofInt 1)] _ _ _
        refine g_if_eq 15 32 (gd rfl) rfl rfl (fun c12 => ?_) (fun c12 => ?_)
        · skip
          exact zn_eq c12 (in_c 1 rfl) rfl
        · skip
          refine g_aload 17 (gd rfl) rfl rfl ?_
          refine g_iload_n 18 (gd rfl) rfl rfl ?_
          refine g_callv (X := _) (As := [.int x2]) (r := []) (b := A 32) (q := 32) 21 (gd rfl) rfl rfl rfl rfl rfl (ww_o rfl) (Nat.le_of_ble_eq_true rfl) (mc := 0) (ms := 0) (Nat.zero_le _) (Nat.zero_le _) (P := fun v u => _) ?_ (fun e u h => h) (fun v u h => h)
          intro po18 xx18 hp18 hx18
          refine g_enter2 (k := 94) (N := 300) (by first | exact dq1 hd rfl | exact dq0 hd rfl | exact dq2 hd rfl | exact dq3 hd rfl | omega) rfl (Nat.le_of_ble_eq_true rfl) ?_
          refine g_iload_n 1 (gd rfl) rfl rfl ?_
          refine g_if_lt 4 16 (gd rfl) rfl rfl (fun c18x1 => ?_) (fun c18x1 => ?_)
          · skip
            have i18x1 := z_lt (-2147483648) (-1) c18x1 (i_rng x2) rfl
            refine g_iconst 0 17 (gd rfl) rfl rfl ?_
            refine g_ireturn (gd rfl) rfl (nb01 (in_w 0 1 (in_c 0 rfl) rfl)) (hp18 _ _ ?_)
            show GG _ _ _ _ _ _ _ _ [.int (Int32.ofInt 0)] _ _ _
            refine g_if_eq 24 32 (gd rfl) rfl rfl (fun c21 => ?_) (fun c21 => ?_)
            · skip
              refine g_iconst 0 33 (gd rfl) rfl rfl ?_
              refine g_thr (E := am_IA) (y := yX11_allow) 36 (gd rfl) rfl rfl (Or.inl ⟨rfl, rfl, rfl⟩) (by first | exact dq1 hd rfl | exact dq0 hd rfl | exact dq2 hd rfl | exact dq3 hd rfl | omega) (Nat.le_of_ble_eq_true rfl) (Nat.le_of_ble_eq_true rfl) (Nat.le_of_ble_eq_true rfl) (fun c33 => ?_) (fun c33 => ?_)
              · skip
                exact zn_ne c33 (in_c 0 rfl) rfl
              · skip
                exact (hX _ _ ⟨rfl, s, hI, fr_rf, rfl⟩)
            · skip
              exact zn_ne c21 (in_c 0 rfl) rfl
          · skip
            have i18x1 := z_ge 0 2147483647 c18x1 (i_rng x2) rfl
            refine g_iload_n 5 (gd rfl) rfl rfl ?_
            refine g_aload_n 6 (gd rfl) rfl rfl ?_
            refine g_getI 9 (gd rfl) rfl rfl rfl (fun z18x6 e18x6 => ?_)
            have q18x6 : u_32_1 = z18x6 := (e_32_1).trans e18x6.symm
            subst q18x6
            refine g_cmp_ge 12 16 (gd rfl) rfl rfl (fun c18x9 => ?_) (fun c18x9 => ?_)
            · skip
              have i18x9 := r_le2 1 2147483647 c18x9 i9x9a i18x1 rfl
              refine g_iconst 0 17 (gd rfl) rfl rfl ?_
              refine g_ireturn (gd rfl) rfl (nb01 (in_w 0 1 (in_c 0 rfl) rfl)) (hp18 _ _ ?_)
              show GG _ _ _ _ _ _ _ _ [.int (Int32.ofInt 0)] _ _ _
              refine g_if_eq 24 32 (gd rfl) rfl rfl (fun c21 => ?_) (fun c21 => ?_)
              · skip
                refine g_iconst 0 33 (gd rfl) rfl rfl ?_
                refine g_thr (E := am_IA) (y := yX11_allow) 36 (gd rfl) rfl rfl (Or.inl ⟨rfl, rfl, rfl⟩) (by first | exact dq1 hd rfl | exact dq0 hd rfl | exact dq2 hd rfl | exact dq3 hd rfl | omega) (Nat.le_of_ble_eq_true rfl) (Nat.le_of_ble_eq_true rfl) (Nat.le_of_ble_eq_true rfl) (fun c33 => ?_) (fun c33 => ?_)
                · skip
                  exact zn_ne c33 (in_c 0 rfl) rfl
                · skip
                  exact (hX _ _ ⟨rfl, s, hI, fr_rf, rfl⟩)
              · skip
                exact zn_ne c21 (in_c 0 rfl) rfl
            · skip
              have i18x9 := r_lt1 0 31 c18x9 i18x1 i9x9a rfl
              refine g_iconst 1 13 (gd rfl) rfl rfl ?_
              refine g_goto 17 (gd rfl) rfl ?_
              refine g_ireturn (gd rfl) rfl (nb01 (in_w 0 1 (in_c 1 rfl) rfl)) (hp18 _ _ ?_)
              show GG _ _ _ _ _ _ _ _ [.int (Int32.ofInt 1)] _ _ _
              refine g_if_eq 24 32 (gd rfl) rfl rfl (fun c21 => ?_) (fun c21 => ?_)
              · skip
                exact zn_eq c21 (in_c 1 rfl) rfl
              · skip
                refine g_iload_n 25 (gd rfl) rfl rfl ?_
                refine g_if_lt 28 32 (gd rfl) rfl rfl (fun c25 => ?_) (fun c25 => ?_)
                · skip
                  have i25 := z_lt (-2147483648) (-1) c25 (i_rng x3) rfl
                  refine g_iconst 0 33 (gd rfl) rfl rfl ?_
                  refine g_thr (E := am_IA) (y := yX11_allow) 36 (gd rfl) rfl rfl (Or.inl ⟨rfl, rfl, rfl⟩) (by first | exact dq1 hd rfl | exact dq0 hd rfl | exact dq2 hd rfl | exact dq3 hd rfl | omega) (Nat.le_of_ble_eq_true rfl) (Nat.le_of_ble_eq_true rfl) (Nat.le_of_ble_eq_true rfl) (fun c33 => ?_) (fun c33 => ?_)
                  · skip
                    exact zn_ne c33 (in_c 0 rfl) rfl
                  · skip
                    exact (hX _ _ ⟨rfl, s, hI, fr_rf, rfl⟩)
                · skip
                  have i25 := z_ge 0 2147483647 c25 (i_rng x3) rfl
                  refine g_iconst 1 29 (gd rfl) rfl rfl ?_
                  refine g_goto 33 (gd rfl) rfl ?_
                  refine g_thr (E := am_IA) (y := yX11_allow) 36 (gd rfl) rfl rfl (Or.inl ⟨rfl, rfl, rfl⟩) (by first | exact dq1 hd rfl | exact dq0 hd rfl | exact dq2 hd rfl | exact dq3 hd rfl | omega) (Nat.le_of_ble_eq_true rfl) (Nat.le_of_ble_eq_true rfl) (Nat.le_of_ble_eq_true rfl) (fun c33 => ?_) (fun c33 => ?_)
                  · skip
                    refine g_aload_n 37 (gd rfl) rfl rfl ?_
                    refine g_getA (q2 := 49) 40 (gd rfl) rfl rfl rfl rfl ?_
                    refine g_aload 42 (gd rfl) rfl rfl ?_
                    refine g_iload_n 43 (gd rfl) rfl rfl ?_
                    refine g_iload_n 44 (gd rfl) rfl rfl ?_
                    refine g_iload_n 45 (gd rfl) rfl rfl ?_
                    refine g_callv (X := _) (As := [.ref (A 32), .int x1, .int x2, .int x3]) (r := []) (b := A 49) (q := 49) 48 (gd rfl) rfl rfl rfl rfl rfl (ww_o rfl) (Nat.le_of_ble_eq_true rfl) (Nat.zero_le _) (Nat.zero_le _) (k_195_49_32 (by first | exact dq1 hd rfl | exact dq0 hd rfl | exact dq2 hd rfl | exact dq3 hd rfl | omega) hI (in_w 0 31 i9x9 rfl) (in_w 0 31 i18x9 rfl) (in_w 0 2147483647 i25 rfl)) (fun e u h => h) (fun v u h => ?_)
                    obtain ⟨s45, hI45, hF45, z45, rfl, rfl, i45⟩ := h
                    show GG _ _ _ _ _ _ _ _ [.int z45] _ _ _
                    exact g_ireturn (gd rfl) rfl rfl (hP _ _ ⟨s45, hI45, (fr_tr rfl fr_rf hF45), z45, rfl, rfl, in_w (-1) 159 i45 rfl⟩)
                  · skip
                    exact zn_eq c33 (in_c 1 rfl) rfl
  · skip
    have i1x5 := r_eq1 (-1) (-1) c1x5 ro_0_2 (in_c (-1) rfl) rfl
    refine g_aload_n 9 (gd rfl) rfl rfl ?_
    refine g_getA (q2 := 1) 12 (gd rfl) rfl rfl rfl rfl ?_
    refine g_getA (q2 := 2) 15 (gd rfl) rfl rfl rfl rfl ?_
    refine g_goto 22 (gd rfl) rfl ?_
    refine g_areturn (gd rfl) rfl (hp1 _ _ ?_)
    show GG _ _ _ _ _ _ _ _ [.ref (A 2)] _ _ _
    refine g_astore 6 (gd rfl) rfl (Nat.le_of_ble_eq_true rfl) ?_
    refine g_aload 8 (gd rfl) rfl rfl ?_
    refine g_iload_n 9 (gd rfl) rfl rfl ?_
    refine g_callv (X := _) (As := [.int x1]) (r := []) (b := A 2) (q := 2) 12 (gd rfl) rfl rfl rfl rfl rfl (ww_o rfl) (Nat.le_of_ble_eq_true rfl) (mc := 0) (ms := 0) (Nat.zero_le _) (Nat.zero_le _) (P := fun v u => _) ?_ (fun e u h => h) (fun v u h => h)
    intro po9 xx9 hp9 hx9
    refine g_enter2 (k := 94) (N := 300) (by first | exact dq1 hd rfl | exact dq0 hd rfl | exact dq2 hd rfl | exact dq3 hd rfl | omega) rfl (Nat.le_of_ble_eq_true rfl) ?_
    refine g_iload_n 1 (gd rfl) rfl rfl ?_
    refine g_if_lt 4 16 (gd rfl) rfl rfl (fun c9x1 => ?_) (fun c9x1 => ?_)
    · skip
      have i9x1 := z_lt (-2147483648) (-1) c9x1 (i_rng x1) rfl
      refine g_iconst 0 17 (gd rfl) rfl rfl ?_
      refine g_ireturn (gd rfl) rfl (nb01 (in_w 0 1 (in_c 0 rfl) rfl)) (hp9 _ _ ?_)
      show GG _ _ _ _ _ _ _ _ [.int (Int32.ofInt 0)] _ _ _
      refine g_if_eq 15 32 (gd rfl) rfl rfl (fun c12 => ?_) (fun c12 => ?_)
      · skip
        refine g_iconst 0 33 (gd rfl) rfl rfl ?_
        refine g_thr (E := am_IA) (y := yX11_allow) 36 (gd rfl) rfl rfl (Or.inl ⟨rfl, rfl, rfl⟩) (by first | exact dq1 hd rfl | exact dq0 hd rfl | exact dq2 hd rfl | exact dq3 hd rfl | omega) (Nat.le_of_ble_eq_true rfl) (Nat.le_of_ble_eq_true rfl) (Nat.le_of_ble_eq_true rfl) (fun c33 => ?_) (fun c33 => ?_)
        · skip
          exact zn_ne c33 (in_c 0 rfl) rfl
        · skip
          exact (hX _ _ ⟨rfl, s, hI, fr_rf, rfl⟩)
      · skip
        exact zn_ne c12 (in_c 0 rfl) rfl
    · skip
      have i9x1 := z_ge 0 2147483647 c9x1 (i_rng x1) rfl
      refine g_iload_n 5 (gd rfl) rfl rfl ?_
      refine g_aload_n 6 (gd rfl) rfl rfl ?_
      refine g_getI 9 (gd rfl) rfl rfl rfl (fun z9x6 e9x6 => ?_)
      have q9x6 : u_2_1 = z9x6 := (e_2_1).trans e9x6.symm
      subst q9x6
      refine g_cmp_ge 12 16 (gd rfl) rfl rfl (fun c9x9 => ?_) (fun c9x9 => ?_)
      · skip
        refine g_iconst 0 17 (gd rfl) rfl rfl ?_
        refine g_ireturn (gd rfl) rfl (nb01 (in_w 0 1 (in_c 0 rfl) rfl)) (hp9 _ _ ?_)
        show GG _ _ _ _ _ _ _ _ [.int (Int32.ofInt 0)] _ _ _
        refine g_if_eq 15 32 (gd rfl) rfl rfl (fun c12 => ?_) (fun c12 => ?_)
        · skip
          refine g_iconst 0 33 (gd rfl) rfl rfl ?_
          refine g_thr (E := am_IA) (y := yX11_allow) 36 (gd rfl) rfl rfl (Or.inl ⟨rfl, rfl, rfl⟩) (by first | exact dq1 hd rfl | exact dq0 hd rfl | exact dq2 hd rfl | exact dq3 hd rfl | omega) (Nat.le_of_ble_eq_true rfl) (Nat.le_of_ble_eq_true rfl) (Nat.le_of_ble_eq_true rfl) (fun c33 => ?_) (fun c33 => ?_)
          · skip
            exact zn_ne c33 (in_c 0 rfl) rfl
          · skip
            exact (hX _ _ ⟨rfl, s, hI, fr_rf, rfl⟩)
        · skip
          exact zn_ne c12 (in_c 0 rfl) rfl
      · skip
        have i9x9 := r_lt1 0 31 c9x9 i9x1 ro_2_1 rfl
        have i9x9a := r_lt2 1 32 c9x9 i9x1 ro_2_1 rfl
        refine g_iconst 1 13 (gd rfl) rfl rfl ?_
        refine g_goto 17 (gd rfl) rfl ?_
        refine g_ireturn (gd rfl) rfl (nb01 (in_w 0 1 (in_c 1 rfl) rfl)) (hp9 _ _ ?_)
        show GG _ _ _ _ _ _ _ _ [.int (Int32.ofInt 1)] _ _ _
        refine g_if_eq 15 32 (gd rfl) rfl rfl (fun c12 => ?_) (fun c12 => ?_)
        · skip
          exact zn_eq c12 (in_c 1 rfl) rfl
        · skip
          refine g_aload 17 (gd rfl) rfl rfl ?_
          refine g_iload_n 18 (gd rfl) rfl rfl ?_
          refine g_callv (X := _) (As := [.int x2]) (r := []) (b := A 2) (q := 2) 21 (gd rfl) rfl rfl rfl rfl rfl (ww_o rfl) (Nat.le_of_ble_eq_true rfl) (mc := 0) (ms := 0) (Nat.zero_le _) (Nat.zero_le _) (P := fun v u => _) ?_ (fun e u h => h) (fun v u h => h)
          intro po18 xx18 hp18 hx18
          refine g_enter2 (k := 94) (N := 300) (by first | exact dq1 hd rfl | exact dq0 hd rfl | exact dq2 hd rfl | exact dq3 hd rfl | omega) rfl (Nat.le_of_ble_eq_true rfl) ?_
          refine g_iload_n 1 (gd rfl) rfl rfl ?_
          refine g_if_lt 4 16 (gd rfl) rfl rfl (fun c18x1 => ?_) (fun c18x1 => ?_)
          · skip
            have i18x1 := z_lt (-2147483648) (-1) c18x1 (i_rng x2) rfl
            refine g_iconst 0 17 (gd rfl) rfl rfl ?_
            refine g_ireturn (gd rfl) rfl (nb01 (in_w 0 1 (in_c 0 rfl) rfl)) (hp18 _ _ ?_)
            show GG _ _ _ _ _ _ _ _ [.int (Int32.ofInt 0)] _ _ _
            refine g_if_eq 24 32 (gd rfl) rfl rfl (fun c21 => ?_) (fun c21 => ?_)
            · skip
              refine g_iconst 0 33 (gd rfl) rfl rfl ?_
              refine g_thr (E := am_IA) (y := yX11_allow) 36 (gd rfl) rfl rfl (Or.inl ⟨rfl, rfl, rfl⟩) (by first | exact dq1 hd rfl | exact dq0 hd rfl | exact dq2 hd rfl | exact dq3 hd rfl | omega) (Nat.le_of_ble_eq_true rfl) (Nat.le_of_ble_eq_true rfl) (Nat.le_of_ble_eq_true rfl) (fun c33 => ?_) (fun c33 => ?_)
              · skip
                exact zn_ne c33 (in_c 0 rfl) rfl
              · skip
                exact (hX _ _ ⟨rfl, s, hI, fr_rf, rfl⟩)
            · skip
              exact zn_ne c21 (in_c 0 rfl) rfl
          · skip
            have i18x1 := z_ge 0 2147483647 c18x1 (i_rng x2) rfl
            refine g_iload_n 5 (gd rfl) rfl rfl ?_
            refine g_aload_n 6 (gd rfl) rfl rfl ?_
            refine g_getI 9 (gd rfl) rfl rfl rfl (fun z18x6 e18x6 => ?_)
            have q18x6 : u_2_1 = z18x6 := (e_2_1).trans e18x6.symm
            subst q18x6
            refine g_cmp_ge 12 16 (gd rfl) rfl rfl (fun c18x9 => ?_) (fun c18x9 => ?_)
            · skip
              have i18x9 := r_le2 1 2147483647 c18x9 i9x9a i18x1 rfl
              refine g_iconst 0 17 (gd rfl) rfl rfl ?_
              refine g_ireturn (gd rfl) rfl (nb01 (in_w 0 1 (in_c 0 rfl) rfl)) (hp18 _ _ ?_)
              show GG _ _ _ _ _ _ _ _ [.int (Int32.ofInt 0)] _ _ _
              refine g_if_eq 24 32 (gd rfl) rfl rfl (fun c21 => ?_) (fun c21 => ?_)
              · skip
                refine g_iconst 0 33 (gd rfl) rfl rfl ?_
                refine g_thr (E := am_IA) (y := yX11_allow) 36 (gd rfl) rfl rfl (Or.inl ⟨rfl, rfl, rfl⟩) (by first | exact dq1 hd rfl | exact dq0 hd rfl | exact dq2 hd rfl | exact dq3 hd rfl | omega) (Nat.le_of_ble_eq_true rfl) (Nat.le_of_ble_eq_true rfl) (Nat.le_of_ble_eq_true rfl) (fun c33 => ?_) (fun c33 => ?_)
                · skip
                  exact zn_ne c33 (in_c 0 rfl) rfl
                · skip
                  exact (hX _ _ ⟨rfl, s, hI, fr_rf, rfl⟩)
              · skip
                exact zn_ne c21 (in_c 0 rfl) rfl
            · skip
              have i18x9 := r_lt1 0 31 c18x9 i18x1 i9x9a rfl
              refine g_iconst 1 13 (gd rfl) rfl rfl ?_
              refine g_goto 17 (gd rfl) rfl ?_
              refine g_ireturn (gd rfl) rfl (nb01 (in_w 0 1 (in_c 1 rfl) rfl)) (hp18 _ _ ?_)
              show GG _ _ _ _ _ _ _ _ [.int (Int32.ofInt 1)] _ _ _
              refine g_if_eq 24 32 (gd rfl) rfl rfl (fun c21 => ?_) (fun c21 => ?_)
              · skip
                exact zn_eq c21 (in_c 1 rfl) rfl
              · skip
                refine g_iload_n 25 (gd rfl) rfl rfl ?_
                refine g_if_lt 28 32 (gd rfl) rfl rfl (fun c25 => ?_) (fun c25 => ?_)
                · skip
                  have i25 := z_lt (-2147483648) (-1) c25 (i_rng x3) rfl
                  refine g_iconst 0 33 (gd rfl) rfl rfl ?_
                  refine g_thr (E := am_IA) (y := yX11_allow) 36 (gd rfl) rfl rfl (Or.inl ⟨rfl, rfl, rfl⟩) (by first | exact dq1 hd rfl | exact dq0 hd rfl | exact dq2 hd rfl | exact dq3 hd rfl | omega) (Nat.le_of_ble_eq_true rfl) (Nat.le_of_ble_eq_true rfl) (Nat.le_of_ble_eq_true rfl) (fun c33 => ?_) (fun c33 => ?_)
                  · skip
                    exact zn_ne c33 (in_c 0 rfl) rfl
                  · skip
                    exact (hX _ _ ⟨rfl, s, hI, fr_rf, rfl⟩)
                · skip
                  have i25 := z_ge 0 2147483647 c25 (i_rng x3) rfl
                  refine g_iconst 1 29 (gd rfl) rfl rfl ?_
                  refine g_goto 33 (gd rfl) rfl ?_
                  refine g_thr (E := am_IA) (y := yX11_allow) 36 (gd rfl) rfl rfl (Or.inl ⟨rfl, rfl, rfl⟩) (by first | exact dq1 hd rfl | exact dq0 hd rfl | exact dq2 hd rfl | exact dq3 hd rfl | omega) (Nat.le_of_ble_eq_true rfl) (Nat.le_of_ble_eq_true rfl) (Nat.le_of_ble_eq_true rfl) (fun c33 => ?_) (fun c33 => ?_)
                  · skip
                    refine g_aload_n 37 (gd rfl) rfl rfl ?_
                    refine g_getA (q2 := 49) 40 (gd rfl) rfl rfl rfl rfl ?_
                    refine g_aload 42 (gd rfl) rfl rfl ?_
                    refine g_iload_n 43 (gd rfl) rfl rfl ?_
                    refine g_iload_n 44 (gd rfl) rfl rfl ?_
                    refine g_iload_n 45 (gd rfl) rfl rfl ?_
                    refine g_callv (X := _) (As := [.ref (A 2), .int x1, .int x2, .int x3]) (r := []) (b := A 49) (q := 49) 48 (gd rfl) rfl rfl rfl rfl rfl (ww_o rfl) (Nat.le_of_ble_eq_true rfl) (Nat.zero_le _) (Nat.zero_le _) (k_195_49_2 (by first | exact dq1 hd rfl | exact dq0 hd rfl | exact dq2 hd rfl | exact dq3 hd rfl | omega) hI (in_w 0 31 i9x9 rfl) (in_w 0 31 i18x9 rfl) (in_w 0 2147483647 i25 rfl)) (fun e u h => h) (fun v u h => ?_)
                    obtain ⟨s45, hI45, hF45, z45, rfl, rfl, i45⟩ := h
                    show GG _ _ _ _ _ _ _ _ [.int z45] _ _ _
                    exact g_ireturn (gd rfl) rfl rfl (hP _ _ ⟨s45, hI45, (fr_tr rfl fr_rf hF45), z45, rfl, rfl, in_w (-1) 159 i45 rfl⟩)
                  · skip
                    exact zn_eq c33 (in_c 1 rfl) rfl

def fm_232_0 : FM := ([9, 10, 11, 12, 13, 14, 15, 39, 40, 41, 42, 43, 44, 45], [55], [(2, 4), (32, 4), (49, 8), (49, 9), (49, 10), (49, 11)], [])
/-- GraphHouse.shorts -/
theorem k_232_0 {Z : AmZ} {A : Nat → Nat} {s : GS} {ex : va_W} {d : Nat} {x1 : Int32} {x2 : Int32} (hd : 24 ≤ d) (hI : Inv s)  : GC Z d 232 [.ref (A 0), .int x1, .int x2] (WW Z A s ++ ex) 3 18 (fun v u => ∃ t : GS, Inv t ∧ Fr fm_232_0 s t ∧ ∃ z : Int32, v = some (.int z) ∧ u = WW Z A t ++ ex ∧ In z (-2) 2000) (gE1 Z A ex fm_232_0 s) := by
  intro post xp hP hX
  obtain ⟨u_0_2, e_0_2⟩ : ∃ w, w = s.2.2.1 0 2 := ⟨_, rfl⟩
  have ro_0_2 := inv_F hI (-1) 4000 rfl e_0_2
  obtain ⟨u_2_1, e_2_1⟩ : ∃ w, w = s.2.2.1 2 1 := ⟨_, rfl⟩
  have ro_2_1 := inv_F hI 0 32 rfl e_2_1
  obtain ⟨u_32_1, e_32_1⟩ : ∃ w, w = s.2.2.1 32 1 := ⟨_, rfl⟩
  have ro_32_1 := inv_F hI 0 32 rfl e_32_1
  refine g_enter2 (k := 232) (N := 900) (by first | exact dq1 hd rfl | exact dq0 hd rfl | exact dq2 hd rfl | exact dq3 hd rfl | omega) rfl (Nat.le_of_ble_eq_true rfl) ?_
  refine g_aload_n 1 (gd rfl) rfl rfl ?_
  refine g_callv (X := _) (As := []) (r := []) (b := A 0) (q := 0) 4 (gd rfl) rfl rfl rfl rfl rfl (ww_o rfl) (Nat.le_of_ble_eq_true rfl) (mc := 0) (ms := 0) (Nat.zero_le _) (Nat.zero_le _) (P := fun v u => _) ?_ (fun e u h => h) (fun v u h => h)
  intro po1 xx1 hp1 hx1
  refine g_enter2 (k := 259) (N := 300) (by first | exact dq1 hd rfl | exact dq0 hd rfl | exact dq2 hd rfl | exact dq3 hd rfl | omega) rfl (Nat.le_of_ble_eq_true rfl) ?_
  refine g_aload_n 1 (gd rfl) rfl rfl ?_
  refine g_getI 4 (gd rfl) rfl rfl rfl (fun z1x1 e1x1 => ?_)
  have q1x1 : u_0_2 = z1x1 := (e_0_2).trans e1x1.symm
  subst q1x1
  refine g_iconst (-1) 5 (gd rfl) rfl rfl ?_
  refine g_cmp_ne 8 18 (gd rfl) rfl rfl (fun c1x5 => ?_) (fun c1x5 => ?_)
  · skip
    have i1x5 := r_ne1 0 4000 c1x5 ro_0_2 (in_c (-1) rfl) rfl
    refine g_aload_n 19 (gd rfl) rfl rfl ?_
    refine g_getA (q2 := 32) 22 (gd rfl) rfl rfl rfl rfl ?_
    refine g_areturn (gd rfl) rfl (hp1 _ _ ?_)
    show GG _ _ _ _ _ _ _ _ [.ref (A 32)] _ _ _
    refine g_astore_n 5 (gd rfl) rfl (Nat.le_of_ble_eq_true rfl) ?_
    refine g_aload_n 6 (gd rfl) rfl rfl ?_
    refine g_iload_n 7 (gd rfl) rfl rfl ?_
    refine g_iload_n 8 (gd rfl) rfl rfl ?_
    refine g_callv (X := _) (As := [.int x1, .int x2]) (r := []) (b := A 32) (q := 32) 11 (gd rfl) rfl rfl rfl rfl rfl (ww_o rfl) (Nat.le_of_ble_eq_true rfl) (mc := 0) (ms := 0) (Nat.zero_le _) (Nat.zero_le _) (P := fun v u => _) ?_ (fun e u h => h) (fun v u h => h)
    intro po8 xx8 hp8 hx8
    refine g_enter2 (k := 95) (N := 300) (by first | exact dq1 hd rfl | exact dq0 hd rfl | exact dq2 hd rfl | exact dq3 hd rfl | omega) rfl (Nat.le_of_ble_eq_true rfl) ?_
    refine g_aload_n 1 (gd rfl) rfl rfl ?_
    refine g_iload_n 2 (gd rfl) rfl rfl ?_
    refine g_callv (X := _) (As := [.int x1]) (r := []) (b := A 32) (q := 32) 5 (gd rfl) rfl rfl rfl rfl rfl (ww_o rfl) (Nat.le_of_ble_eq_true rfl) (mc := 0) (ms := 0) (Nat.zero_le _) (Nat.zero_le _) (P := fun v u => _) ?_ (fun e u h => h) (fun v u h => h)
    intro po8x2 xx8x2 hp8x2 hx8x2
    refine g_enter2 (k := 94) (N := 300) (by first | exact dq1 hd rfl | exact dq0 hd rfl | exact dq2 hd rfl | exact dq3 hd rfl | omega) rfl (Nat.le_of_ble_eq_true rfl) ?_
    refine g_iload_n 1 (gd rfl) rfl rfl ?_
    refine g_if_lt 4 16 (gd rfl) rfl rfl (fun c8x2x1 => ?_) (fun c8x2x1 => ?_)
    · skip
      have i8x2x1 := z_lt (-2147483648) (-1) c8x2x1 (i_rng x1) rfl
      refine g_iconst 0 17 (gd rfl) rfl rfl ?_
      refine g_ireturn (gd rfl) rfl (nb01 (in_w 0 1 (in_c 0 rfl) rfl)) (hp8x2 _ _ ?_)
      show GG _ _ _ _ _ _ _ _ [.int (Int32.ofInt 0)] _ _ _
      refine g_if_eq 8 25 (gd rfl) rfl rfl (fun c8x5 => ?_) (fun c8x5 => ?_)
      · skip
        refine g_iconst 0 26 (gd rfl) rfl rfl ?_
        refine g_ireturn (gd rfl) rfl (nb01 (in_w 0 1 (in_c 0 rfl) rfl)) (hp8 _ _ ?_)
        show GG _ _ _ _ _ _ _ _ [.int (Int32.ofInt 0)] _ _ _
        refine g_thr (E := am_IA) (y := yX11_allow) 14 (gd rfl) rfl rfl (Or.inl ⟨rfl, rfl, rfl⟩) (by first | exact dq1 hd rfl | exact dq0 hd rfl | exact dq2 hd rfl | exact dq3 hd rfl | omega) (Nat.le_of_ble_eq_true rfl) (Nat.le_of_ble_eq_true rfl) (Nat.le_of_ble_eq_true rfl) (fun c11 => ?_) (fun c11 => ?_)
        · skip
          exact zn_ne c11 (in_c 0 rfl) rfl
        · skip
          exact (hX _ _ ⟨rfl, s, hI, fr_rf, rfl⟩)
      · skip
        exact zn_ne c8x5 (in_c 0 rfl) rfl
    · skip
      have i8x2x1 := z_ge 0 2147483647 c8x2x1 (i_rng x1) rfl
      refine g_iload_n 5 (gd rfl) rfl rfl ?_
      refine g_aload_n 6 (gd rfl) rfl rfl ?_
      refine g_getI 9 (gd rfl) rfl rfl rfl (fun z8x2x6 e8x2x6 => ?_)
      have q8x2x6 : u_32_1 = z8x2x6 := (e_32_1).trans e8x2x6.symm
      subst q8x2x6
      refine g_cmp_ge 12 16 (gd rfl) rfl rfl (fun c8x2x9 => ?_) (fun c8x2x9 => ?_)
      · skip
        refine g_iconst 0 17 (gd rfl) rfl rfl ?_
        refine g_ireturn (gd rfl) rfl (nb01 (in_w 0 1 (in_c 0 rfl) rfl)) (hp8x2 _ _ ?_)
        show GG _ _ _ _ _ _ _ _ [.int (Int32.ofInt 0)] _ _ _
        refine g_if_eq 8 25 (gd rfl) rfl rfl (fun c8x5 => ?_) (fun c8x5 => ?_)
        · skip
          refine g_iconst 0 26 (gd rfl) rfl rfl ?_
          refine g_ireturn (gd rfl) rfl (nb01 (in_w 0 1 (in_c 0 rfl) rfl)) (hp8 _ _ ?_)
          show GG _ _ _ _ _ _ _ _ [.int (Int32.ofInt 0)] _ _ _
          refine g_thr (E := am_IA) (y := yX11_allow) 14 (gd rfl) rfl rfl (Or.inl ⟨rfl, rfl, rfl⟩) (by first | exact dq1 hd rfl | exact dq0 hd rfl | exact dq2 hd rfl | exact dq3 hd rfl | omega) (Nat.le_of_ble_eq_true rfl) (Nat.le_of_ble_eq_true rfl) (Nat.le_of_ble_eq_true rfl) (fun c11 => ?_) (fun c11 => ?_)
          · skip
            exact zn_ne c11 (in_c 0 rfl) rfl
          · skip
            exact (hX _ _ ⟨rfl, s, hI, fr_rf, rfl⟩)
        · skip
          exact zn_ne c8x5 (in_c 0 rfl) rfl
      · skip
        have i8x2x9 := r_lt1 0 31 c8x2x9 i8x2x1 ro_32_1 rfl
        have i8x2x9a := r_lt2 1 32 c8x2x9 i8x2x1 ro_32_1 rfl
        refine g_iconst 1 13 (gd rfl) rfl rfl ?_
        refine g_goto 17 (gd rfl) rfl ?_
        refine g_ireturn (gd rfl) rfl (nb01 (in_w 0 1 (in_c 1 rfl) rfl)) (hp8x2 _ _ ?_)
        show GG _ _ _ _ _ _ _ _ [.int (Int32.ofInt 1)] _ _ _
        refine g_if_eq 8 25 (gd rfl) rfl rfl (fun c8x5 => ?_) (fun c8x5 => ?_)
        · skip
          exact zn_eq c8x5 (in_c 1 rfl) rfl
        · skip
          refine g_aload_n 9 (gd rfl) rfl rfl ?_
          refine g_iload_n 10 (gd rfl) rfl rfl ?_
          refine g_callv (X := _) (As := [.int x2]) (r := []) (b := A 32) (q := 32) 13 (gd rfl) rfl rfl rfl rfl rfl (ww_o rfl) (Nat.le_of_ble_eq_true rfl) (mc := 0) (ms := 0) (Nat.zero_le _) (Nat.zero_le _) (P := fun v u => _) ?_ (fun e u h => h) (fun v u h => h)
          intro po8x10 xx8x10 hp8x10 hx8x10
          refine g_enter2 (k := 94) (N := 300) (by first | exact dq1 hd rfl | exact dq0 hd rfl | exact dq2 hd rfl | exact dq3 hd rfl | omega) rfl (Nat.le_of_ble_eq_true rfl) ?_
          refine g_iload_n 1 (gd rfl) rfl rfl ?_
          refine g_if_lt 4 16 (gd rfl) rfl rfl (fun c8x10x1 => ?_) (fun c8x10x1 => ?_)
          · skip
            have i8x10x1 := z_lt (-2147483648) (-1) c8x10x1 (i_rng x2) rfl
            refine g_iconst 0 17 (gd rfl) rfl rfl ?_
            refine g_ireturn (gd rfl) rfl (nb01 (in_w 0 1 (in_c 0 rfl) rfl)) (hp8x10 _ _ ?_)
            show GG _ _ _ _ _ _ _ _ [.int (Int32.ofInt 0)] _ _ _
            refine g_if_eq 16 25 (gd rfl) rfl rfl (fun c8x13 => ?_) (fun c8x13 => ?_)
            · skip
              refine g_iconst 0 26 (gd rfl) rfl rfl ?_
              refine g_ireturn (gd rfl) rfl (nb01 (in_w 0 1 (in_c 0 rfl) rfl)) (hp8 _ _ ?_)
              show GG _ _ _ _ _ _ _ _ [.int (Int32.ofInt 0)] _ _ _
              refine g_thr (E := am_IA) (y := yX11_allow) 14 (gd rfl) rfl rfl (Or.inl ⟨rfl, rfl, rfl⟩) (by first | exact dq1 hd rfl | exact dq0 hd rfl | exact dq2 hd rfl | exact dq3 hd rfl | omega) (Nat.le_of_ble_eq_true rfl) (Nat.le_of_ble_eq_true rfl) (Nat.le_of_ble_eq_true rfl) (fun c11 => ?_) (fun c11 => ?_)
              · skip
                exact zn_ne c11 (in_c 0 rfl) rfl
              · skip
                exact (hX _ _ ⟨rfl, s, hI, fr_rf, rfl⟩)
            · skip
              exact zn_ne c8x13 (in_c 0 rfl) rfl
          · skip
            have i8x10x1 := z_ge 0 2147483647 c8x10x1 (i_rng x2) rfl
            refine g_iload_n 5 (gd rfl) rfl rfl ?_
            refine g_aload_n 6 (gd rfl) rfl rfl ?_
            refine g_getI 9 (gd rfl) rfl rfl rfl (fun z8x10x6 e8x10x6 => ?_)
            have q8x10x6 : u_32_1 = z8x10x6 := (e_32_1).trans e8x10x6.symm
            subst q8x10x6
            refine g_cmp_ge 12 16 (gd rfl) rfl rfl (fun c8x10x9 => ?_) (fun c8x10x9 => ?_)
            · skip
              have i8x10x9 := r_le2 1 2147483647 c8x10x9 i8x2x9a i8x10x1 rfl
              refine g_iconst 0 17 (gd rfl) rfl rfl ?_
              refine g_ireturn (gd rfl) rfl (nb01 (in_w 0 1 (in_c 0 rfl) rfl)) (hp8x10 _ _ ?_)
              show GG _ _ _ _ _ _ _ _ [.int (Int32.ofInt 0)] _ _ _
              refine g_if_eq 16 25 (gd rfl) rfl rfl (fun c8x13 => ?_) (fun c8x13 => ?_)
              · skip
                refine g_iconst 0 26 (gd rfl) rfl rfl ?_
                refine g_ireturn (gd rfl) rfl (nb01 (in_w 0 1 (in_c 0 rfl) rfl)) (hp8 _ _ ?_)
                show GG _ _ _ _ _ _ _ _ [.int (Int32.ofInt 0)] _ _ _
                refine g_thr (E := am_IA) (y := yX11_allow) 14 (gd rfl) rfl rfl (Or.inl ⟨rfl, rfl, rfl⟩) (by first | exact dq1 hd rfl | exact dq0 hd rfl | exact dq2 hd rfl | exact dq3 hd rfl | omega) (Nat.le_of_ble_eq_true rfl) (Nat.le_of_ble_eq_true rfl) (Nat.le_of_ble_eq_true rfl) (fun c11 => ?_) (fun c11 => ?_)
                · skip
                  exact zn_ne c11 (in_c 0 rfl) rfl
                · skip
                  exact (hX _ _ ⟨rfl, s, hI, fr_rf, rfl⟩)
              · skip
                exact zn_ne c8x13 (in_c 0 rfl) rfl
            · skip
              have i8x10x9 := r_lt1 0 31 c8x10x9 i8x10x1 i8x2x9a rfl
              refine g_iconst 1 13 (gd rfl) rfl rfl ?_
              refine g_goto 17 (gd rfl) rfl ?_
              refine g_ireturn (gd rfl) rfl (nb01 (in_w 0 1 (in_c 1 rfl) rfl)) (hp8x10 _ _ ?_)
              show GG _ _ _ _ _ _ _ _ [.int (Int32.ofInt 1)] _ _ _
              refine g_if_eq 16 25 (gd rfl) rfl rfl (fun c8x13 => ?_) (fun c8x13 => ?_)
              · skip
                exact zn_eq c8x13 (in_c 1 rfl) rfl
              · skip
                refine g_iload_n 17 (gd rfl) rfl rfl ?_
                refine g_iload_n 18 (gd rfl) rfl rfl ?_
                refine g_cmp_eq 21 25 (gd rfl) rfl rfl (fun c8x18 => ?_) (fun c8x18 => ?_)
                · skip
                  refine g_iconst 0 26 (gd rfl) rfl rfl ?_
                  refine g_ireturn (gd rfl) rfl (nb01 (in_w 0 1 (in_c 0 rfl) rfl)) (hp8 _ _ ?_)
                  show GG _ _ _ _ _ _ _ _ [.int (Int32.ofInt 0)] _ _ _
                  refine g_thr (E := am_IA) (y := yX11_allow) 14 (gd rfl) rfl rfl (Or.inl ⟨rfl, rfl, rfl⟩) (by first | exact dq1 hd rfl | exact dq0 hd rfl | exact dq2 hd rfl | exact dq3 hd rfl | omega) (Nat.le_of_ble_eq_true rfl) (Nat.le_of_ble_eq_true rfl) (Nat.le_of_ble_eq_true rfl) (fun c11 => ?_) (fun c11 => ?_)
                  · skip
                    exact zn_ne c11 (in_c 0 rfl) rfl
                  · skip
                    exact (hX _ _ ⟨rfl, s, hI, fr_rf, rfl⟩)
                · skip
                  refine g_iconst 1 22 (gd rfl) rfl rfl ?_
                  refine g_goto 26 (gd rfl) rfl ?_
                  refine g_ireturn (gd rfl) rfl (nb01 (in_w 0 1 (in_c 1 rfl) rfl)) (hp8 _ _ ?_)
                  show GG _ _ _ _ _ _ _ _ [.int (Int32.ofInt 1)] _ _ _
                  refine g_thr (E := am_IA) (y := yX11_allow) 14 (gd rfl) rfl rfl (Or.inl ⟨rfl, rfl, rfl⟩) (by first | exact dq1 hd rfl | exact dq0 hd rfl | exact dq2 hd rfl | exact dq3 hd rfl | omega) (Nat.le_of_ble_eq_true rfl) (Nat.le_of_ble_eq_true rfl) (Nat.le_of_ble_eq_true rfl) (fun c11 => ?_) (fun c11 => ?_)
                  · skip
                    refine g_aload_n 15 (gd rfl) rfl rfl ?_
                    refine g_getA (q2 := 49) 18 (gd rfl) rfl rfl rfl rfl ?_
                    refine g_aload_n 19 (gd rfl) rfl rfl ?_
                    refine g_iload_n 20 (gd rfl) rfl rfl ?_
                    refine g_iload_n 21 (gd rfl) rfl rfl ?_
                    refine g_callv (X := _) (As := [.ref (A 32), .int x1, .int x2]) (r := []) (b := A 49) (q := 49) 24 (gd rfl) rfl rfl rfl rfl rfl (ww_o rfl) (Nat.le_of_ble_eq_true rfl) (mc := 0) (ms := 0) (Nat.zero_le _) (Nat.zero_le _) (P := fun v u => _) ?_ (fun e u h => h) (fun v u h => h)
                    intro po21 xx21 hp21 hx21
                    refine g_enter2 (k := 205) (N := 300) (by first | exact dq1 hd rfl | exact dq0 hd rfl | exact dq2 hd rfl | exact dq3 hd rfl | omega) rfl (Nat.le_of_ble_eq_true rfl) ?_
                    refine g_aload_n 1 (gd rfl) rfl rfl ?_
                    refine g_aload_n 2 (gd rfl) rfl rfl ?_
                    refine g_iload_n 3 (gd rfl) rfl rfl ?_
                    refine g_iload_n 4 (gd rfl) rfl rfl ?_
                    refine g_callv (X := _) (As := [.ref (A 32), .int x1, .int x2]) (r := []) (b := A 49) (q := 49) 7 (gd rfl) rfl rfl rfl rfl rfl (ww_o rfl) (Nat.le_of_ble_eq_true rfl) (Nat.zero_le _) (Nat.zero_le _) (k_207_49_32 (by first | exact dq1 hd rfl | exact dq0 hd rfl | exact dq2 hd rfl | exact dq3 hd rfl | omega) hI (in_w 0 31 i8x2x9 rfl) (in_w 0 31 i8x10x9 rfl)) (fun e u h => h) (fun v u h => ?_)
                    obtain ⟨s21x4, hI21x4, hF21x4, rfl, rfl⟩ := h
                    show GG _ _ _ _ _ _ _ _ [] _ _ _
                    refine g_aload_n 8 (gd rfl) rfl rfl ?_
                    refine g_getI 11 (gd rfl) rfl rfl rfl (fun z21x8 e21x8 => ?_)
                    have i21x8 := inv_F hI21x4 0 2001 rfl e21x8
                    refine g_sipush 2000 14 (gd rfl) rfl rfl ?_
                    refine g_cmp_le 17 22 (gd rfl) rfl rfl (fun c21x14 => ?_) (fun c21x14 => ?_)
                    · skip
                      have i21x14 := r_le1 0 2000 c21x14 i21x8 (in_c 2000 rfl) rfl
                      refine g_aload_n 23 (gd rfl) rfl rfl ?_
                      refine g_getI 26 (gd rfl) rfl rfl rfl (fun z21x23 e21x23 => ?_)
                      have q21x23 : z21x8 = z21x23 := (e21x8).trans e21x23.symm
                      subst q21x23
                      refine g_ireturn (gd rfl) rfl rfl (hp21 _ _ ?_)
                      show GG _ _ _ _ _ _ _ _ [.int z21x8] _ _ _
                      exact g_ireturn (gd rfl) rfl rfl (hP _ _ ⟨s21x4, hI21x4, (fr_tr rfl fr_rf hF21x4), z21x8, rfl, rfl, in_w (-2) 2000 i21x14 rfl⟩)
                    · skip
                      have i21x14 := r_lt2 2001 2001 c21x14 (in_c 2000 rfl) i21x8 rfl
                      refine g_bipush (-2) 19 (gd rfl) rfl rfl ?_
                      refine g_goto 26 (gd rfl) rfl ?_
                      refine g_ireturn (gd rfl) rfl rfl (hp21 _ _ ?_)
                      show GG _ _ _ _ _ _ _ _ [.int (Int32.ofInt (-2))] _ _ _
                      exact g_ireturn (gd rfl) rfl rfl (hP _ _ ⟨s21x4, hI21x4, (fr_tr rfl fr_rf hF21x4), (Int32.ofInt (-2)), rfl, rfl, in_w (-2) 2000 (in_c (-2) rfl) rfl⟩)
                  · skip
                    exact zn_eq c11 (in_c 1 rfl) rfl
  · skip
    have i1x5 := r_eq1 (-1) (-1) c1x5 ro_0_2 (in_c (-1) rfl) rfl
    refine g_aload_n 9 (gd rfl) rfl rfl ?_
    refine g_getA (q2 := 1) 12 (gd rfl) rfl rfl rfl rfl ?_
    refine g_getA (q2 := 2) 15 (gd rfl) rfl rfl rfl rfl ?_
    refine g_goto 22 (gd rfl) rfl ?_
    refine g_areturn (gd rfl) rfl (hp1 _ _ ?_)
    show GG _ _ _ _ _ _ _ _ [.ref (A 2)] _ _ _
    refine g_astore_n 5 (gd rfl) rfl (Nat.le_of_ble_eq_true rfl) ?_
    refine g_aload_n 6 (gd rfl) rfl rfl ?_
    refine g_iload_n 7 (gd rfl) rfl rfl ?_
    refine g_iload_n 8 (gd rfl) rfl rfl ?_
    refine g_callv (X := _) (As := [.int x1, .int x2]) (r := []) (b := A 2) (q := 2) 11 (gd rfl) rfl rfl rfl rfl rfl (ww_o rfl) (Nat.le_of_ble_eq_true rfl) (mc := 0) (ms := 0) (Nat.zero_le _) (Nat.zero_le _) (P := fun v u => _) ?_ (fun e u h => h) (fun v u h => h)
    intro po8 xx8 hp8 hx8
    refine g_enter2 (k := 95) (N := 300) (by first | exact dq1 hd rfl | exact dq0 hd rfl | exact dq2 hd rfl | exact dq3 hd rfl | omega) rfl (Nat.le_of_ble_eq_true rfl) ?_
    refine g_aload_n 1 (gd rfl) rfl rfl ?_
    refine g_iload_n 2 (gd rfl) rfl rfl ?_
    refine g_callv (X := _) (As := [.int x1]) (r := []) (b := A 2) (q := 2) 5 (gd rfl) rfl rfl rfl rfl rfl (ww_o rfl) (Nat.le_of_ble_eq_true rfl) (mc := 0) (ms := 0) (Nat.zero_le _) (Nat.zero_le _) (P := fun v u => _) ?_ (fun e u h => h) (fun v u h => h)
    intro po8x2 xx8x2 hp8x2 hx8x2
    refine g_enter2 (k := 94) (N := 300) (by first | exact dq1 hd rfl | exact dq0 hd rfl | exact dq2 hd rfl | exact dq3 hd rfl | omega) rfl (Nat.le_of_ble_eq_true rfl) ?_
    refine g_iload_n 1 (gd rfl) rfl rfl ?_
    refine g_if_lt 4 16 (gd rfl) rfl rfl (fun c8x2x1 => ?_) (fun c8x2x1 => ?_)
    · skip
      have i8x2x1 := z_lt (-2147483648) (-1) c8x2x1 (i_rng x1) rfl
      refine g_iconst 0 17 (gd rfl) rfl rfl ?_
      refine g_ireturn (gd rfl) rfl (nb01 (in_w 0 1 (in_c 0 rfl) rfl)) (hp8x2 _ _ ?_)
      show GG _ _ _ _ _ _ _ _ [.int (Int32.ofInt 0)] _ _ _
      refine g_if_eq 8 25 (gd rfl) rfl rfl (fun c8x5 => ?_) (fun c8x5 => ?_)
      · skip
        refine g_iconst 0 26 (gd rfl) rfl rfl ?_
        refine g_ireturn (gd rfl) rfl (nb01 (in_w 0 1 (in_c 0 rfl) rfl)) (hp8 _ _ ?_)
        show GG _ _ _ _ _ _ _ _ [.int (Int32.ofInt 0)] _ _ _
        refine g_thr (E := am_IA) (y := yX11_allow) 14 (gd rfl) rfl rfl (Or.inl ⟨rfl, rfl, rfl⟩) (by first | exact dq1 hd rfl | exact dq0 hd rfl | exact dq2 hd rfl | exact dq3 hd rfl | omega) (Nat.le_of_ble_eq_true rfl) (Nat.le_of_ble_eq_true rfl) (Nat.le_of_ble_eq_true rfl) (fun c11 => ?_) (fun c11 => ?_)
        · skip
          exact zn_ne c11 (in_c 0 rfl) rfl
        · skip
          exact (hX _ _ ⟨rfl, s, hI, fr_rf, rfl⟩)
      · skip
        exact zn_ne c8x5 (in_c 0 rfl) rfl
    · skip
      have i8x2x1 := z_ge 0 2147483647 c8x2x1 (i_rng x1) rfl
      refine g_iload_n 5 (gd rfl) rfl rfl ?_
      refine g_aload_n 6 (gd rfl) rfl rfl ?_
      refine g_getI 9 (gd rfl) rfl rfl rfl (fun z8x2x6 e8x2x6 => ?_)
      have q8x2x6 : u_2_1 = z8x2x6 := (e_2_1).trans e8x2x6.symm
      subst q8x2x6
      refine g_cmp_ge 12 16 (gd rfl) rfl rfl (fun c8x2x9 => ?_) (fun c8x2x9 => ?_)
      · skip
        refine g_iconst 0 17 (gd rfl) rfl rfl ?_
        refine g_ireturn (gd rfl) rfl (nb01 (in_w 0 1 (in_c 0 rfl) rfl)) (hp8x2 _ _ ?_)
        show GG _ _ _ _ _ _ _ _ [.int (Int32.ofInt 0)] _ _ _
        refine g_if_eq 8 25 (gd rfl) rfl rfl (fun c8x5 => ?_) (fun c8x5 => ?_)
        · skip
          refine g_iconst 0 26 (gd rfl) rfl rfl ?_
          refine g_ireturn (gd rfl) rfl (nb01 (in_w 0 1 (in_c 0 rfl) rfl)) (hp8 _ _ ?_)
          show GG _ _ _ _ _ _ _ _ [.int (Int32.ofInt 0)] _ _ _
          refine g_thr (E := am_IA) (y := yX11_allow) 14 (gd rfl) rfl rfl (Or.inl ⟨rfl, rfl, rfl⟩) (by first | exact dq1 hd rfl | exact dq0 hd rfl | exact dq2 hd rfl | exact dq3 hd rfl | omega) (Nat.le_of_ble_eq_true rfl) (Nat.le_of_ble_eq_true rfl) (Nat.le_of_ble_eq_true rfl) (fun c11 => ?_) (fun c11 => ?_)
          · skip
            exact zn_ne c11 (in_c 0 rfl) rfl
          · skip
            exact (hX _ _ ⟨rfl, s, hI, fr_rf, rfl⟩)
        · skip
          exact zn_ne c8x5 (in_c 0 rfl) rfl
      · skip
        have i8x2x9 := r_lt1 0 31 c8x2x9 i8x2x1 ro_2_1 rfl
        have i8x2x9a := r_lt2 1 32 c8x2x9 i8x2x1 ro_2_1 rfl
        refine g_iconst 1 13 (gd rfl) rfl rfl ?_
        refine g_goto 17 (gd rfl) rfl ?_
        refine g_ireturn (gd rfl) rfl (nb01 (in_w 0 1 (in_c 1 rfl) rfl)) (hp8x2 _ _ ?_)
        show GG _ _ _ _ _ _ _ _ [.int (Int32.ofInt 1)] _ _ _
        refine g_if_eq 8 25 (gd rfl) rfl rfl (fun c8x5 => ?_) (fun c8x5 => ?_)
        · skip
          exact zn_eq c8x5 (in_c 1 rfl) rfl
        · skip
          refine g_aload_n 9 (gd rfl) rfl rfl ?_
          refine g_iload_n 10 (gd rfl) rfl rfl ?_
          refine g_callv (X := _) (As := [.int x2]) (r := []) (b := A 2) (q := 2) 13 (gd rfl) rfl rfl rfl rfl rfl (ww_o rfl) (Nat.le_of_ble_eq_true rfl) (mc := 0) (ms := 0) (Nat.zero_le _) (Nat.zero_le _) (P := fun v u => _) ?_ (fun e u h => h) (fun v u h => h)
          intro po8x10 xx8x10 hp8x10 hx8x10
          refine g_enter2 (k := 94) (N := 300) (by first | exact dq1 hd rfl | exact dq0 hd rfl | exact dq2 hd rfl | exact dq3 hd rfl | omega) rfl (Nat.le_of_ble_eq_true rfl) ?_
          refine g_iload_n 1 (gd rfl) rfl rfl ?_
          refine g_if_lt 4 16 (gd rfl) rfl rfl (fun c8x10x1 => ?_) (fun c8x10x1 => ?_)
          · skip
            have i8x10x1 := z_lt (-2147483648) (-1) c8x10x1 (i_rng x2) rfl
            refine g_iconst 0 17 (gd rfl) rfl rfl ?_
            refine g_ireturn (gd rfl) rfl (nb01 (in_w 0 1 (in_c 0 rfl) rfl)) (hp8x10 _ _ ?_)
            show GG _ _ _ _ _ _ _ _ [.int (Int32.ofInt 0)] _ _ _
            refine g_if_eq 16 25 (gd rfl) rfl rfl (fun c8x13 => ?_) (fun c8x13 => ?_)
            · skip
              refine g_iconst 0 26 (gd rfl) rfl rfl ?_
              refine g_ireturn (gd rfl) rfl (nb01 (in_w 0 1 (in_c 0 rfl) rfl)) (hp8 _ _ ?_)
              show GG _ _ _ _ _ _ _ _ [.int (Int32.ofInt 0)] _ _ _
              refine g_thr (E := am_IA) (y := yX11_allow) 14 (gd rfl) rfl rfl (Or.inl ⟨rfl, rfl, rfl⟩) (by first | exact dq1 hd rfl | exact dq0 hd rfl | exact dq2 hd rfl | exact dq3 hd rfl | omega) (Nat.le_of_ble_eq_true rfl) (Nat.le_of_ble_eq_true rfl) (Nat.le_of_ble_eq_true rfl) (fun c11 => ?_) (fun c11 => ?_)
              · skip
                exact zn_ne c11 (in_c 0 rfl) rfl
              · skip
                exact (hX _ _ ⟨rfl, s, hI, fr_rf, rfl⟩)
            · skip
              exact zn_ne c8x13 (in_c 0 rfl) rfl
          · skip
            have i8x10x1 := z_ge 0 2147483647 c8x10x1 (i_rng x2) rfl
            refine g_iload_n 5 (gd rfl) rfl rfl ?_
            refine g_aload_n 6 (gd rfl) rfl rfl ?_
            refine g_getI 9 (gd rfl) rfl rfl rfl (fun z8x10x6 e8x10x6 => ?_)
            have q8x10x6 : u_2_1 = z8x10x6 := (e_2_1).trans e8x10x6.symm
            subst q8x10x6
            refine g_cmp_ge 12 16 (gd rfl) rfl rfl (fun c8x10x9 => ?_) (fun c8x10x9 => ?_)
            · skip
              have i8x10x9 := r_le2 1 2147483647 c8x10x9 i8x2x9a i8x10x1 rfl
              refine g_iconst 0 17 (gd rfl) rfl rfl ?_
              refine g_ireturn (gd rfl) rfl (nb01 (in_w 0 1 (in_c 0 rfl) rfl)) (hp8x10 _ _ ?_)
              show GG _ _ _ _ _ _ _ _ [.int (Int32.ofInt 0)] _ _ _
              refine g_if_eq 16 25 (gd rfl) rfl rfl (fun c8x13 => ?_) (fun c8x13 => ?_)
              · skip
                refine g_iconst 0 26 (gd rfl) rfl rfl ?_
                refine g_ireturn (gd rfl) rfl (nb01 (in_w 0 1 (in_c 0 rfl) rfl)) (hp8 _ _ ?_)
                show GG _ _ _ _ _ _ _ _ [.int (Int32.ofInt 0)] _ _ _
                refine g_thr (E := am_IA) (y := yX11_allow) 14 (gd rfl) rfl rfl (Or.inl ⟨rfl, rfl, rfl⟩) (by first | exact dq1 hd rfl | exact dq0 hd rfl | exact dq2 hd rfl | exact dq3 hd rfl | omega) (Nat.le_of_ble_eq_true rfl) (Nat.le_of_ble_eq_true rfl) (Nat.le_of_ble_eq_true rfl) (fun c11 => ?_) (fun c11 => ?_)
                · skip
                  exact zn_ne c11 (in_c 0 rfl) rfl
                · skip
                  exact (hX _ _ ⟨rfl, s, hI, fr_rf, rfl⟩)
              · skip
                exact zn_ne c8x13 (in_c 0 rfl) rfl
            · skip
              have i8x10x9 := r_lt1 0 31 c8x10x9 i8x10x1 i8x2x9a rfl
              refine g_iconst 1 13 (gd rfl) rfl rfl ?_
              refine g_goto 17 (gd rfl) rfl ?_
              refine g_ireturn (gd rfl) rfl (nb01 (in_w 0 1 (in_c 1 rfl) rfl)) (hp8x10 _ _ ?_)
              show GG _ _ _ _ _ _ _ _ [.int (Int32.ofInt 1)] _ _ _
              refine g_if_eq 16 25 (gd rfl) rfl rfl (fun c8x13 => ?_) (fun c8x13 => ?_)
              · skip
                exact zn_eq c8x13 (in_c 1 rfl) rfl
              · skip
                refine g_iload_n 17 (gd rfl) rfl rfl ?_
                refine g_iload_n 18 (gd rfl) rfl rfl ?_
                refine g_cmp_eq 21 25 (gd rfl) rfl rfl (fun c8x18 => ?_) (fun c8x18 => ?_)
                · skip
                  refine g_iconst 0 26 (gd rfl) rfl rfl ?_
                  refine g_ireturn (gd rfl) rfl (nb01 (in_w 0 1 (in_c 0 rfl) rfl)) (hp8 _ _ ?_)
                  show GG _ _ _ _ _ _ _ _ [.int (Int32.ofInt 0)] _ _ _
                  refine g_thr (E := am_IA) (y := yX11_allow) 14 (gd rfl) rfl rfl (Or.inl ⟨rfl, rfl, rfl⟩) (by first | exact dq1 hd rfl | exact dq0 hd rfl | exact dq2 hd rfl | exact dq3 hd rfl | omega) (Nat.le_of_ble_eq_true rfl) (Nat.le_of_ble_eq_true rfl) (Nat.le_of_ble_eq_true rfl) (fun c11 => ?_) (fun c11 => ?_)
                  · skip
                    exact zn_ne c11 (in_c 0 rfl) rfl
                  · skip
                    exact (hX _ _ ⟨rfl, s, hI, fr_rf, rfl⟩)
                · skip
                  refine g_iconst 1 22 (gd rfl) rfl rfl ?_
                  refine g_goto 26 (gd rfl) rfl ?_
                  refine g_ireturn (gd rfl) rfl (nb01 (in_w 0 1 (in_c 1 rfl) rfl)) (hp8 _ _ ?_)
                  show GG _ _ _ _ _ _ _ _ [.int (Int32.ofInt 1)] _ _ _
                  refine g_thr (E := am_IA) (y := yX11_allow) 14 (gd rfl) rfl rfl (Or.inl ⟨rfl, rfl, rfl⟩) (by first | exact dq1 hd rfl | exact dq0 hd rfl | exact dq2 hd rfl | exact dq3 hd rfl | omega) (Nat.le_of_ble_eq_true rfl) (Nat.le_of_ble_eq_true rfl) (Nat.le_of_ble_eq_true rfl) (fun c11 => ?_) (fun c11 => ?_)
                  · skip
                    refine g_aload_n 15 (gd rfl) rfl rfl ?_
                    refine g_getA (q2 := 49) 18 (gd rfl) rfl rfl rfl rfl ?_
                    refine g_aload_n 19 (gd rfl) rfl rfl ?_
                    refine g_iload_n 20 (gd rfl) rfl rfl ?_
                    refine g_iload_n 21 (gd rfl) rfl rfl ?_
                    refine g_callv (X := _) (As := [.ref (A 2), .int x1, .int x2]) (r := []) (b := A 49) (q := 49) 24 (gd rfl) rfl rfl rfl rfl rfl (ww_o rfl) (Nat.le_of_ble_eq_true rfl) (mc := 0) (ms := 0) (Nat.zero_le _) (Nat.zero_le _) (P := fun v u => _) ?_ (fun e u h => h) (fun v u h => h)
                    intro po21 xx21 hp21 hx21
                    refine g_enter2 (k := 205) (N := 300) (by first | exact dq1 hd rfl | exact dq0 hd rfl | exact dq2 hd rfl | exact dq3 hd rfl | omega) rfl (Nat.le_of_ble_eq_true rfl) ?_
                    refine g_aload_n 1 (gd rfl) rfl rfl ?_
                    refine g_aload_n 2 (gd rfl) rfl rfl ?_
                    refine g_iload_n 3 (gd rfl) rfl rfl ?_
                    refine g_iload_n 4 (gd rfl) rfl rfl ?_
                    refine g_callv (X := _) (As := [.ref (A 2), .int x1, .int x2]) (r := []) (b := A 49) (q := 49) 7 (gd rfl) rfl rfl rfl rfl rfl (ww_o rfl) (Nat.le_of_ble_eq_true rfl) (Nat.zero_le _) (Nat.zero_le _) (k_207_49_2 (by first | exact dq1 hd rfl | exact dq0 hd rfl | exact dq2 hd rfl | exact dq3 hd rfl | omega) hI (in_w 0 31 i8x2x9 rfl) (in_w 0 31 i8x10x9 rfl)) (fun e u h => h) (fun v u h => ?_)
                    obtain ⟨s21x4, hI21x4, hF21x4, rfl, rfl⟩ := h
                    show GG _ _ _ _ _ _ _ _ [] _ _ _
                    refine g_aload_n 8 (gd rfl) rfl rfl ?_
                    refine g_getI 11 (gd rfl) rfl rfl rfl (fun z21x8 e21x8 => ?_)
                    have i21x8 := inv_F hI21x4 0 2001 rfl e21x8
                    refine g_sipush 2000 14 (gd rfl) rfl rfl ?_
                    refine g_cmp_le 17 22 (gd rfl) rfl rfl (fun c21x14 => ?_) (fun c21x14 => ?_)
                    · skip
                      have i21x14 := r_le1 0 2000 c21x14 i21x8 (in_c 2000 rfl) rfl
                      refine g_aload_n 23 (gd rfl) rfl rfl ?_
                      refine g_getI 26 (gd rfl) rfl rfl rfl (fun z21x23 e21x23 => ?_)
                      have q21x23 : z21x8 = z21x23 := (e21x8).trans e21x23.symm
                      subst q21x23
                      refine g_ireturn (gd rfl) rfl rfl (hp21 _ _ ?_)
                      show GG _ _ _ _ _ _ _ _ [.int z21x8] _ _ _
                      exact g_ireturn (gd rfl) rfl rfl (hP _ _ ⟨s21x4, hI21x4, (fr_tr rfl fr_rf hF21x4), z21x8, rfl, rfl, in_w (-2) 2000 i21x14 rfl⟩)
                    · skip
                      have i21x14 := r_lt2 2001 2001 c21x14 (in_c 2000 rfl) i21x8 rfl
                      refine g_bipush (-2) 19 (gd rfl) rfl rfl ?_
                      refine g_goto 26 (gd rfl) rfl ?_
                      refine g_ireturn (gd rfl) rfl rfl (hp21 _ _ ?_)
                      show GG _ _ _ _ _ _ _ _ [.int (Int32.ofInt (-2))] _ _ _
                      exact g_ireturn (gd rfl) rfl rfl (hP _ _ ⟨s21x4, hI21x4, (fr_tr rfl fr_rf hF21x4), (Int32.ofInt (-2)), rfl, rfl, in_w (-2) 2000 (in_c (-2) rfl) rfl⟩)
                  · skip
                    exact zn_eq c11 (in_c 1 rfl) rfl

def fm_244_0 : FM := ([68, 69, 70, 71, 72, 73, 74], [75], [(65, 8), (65, 16), (65, 17)], [(65, 18)])
/-- GraphHouse.pairing -/
theorem k_244_0 {Z : AmZ} {A : Nat → Nat} {s : GS} {ex : va_W} {d : Nat} {x1 : Int32} (hd : 7 ≤ d) (hI : Inv s)  : GC Z d 244 [.ref (A 0), .int x1] (WW Z A s ++ ex) 3 18 (fun v u => ∃ t : GS, Inv t ∧ Fr fm_244_0 s t ∧ ∃ z : Int64, v = some (.long z) ∧ u = WW Z A t ++ ex) (gE1 Z A ex fm_244_0 s) := by
  intro post xp hP hX
  obtain ⟨u_0_2, e_0_2⟩ : ∃ w, w = s.2.2.1 0 2 := ⟨_, rfl⟩
  have ro_0_2 := inv_F hI (-1) 4000 rfl e_0_2
  refine g_enter2 (k := 244) (N := 900) (by first | exact dq1 hd rfl | exact dq0 hd rfl | exact dq2 hd rfl | exact dq3 hd rfl | omega) rfl (Nat.le_of_ble_eq_true rfl) ?_
  refine g_iload_n 1 (gd rfl) rfl rfl ?_
  refine g_if_lt 4 13 (gd rfl) rfl rfl (fun c1 => ?_) (fun c1 => ?_)
  · skip
    have i1 := z_lt (-2147483648) (-1) c1 (i_rng x1) rfl
    refine g_iconst 0 14 (gd rfl) rfl rfl ?_
    refine g_thr (E := am_IA) (y := yX11_allow) 17 (gd rfl) rfl rfl (Or.inl ⟨rfl, rfl, rfl⟩) (by first | exact dq1 hd rfl | exact dq0 hd rfl | exact dq2 hd rfl | exact dq3 hd rfl | omega) (Nat.le_of_ble_eq_true rfl) (Nat.le_of_ble_eq_true rfl) (Nat.le_of_ble_eq_true rfl) (fun c14 => ?_) (fun c14 => ?_)
    · skip
      exact zn_ne c14 (in_c 0 rfl) rfl
    · skip
      exact (hX _ _ ⟨rfl, s, hI, fr_rf, rfl⟩)
  · skip
    have i1 := z_ge 0 2147483647 c1 (i_rng x1) rfl
    refine g_iload_n 5 (gd rfl) rfl rfl ?_
    refine g_iconst 1 6 (gd rfl) rfl rfl ?_
    refine g_cmp_gt 9 13 (gd rfl) rfl rfl (fun c6 => ?_) (fun c6 => ?_)
    · skip
      have i6 := r_lt2 2 2147483647 c6 (in_c 1 rfl) i1 rfl
      refine g_iconst 0 14 (gd rfl) rfl rfl ?_
      refine g_thr (E := am_IA) (y := yX11_allow) 17 (gd rfl) rfl rfl (Or.inl ⟨rfl, rfl, rfl⟩) (by first | exact dq1 hd rfl | exact dq0 hd rfl | exact dq2 hd rfl | exact dq3 hd rfl | omega) (Nat.le_of_ble_eq_true rfl) (Nat.le_of_ble_eq_true rfl) (Nat.le_of_ble_eq_true rfl) (fun c14 => ?_) (fun c14 => ?_)
      · skip
        exact zn_ne c14 (in_c 0 rfl) rfl
      · skip
        exact (hX _ _ ⟨rfl, s, hI, fr_rf, rfl⟩)
    · skip
      have i6 := r_le1 0 1 c6 i1 (in_c 1 rfl) rfl
      refine g_iconst 1 10 (gd rfl) rfl rfl ?_
      refine g_goto 14 (gd rfl) rfl ?_
      refine g_thr (E := am_IA) (y := yX11_allow) 17 (gd rfl) rfl rfl (Or.inl ⟨rfl, rfl, rfl⟩) (by first | exact dq1 hd rfl | exact dq0 hd rfl | exact dq2 hd rfl | exact dq3 hd rfl | omega) (Nat.le_of_ble_eq_true rfl) (Nat.le_of_ble_eq_true rfl) (Nat.le_of_ble_eq_true rfl) (fun c14 => ?_) (fun c14 => ?_)
      · skip
        refine g_aload_n 18 (gd rfl) rfl rfl ?_
        refine g_getA (q2 := 65) 21 (gd rfl) rfl rfl rfl rfl ?_
        refine g_aload_n 22 (gd rfl) rfl rfl ?_
        refine g_callv (X := _) (As := []) (r := [.ref (A 65)]) (b := A 0) (q := 0) 25 (gd rfl) rfl rfl rfl rfl rfl (ww_o rfl) (Nat.le_of_ble_eq_true rfl) (mc := 0) (ms := 0) (Nat.zero_le _) (Nat.zero_le _) (P := fun v u => _) ?_ (fun e u h => h) (fun v u h => h)
        intro po22 xx22 hp22 hx22
        refine g_enter2 (k := 259) (N := 300) (by first | exact dq1 hd rfl | exact dq0 hd rfl | exact dq2 hd rfl | exact dq3 hd rfl | omega) rfl (Nat.le_of_ble_eq_true rfl) ?_
        refine g_aload_n 1 (gd rfl) rfl rfl ?_
        refine g_getI 4 (gd rfl) rfl rfl rfl (fun z22x1 e22x1 => ?_)
        have q22x1 : u_0_2 = z22x1 := (e_0_2).trans e22x1.symm
        subst q22x1
        refine g_iconst (-1) 5 (gd rfl) rfl rfl ?_
        refine g_cmp_ne 8 18 (gd rfl) rfl rfl (fun c22x5 => ?_) (fun c22x5 => ?_)
        · skip
          have i22x5 := r_ne1 0 4000 c22x5 ro_0_2 (in_c (-1) rfl) rfl
          refine g_aload_n 19 (gd rfl) rfl rfl ?_
          refine g_getA (q2 := 32) 22 (gd rfl) rfl rfl rfl rfl ?_
          refine g_areturn (gd rfl) rfl (hp22 _ _ ?_)
          show GG _ _ _ _ _ _ _ _ [.ref (A 32), .ref (A 65)] _ _ _
          refine g_callv (X := _) (As := [.ref (A 32)]) (r := []) (b := A 65) (q := 65) 28 (gd rfl) rfl rfl rfl rfl rfl (ww_o rfl) (Nat.le_of_ble_eq_true rfl) (Nat.zero_le _) (Nat.zero_le _) (k_89_65_32 (by first | exact dq1 hd rfl | exact dq0 hd rfl | exact dq2 hd rfl | exact dq3 hd rfl | omega) hI ) (fun e u h => h) (fun v u h => ?_)
          obtain ⟨s25, hI25, hF25, rfl, rfl⟩ := h
          show GG _ _ _ _ _ _ _ _ [] _ _ _
          refine g_iload_n 29 (gd rfl) rfl rfl ?_
          refine g_if_ne 32 43 (gd rfl) rfl rfl (fun c29 => ?_) (fun c29 => ?_)
          · skip
            have i29 := z_ne 1 1 c29 i6 rfl
            refine g_aload_n 44 (gd rfl) rfl rfl ?_
            refine g_getA (q2 := 65) 47 (gd rfl) rfl rfl rfl rfl ?_
            refine g_getL 50 (gd rfl) rfl rfl rfl (fun z47 e47 => ?_)
            exact g_lreturn (gd rfl) rfl (hP _ _ ⟨s25, hI25, (fr_tr rfl fr_rf hF25), z47, rfl, rfl⟩)
          · skip
            have i29 := z_eq 0 0 c29 i6 rfl
            refine g_aload_n 33 (gd rfl) rfl rfl ?_
            refine g_getA (q2 := 65) 36 (gd rfl) rfl rfl rfl rfl ?_
            refine g_getI 39 (gd rfl) rfl rfl rfl (fun z36 e36 => ?_)
            have i36 := inv_F hI25 0 32 rfl e36
            refine g_i2l 40 (gd rfl) rfl (fun z39 e39 => ?_)
            have i39 := l_i e39 i36
            refine g_goto 50 (gd rfl) rfl ?_
            exact g_lreturn (gd rfl) rfl (hP _ _ ⟨s25, hI25, (fr_tr rfl fr_rf hF25), z39, rfl, rfl⟩)
        · skip
          have i22x5 := r_eq1 (-1) (-1) c22x5 ro_0_2 (in_c (-1) rfl) rfl
          refine g_aload_n 9 (gd rfl) rfl rfl ?_
          refine g_getA (q2 := 1) 12 (gd rfl) rfl rfl rfl rfl ?_
          refine g_getA (q2 := 2) 15 (gd rfl) rfl rfl rfl rfl ?_
          refine g_goto 22 (gd rfl) rfl ?_
          refine g_areturn (gd rfl) rfl (hp22 _ _ ?_)
          show GG _ _ _ _ _ _ _ _ [.ref (A 2), .ref (A 65)] _ _ _
          refine g_callv (X := _) (As := [.ref (A 2)]) (r := []) (b := A 65) (q := 65) 28 (gd rfl) rfl rfl rfl rfl rfl (ww_o rfl) (Nat.le_of_ble_eq_true rfl) (Nat.zero_le _) (Nat.zero_le _) (k_89_65_2 (by first | exact dq1 hd rfl | exact dq0 hd rfl | exact dq2 hd rfl | exact dq3 hd rfl | omega) hI ) (fun e u h => h) (fun v u h => ?_)
          obtain ⟨s25, hI25, hF25, rfl, rfl⟩ := h
          show GG _ _ _ _ _ _ _ _ [] _ _ _
          refine g_iload_n 29 (gd rfl) rfl rfl ?_
          refine g_if_ne 32 43 (gd rfl) rfl rfl (fun c29 => ?_) (fun c29 => ?_)
          · skip
            have i29 := z_ne 1 1 c29 i6 rfl
            refine g_aload_n 44 (gd rfl) rfl rfl ?_
            refine g_getA (q2 := 65) 47 (gd rfl) rfl rfl rfl rfl ?_
            refine g_getL 50 (gd rfl) rfl rfl rfl (fun z47 e47 => ?_)
            exact g_lreturn (gd rfl) rfl (hP _ _ ⟨s25, hI25, (fr_tr rfl fr_rf hF25), z47, rfl, rfl⟩)
          · skip
            have i29 := z_eq 0 0 c29 i6 rfl
            refine g_aload_n 33 (gd rfl) rfl rfl ?_
            refine g_getA (q2 := 65) 36 (gd rfl) rfl rfl rfl rfl ?_
            refine g_getI 39 (gd rfl) rfl rfl rfl (fun z36 e36 => ?_)
            have i36 := inv_F hI25 0 32 rfl e36
            refine g_i2l 40 (gd rfl) rfl (fun z39 e39 => ?_)
            have i39 := l_i e39 i36
            refine g_goto 50 (gd rfl) rfl ?_
            exact g_lreturn (gd rfl) rfl (hP _ _ ⟨s25, hI25, (fr_tr rfl fr_rf hF25), z39, rfl, rfl⟩)
      · skip
        exact zn_eq c14 (in_c 1 rfl) rfl

def fm_247_0 : FM := ([], [85], [(76, 9), (76, 10)], [])
/-- GraphHouse.trees -/
theorem k_247_0 {Z : AmZ} {A : Nat → Nat} {s : GS} {ex : va_W} {d : Nat} {X : AmX}  (hd : 5 ≤ d) (hI : Inv s)  : GC Z d 247 [.ref (A 0)] (WW Z A s ++ ex) 3 18 (fun v u => ∃ t : GS, Inv t ∧ Fr fm_247_0 s t ∧ ∃ z : Int32, v = some (.int z) ∧ u = WW Z A t ++ ex ∧ In z (-2147483648) 2147483647) X := by
  intro post xp hP hX
  obtain ⟨u_0_2, e_0_2⟩ : ∃ w, w = s.2.2.1 0 2 := ⟨_, rfl⟩
  have ro_0_2 := inv_F hI (-1) 4000 rfl e_0_2
  obtain ⟨u_2_0, e_2_0⟩ : ∃ w, w = s.2.2.1 2 0 := ⟨_, rfl⟩
  have ro_2_0 := inv_F hI 0 4000 rfl e_2_0
  obtain ⟨u_2_1, e_2_1⟩ : ∃ w, w = s.2.2.1 2 1 := ⟨_, rfl⟩
  have ro_2_1 := inv_F hI 0 32 rfl e_2_1
  obtain ⟨u_32_0, e_32_0⟩ : ∃ w, w = s.2.2.1 32 0 := ⟨_, rfl⟩
  have ro_32_0 := inv_F hI 0 4000 rfl e_32_0
  obtain ⟨u_32_1, e_32_1⟩ : ∃ w, w = s.2.2.1 32 1 := ⟨_, rfl⟩
  have ro_32_1 := inv_F hI 0 32 rfl e_32_1
  refine g_enter2 (k := 247) (N := 900) (by first | exact dq1 hd rfl | exact dq0 hd rfl | exact dq2 hd rfl | exact dq3 hd rfl | omega) rfl (Nat.le_of_ble_eq_true rfl) ?_
  refine g_aload_n 1 (gd rfl) rfl rfl ?_
  refine g_getA (q2 := 76) 4 (gd rfl) rfl rfl rfl rfl ?_
  refine g_aload_n 5 (gd rfl) rfl rfl ?_
  refine g_callv (X := _) (As := []) (r := [.ref (A 76)]) (b := A 0) (q := 0) 8 (gd rfl) rfl rfl rfl rfl rfl (ww_o rfl) (Nat.le_of_ble_eq_true rfl) (mc := 0) (ms := 0) (Nat.zero_le _) (Nat.zero_le _) (P := fun v u => _) ?_ (fun e u h => h) (fun v u h => h)
  intro po5 xx5 hp5 hx5
  refine g_enter2 (k := 259) (N := 300) (by first | exact dq1 hd rfl | exact dq0 hd rfl | exact dq2 hd rfl | exact dq3 hd rfl | omega) rfl (Nat.le_of_ble_eq_true rfl) ?_
  refine g_aload_n 1 (gd rfl) rfl rfl ?_
  refine g_getI 4 (gd rfl) rfl rfl rfl (fun z5x1 e5x1 => ?_)
  have q5x1 : u_0_2 = z5x1 := (e_0_2).trans e5x1.symm
  subst q5x1
  refine g_iconst (-1) 5 (gd rfl) rfl rfl ?_
  refine g_cmp_ne 8 18 (gd rfl) rfl rfl (fun c5x5 => ?_) (fun c5x5 => ?_)
  · skip
    have i5x5 := r_ne1 0 4000 c5x5 ro_0_2 (in_c (-1) rfl) rfl
    refine g_aload_n 19 (gd rfl) rfl rfl ?_
    refine g_getA (q2 := 32) 22 (gd rfl) rfl rfl rfl rfl ?_
    refine g_areturn (gd rfl) rfl (hp5 _ _ ?_)
    show GG _ _ _ _ _ _ _ _ [.ref (A 32), .ref (A 76)] _ _ _
    refine g_callv (X := _) (As := [.ref (A 32)]) (r := []) (b := A 76) (q := 76) 11 (gd rfl) rfl rfl rfl rfl rfl (ww_o rfl) (Nat.le_of_ble_eq_true rfl) (mc := 0) (ms := 0) (Nat.zero_le _) (Nat.zero_le _) (P := fun v u => _) ?_ (fun e u h => h) (fun v u h => h)
    intro po8 xx8 hp8 hx8
    refine g_enter2 (k := 188) (N := 300) (by first | exact dq1 hd rfl | exact dq0 hd rfl | exact dq2 hd rfl | exact dq3 hd rfl | omega) rfl (Nat.le_of_ble_eq_true rfl) ?_
    refine g_aload_n 1 (gd rfl) rfl rfl ?_
    refine g_getI 4 (gd rfl) rfl rfl rfl (fun z8x1 e8x1 => ?_)
    have i8x1 := inv_F hI (-1) 4000 rfl e8x1
    refine g_aload_n 5 (gd rfl) rfl rfl ?_
    refine g_getI 8 (gd rfl) rfl rfl rfl (fun z8x5 e8x5 => ?_)
    have q8x5 : u_32_0 = z8x5 := (e_32_0).trans e8x5.symm
    subst q8x5
    refine g_cmp_eq 11 39 (gd rfl) rfl rfl (fun c8x8 => ?_) (fun c8x8 => ?_)
    · skip
      have i8x8 := r_eq1 0 4000 c8x8 i8x1 ro_32_0 rfl
      refine g_aload_n 40 (gd rfl) rfl rfl ?_
      refine g_getI 43 (gd rfl) rfl rfl rfl (fun z8x40 e8x40 => ?_)
      refine g_ireturn (gd rfl) rfl rfl (hp8 _ _ ?_)
      show GG _ _ _ _ _ _ _ _ [.int z8x40] _ _ _
      exact g_ireturn (gd rfl) rfl rfl (hP _ _ ⟨s, hI, fr_rf, z8x40, rfl, rfl, in_w (-2147483648) 2147483647 (i_rng z8x40) rfl⟩)
    · skip
      refine g_aload_n 12 (gd rfl) rfl rfl ?_
      refine g_aload_n 13 (gd rfl) rfl rfl ?_
      refine g_getI 16 (gd rfl) rfl rfl rfl (fun z8x13 e8x13 => ?_)
      have q8x13 : u_32_0 = z8x13 := (e_32_0).trans e8x13.symm
      subst q8x13
      refine g_putI 19 (gd rfl) rfl rfl rfl rfl ?_
      have hI8x16 := inv_sF (q := 76) (j := 9) hI rfl (in_w (-1) 4000 ro_32_0 rfl)
      refine g_aload_n 20 (gd rfl) rfl rfl ?_
      refine g_aload_n 21 (gd rfl) rfl rfl ?_
      refine g_getI 24 (gd rfl) rfl rfl rfl (fun z8x21 e8x21 => ?_)
      have q8x21 : u_32_1 = z8x21 := (sF_ne rfl (e_32_1)).trans e8x21.symm
      subst q8x21
      refine g_if_ne 27 31 (gd rfl) rfl rfl (fun c8x24 => ?_) (fun c8x24 => ?_)
      · skip
        have i8x24 := z_ne 1 32 c8x24 ro_32_1 rfl
        refine g_aload_n 32 (gd rfl) rfl rfl ?_
        refine g_aload_n 33 (gd rfl) rfl rfl ?_
        refine g_callv (X := _) (As := [.ref (A 32)]) (r := [.ref (A 76)]) (b := A 76) (q := 76) 36 (gd rfl) rfl rfl rfl rfl rfl (ww_o rfl) (Nat.le_of_ble_eq_true rfl) (Nat.zero_le _) (Nat.zero_le _) (k_189_76_32 (by first | exact dq1 hd rfl | exact dq0 hd rfl | exact dq2 hd rfl | exact dq3 hd rfl | omega) hI8x16 ) (fun e u h => h) (fun v u h => ?_)
        obtain ⟨s8x33, hI8x33, hF8x33, z8x33, rfl, rfl, i8x33⟩ := h
        show GG _ _ _ _ _ _ _ _ [.int z8x33, .ref (A 76)] _ _ _
        refine g_putI 39 (gd rfl) rfl rfl rfl rfl ?_
        have hI8x36 := inv_sF (q := 76) (j := 10) hI8x33 rfl (in_w (-2147483648) 2147483647 i8x33 rfl)
        refine g_aload_n 40 (gd rfl) rfl rfl ?_
        refine g_getI 43 (gd rfl) rfl rfl rfl (fun z8x40 e8x40 => ?_)
        have q8x40 : z8x33 = z8x40 := (sF_get).trans e8x40.symm
        subst q8x40
        refine g_ireturn (gd rfl) rfl rfl (hp8 _ _ ?_)
        show GG _ _ _ _ _ _ _ _ [.int z8x33] _ _ _
        exact g_ireturn (gd rfl) rfl rfl (hP _ _ ⟨(sF s8x33 76 10 z8x33), hI8x36, (fr_sF rfl (fr_tr rfl (fr_sF rfl fr_rf) hF8x33)), z8x33, rfl, rfl, in_w (-2147483648) 2147483647 i8x33 rfl⟩)
      · skip
        have i8x24 := z_eq 0 0 c8x24 ro_32_1 rfl
        refine g_iconst 0 28 (gd rfl) rfl rfl ?_
        refine g_goto 36 (gd rfl) rfl ?_
        refine g_putI 39 (gd rfl) rfl rfl rfl rfl ?_
        have hI8x36 := inv_sF (q := 76) (j := 10) hI8x16 rfl (in_w (-2147483648) 2147483647 (in_c 0 rfl) rfl)
        refine g_aload_n 40 (gd rfl) rfl rfl ?_
        refine g_getI 43 (gd rfl) rfl rfl rfl (fun z8x40 e8x40 => ?_)
        have q8x40 : (Int32.ofInt 0) = z8x40 := (sF_get).trans e8x40.symm
        subst q8x40
        refine g_ireturn (gd rfl) rfl rfl (hp8 _ _ ?_)
        show GG _ _ _ _ _ _ _ _ [.int (Int32.ofInt 0)] _ _ _
        exact g_ireturn (gd rfl) rfl rfl (hP _ _ ⟨(sF (sF s 76 9 u_32_0) 76 10 (Int32.ofInt 0)), hI8x36, (fr_sF rfl (fr_sF rfl fr_rf)), (Int32.ofInt 0), rfl, rfl, in_w (-2147483648) 2147483647 (in_c 0 rfl) rfl⟩)
  · skip
    have i5x5 := r_eq1 (-1) (-1) c5x5 ro_0_2 (in_c (-1) rfl) rfl
    refine g_aload_n 9 (gd rfl) rfl rfl ?_
    refine g_getA (q2 := 1) 12 (gd rfl) rfl rfl rfl rfl ?_
    refine g_getA (q2 := 2) 15 (gd rfl) rfl rfl rfl rfl ?_
    refine g_goto 22 (gd rfl) rfl ?_
    refine g_areturn (gd rfl) rfl (hp5 _ _ ?_)
    show GG _ _ _ _ _ _ _ _ [.ref (A 2), .ref (A 76)] _ _ _
    refine g_callv (X := _) (As := [.ref (A 2)]) (r := []) (b := A 76) (q := 76) 11 (gd rfl) rfl rfl rfl rfl rfl (ww_o rfl) (Nat.le_of_ble_eq_true rfl) (mc := 0) (ms := 0) (Nat.zero_le _) (Nat.zero_le _) (P := fun v u => _) ?_ (fun e u h => h) (fun v u h => h)
    intro po8 xx8 hp8 hx8
    refine g_enter2 (k := 188) (N := 300) (by first | exact dq1 hd rfl | exact dq0 hd rfl | exact dq2 hd rfl | exact dq3 hd rfl | omega) rfl (Nat.le_of_ble_eq_true rfl) ?_
    refine g_aload_n 1 (gd rfl) rfl rfl ?_
    refine g_getI 4 (gd rfl) rfl rfl rfl (fun z8x1 e8x1 => ?_)
    have i8x1 := inv_F hI (-1) 4000 rfl e8x1
    refine g_aload_n 5 (gd rfl) rfl rfl ?_
    refine g_getI 8 (gd rfl) rfl rfl rfl (fun z8x5 e8x5 => ?_)
    have q8x5 : u_2_0 = z8x5 := (e_2_0).trans e8x5.symm
    subst q8x5
    refine g_cmp_eq 11 39 (gd rfl) rfl rfl (fun c8x8 => ?_) (fun c8x8 => ?_)
    · skip
      have i8x8 := r_eq1 0 4000 c8x8 i8x1 ro_2_0 rfl
      refine g_aload_n 40 (gd rfl) rfl rfl ?_
      refine g_getI 43 (gd rfl) rfl rfl rfl (fun z8x40 e8x40 => ?_)
      refine g_ireturn (gd rfl) rfl rfl (hp8 _ _ ?_)
      show GG _ _ _ _ _ _ _ _ [.int z8x40] _ _ _
      exact g_ireturn (gd rfl) rfl rfl (hP _ _ ⟨s, hI, fr_rf, z8x40, rfl, rfl, in_w (-2147483648) 2147483647 (i_rng z8x40) rfl⟩)
    · skip
      refine g_aload_n 12 (gd rfl) rfl rfl ?_
      refine g_aload_n 13 (gd rfl) rfl rfl ?_
      refine g_getI 16 (gd rfl) rfl rfl rfl (fun z8x13 e8x13 => ?_)
      have q8x13 : u_2_0 = z8x13 := (e_2_0).trans e8x13.symm
      subst q8x13
      refine g_putI 19 (gd rfl) rfl rfl rfl rfl ?_
      have hI8x16 := inv_sF (q := 76) (j := 9) hI rfl (in_w (-1) 4000 ro_2_0 rfl)
      refine g_aload_n 20 (gd rfl) rfl rfl ?_
      refine g_aload_n 21 (gd rfl) rfl rfl ?_
      refine g_getI 24 (gd rfl) rfl rfl rfl (fun z8x21 e8x21 => ?_)
      have q8x21 : u_2_1 = z8x21 := (sF_ne rfl (e_2_1)).trans e8x21.symm
      subst q8x21
      refine g_if_ne 27 31 (gd rfl) rfl rfl (fun c8x24 => ?_) (fun c8x24 => ?_)
      · skip
        have i8x24 := z_ne 1 32 c8x24 ro_2_1 rfl
        refine g_aload_n 32 (gd rfl) rfl rfl ?_
        refine g_aload_n 33 (gd rfl) rfl rfl ?_
        refine g_callv (X := _) (As := [.ref (A 2)]) (r := [.ref (A 76)]) (b := A 76) (q := 76) 36 (gd rfl) rfl rfl rfl rfl rfl (ww_o rfl) (Nat.le_of_ble_eq_true rfl) (Nat.zero_le _) (Nat.zero_le _) (k_189_76_2 (by first | exact dq1 hd rfl | exact dq0 hd rfl | exact dq2 hd rfl | exact dq3 hd rfl | omega) hI8x16 ) (fun e u h => h) (fun v u h => ?_)
        obtain ⟨s8x33, hI8x33, hF8x33, z8x33, rfl, rfl, i8x33⟩ := h
        show GG _ _ _ _ _ _ _ _ [.int z8x33, .ref (A 76)] _ _ _
        refine g_putI 39 (gd rfl) rfl rfl rfl rfl ?_
        have hI8x36 := inv_sF (q := 76) (j := 10) hI8x33 rfl (in_w (-2147483648) 2147483647 i8x33 rfl)
        refine g_aload_n 40 (gd rfl) rfl rfl ?_
        refine g_getI 43 (gd rfl) rfl rfl rfl (fun z8x40 e8x40 => ?_)
        have q8x40 : z8x33 = z8x40 := (sF_get).trans e8x40.symm
        subst q8x40
        refine g_ireturn (gd rfl) rfl rfl (hp8 _ _ ?_)
        show GG _ _ _ _ _ _ _ _ [.int z8x33] _ _ _
        exact g_ireturn (gd rfl) rfl rfl (hP _ _ ⟨(sF s8x33 76 10 z8x33), hI8x36, (fr_sF rfl (fr_tr rfl (fr_sF rfl fr_rf) hF8x33)), z8x33, rfl, rfl, in_w (-2147483648) 2147483647 i8x33 rfl⟩)
      · skip
        have i8x24 := z_eq 0 0 c8x24 ro_2_1 rfl
        refine g_iconst 0 28 (gd rfl) rfl rfl ?_
        refine g_goto 36 (gd rfl) rfl ?_
        refine g_putI 39 (gd rfl) rfl rfl rfl rfl ?_
        have hI8x36 := inv_sF (q := 76) (j := 10) hI8x16 rfl (in_w (-2147483648) 2147483647 (in_c 0 rfl) rfl)
        refine g_aload_n 40 (gd rfl) rfl rfl ?_
        refine g_getI 43 (gd rfl) rfl rfl rfl (fun z8x40 e8x40 => ?_)
        have q8x40 : (Int32.ofInt 0) = z8x40 := (sF_get).trans e8x40.symm
        subst q8x40
        refine g_ireturn (gd rfl) rfl rfl (hp8 _ _ ?_)
        show GG _ _ _ _ _ _ _ _ [.int (Int32.ofInt 0)] _ _ _
        exact g_ireturn (gd rfl) rfl rfl (hP _ _ ⟨(sF (sF s 76 9 u_2_0) 76 10 (Int32.ofInt 0)), hI8x36, (fr_sF rfl (fr_sF rfl fr_rf)), (Int32.ofInt 0), rfl, rfl, in_w (-2147483648) 2147483647 (in_c 0 rfl) rfl⟩)

def fm_250_0 : FM := ([9, 10, 11, 12, 13, 14, 15, 39, 40, 41, 42, 43, 44, 45, 89, 90, 91, 92, 93], [], [(2, 4), (32, 4), (86, 4), (86, 5)], [])
/-- GraphHouse.group -/
theorem k_250_0 {Z : AmZ} {A : Nat → Nat} {s : GS} {ex : va_W} {d : Nat} {x1 : Int32} (hd : 8 ≤ d) (hI : Inv s)  : GC Z d 250 [.ref (A 0), .int x1] (WW Z A s ++ ex) 3 18 (fun v u => ∃ t : GS, Inv t ∧ Fr fm_250_0 s t ∧ ∃ z : Int32, v = some (.int z) ∧ u = WW Z A t ++ ex ∧ In z 0 32) (gE1 Z A ex fm_250_0 s) := by
  intro post xp hP hX
  obtain ⟨u_0_2, e_0_2⟩ : ∃ w, w = s.2.2.1 0 2 := ⟨_, rfl⟩
  have ro_0_2 := inv_F hI (-1) 4000 rfl e_0_2
  obtain ⟨u_2_1, e_2_1⟩ : ∃ w, w = s.2.2.1 2 1 := ⟨_, rfl⟩
  have ro_2_1 := inv_F hI 0 32 rfl e_2_1
  obtain ⟨u_32_1, e_32_1⟩ : ∃ w, w = s.2.2.1 32 1 := ⟨_, rfl⟩
  have ro_32_1 := inv_F hI 0 32 rfl e_32_1
  refine g_enter2 (k := 250) (N := 900) (by first | exact dq1 hd rfl | exact dq0 hd rfl | exact dq2 hd rfl | exact dq3 hd rfl | omega) rfl (Nat.le_of_ble_eq_true rfl) ?_
  refine g_aload_n 1 (gd rfl) rfl rfl ?_
  refine g_callv (X := _) (As := []) (r := []) (b := A 0) (q := 0) 4 (gd rfl) rfl rfl rfl rfl rfl (ww_o rfl) (Nat.le_of_ble_eq_true rfl) (mc := 0) (ms := 0) (Nat.zero_le _) (Nat.zero_le _) (P := fun v u => _) ?_ (fun e u h => h) (fun v u h => h)
  intro po1 xx1 hp1 hx1
  refine g_enter2 (k := 259) (N := 300) (by first | exact dq1 hd rfl | exact dq0 hd rfl | exact dq2 hd rfl | exact dq3 hd rfl | omega) rfl (Nat.le_of_ble_eq_true rfl) ?_
  refine g_aload_n 1 (gd rfl) rfl rfl ?_
  refine g_getI 4 (gd rfl) rfl rfl rfl (fun z1x1 e1x1 => ?_)
  have q1x1 : u_0_2 = z1x1 := (e_0_2).trans e1x1.symm
  subst q1x1
  refine g_iconst (-1) 5 (gd rfl) rfl rfl ?_
  refine g_cmp_ne 8 18 (gd rfl) rfl rfl (fun c1x5 => ?_) (fun c1x5 => ?_)
  · skip
    have i1x5 := r_ne1 0 4000 c1x5 ro_0_2 (in_c (-1) rfl) rfl
    refine g_aload_n 19 (gd rfl) rfl rfl ?_
    refine g_getA (q2 := 32) 22 (gd rfl) rfl rfl rfl rfl ?_
    refine g_areturn (gd rfl) rfl (hp1 _ _ ?_)
    show GG _ _ _ _ _ _ _ _ [.ref (A 32)] _ _ _
    refine g_astore_n 5 (gd rfl) rfl (Nat.le_of_ble_eq_true rfl) ?_
    refine g_aload_n 6 (gd rfl) rfl rfl ?_
    refine g_iload_n 7 (gd rfl) rfl rfl ?_
    refine g_callv (X := _) (As := [.int x1]) (r := []) (b := A 32) (q := 32) 10 (gd rfl) rfl rfl rfl rfl rfl (ww_o rfl) (Nat.le_of_ble_eq_true rfl) (mc := 0) (ms := 0) (Nat.zero_le _) (Nat.zero_le _) (P := fun v u => _) ?_ (fun e u h => h) (fun v u h => h)
    intro po7 xx7 hp7 hx7
    refine g_enter2 (k := 94) (N := 300) (by first | exact dq1 hd rfl | exact dq0 hd rfl | exact dq2 hd rfl | exact dq3 hd rfl | omega) rfl (Nat.le_of_ble_eq_true rfl) ?_
    refine g_iload_n 1 (gd rfl) rfl rfl ?_
    refine g_if_lt 4 16 (gd rfl) rfl rfl (fun c7x1 => ?_) (fun c7x1 => ?_)
    · skip
      have i7x1 := z_lt (-2147483648) (-1) c7x1 (i_rng x1) rfl
      refine g_iconst 0 17 (gd rfl) rfl rfl ?_
      refine g_ireturn (gd rfl) rfl (nb01 (in_w 0 1 (in_c 0 rfl) rfl)) (hp7 _ _ ?_)
      show GG _ _ _ _ _ _ _ _ [.int (Int32.ofInt 0)] _ _ _
      refine g_thr (E := am_IA) (y := yX11_allow) 13 (gd rfl) rfl rfl (Or.inl ⟨rfl, rfl, rfl⟩) (by first | exact dq1 hd rfl | exact dq0 hd rfl | exact dq2 hd rfl | exact dq3 hd rfl | omega) (Nat.le_of_ble_eq_true rfl) (Nat.le_of_ble_eq_true rfl) (Nat.le_of_ble_eq_true rfl) (fun c10 => ?_) (fun c10 => ?_)
      · skip
        exact zn_ne c10 (in_c 0 rfl) rfl
      · skip
        exact (hX _ _ ⟨rfl, s, hI, fr_rf, rfl⟩)
    · skip
      have i7x1 := z_ge 0 2147483647 c7x1 (i_rng x1) rfl
      refine g_iload_n 5 (gd rfl) rfl rfl ?_
      refine g_aload_n 6 (gd rfl) rfl rfl ?_
      refine g_getI 9 (gd rfl) rfl rfl rfl (fun z7x6 e7x6 => ?_)
      have q7x6 : u_32_1 = z7x6 := (e_32_1).trans e7x6.symm
      subst q7x6
      refine g_cmp_ge 12 16 (gd rfl) rfl rfl (fun c7x9 => ?_) (fun c7x9 => ?_)
      · skip
        refine g_iconst 0 17 (gd rfl) rfl rfl ?_
        refine g_ireturn (gd rfl) rfl (nb01 (in_w 0 1 (in_c 0 rfl) rfl)) (hp7 _ _ ?_)
        show GG _ _ _ _ _ _ _ _ [.int (Int32.ofInt 0)] _ _ _
        refine g_thr (E := am_IA) (y := yX11_allow) 13 (gd rfl) rfl rfl (Or.inl ⟨rfl, rfl, rfl⟩) (by first | exact dq1 hd rfl | exact dq0 hd rfl | exact dq2 hd rfl | exact dq3 hd rfl | omega) (Nat.le_of_ble_eq_true rfl) (Nat.le_of_ble_eq_true rfl) (Nat.le_of_ble_eq_true rfl) (fun c10 => ?_) (fun c10 => ?_)
        · skip
          exact zn_ne c10 (in_c 0 rfl) rfl
        · skip
          exact (hX _ _ ⟨rfl, s, hI, fr_rf, rfl⟩)
      · skip
        have i7x9 := r_lt1 0 31 c7x9 i7x1 ro_32_1 rfl
        have i7x9a := r_lt2 1 32 c7x9 i7x1 ro_32_1 rfl
        refine g_iconst 1 13 (gd rfl) rfl rfl ?_
        refine g_goto 17 (gd rfl) rfl ?_
        refine g_ireturn (gd rfl) rfl (nb01 (in_w 0 1 (in_c 1 rfl) rfl)) (hp7 _ _ ?_)
        show GG _ _ _ _ _ _ _ _ [.int (Int32.ofInt 1)] _ _ _
        refine g_thr (E := am_IA) (y := yX11_allow) 13 (gd rfl) rfl rfl (Or.inl ⟨rfl, rfl, rfl⟩) (by first | exact dq1 hd rfl | exact dq0 hd rfl | exact dq2 hd rfl | exact dq3 hd rfl | omega) (Nat.le_of_ble_eq_true rfl) (Nat.le_of_ble_eq_true rfl) (Nat.le_of_ble_eq_true rfl) (fun c10 => ?_) (fun c10 => ?_)
        · skip
          refine g_aload_n 14 (gd rfl) rfl rfl ?_
          refine g_getA (q2 := 86) 17 (gd rfl) rfl rfl rfl rfl ?_
          refine g_aload_n 18 (gd rfl) rfl rfl ?_
          refine g_iload_n 19 (gd rfl) rfl rfl ?_
          refine g_callv (X := _) (As := [.ref (A 32), .int x1]) (r := []) (b := A 86) (q := 86) 22 (gd rfl) rfl rfl rfl rfl rfl (ww_o rfl) (Nat.le_of_ble_eq_true rfl) (mc := 0) (ms := 0) (Nat.zero_le _) (Nat.zero_le _) (P := fun v u => _) ?_ (fun e u h => h) (fun v u h => h)
          intro po19 xx19 hp19 hx19
          refine g_enter2 (k := 111) (N := 300) (by first | exact dq1 hd rfl | exact dq0 hd rfl | exact dq2 hd rfl | exact dq3 hd rfl | omega) rfl (Nat.le_of_ble_eq_true rfl) ?_
          refine g_aload_n 1 (gd rfl) rfl rfl ?_
          refine g_aload_n 2 (gd rfl) rfl rfl ?_
          refine g_callv (X := _) (As := [.ref (A 32)]) (r := []) (b := A 86) (q := 86) 5 (gd rfl) rfl rfl rfl rfl rfl (ww_o rfl) (Nat.le_of_ble_eq_true rfl) (Nat.zero_le _) (Nat.zero_le _) (k_113_86_32 (by first | exact dq1 hd rfl | exact dq0 hd rfl | exact dq2 hd rfl | exact dq3 hd rfl | omega) hI ) (fun e u h => h) (fun v u h => ?_)
          obtain ⟨s19x2, hI19x2, hF19x2, rfl, rfl⟩ := h
          show GG _ _ _ _ _ _ _ _ [] _ _ _
          refine g_aload_n 6 (gd rfl) rfl rfl ?_
          refine g_getA (q2 := 90) 9 (gd rfl) rfl rfl rfl rfl ?_
          refine g_aload_n 10 (gd rfl) rfl rfl ?_
          refine g_getA (q2 := 89) 13 (gd rfl) rfl rfl rfl rfl ?_
          refine g_iload_n 14 (gd rfl) rfl rfl ?_
          refine g_iaload 15 (gd rfl) rfl (n := 32) rfl (in_ix i7x9 rfl) (fun z19x14 e19x14 => ?_)
          have i19x14 := inv_I hI19x2 (n := 32) (t := 0) 0 31 rfl (in_ix i7x9 rfl) rfl e19x14
          refine g_iaload 16 (gd rfl) rfl (n := 32) rfl (in_ix i19x14 rfl) (fun z19x15 e19x15 => ?_)
          refine g_calls (As := [.int z19x15]) (r := []) 19 (gd rfl) rfl rfl rfl rfl rfl (Nat.le_of_ble_eq_true rfl) (Nat.zero_le _) (Nat.zero_le _) (k_264 (by first | exact dq1 hd rfl | exact dq0 hd rfl | exact dq2 hd rfl | exact dq3 hd rfl | omega)) (fun v u h => ?_)
          obtain ⟨z19x16, rfl, rfl, i19x16, hb19x16⟩ := h
          show GG _ _ _ _ _ _ _ _ [.int z19x16] _ _ _
          refine g_ireturn (gd rfl) rfl rfl (hp19 _ _ ?_)
          show GG _ _ _ _ _ _ _ _ [.int z19x16] _ _ _
          exact g_ireturn (gd rfl) rfl rfl (hP _ _ ⟨s19x2, hI19x2, (fr_tr rfl fr_rf hF19x2), z19x16, rfl, rfl, in_w 0 32 i19x16 rfl⟩)
        · skip
          exact zn_eq c10 (in_c 1 rfl) rfl
  · skip
    have i1x5 := r_eq1 (-1) (-1) c1x5 ro_0_2 (in_c (-1) rfl) rfl
    refine g_aload_n 9 (gd rfl) rfl rfl ?_
    refine g_getA (q2 := 1) 12 (gd rfl) rfl rfl rfl rfl ?_
    refine g_getA (q2 := 2) 15 (gd rfl) rfl rfl rfl rfl ?_
    refine g_goto 22 (gd rfl) rfl ?_
    refine g_areturn (gd rfl) rfl (hp1 _ _ ?_)
    show GG _ _ _ _ _ _ _ _ [.ref (A 2)] _ _ _
    refine g_astore_n 5 (gd rfl) rfl (Nat.le_of_ble_eq_true rfl) ?_
    refine g_aload_n 6 (gd rfl) rfl rfl ?_
    refine g_iload_n 7 (gd rfl) rfl rfl ?_
    refine g_callv (X := _) (As := [.int x1]) (r := []) (b := A 2) (q := 2) 10 (gd rfl) rfl rfl rfl rfl rfl (ww_o rfl) (Nat.le_of_ble_eq_true rfl) (mc := 0) (ms := 0) (Nat.zero_le _) (Nat.zero_le _) (P := fun v u => _) ?_ (fun e u h => h) (fun v u h => h)
    intro po7 xx7 hp7 hx7
    refine g_enter2 (k := 94) (N := 300) (by first | exact dq1 hd rfl | exact dq0 hd rfl | exact dq2 hd rfl | exact dq3 hd rfl | omega) rfl (Nat.le_of_ble_eq_true rfl) ?_
    refine g_iload_n 1 (gd rfl) rfl rfl ?_
    refine g_if_lt 4 16 (gd rfl) rfl rfl (fun c7x1 => ?_) (fun c7x1 => ?_)
    · skip
      have i7x1 := z_lt (-2147483648) (-1) c7x1 (i_rng x1) rfl
      refine g_iconst 0 17 (gd rfl) rfl rfl ?_
      refine g_ireturn (gd rfl) rfl (nb01 (in_w 0 1 (in_c 0 rfl) rfl)) (hp7 _ _ ?_)
      show GG _ _ _ _ _ _ _ _ [.int (Int32.ofInt 0)] _ _ _
      refine g_thr (E := am_IA) (y := yX11_allow) 13 (gd rfl) rfl rfl (Or.inl ⟨rfl, rfl, rfl⟩) (by first | exact dq1 hd rfl | exact dq0 hd rfl | exact dq2 hd rfl | exact dq3 hd rfl | omega) (Nat.le_of_ble_eq_true rfl) (Nat.le_of_ble_eq_true rfl) (Nat.le_of_ble_eq_true rfl) (fun c10 => ?_) (fun c10 => ?_)
      · skip
        exact zn_ne c10 (in_c 0 rfl) rfl
      · skip
        exact (hX _ _ ⟨rfl, s, hI, fr_rf, rfl⟩)
    · skip
      have i7x1 := z_ge 0 2147483647 c7x1 (i_rng x1) rfl
      refine g_iload_n 5 (gd rfl) rfl rfl ?_
      refine g_aload_n 6 (gd rfl) rfl rfl ?_
      refine g_getI 9 (gd rfl) rfl rfl rfl (fun z7x6 e7x6 => ?_)
      have q7x6 : u_2_1 = z7x6 := (e_2_1).trans e7x6.symm
      subst q7x6
      refine g_cmp_ge 12 16 (gd rfl) rfl rfl (fun c7x9 => ?_) (fun c7x9 => ?_)
      · skip
        refine g_iconst 0 17 (gd rfl) rfl rfl ?_
        refine g_ireturn (gd rfl) rfl (nb01 (in_w 0 1 (in_c 0 rfl) rfl)) (hp7 _ _ ?_)
        show GG _ _ _ _ _ _ _ _ [.int (Int32.ofInt 0)] _ _ _
        refine g_thr (E := am_IA) (y := yX11_allow) 13 (gd rfl) rfl rfl (Or.inl ⟨rfl, rfl, rfl⟩) (by first | exact dq1 hd rfl | exact dq0 hd rfl | exact dq2 hd rfl | exact dq3 hd rfl | omega) (Nat.le_of_ble_eq_true rfl) (Nat.le_of_ble_eq_true rfl) (Nat.le_of_ble_eq_true rfl) (fun c10 => ?_) (fun c10 => ?_)
        · skip
          exact zn_ne c10 (in_c 0 rfl) rfl
        · skip
          exact (hX _ _ ⟨rfl, s, hI, fr_rf, rfl⟩)
      · skip
        have i7x9 := r_lt1 0 31 c7x9 i7x1 ro_2_1 rfl
        have i7x9a := r_lt2 1 32 c7x9 i7x1 ro_2_1 rfl
        refine g_iconst 1 13 (gd rfl) rfl rfl ?_
        refine g_goto 17 (gd rfl) rfl ?_
        refine g_ireturn (gd rfl) rfl (nb01 (in_w 0 1 (in_c 1 rfl) rfl)) (hp7 _ _ ?_)
        show GG _ _ _ _ _ _ _ _ [.int (Int32.ofInt 1)] _ _ _
        refine g_thr (E := am_IA) (y := yX11_allow) 13 (gd rfl) rfl rfl (Or.inl ⟨rfl, rfl, rfl⟩) (by first | exact dq1 hd rfl | exact dq0 hd rfl | exact dq2 hd rfl | exact dq3 hd rfl | omega) (Nat.le_of_ble_eq_true rfl) (Nat.le_of_ble_eq_true rfl) (Nat.le_of_ble_eq_true rfl) (fun c10 => ?_) (fun c10 => ?_)
        · skip
          refine g_aload_n 14 (gd rfl) rfl rfl ?_
          refine g_getA (q2 := 86) 17 (gd rfl) rfl rfl rfl rfl ?_
          refine g_aload_n 18 (gd rfl) rfl rfl ?_
          refine g_iload_n 19 (gd rfl) rfl rfl ?_
          refine g_callv (X := _) (As := [.ref (A 2), .int x1]) (r := []) (b := A 86) (q := 86) 22 (gd rfl) rfl rfl rfl rfl rfl (ww_o rfl) (Nat.le_of_ble_eq_true rfl) (mc := 0) (ms := 0) (Nat.zero_le _) (Nat.zero_le _) (P := fun v u => _) ?_ (fun e u h => h) (fun v u h => h)
          intro po19 xx19 hp19 hx19
          refine g_enter2 (k := 111) (N := 300) (by first | exact dq1 hd rfl | exact dq0 hd rfl | exact dq2 hd rfl | exact dq3 hd rfl | omega) rfl (Nat.le_of_ble_eq_true rfl) ?_
          refine g_aload_n 1 (gd rfl) rfl rfl ?_
          refine g_aload_n 2 (gd rfl) rfl rfl ?_
          refine g_callv (X := _) (As := [.ref (A 2)]) (r := []) (b := A 86) (q := 86) 5 (gd rfl) rfl rfl rfl rfl rfl (ww_o rfl) (Nat.le_of_ble_eq_true rfl) (Nat.zero_le _) (Nat.zero_le _) (k_113_86_2 (by first | exact dq1 hd rfl | exact dq0 hd rfl | exact dq2 hd rfl | exact dq3 hd rfl | omega) hI ) (fun e u h => h) (fun v u h => ?_)
          obtain ⟨s19x2, hI19x2, hF19x2, rfl, rfl⟩ := h
          show GG _ _ _ _ _ _ _ _ [] _ _ _
          refine g_aload_n 6 (gd rfl) rfl rfl ?_
          refine g_getA (q2 := 90) 9 (gd rfl) rfl rfl rfl rfl ?_
          refine g_aload_n 10 (gd rfl) rfl rfl ?_
          refine g_getA (q2 := 89) 13 (gd rfl) rfl rfl rfl rfl ?_
          refine g_iload_n 14 (gd rfl) rfl rfl ?_
          refine g_iaload 15 (gd rfl) rfl (n := 32) rfl (in_ix i7x9 rfl) (fun z19x14 e19x14 => ?_)
          have i19x14 := inv_I hI19x2 (n := 32) (t := 0) 0 31 rfl (in_ix i7x9 rfl) rfl e19x14
          refine g_iaload 16 (gd rfl) rfl (n := 32) rfl (in_ix i19x14 rfl) (fun z19x15 e19x15 => ?_)
          refine g_calls (As := [.int z19x15]) (r := []) 19 (gd rfl) rfl rfl rfl rfl rfl (Nat.le_of_ble_eq_true rfl) (Nat.zero_le _) (Nat.zero_le _) (k_264 (by first | exact dq1 hd rfl | exact dq0 hd rfl | exact dq2 hd rfl | exact dq3 hd rfl | omega)) (fun v u h => ?_)
          obtain ⟨z19x16, rfl, rfl, i19x16, hb19x16⟩ := h
          show GG _ _ _ _ _ _ _ _ [.int z19x16] _ _ _
          refine g_ireturn (gd rfl) rfl rfl (hp19 _ _ ?_)
          show GG _ _ _ _ _ _ _ _ [.int z19x16] _ _ _
          exact g_ireturn (gd rfl) rfl rfl (hP _ _ ⟨s19x2, hI19x2, (fr_tr rfl fr_rf hF19x2), z19x16, rfl, rfl, in_w 0 32 i19x16 rfl⟩)
        · skip
          exact zn_eq c10 (in_c 1 rfl) rfl

def fm_254_0 : FM := ([9, 10, 11, 12, 13, 14, 15, 39, 40, 41, 42, 43, 44, 45], [99, 100, 101], [(2, 4), (32, 4)], [])
/-- GraphHouse.fits -/
theorem k_254_0 {Z : AmZ} {A : Nat → Nat} {s : GS} {ex : va_W} {d : Nat} {x1 : Int32} {x2 : Int32} (hd : 7 ≤ d) (hI : Inv s)  : GC Z d 254 [.ref (A 0), .int x1, .int x2] (WW Z A s ++ ex) 3 18 (fun v u => ∃ t : GS, Inv t ∧ Fr fm_254_0 s t ∧ ∃ z : Int32, v = some (.int z) ∧ u = WW Z A t ++ ex ∧ In z (-1) 1952) (gE1 Z A ex fm_254_0 s) := by
  intro post xp hP hX
  obtain ⟨u_0_2, e_0_2⟩ : ∃ w, w = s.2.2.1 0 2 := ⟨_, rfl⟩
  have ro_0_2 := inv_F hI (-1) 4000 rfl e_0_2
  obtain ⟨u_2_1, e_2_1⟩ : ∃ w, w = s.2.2.1 2 1 := ⟨_, rfl⟩
  have ro_2_1 := inv_F hI 0 32 rfl e_2_1
  obtain ⟨u_32_1, e_32_1⟩ : ∃ w, w = s.2.2.1 32 1 := ⟨_, rfl⟩
  have ro_32_1 := inv_F hI 0 32 rfl e_32_1
  refine g_enter2 (k := 254) (N := 900) (by first | exact dq1 hd rfl | exact dq0 hd rfl | exact dq2 hd rfl | exact dq3 hd rfl | omega) rfl (Nat.le_of_ble_eq_true rfl) ?_
  refine g_aload_n 1 (gd rfl) rfl rfl ?_
  refine g_callv (X := _) (As := []) (r := []) (b := A 0) (q := 0) 4 (gd rfl) rfl rfl rfl rfl rfl (ww_o rfl) (Nat.le_of_ble_eq_true rfl) (mc := 0) (ms := 0) (Nat.zero_le _) (Nat.zero_le _) (P := fun v u => _) ?_ (fun e u h => h) (fun v u h => h)
  intro po1 xx1 hp1 hx1
  refine g_enter2 (k := 259) (N := 300) (by first | exact dq1 hd rfl | exact dq0 hd rfl | exact dq2 hd rfl | exact dq3 hd rfl | omega) rfl (Nat.le_of_ble_eq_true rfl) ?_
  refine g_aload_n 1 (gd rfl) rfl rfl ?_
  refine g_getI 4 (gd rfl) rfl rfl rfl (fun z1x1 e1x1 => ?_)
  have q1x1 : u_0_2 = z1x1 := (e_0_2).trans e1x1.symm
  subst q1x1
  refine g_iconst (-1) 5 (gd rfl) rfl rfl ?_
  refine g_cmp_ne 8 18 (gd rfl) rfl rfl (fun c1x5 => ?_) (fun c1x5 => ?_)
  · skip
    have i1x5 := r_ne1 0 4000 c1x5 ro_0_2 (in_c (-1) rfl) rfl
    refine g_aload_n 19 (gd rfl) rfl rfl ?_
    refine g_getA (q2 := 32) 22 (gd rfl) rfl rfl rfl rfl ?_
    refine g_areturn (gd rfl) rfl (hp1 _ _ ?_)
    show GG _ _ _ _ _ _ _ _ [.ref (A 32)] _ _ _
    refine g_astore_n 5 (gd rfl) rfl (Nat.le_of_ble_eq_true rfl) ?_
    refine g_aload_n 6 (gd rfl) rfl rfl ?_
    refine g_iload_n 7 (gd rfl) rfl rfl ?_
    refine g_callv (X := _) (As := [.int x1]) (r := []) (b := A 32) (q := 32) 10 (gd rfl) rfl rfl rfl rfl rfl (ww_o rfl) (Nat.le_of_ble_eq_true rfl) (mc := 0) (ms := 0) (Nat.zero_le _) (Nat.zero_le _) (P := fun v u => _) ?_ (fun e u h => h) (fun v u h => h)
    intro po7 xx7 hp7 hx7
    refine g_enter2 (k := 94) (N := 300) (by first | exact dq1 hd rfl | exact dq0 hd rfl | exact dq2 hd rfl | exact dq3 hd rfl | omega) rfl (Nat.le_of_ble_eq_true rfl) ?_
    refine g_iload_n 1 (gd rfl) rfl rfl ?_
    refine g_if_lt 4 16 (gd rfl) rfl rfl (fun c7x1 => ?_) (fun c7x1 => ?_)
    · skip
      have i7x1 := z_lt (-2147483648) (-1) c7x1 (i_rng x1) rfl
      refine g_iconst 0 17 (gd rfl) rfl rfl ?_
      refine g_ireturn (gd rfl) rfl (nb01 (in_w 0 1 (in_c 0 rfl) rfl)) (hp7 _ _ ?_)
      show GG _ _ _ _ _ _ _ _ [.int (Int32.ofInt 0)] _ _ _
      refine g_if_eq 13 25 (gd rfl) rfl rfl (fun c10 => ?_) (fun c10 => ?_)
      · skip
        refine g_iconst 0 26 (gd rfl) rfl rfl ?_
        refine g_thr (E := am_IA) (y := yX11_allow) 29 (gd rfl) rfl rfl (Or.inl ⟨rfl, rfl, rfl⟩) (by first | exact dq1 hd rfl | exact dq0 hd rfl | exact dq2 hd rfl | exact dq3 hd rfl | omega) (Nat.le_of_ble_eq_true rfl) (Nat.le_of_ble_eq_true rfl) (Nat.le_of_ble_eq_true rfl) (fun c26 => ?_) (fun c26 => ?_)
        · skip
          exact zn_ne c26 (in_c 0 rfl) rfl
        · skip
          exact (hX _ _ ⟨rfl, s, hI, fr_rf, rfl⟩)
      · skip
        exact zn_ne c10 (in_c 0 rfl) rfl
    · skip
      have i7x1 := z_ge 0 2147483647 c7x1 (i_rng x1) rfl
      refine g_iload_n 5 (gd rfl) rfl rfl ?_
      refine g_aload_n 6 (gd rfl) rfl rfl ?_
      refine g_getI 9 (gd rfl) rfl rfl rfl (fun z7x6 e7x6 => ?_)
      have q7x6 : u_32_1 = z7x6 := (e_32_1).trans e7x6.symm
      subst q7x6
      refine g_cmp_ge 12 16 (gd rfl) rfl rfl (fun c7x9 => ?_) (fun c7x9 => ?_)
      · skip
        refine g_iconst 0 17 (gd rfl) rfl rfl ?_
        refine g_ireturn (gd rfl) rfl (nb01 (in_w 0 1 (in_c 0 rfl) rfl)) (hp7 _ _ ?_)
        show GG _ _ _ _ _ _ _ _ [.int (Int32.ofInt 0)] _ _ _
        refine g_if_eq 13 25 (gd rfl) rfl rfl (fun c10 => ?_) (fun c10 => ?_)
        · skip
          refine g_iconst 0 26 (gd rfl) rfl rfl ?_
          refine g_thr (E := am_IA) (y := yX11_allow) 29 (gd rfl) rfl rfl (Or.inl ⟨rfl, rfl, rfl⟩) (by first | exact dq1 hd rfl | exact dq0 hd rfl | exact dq2 hd rfl | exact dq3 hd rfl | omega) (Nat.le_of_ble_eq_true rfl) (Nat.le_of_ble_eq_true rfl) (Nat.le_of_ble_eq_true rfl) (fun c26 => ?_) (fun c26 => ?_)
          · skip
            exact zn_ne c26 (in_c 0 rfl) rfl
          · skip
            exact (hX _ _ ⟨rfl, s, hI, fr_rf, rfl⟩)
        · skip
          exact zn_ne c10 (in_c 0 rfl) rfl
      · skip
        have i7x9 := r_lt1 0 31 c7x9 i7x1 ro_32_1 rfl
        have i7x9a := r_lt2 1 32 c7x9 i7x1 ro_32_1 rfl
        refine g_iconst 1 13 (gd rfl) rfl rfl ?_
        refine g_goto 17 (gd rfl) rfl ?_
        refine g_ireturn (gd rfl) rfl (nb01 (in_w 0 1 (in_c 1 rfl) rfl)) (hp7 _ _ ?_)
        show GG _ _ _ _ _ _ _ _ [.int (Int32.ofInt 1)] _ _ _
        refine g_if_eq 13 25 (gd rfl) rfl rfl (fun c10 => ?_) (fun c10 => ?_)
        · skip
          exact zn_eq c10 (in_c 1 rfl) rfl
        · skip
          refine g_aload_n 14 (gd rfl) rfl rfl ?_
          refine g_iload_n 15 (gd rfl) rfl rfl ?_
          refine g_callv (X := _) (As := [.int x2]) (r := []) (b := A 32) (q := 32) 18 (gd rfl) rfl rfl rfl rfl rfl (ww_o rfl) (Nat.le_of_ble_eq_true rfl) (mc := 0) (ms := 0) (Nat.zero_le _) (Nat.zero_le _) (P := fun v u => _) ?_ (fun e u h => h) (fun v u h => h)
          intro po15 xx15 hp15 hx15
          refine g_enter2 (k := 94) (N := 300) (by first | exact dq1 hd rfl | exact dq0 hd rfl | exact dq2 hd rfl | exact dq3 hd rfl | omega) rfl (Nat.le_of_ble_eq_true rfl) ?_
          refine g_iload_n 1 (gd rfl) rfl rfl ?_
          refine g_if_lt 4 16 (gd rfl) rfl rfl (fun c15x1 => ?_) (fun c15x1 => ?_)
          · skip
            have i15x1 := z_lt (-2147483648) (-1) c15x1 (i_rng x2) rfl
            refine g_iconst 0 17 (gd rfl) rfl rfl ?_
            refine g_ireturn (gd rfl) rfl (nb01 (in_w 0 1 (in_c 0 rfl) rfl)) (hp15 _ _ ?_)
            show GG _ _ _ _ _ _ _ _ [.int (Int32.ofInt 0)] _ _ _
            refine g_if_eq 21 25 (gd rfl) rfl rfl (fun c18 => ?_) (fun c18 => ?_)
            · skip
              refine g_iconst 0 26 (gd rfl) rfl rfl ?_
              refine g_thr (E := am_IA) (y := yX11_allow) 29 (gd rfl) rfl rfl (Or.inl ⟨rfl, rfl, rfl⟩) (by first | exact dq1 hd rfl | exact dq0 hd rfl | exact dq2 hd rfl | exact dq3 hd rfl | omega) (Nat.le_of_ble_eq_true rfl) (Nat.le_of_ble_eq_true rfl) (Nat.le_of_ble_eq_true rfl) (fun c26 => ?_) (fun c26 => ?_)
              · skip
                exact zn_ne c26 (in_c 0 rfl) rfl
              · skip
                exact (hX _ _ ⟨rfl, s, hI, fr_rf, rfl⟩)
            · skip
              exact zn_ne c18 (in_c 0 rfl) rfl
          · skip
            have i15x1 := z_ge 0 2147483647 c15x1 (i_rng x2) rfl
            refine g_iload_n 5 (gd rfl) rfl rfl ?_
            refine g_aload_n 6 (gd rfl) rfl rfl ?_
            refine g_getI 9 (gd rfl) rfl rfl rfl (fun z15x6 e15x6 => ?_)
            have q15x6 : u_32_1 = z15x6 := (e_32_1).trans e15x6.symm
            subst q15x6
            refine g_cmp_ge 12 16 (gd rfl) rfl rfl (fun c15x9 => ?_) (fun c15x9 => ?_)
            · skip
              have i15x9 := r_le2 1 2147483647 c15x9 i7x9a i15x1 rfl
              refine g_iconst 0 17 (gd rfl) rfl rfl ?_
              refine g_ireturn (gd rfl) rfl (nb01 (in_w 0 1 (in_c 0 rfl) rfl)) (hp15 _ _ ?_)
              show GG _ _ _ _ _ _ _ _ [.int (Int32.ofInt 0)] _ _ _
              refine g_if_eq 21 25 (gd rfl) rfl rfl (fun c18 => ?_) (fun c18 => ?_)
              · skip
                refine g_iconst 0 26 (gd rfl) rfl rfl ?_
                refine g_thr (E := am_IA) (y := yX11_allow) 29 (gd rfl) rfl rfl (Or.inl ⟨rfl, rfl, rfl⟩) (by first | exact dq1 hd rfl | exact dq0 hd rfl | exact dq2 hd rfl | exact dq3 hd rfl | omega) (Nat.le_of_ble_eq_true rfl) (Nat.le_of_ble_eq_true rfl) (Nat.le_of_ble_eq_true rfl) (fun c26 => ?_) (fun c26 => ?_)
                · skip
                  exact zn_ne c26 (in_c 0 rfl) rfl
                · skip
                  exact (hX _ _ ⟨rfl, s, hI, fr_rf, rfl⟩)
              · skip
                exact zn_ne c18 (in_c 0 rfl) rfl
            · skip
              have i15x9 := r_lt1 0 31 c15x9 i15x1 i7x9a rfl
              refine g_iconst 1 13 (gd rfl) rfl rfl ?_
              refine g_goto 17 (gd rfl) rfl ?_
              refine g_ireturn (gd rfl) rfl (nb01 (in_w 0 1 (in_c 1 rfl) rfl)) (hp15 _ _ ?_)
              show GG _ _ _ _ _ _ _ _ [.int (Int32.ofInt 1)] _ _ _
              refine g_if_eq 21 25 (gd rfl) rfl rfl (fun c18 => ?_) (fun c18 => ?_)
              · skip
                exact zn_eq c18 (in_c 1 rfl) rfl
              · skip
                refine g_iconst 1 22 (gd rfl) rfl rfl ?_
                refine g_goto 26 (gd rfl) rfl ?_
                refine g_thr (E := am_IA) (y := yX11_allow) 29 (gd rfl) rfl rfl (Or.inl ⟨rfl, rfl, rfl⟩) (by first | exact dq1 hd rfl | exact dq0 hd rfl | exact dq2 hd rfl | exact dq3 hd rfl | omega) (Nat.le_of_ble_eq_true rfl) (Nat.le_of_ble_eq_true rfl) (Nat.le_of_ble_eq_true rfl) (fun c26 => ?_) (fun c26 => ?_)
                · skip
                  refine g_aload_n 30 (gd rfl) rfl rfl ?_
                  refine g_getA (q2 := 94) 33 (gd rfl) rfl rfl rfl rfl ?_
                  refine g_aload_n 34 (gd rfl) rfl rfl ?_
                  refine g_iload_n 35 (gd rfl) rfl rfl ?_
                  refine g_iload_n 36 (gd rfl) rfl rfl ?_
                  refine g_callv (X := _) (As := [.ref (A 32), .int x1, .int x2]) (r := []) (b := A 94) (q := 94) 39 (gd rfl) rfl rfl rfl rfl rfl (ww_o rfl) (Nat.le_of_ble_eq_true rfl) (Nat.zero_le _) (Nat.zero_le _) (k_163_94_32 (by first | exact dq1 hd rfl | exact dq0 hd rfl | exact dq2 hd rfl | exact dq3 hd rfl | omega) hI (in_w 0 31 i7x9 rfl) (in_w 0 31 i15x9 rfl)) (fun e u h => h) (fun v u h => ?_)
                  obtain ⟨s36, hI36, hF36, z36, rfl, rfl, i36⟩ := h
                  show GG _ _ _ _ _ _ _ _ [.int z36] _ _ _
                  exact g_ireturn (gd rfl) rfl rfl (hP _ _ ⟨s36, hI36, (fr_tr rfl fr_rf hF36), z36, rfl, rfl, in_w (-1) 1952 i36 rfl⟩)
                · skip
                  exact zn_eq c26 (in_c 1 rfl) rfl
  · skip
    have i1x5 := r_eq1 (-1) (-1) c1x5 ro_0_2 (in_c (-1) rfl) rfl
    refine g_aload_n 9 (gd rfl) rfl rfl ?_
    refine g_getA (q2 := 1) 12 (gd rfl) rfl rfl rfl rfl ?_
    refine g_getA (q2 := 2) 15 (gd rfl) rfl rfl rfl rfl ?_
    refine g_goto 22 (gd rfl) rfl ?_
    refine g_areturn (gd rfl) rfl (hp1 _ _ ?_)
    show GG _ _ _ _ _ _ _ _ [.ref (A 2)] _ _ _
    refine g_astore_n 5 (gd rfl) rfl (Nat.le_of_ble_eq_true rfl) ?_
    refine g_aload_n 6 (gd rfl) rfl rfl ?_
    refine g_iload_n 7 (gd rfl) rfl rfl ?_
    refine g_callv (X := _) (As := [.int x1]) (r := []) (b := A 2) (q := 2) 10 (gd rfl) rfl rfl rfl rfl rfl (ww_o rfl) (Nat.le_of_ble_eq_true rfl) (mc := 0) (ms := 0) (Nat.zero_le _) (Nat.zero_le _) (P := fun v u => _) ?_ (fun e u h => h) (fun v u h => h)
    intro po7 xx7 hp7 hx7
    refine g_enter2 (k := 94) (N := 300) (by first | exact dq1 hd rfl | exact dq0 hd rfl | exact dq2 hd rfl | exact dq3 hd rfl | omega) rfl (Nat.le_of_ble_eq_true rfl) ?_
    refine g_iload_n 1 (gd rfl) rfl rfl ?_
    refine g_if_lt 4 16 (gd rfl) rfl rfl (fun c7x1 => ?_) (fun c7x1 => ?_)
    · skip
      have i7x1 := z_lt (-2147483648) (-1) c7x1 (i_rng x1) rfl
      refine g_iconst 0 17 (gd rfl) rfl rfl ?_
      refine g_ireturn (gd rfl) rfl (nb01 (in_w 0 1 (in_c 0 rfl) rfl)) (hp7 _ _ ?_)
      show GG _ _ _ _ _ _ _ _ [.int (Int32.ofInt 0)] _ _ _
      refine g_if_eq 13 25 (gd rfl) rfl rfl (fun c10 => ?_) (fun c10 => ?_)
      · skip
        refine g_iconst 0 26 (gd rfl) rfl rfl ?_
        refine g_thr (E := am_IA) (y := yX11_allow) 29 (gd rfl) rfl rfl (Or.inl ⟨rfl, rfl, rfl⟩) (by first | exact dq1 hd rfl | exact dq0 hd rfl | exact dq2 hd rfl | exact dq3 hd rfl | omega) (Nat.le_of_ble_eq_true rfl) (Nat.le_of_ble_eq_true rfl) (Nat.le_of_ble_eq_true rfl) (fun c26 => ?_) (fun c26 => ?_)
        · skip
          exact zn_ne c26 (in_c 0 rfl) rfl
        · skip
          exact (hX _ _ ⟨rfl, s, hI, fr_rf, rfl⟩)
      · skip
        exact zn_ne c10 (in_c 0 rfl) rfl
    · skip
      have i7x1 := z_ge 0 2147483647 c7x1 (i_rng x1) rfl
      refine g_iload_n 5 (gd rfl) rfl rfl ?_
      refine g_aload_n 6 (gd rfl) rfl rfl ?_
      refine g_getI 9 (gd rfl) rfl rfl rfl (fun z7x6 e7x6 => ?_)
      have q7x6 : u_2_1 = z7x6 := (e_2_1).trans e7x6.symm
      subst q7x6
      refine g_cmp_ge 12 16 (gd rfl) rfl rfl (fun c7x9 => ?_) (fun c7x9 => ?_)
      · skip
        refine g_iconst 0 17 (gd rfl) rfl rfl ?_
        refine g_ireturn (gd rfl) rfl (nb01 (in_w 0 1 (in_c 0 rfl) rfl)) (hp7 _ _ ?_)
        show GG _ _ _ _ _ _ _ _ [.int (Int32.ofInt 0)] _ _ _
        refine g_if_eq 13 25 (gd rfl) rfl rfl (fun c10 => ?_) (fun c10 => ?_)
        · skip
          refine g_iconst 0 26 (gd rfl) rfl rfl ?_
          refine g_thr (E := am_IA) (y := yX11_allow) 29 (gd rfl) rfl rfl (Or.inl ⟨rfl, rfl, rfl⟩) (by first | exact dq1 hd rfl | exact dq0 hd rfl | exact dq2 hd rfl | exact dq3 hd rfl | omega) (Nat.le_of_ble_eq_true rfl) (Nat.le_of_ble_eq_true rfl) (Nat.le_of_ble_eq_true rfl) (fun c26 => ?_) (fun c26 => ?_)
          · skip
            exact zn_ne c26 (in_c 0 rfl) rfl
          · skip
            exact (hX _ _ ⟨rfl, s, hI, fr_rf, rfl⟩)
        · skip
          exact zn_ne c10 (in_c 0 rfl) rfl
      · skip
        have i7x9 := r_lt1 0 31 c7x9 i7x1 ro_2_1 rfl
        have i7x9a := r_lt2 1 32 c7x9 i7x1 ro_2_1 rfl
        refine g_iconst 1 13 (gd rfl) rfl rfl ?_
        refine g_goto 17 (gd rfl) rfl ?_
        refine g_ireturn (gd rfl) rfl (nb01 (in_w 0 1 (in_c 1 rfl) rfl)) (hp7 _ _ ?_)
        show GG _ _ _ _ _ _ _ _ [.int (Int32.ofInt 1)] _ _ _
        refine g_if_eq 13 25 (gd rfl) rfl rfl (fun c10 => ?_) (fun c10 => ?_)
        · skip
          exact zn_eq c10 (in_c 1 rfl) rfl
        · skip
          refine g_aload_n 14 (gd rfl) rfl rfl ?_
          refine g_iload_n 15 (gd rfl) rfl rfl ?_
          refine g_callv (X := _) (As := [.int x2]) (r := []) (b := A 2) (q := 2) 18 (gd rfl) rfl rfl rfl rfl rfl (ww_o rfl) (Nat.le_of_ble_eq_true rfl) (mc := 0) (ms := 0) (Nat.zero_le _) (Nat.zero_le _) (P := fun v u => _) ?_ (fun e u h => h) (fun v u h => h)
          intro po15 xx15 hp15 hx15
          refine g_enter2 (k := 94) (N := 300) (by first | exact dq1 hd rfl | exact dq0 hd rfl | exact dq2 hd rfl | exact dq3 hd rfl | omega) rfl (Nat.le_of_ble_eq_true rfl) ?_
          refine g_iload_n 1 (gd rfl) rfl rfl ?_
          refine g_if_lt 4 16 (gd rfl) rfl rfl (fun c15x1 => ?_) (fun c15x1 => ?_)
          · skip
            have i15x1 := z_lt (-2147483648) (-1) c15x1 (i_rng x2) rfl
            refine g_iconst 0 17 (gd rfl) rfl rfl ?_
            refine g_ireturn (gd rfl) rfl (nb01 (in_w 0 1 (in_c 0 rfl) rfl)) (hp15 _ _ ?_)
            show GG _ _ _ _ _ _ _ _ [.int (Int32.ofInt 0)] _ _ _
            refine g_if_eq 21 25 (gd rfl) rfl rfl (fun c18 => ?_) (fun c18 => ?_)
            · skip
              refine g_iconst 0 26 (gd rfl) rfl rfl ?_
              refine g_thr (E := am_IA) (y := yX11_allow) 29 (gd rfl) rfl rfl (Or.inl ⟨rfl, rfl, rfl⟩) (by first | exact dq1 hd rfl | exact dq0 hd rfl | exact dq2 hd rfl | exact dq3 hd rfl | omega) (Nat.le_of_ble_eq_true rfl) (Nat.le_of_ble_eq_true rfl) (Nat.le_of_ble_eq_true rfl) (fun c26 => ?_) (fun c26 => ?_)
              · skip
                exact zn_ne c26 (in_c 0 rfl) rfl
              · skip
                exact (hX _ _ ⟨rfl, s, hI, fr_rf, rfl⟩)
            · skip
              exact zn_ne c18 (in_c 0 rfl) rfl
          · skip
            have i15x1 := z_ge 0 2147483647 c15x1 (i_rng x2) rfl
            refine g_iload_n 5 (gd rfl) rfl rfl ?_
            refine g_aload_n 6 (gd rfl) rfl rfl ?_
            refine g_getI 9 (gd rfl) rfl rfl rfl (fun z15x6 e15x6 => ?_)
            have q15x6 : u_2_1 = z15x6 := (e_2_1).trans e15x6.symm
            subst q15x6
            refine g_cmp_ge 12 16 (gd rfl) rfl rfl (fun c15x9 => ?_) (fun c15x9 => ?_)
            · skip
              have i15x9 := r_le2 1 2147483647 c15x9 i7x9a i15x1 rfl
              refine g_iconst 0 17 (gd rfl) rfl rfl ?_
              refine g_ireturn (gd rfl) rfl (nb01 (in_w 0 1 (in_c 0 rfl) rfl)) (hp15 _ _ ?_)
              show GG _ _ _ _ _ _ _ _ [.int (Int32.ofInt 0)] _ _ _
              refine g_if_eq 21 25 (gd rfl) rfl rfl (fun c18 => ?_) (fun c18 => ?_)
              · skip
                refine g_iconst 0 26 (gd rfl) rfl rfl ?_
                refine g_thr (E := am_IA) (y := yX11_allow) 29 (gd rfl) rfl rfl (Or.inl ⟨rfl, rfl, rfl⟩) (by first | exact dq1 hd rfl | exact dq0 hd rfl | exact dq2 hd rfl | exact dq3 hd rfl | omega) (Nat.le_of_ble_eq_true rfl) (Nat.le_of_ble_eq_true rfl) (Nat.le_of_ble_eq_true rfl) (fun c26 => ?_) (fun c26 => ?_)
                · skip
                  exact zn_ne c26 (in_c 0 rfl) rfl
                · skip
                  exact (hX _ _ ⟨rfl, s, hI, fr_rf, rfl⟩)
              · skip
                exact zn_ne c18 (in_c 0 rfl) rfl
            · skip
              have i15x9 := r_lt1 0 31 c15x9 i15x1 i7x9a rfl
              refine g_iconst 1 13 (gd rfl) rfl rfl ?_
              refine g_goto 17 (gd rfl) rfl ?_
              refine g_ireturn (gd rfl) rfl (nb01 (in_w 0 1 (in_c 1 rfl) rfl)) (hp15 _ _ ?_)
              show GG _ _ _ _ _ _ _ _ [.int (Int32.ofInt 1)] _ _ _
              refine g_if_eq 21 25 (gd rfl) rfl rfl (fun c18 => ?_) (fun c18 => ?_)
              · skip
                exact zn_eq c18 (in_c 1 rfl) rfl
              · skip
                refine g_iconst 1 22 (gd rfl) rfl rfl ?_
                refine g_goto 26 (gd rfl) rfl ?_
                refine g_thr (E := am_IA) (y := yX11_allow) 29 (gd rfl) rfl rfl (Or.inl ⟨rfl, rfl, rfl⟩) (by first | exact dq1 hd rfl | exact dq0 hd rfl | exact dq2 hd rfl | exact dq3 hd rfl | omega) (Nat.le_of_ble_eq_true rfl) (Nat.le_of_ble_eq_true rfl) (Nat.le_of_ble_eq_true rfl) (fun c26 => ?_) (fun c26 => ?_)
                · skip
                  refine g_aload_n 30 (gd rfl) rfl rfl ?_
                  refine g_getA (q2 := 94) 33 (gd rfl) rfl rfl rfl rfl ?_
                  refine g_aload_n 34 (gd rfl) rfl rfl ?_
                  refine g_iload_n 35 (gd rfl) rfl rfl ?_
                  refine g_iload_n 36 (gd rfl) rfl rfl ?_
                  refine g_callv (X := _) (As := [.ref (A 2), .int x1, .int x2]) (r := []) (b := A 94) (q := 94) 39 (gd rfl) rfl rfl rfl rfl rfl (ww_o rfl) (Nat.le_of_ble_eq_true rfl) (Nat.zero_le _) (Nat.zero_le _) (k_163_94_2 (by first | exact dq1 hd rfl | exact dq0 hd rfl | exact dq2 hd rfl | exact dq3 hd rfl | omega) hI (in_w 0 31 i7x9 rfl) (in_w 0 31 i15x9 rfl)) (fun e u h => h) (fun v u h => ?_)
                  obtain ⟨s36, hI36, hF36, z36, rfl, rfl, i36⟩ := h
                  show GG _ _ _ _ _ _ _ _ [.int z36] _ _ _
                  exact g_ireturn (gd rfl) rfl rfl (hP _ _ ⟨s36, hI36, (fr_tr rfl fr_rf hF36), z36, rfl, rfl, in_w (-1) 1952 i36 rfl⟩)
                · skip
                  exact zn_eq c26 (in_c 1 rfl) rfl

def fm_256_0 : FM := ([9, 10, 11, 12, 13, 14, 15, 39, 40, 41, 42, 43, 44, 45], [105, 106, 107, 108], [(2, 4), (32, 4), (102, 9), (102, 10), (102, 11), (102, 12)], [])
/-- GraphHouse.run -/
theorem k_256_0 {Z : AmZ} {A : Nat → Nat} {s : GS} {ex : va_W} {d : Nat} {x1 : Int32} {x2 : Int32} {x3 : Int32} {x4 : Int64} (hd : 8 ≤ d) (hI : Inv s)  : GC Z d 256 [.ref (A 0), .int x1, .int x2, .int x3, .long x4] (WW Z A s ++ ex) 3 18 (fun v u => ∃ t : GS, Inv t ∧ Fr fm_256_0 s t ∧ ∃ z : Int32, v = some (.int z) ∧ u = WW Z A t ++ ex ∧ In z 0 200) (gE1 Z A ex fm_256_0 s) := by
  intro post xp hP hX
  obtain ⟨u_0_2, e_0_2⟩ : ∃ w, w = s.2.2.1 0 2 := ⟨_, rfl⟩
  have ro_0_2 := inv_F hI (-1) 4000 rfl e_0_2
  refine g_enter2 (k := 256) (N := 900) (by first | exact dq1 hd rfl | exact dq0 hd rfl | exact dq2 hd rfl | exact dq3 hd rfl | omega) rfl (Nat.le_of_ble_eq_true rfl) ?_
  refine g_iload_n 1 (gd rfl) rfl rfl ?_
  refine g_if_lt 4 35 (gd rfl) rfl rfl (fun c1 => ?_) (fun c1 => ?_)
  · skip
    have i1 := z_lt (-2147483648) (-1) c1 (i_rng x1) rfl
    refine g_iconst 0 36 (gd rfl) rfl rfl ?_
    refine g_thr (E := am_IA) (y := yX11_allow) 39 (gd rfl) rfl rfl (Or.inl ⟨rfl, rfl, rfl⟩) (by first | exact dq1 hd rfl | exact dq0 hd rfl | exact dq2 hd rfl | exact dq3 hd rfl | omega) (Nat.le_of_ble_eq_true rfl) (Nat.le_of_ble_eq_true rfl) (Nat.le_of_ble_eq_true rfl) (fun c36 => ?_) (fun c36 => ?_)
    · skip
      exact zn_ne c36 (in_c 0 rfl) rfl
    · skip
      exact (hX _ _ ⟨rfl, s, hI, fr_rf, rfl⟩)
  · skip
    have i1 := z_ge 0 2147483647 c1 (i_rng x1) rfl
    refine g_iload_n 5 (gd rfl) rfl rfl ?_
    refine g_sipush 200 8 (gd rfl) rfl rfl ?_
    refine g_cmp_gt 11 35 (gd rfl) rfl rfl (fun c8 => ?_) (fun c8 => ?_)
    · skip
      have i8 := r_lt2 201 2147483647 c8 (in_c 200 rfl) i1 rfl
      refine g_iconst 0 36 (gd rfl) rfl rfl ?_
      refine g_thr (E := am_IA) (y := yX11_allow) 39 (gd rfl) rfl rfl (Or.inl ⟨rfl, rfl, rfl⟩) (by first | exact dq1 hd rfl | exact dq0 hd rfl | exact dq2 hd rfl | exact dq3 hd rfl | omega) (Nat.le_of_ble_eq_true rfl) (Nat.le_of_ble_eq_true rfl) (Nat.le_of_ble_eq_true rfl) (fun c36 => ?_) (fun c36 => ?_)
      · skip
        exact zn_ne c36 (in_c 0 rfl) rfl
      · skip
        exact (hX _ _ ⟨rfl, s, hI, fr_rf, rfl⟩)
    · skip
      have i8 := r_le1 0 200 c8 i1 (in_c 200 rfl) rfl
      refine g_iload_n 12 (gd rfl) rfl rfl ?_
      refine g_iconst 1 13 (gd rfl) rfl rfl ?_
      refine g_cmp_lt 16 35 (gd rfl) rfl rfl (fun c13 => ?_) (fun c13 => ?_)
      · skip
        have i13 := r_lt1 (-2147483648) 0 c13 (i_rng x2) (in_c 1 rfl) rfl
        refine g_iconst 0 36 (gd rfl) rfl rfl ?_
        refine g_thr (E := am_IA) (y := yX11_allow) 39 (gd rfl) rfl rfl (Or.inl ⟨rfl, rfl, rfl⟩) (by first | exact dq1 hd rfl | exact dq0 hd rfl | exact dq2 hd rfl | exact dq3 hd rfl | omega) (Nat.le_of_ble_eq_true rfl) (Nat.le_of_ble_eq_true rfl) (Nat.le_of_ble_eq_true rfl) (fun c36 => ?_) (fun c36 => ?_)
        · skip
          exact zn_ne c36 (in_c 0 rfl) rfl
        · skip
          exact (hX _ _ ⟨rfl, s, hI, fr_rf, rfl⟩)
      · skip
        have i13 := r_le2 1 2147483647 c13 (in_c 1 rfl) (i_rng x2) rfl
        refine g_iload_n 17 (gd rfl) rfl rfl ?_
        refine g_iconst 4 18 (gd rfl) rfl rfl ?_
        refine g_cmp_gt 21 35 (gd rfl) rfl rfl (fun c18 => ?_) (fun c18 => ?_)
        · skip
          have i18 := r_lt2 5 2147483647 c18 (in_c 4 rfl) i13 rfl
          refine g_iconst 0 36 (gd rfl) rfl rfl ?_
          refine g_thr (E := am_IA) (y := yX11_allow) 39 (gd rfl) rfl rfl (Or.inl ⟨rfl, rfl, rfl⟩) (by first | exact dq1 hd rfl | exact dq0 hd rfl | exact dq2 hd rfl | exact dq3 hd rfl | omega) (Nat.le_of_ble_eq_true rfl) (Nat.le_of_ble_eq_true rfl) (Nat.le_of_ble_eq_true rfl) (fun c36 => ?_) (fun c36 => ?_)
          · skip
            exact zn_ne c36 (in_c 0 rfl) rfl
          · skip
            exact (hX _ _ ⟨rfl, s, hI, fr_rf, rfl⟩)
        · skip
          have i18 := r_le1 1 4 c18 i13 (in_c 4 rfl) rfl
          refine g_iload_n 22 (gd rfl) rfl rfl ?_
          refine g_if_lt 25 35 (gd rfl) rfl rfl (fun c22 => ?_) (fun c22 => ?_)
          · skip
            have i22 := z_lt (-2147483648) (-1) c22 (i_rng x3) rfl
            refine g_iconst 0 36 (gd rfl) rfl rfl ?_
            refine g_thr (E := am_IA) (y := yX11_allow) 39 (gd rfl) rfl rfl (Or.inl ⟨rfl, rfl, rfl⟩) (by first | exact dq1 hd rfl | exact dq0 hd rfl | exact dq2 hd rfl | exact dq3 hd rfl | omega) (Nat.le_of_ble_eq_true rfl) (Nat.le_of_ble_eq_true rfl) (Nat.le_of_ble_eq_true rfl) (fun c36 => ?_) (fun c36 => ?_)
            · skip
              exact zn_ne c36 (in_c 0 rfl) rfl
            · skip
              exact (hX _ _ ⟨rfl, s, hI, fr_rf, rfl⟩)
          · skip
            have i22 := z_ge 0 2147483647 c22 (i_rng x3) rfl
            refine g_iload_n 26 (gd rfl) rfl rfl ?_
            refine g_bipush 90 28 (gd rfl) rfl rfl ?_
            refine g_cmp_gt 31 35 (gd rfl) rfl rfl (fun c28 => ?_) (fun c28 => ?_)
            · skip
              have i28 := r_lt2 91 2147483647 c28 (in_c 90 rfl) i22 rfl
              refine g_iconst 0 36 (gd rfl) rfl rfl ?_
              refine g_thr (E := am_IA) (y := yX11_allow) 39 (gd rfl) rfl rfl (Or.inl ⟨rfl, rfl, rfl⟩) (by first | exact dq1 hd rfl | exact dq0 hd rfl | exact dq2 hd rfl | exact dq3 hd rfl | omega) (Nat.le_of_ble_eq_true rfl) (Nat.le_of_ble_eq_true rfl) (Nat.le_of_ble_eq_true rfl) (fun c36 => ?_) (fun c36 => ?_)
              · skip
                exact zn_ne c36 (in_c 0 rfl) rfl
              · skip
                exact (hX _ _ ⟨rfl, s, hI, fr_rf, rfl⟩)
            · skip
              have i28 := r_le1 0 90 c28 i22 (in_c 90 rfl) rfl
              refine g_iconst 1 32 (gd rfl) rfl rfl ?_
              refine g_goto 36 (gd rfl) rfl ?_
              refine g_thr (E := am_IA) (y := yX11_allow) 39 (gd rfl) rfl rfl (Or.inl ⟨rfl, rfl, rfl⟩) (by first | exact dq1 hd rfl | exact dq0 hd rfl | exact dq2 hd rfl | exact dq3 hd rfl | omega) (Nat.le_of_ble_eq_true rfl) (Nat.le_of_ble_eq_true rfl) (Nat.le_of_ble_eq_true rfl) (fun c36 => ?_) (fun c36 => ?_)
              · skip
                refine g_aload_n 40 (gd rfl) rfl rfl ?_
                refine g_callv (X := _) (As := []) (r := []) (b := A 0) (q := 0) 43 (gd rfl) rfl rfl rfl rfl rfl (ww_o rfl) (Nat.le_of_ble_eq_true rfl) (mc := 0) (ms := 0) (Nat.zero_le _) (Nat.zero_le _) (P := fun v u => _) ?_ (fun e u h => h) (fun v u h => h)
                intro po40 xx40 hp40 hx40
                refine g_enter2 (k := 259) (N := 300) (by first | exact dq1 hd rfl | exact dq0 hd rfl | exact dq2 hd rfl | exact dq3 hd rfl | omega) rfl (Nat.le_of_ble_eq_true rfl) ?_
                refine g_aload_n 1 (gd rfl) rfl rfl ?_
                refine g_getI 4 (gd rfl) rfl rfl rfl (fun z40x1 e40x1 => ?_)
                have q40x1 : u_0_2 = z40x1 := (e_0_2).trans e40x1.symm
                subst q40x1
                refine g_iconst (-1) 5 (gd rfl) rfl rfl ?_
                refine g_cmp_ne 8 18 (gd rfl) rfl rfl (fun c40x5 => ?_) (fun c40x5 => ?_)
                · skip
                  have i40x5 := r_ne1 0 4000 c40x5 ro_0_2 (in_c (-1) rfl) rfl
                  refine g_aload_n 19 (gd rfl) rfl rfl ?_
                  refine g_getA (q2 := 32) 22 (gd rfl) rfl rfl rfl rfl ?_
                  refine g_areturn (gd rfl) rfl (hp40 _ _ ?_)
                  show GG _ _ _ _ _ _ _ _ [.ref (A 32)] _ _ _
                  refine g_astore 45 (gd rfl) rfl (Nat.le_of_ble_eq_true rfl) ?_
                  refine g_aload_n 46 (gd rfl) rfl rfl ?_
                  refine g_getA (q2 := 102) 49 (gd rfl) rfl rfl rfl rfl ?_
                  refine g_aload 51 (gd rfl) rfl rfl ?_
                  refine g_iload_n 52 (gd rfl) rfl rfl ?_
                  refine g_callv (X := _) (As := [.ref (A 32), .int x1]) (r := []) (b := A 102) (q := 102) 55 (gd rfl) rfl rfl rfl rfl rfl (ww_o rfl) (Nat.le_of_ble_eq_true rfl) (Nat.zero_le _) (Nat.zero_le _) (k_63_102_32 (by first | exact dq1 hd rfl | exact dq0 hd rfl | exact dq2 hd rfl | exact dq3 hd rfl | omega) hI (in_w 0 200 i8 rfl)) (fun e u h => h) (fun v u h => ?_)
                  obtain ⟨s52, hI52, hF52, z52, rfl, rfl, i52⟩ := h
                  show GG _ _ _ _ _ _ _ _ [.int z52] _ _ _
                  refine g_istore 57 (gd rfl) rfl (Nat.le_of_ble_eq_true rfl) ?_
                  refine g_aload_n 58 (gd rfl) rfl rfl ?_
                  refine g_getA (q2 := 102) 61 (gd rfl) rfl rfl rfl rfl ?_
                  refine g_aload 63 (gd rfl) rfl rfl ?_
                  refine g_iload 65 (gd rfl) rfl rfl ?_
                  refine g_iload_n 66 (gd rfl) rfl rfl ?_
                  refine g_iload_n 67 (gd rfl) rfl rfl ?_
                  refine g_lload 69 (gd rfl) rfl rfl ?_
                  refine g_callv (X := _) (As := [.ref (A 32), .int z52, .int x2, .int x3, .long x4]) (r := []) (b := A 102) (q := 102) 72 (gd rfl) rfl rfl rfl rfl rfl (ww_o rfl) (Nat.le_of_ble_eq_true rfl) (Nat.zero_le _) (Nat.zero_le _) (k_70_102_32 (by first | exact dq1 hd rfl | exact dq0 hd rfl | exact dq2 hd rfl | exact dq3 hd rfl | omega) hI52 (in_w 0 200 i52 rfl) (in_w 1 4 i18 rfl) (in_w 0 90 i28 rfl)) (fun e u h => h) (fun v u h => ?_)
                  obtain ⟨s69, hI69, hF69, rfl, rfl⟩ := h
                  show GG _ _ _ _ _ _ _ _ [] _ _ _
                  refine g_iload 74 (gd rfl) rfl rfl ?_
                  exact g_ireturn (gd rfl) rfl rfl (hP _ _ ⟨s69, hI69, (fr_tr rfl (fr_tr rfl fr_rf hF52) hF69), z52, rfl, rfl, in_w 0 200 i52 rfl⟩)
                · skip
                  have i40x5 := r_eq1 (-1) (-1) c40x5 ro_0_2 (in_c (-1) rfl) rfl
                  refine g_aload_n 9 (gd rfl) rfl rfl ?_
                  refine g_getA (q2 := 1) 12 (gd rfl) rfl rfl rfl rfl ?_
                  refine g_getA (q2 := 2) 15 (gd rfl) rfl rfl rfl rfl ?_
                  refine g_goto 22 (gd rfl) rfl ?_
                  refine g_areturn (gd rfl) rfl (hp40 _ _ ?_)
                  show GG _ _ _ _ _ _ _ _ [.ref (A 2)] _ _ _
                  refine g_astore 45 (gd rfl) rfl (Nat.le_of_ble_eq_true rfl) ?_
                  refine g_aload_n 46 (gd rfl) rfl rfl ?_
                  refine g_getA (q2 := 102) 49 (gd rfl) rfl rfl rfl rfl ?_
                  refine g_aload 51 (gd rfl) rfl rfl ?_
                  refine g_iload_n 52 (gd rfl) rfl rfl ?_
                  refine g_callv (X := _) (As := [.ref (A 2), .int x1]) (r := []) (b := A 102) (q := 102) 55 (gd rfl) rfl rfl rfl rfl rfl (ww_o rfl) (Nat.le_of_ble_eq_true rfl) (Nat.zero_le _) (Nat.zero_le _) (k_63_102_2 (by first | exact dq1 hd rfl | exact dq0 hd rfl | exact dq2 hd rfl | exact dq3 hd rfl | omega) hI (in_w 0 200 i8 rfl)) (fun e u h => h) (fun v u h => ?_)
                  obtain ⟨s52, hI52, hF52, z52, rfl, rfl, i52⟩ := h
                  show GG _ _ _ _ _ _ _ _ [.int z52] _ _ _
                  refine g_istore 57 (gd rfl) rfl (Nat.le_of_ble_eq_true rfl) ?_
                  refine g_aload_n 58 (gd rfl) rfl rfl ?_
                  refine g_getA (q2 := 102) 61 (gd rfl) rfl rfl rfl rfl ?_
                  refine g_aload 63 (gd rfl) rfl rfl ?_
                  refine g_iload 65 (gd rfl) rfl rfl ?_
                  refine g_iload_n 66 (gd rfl) rfl rfl ?_
                  refine g_iload_n 67 (gd rfl) rfl rfl ?_
                  refine g_lload 69 (gd rfl) rfl rfl ?_
                  refine g_callv (X := _) (As := [.ref (A 2), .int z52, .int x2, .int x3, .long x4]) (r := []) (b := A 102) (q := 102) 72 (gd rfl) rfl rfl rfl rfl rfl (ww_o rfl) (Nat.le_of_ble_eq_true rfl) (Nat.zero_le _) (Nat.zero_le _) (k_70_102_2 (by first | exact dq1 hd rfl | exact dq0 hd rfl | exact dq2 hd rfl | exact dq3 hd rfl | omega) hI52 (in_w 0 200 i52 rfl) (in_w 1 4 i18 rfl) (in_w 0 90 i28 rfl)) (fun e u h => h) (fun v u h => ?_)
                  obtain ⟨s69, hI69, hF69, rfl, rfl⟩ := h
                  show GG _ _ _ _ _ _ _ _ [] _ _ _
                  refine g_iload 74 (gd rfl) rfl rfl ?_
                  exact g_ireturn (gd rfl) rfl rfl (hP _ _ ⟨s69, hI69, (fr_tr rfl (fr_tr rfl fr_rf hF52) hF69), z52, rfl, rfl, in_w 0 200 i52 rfl⟩)
              · skip
                exact zn_eq c36 (in_c 1 rfl) rfl
end
section
/-! methods, by vc.py -/
def fm_299 : FM := ([], [], [(109, 23), (109, 24), (109, 27), (109, 28), (109, 29), (109, 30)], [(109, 31)])
end
section
/-! methods, by vc.py -/
def fm_304 : FM := ([110, 112, 127, 128], [], [(109, 23), (109, 24), (109, 27), (109, 28), (109, 29), (109, 30), (109, 32)], [(109, 31)])
def fm_320 : FM := ([134], [135], [(109, 40)], [])
/-- GraphHouseModel.findShorts -/
theorem k_320 {Z : AmZ} {A : Nat → Nat} {s : GS} {ex : va_W} {d : Nat} {X : AmX} {x1 : Int32} {x2 : Int32} (hd : 6 ≤ d) (hI : Inv s) (h1 : In x1 0 31) (h2 : In x2 0 31) : GC Z d 320 [.ref (A 109), .int x1, .int x2] (WW Z A s ++ ex) 0 0 (fun v u => ∃ t : GS, Inv t ∧ Fr fm_320 s t ∧ v = none ∧ u = WW Z A t ++ ex) X := by
  intro post xp hP hX
  obtain ⟨u_109_19, e_109_19⟩ : ∃ w, w = s.2.2.1 109 19 := ⟨_, rfl⟩
  have ro_109_19 := inv_F hI 0 160 rfl e_109_19
  have ct7 : ∀ (k7 : Nat) (sc7 : GS) (y7_3 : Int32), Inv sc7 → Fr fm_320 s sc7 → (In y7_3 0 160) → 160 - (y7_3).toInt < (k7 : Int) → GG Z (d - 1) 320 post (gx xp) (1 + k7 * 900) 7 (fun j => xlook j [(0, .ref (A 109)), (1, .int x1), (2, .int x2), (3, .int y7_3)]) [] (WW Z A sc7 ++ ex) 0 0 := by
    intro k7
    induction k7 with
    | zero => intro sc7 y7_3 hIc7 hFc7 j7_3 mm7; exact m_no mm7 j7_3 rfl
    | succ k7 ih7 =>
      intro sc7 y7_3 hIc7 hFc7 j7_3 mm7
      refine gg_w (M := 1 + k7 * 900 + 900) gws ?_
      refine g_iload_n 8 (gd rfl) rfl rfl ?_
      refine g_sipush 160 11 (gd rfl) rfl rfl ?_
      refine g_cmp_ge 14 89 (gd rfl) rfl rfl (fun c11 => ?_) (fun c11 => ?_)
      · skip
        have i11 := r_le2 160 160 c11 (in_c 160 rfl) j7_3 rfl
        exact g_return (gd rfl) rfl (hP _ _ ⟨sc7, hIc7, hFc7, rfl, rfl⟩)
      · skip
        have i11 := r_lt1 0 159 c11 j7_3 (in_c 160 rfl) rfl
        refine g_aload_n 15 (gd rfl) rfl rfl ?_
        refine g_getI 18 (gd rfl) rfl rfl rfl (fun z15 e15 => ?_)
        have i15 := inv_F hIc7 0 2001 rfl e15
        refine g_sipush 2000 21 (gd rfl) rfl rfl ?_
        refine g_cmp_gt 24 89 (gd rfl) rfl rfl (fun c21 => ?_) (fun c21 => ?_)
        · skip
          have i21 := r_lt2 2001 2001 c21 (in_c 2000 rfl) i15 rfl
          exact g_return (gd rfl) rfl (hP _ _ ⟨sc7, hIc7, hFc7, rfl, rfl⟩)
        · skip
          have i21 := r_le1 0 2000 c21 i15 (in_c 2000 rfl) rfl
          refine g_aload_n 25 (gd rfl) rfl rfl ?_
          refine g_iload_n 26 (gd rfl) rfl rfl ?_
          refine g_iload_n 27 (gd rfl) rfl rfl ?_
          refine g_iconst 1 28 (gd rfl) rfl rfl ?_
          refine g_iload_n 29 (gd rfl) rfl rfl ?_
          refine g_ishl 30 (gd rfl) rfl (fun z29 e29 => ?_)
          refine g_callv (X := _) (As := [.int y7_3, .int x1, .int z29]) (r := []) (b := A 109) (q := 109) 33 (gd rfl) rfl rfl rfl rfl rfl (ww_o rfl) (Nat.le_of_ble_eq_true rfl) (mc := 0) (ms := 0) (Nat.zero_le _) (Nat.zero_le _) (P := fun v u => _) ?_ (fun e u h => h) (fun v u h => h)
          intro po30 xx30 hp30 hx30
          refine g_enter2 (k := 319) (N := 300) (by first | exact dq1 hd rfl | exact dq0 hd rfl | exact dq2 hd rfl | exact dq3 hd rfl | omega) rfl (Nat.le_of_ble_eq_true rfl) ?_
          refine g_aload_n 1 (gd rfl) rfl rfl ?_
          refine g_getA (q2 := 112) 4 (gd rfl) rfl rfl rfl rfl ?_
          refine g_aload_n 5 (gd rfl) rfl rfl ?_
          refine g_getI 8 (gd rfl) rfl rfl rfl (fun z30x5 e30x5 => ?_)
          have q30x5 : u_109_19 = z30x5 := (fr_F e_109_19 hFc7 rfl).trans e30x5.symm
          subst q30x5
          refine g_iload_n 9 (gd rfl) rfl rfl ?_
          refine g_iadd 10 (gd rfl) rfl (fun z30x9 e30x9 => ?_)
          have i30x9 := in_add 0 319 e30x9 ro_109_19 i11 rfl rfl
          refine g_baload 11 (gd rfl) rfl (n := 480) rfl (in_ix i30x9 rfl) (fun z30x10 e30x10 => ?_)
          have i30x10 := inv_I hIc7 (n := 480) (t := 3) 0 1 rfl (in_ix i30x9 rfl) rfl e30x10
          refine g_if_eq 14 51 (gd rfl) rfl rfl (fun c30x11 => ?_) (fun c30x11 => ?_)
          · skip
            have i30x11 := z_eq 0 0 c30x11 i30x10 rfl
            refine g_iconst 0 52 (gd rfl) rfl rfl ?_
            refine g_ireturn (gd rfl) rfl (nb01 (in_w 0 1 (in_c 0 rfl) rfl)) (hp30 _ _ ?_)
            show GG _ _ _ _ _ _ _ _ [.int (Int32.ofInt 0)] _ _ _
            refine g_if_eq 36 83 (gd rfl) rfl rfl (fun c33 => ?_) (fun c33 => ?_)
            · skip
              refine g_iinc 86 (gd rfl) rfl rfl (Nat.le_of_ble_eq_true rfl) (fun z83 e83 => ?_)
              have i83 := in_add 1 160 e83 i11 (in_c 1 rfl) rfl rfl
              refine g_goto 7 (gd rfl) rfl ?_
              exact gg_w (by first | exact Nat.le_add_right _ _ | exact gw2 | exact gw3 | exact gwe rfl | exact gwf rfl | exact gwg rfl | exact gwh rfl | omega) (gg_f (gf_cons rfl (gf_cons rfl (gf_cons rfl (gf_cons rfl gf_nil)))) (ih7 sc7 z83 hIc7 hFc7 (in_w 0 160 i83 rfl) (m_up mm7 (t_add e83 i11 (in_c 1 rfl) rfl) (in_w 1 1 (in_c 1 rfl) rfl))))
            · skip
              exact zn_ne c33 (in_c 0 rfl) rfl
          · skip
            have i30x11 := z_ne 1 1 c30x11 i30x10 rfl
            refine g_aload_n 15 (gd rfl) rfl rfl ?_
            refine g_getA (q2 := 113) 18 (gd rfl) rfl rfl rfl rfl ?_
            refine g_aload_n 19 (gd rfl) rfl rfl ?_
            refine g_getI 22 (gd rfl) rfl rfl rfl (fun z30x19 e30x19 => ?_)
            have q30x19 : u_109_19 = z30x19 := (fr_F e_109_19 hFc7 rfl).trans e30x19.symm
            subst q30x19
            refine g_iload_n 23 (gd rfl) rfl rfl ?_
            refine g_iadd 24 (gd rfl) rfl (fun z30x23 e30x23 => ?_)
            have i30x23 := in_add 0 319 e30x23 ro_109_19 i11 rfl rfl
            refine g_iaload 25 (gd rfl) rfl (n := 480) rfl (in_ix i30x23 rfl) (fun z30x24 e30x24 => ?_)
            have i30x24 := inv_I hIc7 (n := 480) (t := 0) 0 31 rfl (in_ix i30x23 rfl) rfl e30x24
            refine g_iload_n 26 (gd rfl) rfl rfl ?_
            refine g_cmp_ne 29 51 (gd rfl) rfl rfl (fun c30x26 => ?_) (fun c30x26 => ?_)
            · skip
              refine g_iconst 0 52 (gd rfl) rfl rfl ?_
              refine g_ireturn (gd rfl) rfl (nb01 (in_w 0 1 (in_c 0 rfl) rfl)) (hp30 _ _ ?_)
              show GG _ _ _ _ _ _ _ _ [.int (Int32.ofInt 0)] _ _ _
              refine g_if_eq 36 83 (gd rfl) rfl rfl (fun c33 => ?_) (fun c33 => ?_)
              · skip
                refine g_iinc 86 (gd rfl) rfl rfl (Nat.le_of_ble_eq_true rfl) (fun z83 e83 => ?_)
                have i83 := in_add 1 160 e83 i11 (in_c 1 rfl) rfl rfl
                refine g_goto 7 (gd rfl) rfl ?_
                exact gg_w (by first | exact Nat.le_add_right _ _ | exact gw2 | exact gw3 | exact gwe rfl | exact gwf rfl | exact gwg rfl | exact gwh rfl | omega) (gg_f (gf_cons rfl (gf_cons rfl (gf_cons rfl (gf_cons rfl gf_nil)))) (ih7 sc7 z83 hIc7 hFc7 (in_w 0 160 i83 rfl) (m_up mm7 (t_add e83 i11 (in_c 1 rfl) rfl) (in_w 1 1 (in_c 1 rfl) rfl))))
              · skip
                exact zn_ne c33 (in_c 0 rfl) rfl
            · skip
              refine g_iload_n 30 (gd rfl) rfl rfl ?_
              refine g_aload_n 31 (gd rfl) rfl rfl ?_
              refine g_getA (q2 := 114) 34 (gd rfl) rfl rfl rfl rfl ?_
              refine g_aload_n 35 (gd rfl) rfl rfl ?_
              refine g_getI 38 (gd rfl) rfl rfl rfl (fun z30x35 e30x35 => ?_)
              have q30x35 : u_109_19 = z30x35 := (fr_F e_109_19 hFc7 rfl).trans e30x35.symm
              subst q30x35
              refine g_iload_n 39 (gd rfl) rfl rfl ?_
              refine g_iadd 40 (gd rfl) rfl (fun z30x39 e30x39 => ?_)
              have i30x39 := in_add 0 319 e30x39 ro_109_19 i11 rfl rfl
              refine g_iaload 41 (gd rfl) rfl (n := 480) rfl (in_ix i30x39 rfl) (fun z30x40 e30x40 => ?_)
              have i30x40 := inv_I hIc7 (n := 480) (t := 0) 0 31 rfl (in_ix i30x39 rfl) rfl e30x40
              refine g_calls (As := [.int z29, .int z30x40]) (r := []) 44 (gd rfl) rfl rfl rfl rfl rfl (Nat.le_of_ble_eq_true rfl) (mc := 0) (ms := 0) (Nat.zero_le _) (Nat.zero_le _) (P := fun v u => _) ?_ (fun v u h => h)
              intro po30x41 xx30x41 hp30x41 hx30x41
              refine g_enter2 (k := 311) (N := 300) (by first | exact dq1 hd rfl | exact dq0 hd rfl | exact dq2 hd rfl | exact dq3 hd rfl | omega) rfl (Nat.le_of_ble_eq_true rfl) ?_
              refine g_iload_n 1 (gd rfl) rfl rfl ?_
              refine g_iload_n 2 (gd rfl) rfl rfl ?_
              refine g_ishr 3 (gd rfl) rfl (fun z30x41x2 e30x41x2 => ?_)
              refine g_iconst 1 4 (gd rfl) rfl rfl ?_
              refine g_iand 5 (gd rfl) rfl (fun z30x41x4 e30x41x4 => ?_)
              have i30x41x4 := in_and2 e30x41x4 (in_c 1 rfl) rfl
              refine g_iconst 1 6 (gd rfl) rfl rfl ?_
              refine g_cmp_ne 9 13 (gd rfl) rfl rfl (fun c30x41x6 => ?_) (fun c30x41x6 => ?_)
              · skip
                have i30x41x6 := r_ne1 0 0 c30x41x6 i30x41x4 (in_c 1 rfl) rfl
                refine g_iconst 0 14 (gd rfl) rfl rfl ?_
                refine g_ireturn (gd rfl) rfl (nb01 (in_w 0 1 (in_c 0 rfl) rfl)) (hp30x41 _ _ ?_)
                show GG _ _ _ _ _ _ _ _ [.int (Int32.ofInt 0)] _ _ _
                refine g_if_ne 47 51 (gd rfl) rfl rfl (fun c30x44 => ?_) (fun c30x44 => ?_)
                · skip
                  exact zn_ne c30x44 (in_c 0 rfl) rfl
                · skip
                  refine g_iconst 1 48 (gd rfl) rfl rfl ?_
                  refine g_goto 52 (gd rfl) rfl ?_
                  refine g_ireturn (gd rfl) rfl (nb01 (in_w 0 1 (in_c 1 rfl) rfl)) (hp30 _ _ ?_)
                  show GG _ _ _ _ _ _ _ _ [.int (Int32.ofInt 1)] _ _ _
                  refine g_if_eq 36 83 (gd rfl) rfl rfl (fun c33 => ?_) (fun c33 => ?_)
                  · skip
                    exact zn_eq c33 (in_c 1 rfl) rfl
                  · skip
                    refine g_aload_n 37 (gd rfl) rfl rfl ?_
                    refine g_getA (q2 := 114) 40 (gd rfl) rfl rfl rfl rfl ?_
                    refine g_aload_n 41 (gd rfl) rfl rfl ?_
                    refine g_getI 44 (gd rfl) rfl rfl rfl (fun z41 e41 => ?_)
                    have q41 : u_109_19 = z41 := (fr_F e_109_19 hFc7 rfl).trans e41.symm
                    subst q41
                    refine g_iload_n 45 (gd rfl) rfl rfl ?_
                    refine g_iadd 46 (gd rfl) rfl (fun z45 e45 => ?_)
                    have i45 := in_add 0 319 e45 ro_109_19 i11 rfl rfl
                    refine g_iaload 47 (gd rfl) rfl (n := 480) rfl (in_ix i45 rfl) (fun z46 e46 => ?_)
                    have i46 := inv_I hIc7 (n := 480) (t := 0) 0 31 rfl (in_ix i45 rfl) rfl e46
                    refine g_istore 49 (gd rfl) rfl (Nat.le_of_ble_eq_true rfl) ?_
                    refine g_iload 51 (gd rfl) rfl rfl ?_
                    refine g_iload_n 52 (gd rfl) rfl rfl ?_
                    refine g_cmp_ne 55 67 (gd rfl) rfl rfl (fun c52 => ?_) (fun c52 => ?_)
                    · skip
                      refine g_aload_n 68 (gd rfl) rfl rfl ?_
                      refine g_iload_n 69 (gd rfl) rfl rfl ?_
                      refine g_iload 71 (gd rfl) rfl rfl ?_
                      refine g_iconst 1 72 (gd rfl) rfl rfl ?_
                      refine g_iload_n 73 (gd rfl) rfl rfl ?_
                      refine g_ishl 74 (gd rfl) rfl (fun z73 e73 => ?_)
                      refine g_iconst 1 75 (gd rfl) rfl rfl ?_
                      refine g_iload 77 (gd rfl) rfl rfl ?_
                      refine g_ishl 78 (gd rfl) rfl (fun z77 e77 => ?_)
                      refine g_ior 79 (gd rfl) rfl (fun z78 e78 => ?_)
                      refine g_iload_n 80 (gd rfl) rfl rfl ?_
                      refine g_callv (X := _) (As := [.int y7_3, .int z46, .int z78, .int x2]) (r := []) (b := A 109) (q := 109) 83 (gd rfl) rfl rfl rfl rfl rfl (ww_o rfl) (Nat.le_of_ble_eq_true rfl) (Nat.zero_le _) (Nat.zero_le _) (k_321 (by first | exact dq1 hd rfl | exact dq0 hd rfl | exact dq2 hd rfl | exact dq3 hd rfl | omega) hIc7 (in_w 0 159 i11 rfl) (in_w 0 31 i46 rfl) (in_w 0 31 h2 rfl)) (fun e u h => h) (fun v u h => ?_)
                      obtain ⟨s80, hI80, hF80, rfl, rfl⟩ := h
                      show GG _ _ _ _ _ _ _ _ [] _ _ _
                      refine g_iinc 86 (gd rfl) rfl rfl (Nat.le_of_ble_eq_true rfl) (fun z83 e83 => ?_)
                      have i83 := in_add 1 160 e83 i11 (in_c 1 rfl) rfl rfl
                      refine g_goto 7 (gd rfl) rfl ?_
                      exact gg_w (by first | exact Nat.le_add_right _ _ | exact gw2 | exact gw3 | exact gwe rfl | exact gwf rfl | exact gwg rfl | exact gwh rfl | omega) (gg_f (gf_cons rfl (gf_cons rfl (gf_cons rfl (gf_cons rfl gf_nil)))) (ih7 s80 z83 hI80 (fr_tr rfl hFc7 hF80) (in_w 0 160 i83 rfl) (m_up mm7 (t_add e83 i11 (in_c 1 rfl) rfl) (in_w 1 1 (in_c 1 rfl) rfl))))
                    · skip
                      refine g_aload_n 56 (gd rfl) rfl rfl ?_
                      refine g_iconst 1 57 (gd rfl) rfl rfl ?_
                      refine g_iload_n 58 (gd rfl) rfl rfl ?_
                      refine g_iconst 0 59 (gd rfl) rfl rfl ?_
                      refine g_iconst 0 60 (gd rfl) rfl rfl ?_
                      refine g_iconst 0 61 (gd rfl) rfl rfl ?_
                      refine g_callv (X := _) (As := [.int (Int32.ofInt 1), .int y7_3, .int (Int32.ofInt 0), .int (Int32.ofInt 0), .int (Int32.ofInt 0)]) (r := []) (b := A 109) (q := 109) 64 (gd rfl) rfl rfl rfl rfl rfl (ww_o rfl) (Nat.le_of_ble_eq_true rfl) (Nat.zero_le _) (Nat.zero_le _) (k_318 (by first | exact dq1 hd rfl | exact dq0 hd rfl | exact dq2 hd rfl | exact dq3 hd rfl | omega) hIc7 (in_w 1 4 (in_c 1 rfl) rfl) (in_w 0 159 i11 rfl) (in_w 0 159 (in_c 0 rfl) rfl) (in_w 0 159 (in_c 0 rfl) rfl) (in_w 0 159 (in_c 0 rfl) rfl)) (fun e u h => h) (fun v u h => ?_)
                      obtain ⟨s61, hI61, hF61, rfl, rfl⟩ := h
                      show GG _ _ _ _ _ _ _ _ [] _ _ _
                      refine g_goto 83 (gd rfl) rfl ?_
                      refine g_iinc 86 (gd rfl) rfl rfl (Nat.le_of_ble_eq_true rfl) (fun z83 e83 => ?_)
                      have i83 := in_add 1 160 e83 i11 (in_c 1 rfl) rfl rfl
                      refine g_goto 7 (gd rfl) rfl ?_
                      exact gg_w (by first | exact Nat.le_add_right _ _ | exact gw2 | exact gw3 | exact gwe rfl | exact gwf rfl | exact gwg rfl | exact gwh rfl | omega) (gg_f (gf_cons rfl (gf_cons rfl (gf_cons rfl (gf_cons rfl gf_nil)))) (ih7 s61 z83 hI61 (fr_tr rfl hFc7 hF61) (in_w 0 160 i83 rfl) (m_up mm7 (t_add e83 i11 (in_c 1 rfl) rfl) (in_w 1 1 (in_c 1 rfl) rfl))))
              · skip
                have i30x41x6 := r_eq1 1 1 c30x41x6 i30x41x4 (in_c 1 rfl) rfl
                refine g_iconst 1 10 (gd rfl) rfl rfl ?_
                refine g_goto 14 (gd rfl) rfl ?_
                refine g_ireturn (gd rfl) rfl (nb01 (in_w 0 1 (in_c 1 rfl) rfl)) (hp30x41 _ _ ?_)
                show GG _ _ _ _ _ _ _ _ [.int (Int32.ofInt 1)] _ _ _
                refine g_if_ne 47 51 (gd rfl) rfl rfl (fun c30x44 => ?_) (fun c30x44 => ?_)
                · skip
                  refine g_iconst 0 52 (gd rfl) rfl rfl ?_
                  refine g_ireturn (gd rfl) rfl (nb01 (in_w 0 1 (in_c 0 rfl) rfl)) (hp30 _ _ ?_)
                  show GG _ _ _ _ _ _ _ _ [.int (Int32.ofInt 0)] _ _ _
                  refine g_if_eq 36 83 (gd rfl) rfl rfl (fun c33 => ?_) (fun c33 => ?_)
                  · skip
                    refine g_iinc 86 (gd rfl) rfl rfl (Nat.le_of_ble_eq_true rfl) (fun z83 e83 => ?_)
                    have i83 := in_add 1 160 e83 i11 (in_c 1 rfl) rfl rfl
                    refine g_goto 7 (gd rfl) rfl ?_
                    exact gg_w (by first | exact Nat.le_add_right _ _ | exact gw2 | exact gw3 | exact gwe rfl | exact gwf rfl | exact gwg rfl | exact gwh rfl | omega) (gg_f (gf_cons rfl (gf_cons rfl (gf_cons rfl (gf_cons rfl gf_nil)))) (ih7 sc7 z83 hIc7 hFc7 (in_w 0 160 i83 rfl) (m_up mm7 (t_add e83 i11 (in_c 1 rfl) rfl) (in_w 1 1 (in_c 1 rfl) rfl))))
                  · skip
                    exact zn_ne c33 (in_c 0 rfl) rfl
                · skip
                  exact zn_eq c30x44 (in_c 1 rfl) rfl
  refine g_enter2 (k := 320) (N := 145801) (by first | exact dq1 hd rfl | exact dq0 hd rfl | exact dq2 hd rfl | exact dq3 hd rfl | omega) rfl (Nat.le_of_ble_eq_true rfl) ?_
  refine g_aload_n 1 (gd rfl) rfl rfl ?_
  refine g_iconst 0 2 (gd rfl) rfl rfl ?_
  refine g_putI 5 (gd rfl) rfl rfl rfl rfl ?_
  have hI2 := inv_sF (q := 109) (j := 40) hI rfl (in_w 0 2001 (in_c 0 rfl) rfl)
  refine g_iconst 0 6 (gd rfl) rfl rfl ?_
  refine g_istore_n 7 (gd rfl) rfl (Nat.le_of_ble_eq_true rfl) ?_
  exact gg_w (by first | exact Nat.le_of_ble_eq_true rfl | omega) (gg_f (gf_cons rfl (gf_cons rfl (gf_cons rfl (gf_cons rfl gf_nil)))) (ct7 161 (sF s 109 40 (Int32.ofInt 0)) (Int32.ofInt 0) hI2 (fr_sF rfl fr_rf) (in_w 0 160 (in_c 0 rfl) rfl) (m_in 161 (in_w 0 160 (in_c 0 rfl) rfl) rfl)))
end
