/-! methods, by vc.py -/
def fm_403 : FM := ([187, 188, 190], [], [(109, 23), (109, 24), (109, 27), (109, 28), (109, 29), (109, 30), (109, 109), (109, 111), (109, 112)], [(109, 31)])
/-- GraphHouseModel.expression -/
theorem k_403 {Z : AmZ} {A : Nat → Nat} {s : GS} {ex : va_W} {d : Nat} {X : AmX} {x1 : Int32} {u_109_27 : Int32} {u_109_22 : Int32} {u_109_109 : Int32} (hd : 5 ≤ d) (hI : Inv s) (h1 : In x1 0 1) (e_109_27 : u_109_27 = s.2.2.1 109 27) (e_109_22 : u_109_22 = s.2.2.1 109 22) (e_109_109 : u_109_109 = s.2.2.1 109 109) (p_0 : (u_109_27).toInt ≤ (u_109_22).toInt) (p_1 : (u_109_22).toInt ≤ 120) (p_2 : (u_109_109).toInt ≤ (u_109_27).toInt) : GC Z d 403 [.ref (A 109), .int x1] (WW Z A s ++ ex) 0 0 (fun v u => ∃ t : GS, Inv t ∧ Fr fm_403 s t ∧ ((t.2.2.1 109 27).toInt ≤ (t.2.2.1 109 22).toInt) ∧ ((t.2.2.1 109 109).toInt ≤ (t.2.2.1 109 27).toInt) ∧ ((s.2.2.1 109 109).toInt ≤ (t.2.2.1 109 109).toInt) ∧ v = none ∧ u = WW Z A t ++ ex ∧ (PQ s t) ∧ ((t.2.2.1 109 23).toInt = 0 → (ht (fun i => hs (t.1 187 i) (t.1 188 i)) (s.2.2.1 109 109).toNatClampNeg ((t.2.2.1 109 109).toNatClampNeg - (s.2.2.1 109 109).toNatClampNeg)).isSome = true)) X := by
  intro post xp hP hX
  have ro_109_22 := inv_F hI 0 1000 rfl e_109_22
  have ct14 : ∀ (k14 : Nat) (sc14 : GS) (y14_2 : Int32) (y14_3 : Int32) (w14_109_27 : Int32) (w14_109_109 : Int32) (w14_109_111 : Int32) (w14_109_23 : Int32), Inv sc14 → Fr fm_403 s sc14 → (In y14_2 0 1) → (In y14_3 0 1) → (w14_109_27 = sc14.2.2.1 109 27) → (w14_109_109 = sc14.2.2.1 109 109) → (w14_109_111 = sc14.2.2.1 109 111) → (w14_109_23 = sc14.2.2.1 109 23) → ((w14_109_27).toInt ≤ (u_109_22).toInt) → ((w14_109_109).toInt + (w14_109_111).toInt ≤ (w14_109_27).toInt) → (PQ s sc14 ∧ PS sc14 (s.2.2.1 109 109).toNatClampNeg (if (y14_2).toInt = 0 then 1 else 0)) → 20 * ((u_109_22).toInt - (w14_109_27).toInt) + 10 * (y14_3).toInt + 10 - (w14_109_23).toInt < (k14 : Int) → GG Z (d - 1) 403 post (gx xp) (1 + k14 * 900) 14 (fun j => xlook j [(0, .ref (A 109)), (1, .int x1), (2, .int y14_2), (3, .int y14_3)]) [] (WW Z A sc14 ++ ex) 0 0 := by
    intro k14
    induction k14 with
    | zero => intro sc14 y14_2 y14_3 w14_109_27 w14_109_109 w14_109_111 w14_109_23 hIc14 hFc14 j14_2 j14_3 v14_109_27 v14_109_109 v14_109_111 v14_109_23 n14_0 n14_1 g14_0 mm14; exfalso; have a0 := h1; unfold In at a0; have a1 := ro_109_22; unfold In at a1; have a2 := (inv_F hIc14 0 9 rfl v14_109_23); unfold In at a2; have a3 := (inv_F hIc14 0 200 rfl v14_109_111); unfold In at a3; have a4 := (inv_F hIc14 0 400 rfl v14_109_109); unfold In at a4; have a5 := (inv_F hIc14 0 1000 rfl v14_109_27); unfold In at a5; have a6 := j14_3; unfold In at a6; have a7 := j14_2; unfold In at a7; omega
    | succ k14 ih14 =>
      intro sc14 y14_2 y14_3 w14_109_27 w14_109_109 w14_109_111 w14_109_23 hIc14 hFc14 j14_2 j14_3 v14_109_27 v14_109_109 v14_109_111 v14_109_23 n14_0 n14_1 g14_0 mm14
      refine gg_w (M := 1 + k14 * 900 + 900) (by omega) (g_iload_n 15 (gd rfl) rfl rfl (g_if_eq 18 96 (gd rfl) rfl rfl (fun c15 => ?_) (fun c15 => ?_)))
      · skip
        have i15 := z_eq 0 0 c15 j14_3 rfl
        have hpq := g14_0.1.1; rw [← e_109_109, ← v14_109_109] at hpq
        have n96 : PQ s sc14 := by exact g14_0.1
        have n96a : (sc14.2.2.1 109 23).toInt = 0 → (ht (fun i => hs (sc14.1 187 i) (sc14.1 188 i)) (s.2.2.1 109 109).toNatClampNeg ((sc14.2.2.1 109 109).toNatClampNeg - (s.2.2.1 109 109).toNatClampNeg)).isSome = true := by intro hf; rw [(g14_0.2 hf).2]; rfl
        have n96b : (w14_109_27).toInt ≤ (u_109_22).toInt := by exact (have a0 := in_u h1; have a1 := in_u ro_109_22; have a2 := in_u ((inv_F hIc14 0 9 rfl v14_109_23)); have a3 := in_u ((inv_F hIc14 0 200 rfl v14_109_111)); have a4 := in_u ((inv_F hIc14 0 400 rfl v14_109_109)); have a5 := in_u ((inv_F hIc14 0 1000 rfl v14_109_27)); have a6 := in_u i15; have a7 := in_u j14_2; by omega)
        have n96c : (sc14.2.2.1 109 27).toInt ≤ (sc14.2.2.1 109 22).toInt := by have b0 : w14_109_27 = sc14.2.2.1 109 27 := v14_109_27; have b1 : u_109_22 = sc14.2.2.1 109 22 := fr_F e_109_22 hFc14 rfl; rw [← b0, ← b1]; exact n96b
        have n96d : (w14_109_109).toInt ≤ (w14_109_27).toInt := by exact (have a0 := in_u h1; have a1 := in_u ro_109_22; have a2 := in_u ((inv_F hIc14 0 9 rfl v14_109_23)); have a3 := in_u ((inv_F hIc14 0 200 rfl v14_109_111)); have a4 := in_u ((inv_F hIc14 0 400 rfl v14_109_109)); have a5 := in_u ((inv_F hIc14 0 1000 rfl v14_109_27)); have a6 := in_u i15; have a7 := in_u j14_2; by omega)
        have n96e : (sc14.2.2.1 109 109).toInt ≤ (sc14.2.2.1 109 27).toInt := by have b0 : w14_109_109 = sc14.2.2.1 109 109 := v14_109_109; have b1 : w14_109_27 = sc14.2.2.1 109 27 := v14_109_27; rw [← b0, ← b1]; exact n96d
        have n96f : (u_109_109).toInt ≤ (w14_109_109).toInt := by exact (have a0 := in_u h1; have a1 := in_u ro_109_22; have a2 := in_u ((inv_F hIc14 0 9 rfl v14_109_23)); have a3 := in_u ((inv_F hIc14 0 200 rfl v14_109_111)); have a4 := in_u ((inv_F hIc14 0 400 rfl v14_109_109)); have a5 := in_u ((inv_F hIc14 0 1000 rfl v14_109_27)); have a6 := in_u i15; have a7 := in_u j14_2; by omega)
        have n96g : (s.2.2.1 109 109).toInt ≤ (sc14.2.2.1 109 109).toInt := by have b0 : w14_109_109 = sc14.2.2.1 109 109 := v14_109_109; first | (rw [← b0, ← e_109_109]; exact n96f) | (rw [← b0]; exact n96f)
        exact g_return (gd rfl) rfl (hP _ _ ⟨sc14, hIc14, hFc14, n96c, n96e, n96g, rfl, rfl, n96, n96a⟩)
      · skip
        have i15 := z_ne 1 1 c15 j14_3 rfl
        refine g_aload_n 19 (gd rfl) rfl rfl (g_getI 22 (gd rfl) rfl rfl rfl (fun z19 e19 => ?_))
        have q19 : w14_109_23 = z19 := (v14_109_23).trans e19.symm
        subst q19
        refine g_if_ne 25 96 (gd rfl) rfl rfl (fun c22 => ?_) (fun c22 => ?_)
        · skip
          have i22 := z_ne 1 9 c22 (inv_F hIc14 0 9 rfl v14_109_23) rfl
          have hpq := g14_0.1.1; rw [← e_109_109, ← v14_109_109] at hpq
          have n96 : PQ s sc14 := by exact g14_0.1
          have n96a : (sc14.2.2.1 109 23).toInt = 0 → (ht (fun i => hs (sc14.1 187 i) (sc14.1 188 i)) (s.2.2.1 109 109).toNatClampNeg ((sc14.2.2.1 109 109).toNatClampNeg - (s.2.2.1 109 109).toNatClampNeg)).isSome = true := by intro hf; rw [(g14_0.2 hf).2]; rfl
          have n96b : (w14_109_27).toInt ≤ (u_109_22).toInt := by exact (have a0 := in_u h1; have a1 := in_u ro_109_22; have a2 := in_u i22; have a3 := in_u ((inv_F hIc14 0 200 rfl v14_109_111)); have a4 := in_u ((inv_F hIc14 0 400 rfl v14_109_109)); have a5 := in_u ((inv_F hIc14 0 1000 rfl v14_109_27)); have a6 := in_u i15; have a7 := in_u j14_2; by omega)
          have n96c : (sc14.2.2.1 109 27).toInt ≤ (sc14.2.2.1 109 22).toInt := by have b0 : w14_109_27 = sc14.2.2.1 109 27 := v14_109_27; have b1 : u_109_22 = sc14.2.2.1 109 22 := fr_F e_109_22 hFc14 rfl; rw [← b0, ← b1]; exact n96b
          have n96d : (w14_109_109).toInt ≤ (w14_109_27).toInt := by exact (have a0 := in_u h1; have a1 := in_u ro_109_22; have a2 := in_u i22; have a3 := in_u ((inv_F hIc14 0 200 rfl v14_109_111)); have a4 := in_u ((inv_F hIc14 0 400 rfl v14_109_109)); have a5 := in_u ((inv_F hIc14 0 1000 rfl v14_109_27)); have a6 := in_u i15; have a7 := in_u j14_2; by omega)
          have n96e : (sc14.2.2.1 109 109).toInt ≤ (sc14.2.2.1 109 27).toInt := by have b0 : w14_109_109 = sc14.2.2.1 109 109 := v14_109_109; have b1 : w14_109_27 = sc14.2.2.1 109 27 := v14_109_27; rw [← b0, ← b1]; exact n96d
          have n96f : (u_109_109).toInt ≤ (w14_109_109).toInt := by exact (have a0 := in_u h1; have a1 := in_u ro_109_22; have a2 := in_u i22; have a3 := in_u ((inv_F hIc14 0 200 rfl v14_109_111)); have a4 := in_u ((inv_F hIc14 0 400 rfl v14_109_109)); have a5 := in_u ((inv_F hIc14 0 1000 rfl v14_109_27)); have a6 := in_u i15; have a7 := in_u j14_2; by omega)
          have n96g : (s.2.2.1 109 109).toInt ≤ (sc14.2.2.1 109 109).toInt := by have b0 : w14_109_109 = sc14.2.2.1 109 109 := v14_109_109; first | (rw [← b0, ← e_109_109]; exact n96f) | (rw [← b0]; exact n96f)
          exact g_return (gd rfl) rfl (hP _ _ ⟨sc14, hIc14, hFc14, n96c, n96e, n96g, rfl, rfl, n96, n96a⟩)
        · skip
          have i22 := z_eq 0 0 c22 (inv_F hIc14 0 9 rfl v14_109_23) rfl
          refine g_aload_n 26 (gd rfl) rfl rfl ?_
          have v26 : u_109_22 = sc14.2.2.1 109 22 := fr_F e_109_22 hFc14 rfl
          have n26 : (w14_109_27).toInt ≤ (u_109_22).toInt := by exact (have a0 := in_u h1; have a1 := in_u ro_109_22; have a2 := in_u i22; have a3 := in_u ((inv_F hIc14 0 200 rfl v14_109_111)); have a4 := in_u ((inv_F hIc14 0 400 rfl v14_109_109)); have a5 := in_u ((inv_F hIc14 0 1000 rfl v14_109_27)); have a6 := in_u i15; have a7 := in_u j14_2; by omega)
          refine g_callv (X := _) (As := []) (r := []) (b := A 109) (q := 109) 29 (gd rfl) rfl rfl rfl rfl rfl (ww_o rfl) (Nat.le_of_ble_eq_true rfl) (Nat.zero_le _) (Nat.zero_le _) (k_392 (by omega) hIc14 v14_109_27 v26 n26) (fun e u h => h) (fun v u h => ?_)
          obtain ⟨s26, hI26, hF26, n26a, n26b, n26c, rfl, rfl⟩ := h
          obtain ⟨z26a, e26⟩ : ∃ w, w = s26.2.2.1 109 27 := ⟨_, rfl⟩
          have i26a := inv_F hI26 0 1000 rfl e26
          obtain ⟨z26b, e26a⟩ : ∃ w, w = s26.2.2.1 109 28 := ⟨_, rfl⟩
          rw [← (show z26a = s26.2.2.1 109 27 from e26)] at n26a
          rw [← (show u_109_22 = s26.2.2.1 109 22 from fr_F (fr_F e_109_22 hFc14 rfl) hF26 rfl)] at n26a
          rw [← (show w14_109_27 = sc14.2.2.1 109 27 from v14_109_27)] at n26b
          rw [← (show z26a = s26.2.2.1 109 27 from e26)] at n26b
          rw [← (show w14_109_27 = sc14.2.2.1 109 27 from v14_109_27)] at n26c
          rw [← (show z26a = s26.2.2.1 109 27 from e26)] at n26c
          rw [← (show z26b = s26.2.2.1 109 28 from e26a)] at n26c
          show GG _ _ _ _ _ _ _ _ [] _ _ _
          refine g_aload_n 30 (gd rfl) rfl rfl (g_getI 33 (gd rfl) rfl rfl rfl (fun z30 e30 => have i30 := inv_F hI26 0 9 rfl e30; g_if_ne 36 56 (gd rfl) rfl rfl (fun c33 => ?_) (fun c33 => ?_)))
          · skip
            have i33 := z_ne 1 9 c33 i30 rfl
            refine g_aload_n 57 (gd rfl) rfl rfl (g_getIv (y := z30) 60 (gd rfl) rfl rfl rfl (e30) (g_if_ne 63 14 (gd rfl) rfl rfl (fun c60 => ?_) (fun c60 => ?_)))
            · skip
              have v14 : w14_109_109 = s26.2.2.1 109 109 := fr_F (v14_109_109) hF26 rfl
              have v14a : w14_109_111 = s26.2.2.1 109 111 := fr_F (v14_109_111) hF26 rfl
              have n14 : (z26a).toInt ≤ (u_109_22).toInt := by exact (have a0 := in_u h1; have a1 := in_u ro_109_22; have a2 := in_u i22; have a3 := in_u ((inv_F hIc14 0 200 rfl v14_109_111)); have a4 := in_u ((inv_F hIc14 0 400 rfl v14_109_109)); have a5 := in_u ((inv_F hIc14 0 1000 rfl v14_109_27)); have a6 := in_u i15; have a7 := in_u j14_2; have a8 := in_u i33; have a9 := in_u i26a; by omega)
              have n14a : (w14_109_109).toInt + (w14_109_111).toInt ≤ (z26a).toInt := by exact (have a0 := in_u h1; have a1 := in_u ro_109_22; have a2 := in_u i22; have a3 := in_u ((inv_F hIc14 0 200 rfl v14_109_111)); have a4 := in_u ((inv_F hIc14 0 400 rfl v14_109_109)); have a5 := in_u ((inv_F hIc14 0 1000 rfl v14_109_27)); have a6 := in_u i15; have a7 := in_u j14_2; have a8 := in_u i33; have a9 := in_u i26a; by omega)
              have n14b : PQ s s26 ∧ PS s26 (s.2.2.1 109 109).toNatClampNeg (if (y14_2).toInt = 0 then 1 else 0) := by first | exact pe_tr g14_0 (pr_nx (hF26.1 187 rfl) (hF26.1 188 rfl) (hF26.2.2.1 109 109 rfl) (hF26.1 190 rfl) (hF26.2.2.1 109 111 rfl) (by rw [← e19]; exact c22)) | (have hg := g14_0; rw [if_neg c37] at hg; exact pe_tr hg (pr_tr (pr_nx (hF26.1 187 rfl) (hF26.1 188 rfl) (hF26.2.2.1 109 109 rfl) (hF26.1 190 rfl) (hF26.2.2.1 109 111 rfl) (by rw [← e19]; exact c22)) (p41 c44))) | (have hg := g14_0; rw [if_neg c37] at hg; exact pe_tr hg (pr_tr (pr_nx (hF26.1 187 rfl) (hF26.1 188 rfl) (hF26.2.2.1 109 109 rfl) (hF26.1 190 rfl) (hF26.2.2.1 109 111 rfl) (by rw [← e19]; exact c22)) (p41a c44))) | (have hg := g14_0; rw [if_pos c37] at hg; exact pe_tr hg (pr_tr (pr_nx (hF26.1 187 rfl) (hF26.1 188 rfl) (hF26.2.2.1 109 109 rfl) (hF26.1 190 rfl) (hF26.2.2.1 109 111 rfl) (by rw [← e19]; exact c22)) (p65 c72))) | (have hg := g14_0; rw [if_pos c37] at hg; exact pe_tr hg (pr_tr (pr_nx (hF26.1 187 rfl) (hF26.1 188 rfl) (hF26.2.2.1 109 109 rfl) (hF26.1 190 rfl) (hF26.2.2.1 109 111 rfl) (by rw [← e19]; exact c22)) (p65a c72))) | exact pe_0 (fr_sF rfl (fr_sF rfl fr_rf)) (by rw [← (show w14_109_111 = s26.2.2.1 109 111 from fr_F (v14_109_111) hF26 rfl)]; rfl)
              have m14 : 20 * ((u_109_22).toInt - (z26a).toInt) + 10 * (y14_3).toInt + 10 - (z30).toInt < ((k14 : Nat) : Int) := by exact (have a0 := in_u h1; have a1 := in_u ro_109_22; have a2 := in_u i22; have a3 := in_u ((inv_F hIc14 0 200 rfl v14_109_111)); have a4 := in_u ((inv_F hIc14 0 400 rfl v14_109_109)); have a5 := in_u ((inv_F hIc14 0 1000 rfl v14_109_27)); have a6 := in_u i15; have a7 := in_u j14_2; have a8 := in_u i33; have a9 := in_u i26a; by omega)
              exact gg_w (by omega) (gg_f (gf_cons rfl (gf_cons rfl (gf_cons rfl (gf_cons rfl gf_nil)))) (ih14  s26 y14_2 y14_3 z26a w14_109_109 w14_109_111 z30 hI26 (fr_tr rfl hFc14 hF26) (in_w 0 1 j14_2 rfl) (in_w 0 1 i15 rfl) e26 v14 v14a e30 n14 n14a n14b m14))
            · skip
              exact zn_eq c60 i33 rfl
          · skip
            have i33 := z_eq 0 0 c33 i30 rfl
            refine g_iload_n 37 (gd rfl) rfl rfl (g_if_eq 40 56 (gd rfl) rfl rfl (fun c37 => ?_) (fun c37 => ?_))
            · skip
              have i37 := z_eq 0 0 c37 j14_2 rfl
              refine g_aload_n 57 (gd rfl) rfl rfl (g_getIv (y := z30) 60 (gd rfl) rfl rfl rfl (e30) (g_if_ne 63 14 (gd rfl) rfl rfl (fun c60 => ?_) (fun c60 => ?_)))
              · skip
                exact zn_ne c60 i33 rfl
              · skip
                refine g_aload_n 64 (gd rfl) rfl rfl (g_iload_n 65 (gd rfl) rfl rfl ?_)
                have v65 : w14_109_109 = s26.2.2.1 109 109 := fr_F (v14_109_109) hF26 rfl
                have v65a : w14_109_111 = s26.2.2.1 109 111 := fr_F (v14_109_111) hF26 rfl
                have n65 : (w14_109_109).toInt + (w14_109_111).toInt ≤ 120 := by exact (have a0 := in_u h1; have a1 := in_u ro_109_22; have a2 := in_u i22; have a3 := in_u ((inv_F hIc14 0 200 rfl v14_109_111)); have a4 := in_u ((inv_F hIc14 0 400 rfl v14_109_109)); have a5 := in_u ((inv_F hIc14 0 1000 rfl v14_109_27)); have a6 := in_u i15; have a7 := in_u i37; have a8 := in_u i33; have a9 := in_u i26a; by omega)
                have n65a : (z26b).toInt ≠ 0 → (w14_109_109).toInt + (w14_109_111).toInt ≤ 119 := by exact (have a0 := in_u h1; have a1 := in_u ro_109_22; have a2 := in_u i22; have a3 := in_u ((inv_F hIc14 0 200 rfl v14_109_111)); have a4 := in_u ((inv_F hIc14 0 400 rfl v14_109_109)); have a5 := in_u ((inv_F hIc14 0 1000 rfl v14_109_27)); have a6 := in_u i15; have a7 := in_u i37; have a8 := in_u i33; have a9 := in_u i26a; by omega)
                refine g_callv (X := _) (As := [.int x1]) (r := []) (b := A 109) (q := 109) 68 (gd rfl) rfl rfl rfl rfl rfl (ww_o rfl) (Nat.le_of_ble_eq_true rfl) (Nat.zero_le _) (Nat.zero_le _) (k_402 (by omega) hI26 (in_w 0 1 h1 rfl) v65 v65a e26a n65 n65a) (fun e u h => h) (fun v u h => ?_)
                obtain ⟨s65, hI65, hF65, n65b, n65c, z65, rfl, rfl, i65, p65, p65a, p65b⟩ := h
                obtain ⟨z65a, e65⟩ : ∃ w, w = s65.2.2.1 109 109 := ⟨_, rfl⟩
                have i65a := inv_F hI65 0 400 rfl e65
                obtain ⟨z65b, e65a⟩ : ∃ w, w = s65.2.2.1 109 111 := ⟨_, rfl⟩
                have i65b := inv_F hI65 0 200 rfl e65a
                rw [← (show w14_109_109 = s26.2.2.1 109 109 from fr_F (v14_109_109) hF26 rfl)] at n65b
                rw [← (show w14_109_111 = s26.2.2.1 109 111 from fr_F (v14_109_111) hF26 rfl)] at n65b
                rw [← (show z65a = s65.2.2.1 109 109 from e65)] at n65b
                rw [← (show z65b = s65.2.2.1 109 111 from e65a)] at n65b
                rw [← (show z26b = s26.2.2.1 109 28 from e26a)] at n65c
                rw [← (show w14_109_109 = s26.2.2.1 109 109 from fr_F (v14_109_109) hF26 rfl)] at n65c
                rw [← (show w14_109_111 = s26.2.2.1 109 111 from fr_F (v14_109_111) hF26 rfl)] at n65c
                rw [← (show z65a = s65.2.2.1 109 109 from e65)] at n65c
                rw [← (show z65b = s65.2.2.1 109 111 from e65a)] at n65c
                show GG _ _ _ _ _ _ _ _ [.int z65] _ _ _
                refine g_istore 70 (gd rfl) rfl (Nat.le_of_ble_eq_true rfl) ?_
                have hb65 := p65b; rw [← e26a] at hb65
                refine g_iload 72 (gd rfl) rfl rfl (g_if_ne 75 79 (gd rfl) rfl rfl (fun c72 => ?_) (fun c72 => ?_))
                · skip
                  have i72 := z_ne 1 2 c72 i65 rfl
                  refine g_iconst 0 80 (gd rfl) rfl rfl (g_istore_n 81 (gd rfl) rfl (Nat.le_of_ble_eq_true rfl) (g_iload 83 (gd rfl) rfl rfl (g_iconst 2 84 (gd rfl) rfl rfl (g_cmp_ge 87 91 (gd rfl) rfl rfl (fun c84 => ?_) (fun c84 => ?_)))))
                  · skip
                    have i84 := r_le2 2 2 c84 (in_c 2 rfl) i72 rfl
                    refine g_iconst 0 92 (gd rfl) rfl rfl (g_istore_n 93 (gd rfl) rfl (Nat.le_of_ble_eq_true rfl) (g_goto 14 (gd rfl) rfl ?_))
                    have v14 : z26a = s65.2.2.1 109 27 := fr_F (e26) hF65 rfl
                    have n14 : (z26a).toInt ≤ (u_109_22).toInt := by exact (have a0 := in_u h1; have a1 := in_u ro_109_22; have a2 := in_u i22; have a3 := in_u ((inv_F hIc14 0 200 rfl v14_109_111)); have a4 := in_u ((inv_F hIc14 0 400 rfl v14_109_109)); have a5 := in_u ((inv_F hIc14 0 1000 rfl v14_109_27)); have a6 := in_u i15; have a7 := in_u i37; have a8 := in_u i84; have a9 := in_u ((in_c 0 rfl)); have a10 := in_u i65b; have a11 := in_u i65a; have a12 := in_u i26a; by omega)
                    have n14a : (z65a).toInt + (z65b).toInt ≤ (z26a).toInt := by exact (have a0 := in_u h1; have a1 := in_u ro_109_22; have a2 := in_u i22; have a3 := in_u ((inv_F hIc14 0 200 rfl v14_109_111)); have a4 := in_u ((inv_F hIc14 0 400 rfl v14_109_109)); have a5 := in_u ((inv_F hIc14 0 1000 rfl v14_109_27)); have a6 := in_u i15; have a7 := in_u i37; have a8 := in_u i84; have a9 := in_u ((in_c 0 rfl)); have a10 := in_u i65b; have a11 := in_u i65a; have a12 := in_u i26a; by omega)
                    have n14b : PQ s s65 ∧ PS s65 (s.2.2.1 109 109).toNatClampNeg (if ((Int32.ofInt 0)).toInt = 0 then 1 else 0) := by first | exact pe_tr g14_0 (pr_nx (hF26.1 187 rfl) (hF26.1 188 rfl) (hF26.2.2.1 109 109 rfl) (hF26.1 190 rfl) (hF26.2.2.1 109 111 rfl) (by rw [← e19]; exact c22)) | (have hg := g14_0; rw [if_neg c37] at hg; exact pe_tr hg (pr_tr (pr_nx (hF26.1 187 rfl) (hF26.1 188 rfl) (hF26.2.2.1 109 109 rfl) (hF26.1 190 rfl) (hF26.2.2.1 109 111 rfl) (by rw [← e19]; exact c22)) (p41 c44))) | (have hg := g14_0; rw [if_neg c37] at hg; exact pe_tr hg (pr_tr (pr_nx (hF26.1 187 rfl) (hF26.1 188 rfl) (hF26.2.2.1 109 109 rfl) (hF26.1 190 rfl) (hF26.2.2.1 109 111 rfl) (by rw [← e19]; exact c22)) (p41a c44))) | (have hg := g14_0; rw [if_pos c37] at hg; exact pe_tr hg (pr_tr (pr_nx (hF26.1 187 rfl) (hF26.1 188 rfl) (hF26.2.2.1 109 109 rfl) (hF26.1 190 rfl) (hF26.2.2.1 109 111 rfl) (by rw [← e19]; exact c22)) (p65 c72))) | (have hg := g14_0; rw [if_pos c37] at hg; exact pe_tr hg (pr_tr (pr_nx (hF26.1 187 rfl) (hF26.1 188 rfl) (hF26.2.2.1 109 109 rfl) (hF26.1 190 rfl) (hF26.2.2.1 109 111 rfl) (by rw [← e19]; exact c22)) (p65a c72))) | exact pe_0 (fr_sF rfl (fr_sF rfl fr_rf)) (by rw [← (show z65b = s65.2.2.1 109 111 from e65a)]; rfl)
                    have m14 : 20 * ((u_109_22).toInt - (z26a).toInt) + 10 * ((Int32.ofInt 0)).toInt + 10 - ((s65.2.2.1 109 23)).toInt < ((k14 : Nat) : Int) := by exact (have a0 := in_u h1; have a1 := in_u ro_109_22; have a2 := in_u i22; have a3 := in_u ((inv_F hIc14 0 200 rfl v14_109_111)); have a4 := in_u ((inv_F hIc14 0 400 rfl v14_109_109)); have a5 := in_u ((inv_F hIc14 0 1000 rfl v14_109_27)); have a6 := in_u i15; have a7 := in_u i37; have a8 := in_u i84; have a9 := in_u ((in_c 0 rfl)); have a10 := in_u i65b; have a11 := in_u i65a; have a12 := in_u i26a; have a13 := in_u ((show In (s65.2.2.1 109 23) 0 9 from inv_F hI65 0 9 rfl rfl)); by omega)
                    exact gg_w (by omega) (gg_f (gf_cons rfl (gf_cons rfl (gf_cons rfl (gf_cons rfl gf_nil)))) (ih14  s65 (Int32.ofInt 0) (Int32.ofInt 0) z26a z65a z65b _ hI65 (fr_tr rfl (fr_tr rfl hFc14 hF26) hF65) (in_w 0 1 (in_c 0 rfl) rfl) (in_w 0 1 (in_c 0 rfl) rfl) v14 e65 e65a rfl n14 n14a n14b m14))
                  · skip
                    have i84 := r_lt1 1 1 c84 i72 (in_c 2 rfl) rfl
                    refine g_iconst 1 88 (gd rfl) rfl rfl (g_goto 92 (gd rfl) rfl (g_istore_n 93 (gd rfl) rfl (Nat.le_of_ble_eq_true rfl) (g_goto 14 (gd rfl) rfl ?_)))
                    have v14 : z26a = s65.2.2.1 109 27 := fr_F (e26) hF65 rfl
                    have n14 : (z26a).toInt ≤ (u_109_22).toInt := by exact (have a0 := in_u h1; have a1 := in_u ro_109_22; have a2 := in_u i22; have a3 := in_u ((inv_F hIc14 0 200 rfl v14_109_111)); have a4 := in_u ((inv_F hIc14 0 400 rfl v14_109_109)); have a5 := in_u ((inv_F hIc14 0 1000 rfl v14_109_27)); have a6 := in_u i15; have a7 := in_u i37; have a8 := in_u i84; have a9 := in_u ((in_c 1 rfl)); have a10 := in_u ((in_c 0 rfl)); have a11 := in_u i65b; have a12 := in_u i65a; have a13 := in_u i26a; by omega)
                    have n14a : (z65a).toInt + (z65b).toInt ≤ (z26a).toInt := by exact (have a0 := in_u h1; have a1 := in_u ro_109_22; have a2 := in_u i22; have a3 := in_u ((inv_F hIc14 0 200 rfl v14_109_111)); have a4 := in_u ((inv_F hIc14 0 400 rfl v14_109_109)); have a5 := in_u ((inv_F hIc14 0 1000 rfl v14_109_27)); have a6 := in_u i15; have a7 := in_u i37; have a8 := in_u i84; have a9 := in_u ((in_c 1 rfl)); have a10 := in_u ((in_c 0 rfl)); have a11 := in_u i65b; have a12 := in_u i65a; have a13 := in_u i26a; by omega)
                    have n14b : PQ s s65 ∧ PS s65 (s.2.2.1 109 109).toNatClampNeg (if ((Int32.ofInt 0)).toInt = 0 then 1 else 0) := by first | exact pe_tr g14_0 (pr_nx (hF26.1 187 rfl) (hF26.1 188 rfl) (hF26.2.2.1 109 109 rfl) (hF26.1 190 rfl) (hF26.2.2.1 109 111 rfl) (by rw [← e19]; exact c22)) | (have hg := g14_0; rw [if_neg c37] at hg; exact pe_tr hg (pr_tr (pr_nx (hF26.1 187 rfl) (hF26.1 188 rfl) (hF26.2.2.1 109 109 rfl) (hF26.1 190 rfl) (hF26.2.2.1 109 111 rfl) (by rw [← e19]; exact c22)) (p41 c44))) | (have hg := g14_0; rw [if_neg c37] at hg; exact pe_tr hg (pr_tr (pr_nx (hF26.1 187 rfl) (hF26.1 188 rfl) (hF26.2.2.1 109 109 rfl) (hF26.1 190 rfl) (hF26.2.2.1 109 111 rfl) (by rw [← e19]; exact c22)) (p41a c44))) | (have hg := g14_0; rw [if_pos c37] at hg; exact pe_tr hg (pr_tr (pr_nx (hF26.1 187 rfl) (hF26.1 188 rfl) (hF26.2.2.1 109 109 rfl) (hF26.1 190 rfl) (hF26.2.2.1 109 111 rfl) (by rw [← e19]; exact c22)) (p65 c72))) | (have hg := g14_0; rw [if_pos c37] at hg; exact pe_tr hg (pr_tr (pr_nx (hF26.1 187 rfl) (hF26.1 188 rfl) (hF26.2.2.1 109 109 rfl) (hF26.1 190 rfl) (hF26.2.2.1 109 111 rfl) (by rw [← e19]; exact c22)) (p65a c72))) | exact pe_0 (fr_sF rfl (fr_sF rfl fr_rf)) (by rw [← (show z65b = s65.2.2.1 109 111 from e65a)]; rfl)
                    have m14 : 20 * ((u_109_22).toInt - (z26a).toInt) + 10 * ((Int32.ofInt 1)).toInt + 10 - ((s65.2.2.1 109 23)).toInt < ((k14 : Nat) : Int) := by exact (have a0 := in_u h1; have a1 := in_u ro_109_22; have a2 := in_u i22; have a3 := in_u ((inv_F hIc14 0 200 rfl v14_109_111)); have a4 := in_u ((inv_F hIc14 0 400 rfl v14_109_109)); have a5 := in_u ((inv_F hIc14 0 1000 rfl v14_109_27)); have a6 := in_u i15; have a7 := in_u i37; have a8 := in_u i84; have a9 := in_u ((in_c 1 rfl)); have a10 := in_u ((in_c 0 rfl)); have a11 := in_u i65b; have a12 := in_u i65a; have a13 := in_u i26a; have a14 := in_u ((show In (s65.2.2.1 109 23) 0 9 from inv_F hI65 0 9 rfl rfl)); by omega)
                    exact gg_w (by omega) (gg_f (gf_cons rfl (gf_cons rfl (gf_cons rfl (gf_cons rfl gf_nil)))) (ih14  s65 (Int32.ofInt 0) (Int32.ofInt 1) z26a z65a z65b _ hI65 (fr_tr rfl (fr_tr rfl hFc14 hF26) hF65) (in_w 0 1 (in_c 0 rfl) rfl) (in_w 0 1 (in_c 1 rfl) rfl) v14 e65 e65a rfl n14 n14a n14b m14))
                · skip
                  have i72 := z_eq 0 0 c72 i65 rfl
                  refine g_iconst 1 76 (gd rfl) rfl rfl (g_goto 80 (gd rfl) rfl (g_istore_n 81 (gd rfl) rfl (Nat.le_of_ble_eq_true rfl) (g_iload 83 (gd rfl) rfl rfl (g_iconst 2 84 (gd rfl) rfl rfl (g_cmp_ge 87 91 (gd rfl) rfl rfl (fun c84 => ?_) (fun c84 => ?_))))))
                  · skip
                    exact n_le c84 (in_c 2 rfl) i72 rfl
                  · skip
                    refine g_iconst 1 88 (gd rfl) rfl rfl (g_goto 92 (gd rfl) rfl (g_istore_n 93 (gd rfl) rfl (Nat.le_of_ble_eq_true rfl) (g_goto 14 (gd rfl) rfl ?_)))
                    have v14 : z26a = s65.2.2.1 109 27 := fr_F (e26) hF65 rfl
                    have n14 : (z26a).toInt ≤ (u_109_22).toInt := by exact (have a0 := in_u h1; have a1 := in_u ro_109_22; have a2 := in_u i22; have a3 := in_u ((inv_F hIc14 0 200 rfl v14_109_111)); have a4 := in_u ((inv_F hIc14 0 400 rfl v14_109_109)); have a5 := in_u ((inv_F hIc14 0 1000 rfl v14_109_27)); have a6 := in_u i15; have a7 := in_u i37; have a8 := in_u i72; have a9 := in_u ((in_c 1 rfl)); have a10 := in_u i65b; have a11 := in_u i65a; have a12 := in_u i26a; by omega)
                    have n14a : (z65a).toInt + (z65b).toInt ≤ (z26a).toInt := by exact (have a0 := in_u h1; have a1 := in_u ro_109_22; have a2 := in_u i22; have a3 := in_u ((inv_F hIc14 0 200 rfl v14_109_111)); have a4 := in_u ((inv_F hIc14 0 400 rfl v14_109_109)); have a5 := in_u ((inv_F hIc14 0 1000 rfl v14_109_27)); have a6 := in_u i15; have a7 := in_u i37; have a8 := in_u i72; have a9 := in_u ((in_c 1 rfl)); have a10 := in_u i65b; have a11 := in_u i65a; have a12 := in_u i26a; by omega)
                    have n14b : PQ s s65 ∧ PS s65 (s.2.2.1 109 109).toNatClampNeg (if ((Int32.ofInt 1)).toInt = 0 then 1 else 0) := by first | exact pe_tr g14_0 (pr_nx (hF26.1 187 rfl) (hF26.1 188 rfl) (hF26.2.2.1 109 109 rfl) (hF26.1 190 rfl) (hF26.2.2.1 109 111 rfl) (by rw [← e19]; exact c22)) | (have hg := g14_0; rw [if_neg c37] at hg; exact pe_tr hg (pr_tr (pr_nx (hF26.1 187 rfl) (hF26.1 188 rfl) (hF26.2.2.1 109 109 rfl) (hF26.1 190 rfl) (hF26.2.2.1 109 111 rfl) (by rw [← e19]; exact c22)) (p41 c44))) | (have hg := g14_0; rw [if_neg c37] at hg; exact pe_tr hg (pr_tr (pr_nx (hF26.1 187 rfl) (hF26.1 188 rfl) (hF26.2.2.1 109 109 rfl) (hF26.1 190 rfl) (hF26.2.2.1 109 111 rfl) (by rw [← e19]; exact c22)) (p41a c44))) | (have hg := g14_0; rw [if_pos c37] at hg; exact pe_tr hg (pr_tr (pr_nx (hF26.1 187 rfl) (hF26.1 188 rfl) (hF26.2.2.1 109 109 rfl) (hF26.1 190 rfl) (hF26.2.2.1 109 111 rfl) (by rw [← e19]; exact c22)) (p65 c72))) | (have hg := g14_0; rw [if_pos c37] at hg; exact pe_tr hg (pr_tr (pr_nx (hF26.1 187 rfl) (hF26.1 188 rfl) (hF26.2.2.1 109 109 rfl) (hF26.1 190 rfl) (hF26.2.2.1 109 111 rfl) (by rw [← e19]; exact c22)) (p65a c72))) | exact pe_0 (fr_sF rfl (fr_sF rfl fr_rf)) (by rw [← (show z65b = s65.2.2.1 109 111 from e65a)]; rfl)
                    have m14 : 20 * ((u_109_22).toInt - (z26a).toInt) + 10 * ((Int32.ofInt 1)).toInt + 10 - ((s65.2.2.1 109 23)).toInt < ((k14 : Nat) : Int) := by exact (have a0 := in_u h1; have a1 := in_u ro_109_22; have a2 := in_u i22; have a3 := in_u ((inv_F hIc14 0 200 rfl v14_109_111)); have a4 := in_u ((inv_F hIc14 0 400 rfl v14_109_109)); have a5 := in_u ((inv_F hIc14 0 1000 rfl v14_109_27)); have a6 := in_u i15; have a7 := in_u i37; have a8 := in_u i72; have a9 := in_u ((in_c 1 rfl)); have a10 := in_u i65b; have a11 := in_u i65a; have a12 := in_u i26a; have a13 := in_u ((show In (s65.2.2.1 109 23) 0 9 from inv_F hI65 0 9 rfl rfl)); by omega)
                    exact gg_w (by omega) (gg_f (gf_cons rfl (gf_cons rfl (gf_cons rfl (gf_cons rfl gf_nil)))) (ih14  s65 (Int32.ofInt 1) (Int32.ofInt 1) z26a z65a z65b _ hI65 (fr_tr rfl (fr_tr rfl hFc14 hF26) hF65) (in_w 0 1 (in_c 1 rfl) rfl) (in_w 0 1 (in_c 1 rfl) rfl) v14 e65 e65a rfl n14 n14a n14b m14))
            · skip
              have i37 := z_ne 1 1 c37 j14_2 rfl
              refine g_aload_n 41 (gd rfl) rfl rfl ?_
              have v41 : w14_109_109 = s26.2.2.1 109 109 := fr_F (v14_109_109) hF26 rfl
              have v41a : w14_109_111 = s26.2.2.1 109 111 := fr_F (v14_109_111) hF26 rfl
              have n41 : (w14_109_109).toInt + (w14_109_111).toInt ≤ 120 := by exact (have a0 := in_u h1; have a1 := in_u ro_109_22; have a2 := in_u i22; have a3 := in_u ((inv_F hIc14 0 200 rfl v14_109_111)); have a4 := in_u ((inv_F hIc14 0 400 rfl v14_109_109)); have a5 := in_u ((inv_F hIc14 0 1000 rfl v14_109_27)); have a6 := in_u i15; have a7 := in_u i37; have a8 := in_u i33; have a9 := in_u i26a; by omega)
              have n41a : (z26b).toInt ≠ 0 → (w14_109_109).toInt + (w14_109_111).toInt ≤ 119 := by exact (have a0 := in_u h1; have a1 := in_u ro_109_22; have a2 := in_u i22; have a3 := in_u ((inv_F hIc14 0 200 rfl v14_109_111)); have a4 := in_u ((inv_F hIc14 0 400 rfl v14_109_109)); have a5 := in_u ((inv_F hIc14 0 1000 rfl v14_109_27)); have a6 := in_u i15; have a7 := in_u i37; have a8 := in_u i33; have a9 := in_u i26a; by omega)
              refine g_callv (X := _) (As := []) (r := []) (b := A 109) (q := 109) 44 (gd rfl) rfl rfl rfl rfl rfl (ww_o rfl) (Nat.le_of_ble_eq_true rfl) (Nat.zero_le _) (Nat.zero_le _) (k_401 (by omega) hI26 v41 v41a e26a n41 n41a) (fun e u h => h) (fun v u h => ?_)
              obtain ⟨s41, hI41, hF41, n41b, n41c, n41d, z41, rfl, rfl, i41, p41, p41a⟩ := h
              obtain ⟨z41a, e41⟩ : ∃ w, w = s41.2.2.1 109 109 := ⟨_, rfl⟩
              have i41a := inv_F hI41 0 400 rfl e41
              obtain ⟨z41b, e41a⟩ : ∃ w, w = s41.2.2.1 109 111 := ⟨_, rfl⟩
              have i41b := inv_F hI41 0 200 rfl e41a
              obtain ⟨z41c, e41b⟩ : ∃ w, w = s41.2.2.1 109 23 := ⟨_, rfl⟩
              have i41c := inv_F hI41 0 9 rfl e41b
              rw [← (show w14_109_109 = s26.2.2.1 109 109 from fr_F (v14_109_109) hF26 rfl)] at n41b
              rw [← (show w14_109_111 = s26.2.2.1 109 111 from fr_F (v14_109_111) hF26 rfl)] at n41b
              rw [← (show z41a = s41.2.2.1 109 109 from e41)] at n41b
              rw [← (show z41b = s41.2.2.1 109 111 from e41a)] at n41b
              rw [← (show z26b = s26.2.2.1 109 28 from e26a)] at n41c
              rw [← (show w14_109_109 = s26.2.2.1 109 109 from fr_F (v14_109_109) hF26 rfl)] at n41c
              rw [← (show w14_109_111 = s26.2.2.1 109 111 from fr_F (v14_109_111) hF26 rfl)] at n41c
              rw [← (show z41a = s41.2.2.1 109 109 from e41)] at n41c
              rw [← (show z41b = s41.2.2.1 109 111 from e41a)] at n41c
              rw [← (show z26b = s26.2.2.1 109 28 from e26a)] at n41d
              rw [← (show z41c = s41.2.2.1 109 23 from e41b)] at n41d
              show GG _ _ _ _ _ _ _ _ [.int z41] _ _ _
              refine g_if_ne 47 51 (gd rfl) rfl rfl (fun c44 => ?_) (fun c44 => ?_)
              · skip
                have i44 := z_ne 1 1 c44 i41 rfl
                refine g_iconst 0 52 (gd rfl) rfl rfl (g_istore_n 53 (gd rfl) rfl (Nat.le_of_ble_eq_true rfl) (g_goto 14 (gd rfl) rfl ?_))
                have v14 : z26a = s41.2.2.1 109 27 := fr_F (e26) hF41 rfl
                have n14 : (z26a).toInt ≤ (u_109_22).toInt := by exact (have a0 := in_u h1; have a1 := in_u ro_109_22; have a2 := in_u i22; have a3 := in_u ((inv_F hIc14 0 200 rfl v14_109_111)); have a4 := in_u ((inv_F hIc14 0 400 rfl v14_109_109)); have a5 := in_u ((inv_F hIc14 0 1000 rfl v14_109_27)); have a6 := in_u i15; have a7 := in_u i37; have a8 := in_u ((in_c 0 rfl)); have a9 := in_u i41c; have a10 := in_u i41b; have a11 := in_u i41a; have a12 := in_u i26a; by omega)
                have n14a : (z41a).toInt + (z41b).toInt ≤ (z26a).toInt := by exact (have a0 := in_u h1; have a1 := in_u ro_109_22; have a2 := in_u i22; have a3 := in_u ((inv_F hIc14 0 200 rfl v14_109_111)); have a4 := in_u ((inv_F hIc14 0 400 rfl v14_109_109)); have a5 := in_u ((inv_F hIc14 0 1000 rfl v14_109_27)); have a6 := in_u i15; have a7 := in_u i37; have a8 := in_u ((in_c 0 rfl)); have a9 := in_u i41c; have a10 := in_u i41b; have a11 := in_u i41a; have a12 := in_u i26a; by omega)
                have n14b : PQ s s41 ∧ PS s41 (s.2.2.1 109 109).toNatClampNeg (if ((Int32.ofInt 0)).toInt = 0 then 1 else 0) := by first | exact pe_tr g14_0 (pr_nx (hF26.1 187 rfl) (hF26.1 188 rfl) (hF26.2.2.1 109 109 rfl) (hF26.1 190 rfl) (hF26.2.2.1 109 111 rfl) (by rw [← e19]; exact c22)) | (have hg := g14_0; rw [if_neg c37] at hg; exact pe_tr hg (pr_tr (pr_nx (hF26.1 187 rfl) (hF26.1 188 rfl) (hF26.2.2.1 109 109 rfl) (hF26.1 190 rfl) (hF26.2.2.1 109 111 rfl) (by rw [← e19]; exact c22)) (p41 c44))) | (have hg := g14_0; rw [if_neg c37] at hg; exact pe_tr hg (pr_tr (pr_nx (hF26.1 187 rfl) (hF26.1 188 rfl) (hF26.2.2.1 109 109 rfl) (hF26.1 190 rfl) (hF26.2.2.1 109 111 rfl) (by rw [← e19]; exact c22)) (p41a c44))) | (have hg := g14_0; rw [if_pos c37] at hg; exact pe_tr hg (pr_tr (pr_nx (hF26.1 187 rfl) (hF26.1 188 rfl) (hF26.2.2.1 109 109 rfl) (hF26.1 190 rfl) (hF26.2.2.1 109 111 rfl) (by rw [← e19]; exact c22)) (p65 c72))) | (have hg := g14_0; rw [if_pos c37] at hg; exact pe_tr hg (pr_tr (pr_nx (hF26.1 187 rfl) (hF26.1 188 rfl) (hF26.2.2.1 109 109 rfl) (hF26.1 190 rfl) (hF26.2.2.1 109 111 rfl) (by rw [← e19]; exact c22)) (p65a c72))) | exact pe_0 (fr_sF rfl (fr_sF rfl fr_rf)) (by rw [← (show z41b = s41.2.2.1 109 111 from e41a)]; rfl)
                have m14 : 20 * ((u_109_22).toInt - (z26a).toInt) + 10 * (y14_3).toInt + 10 - (z41c).toInt < ((k14 : Nat) : Int) := by exact (have a0 := in_u h1; have a1 := in_u ro_109_22; have a2 := in_u i22; have a3 := in_u ((inv_F hIc14 0 200 rfl v14_109_111)); have a4 := in_u ((inv_F hIc14 0 400 rfl v14_109_109)); have a5 := in_u ((inv_F hIc14 0 1000 rfl v14_109_27)); have a6 := in_u i15; have a7 := in_u i37; have a8 := in_u ((in_c 0 rfl)); have a9 := in_u i41c; have a10 := in_u i41b; have a11 := in_u i41a; have a12 := in_u i26a; by omega)
                exact gg_w (by omega) (gg_f (gf_cons rfl (gf_cons rfl (gf_cons rfl (gf_cons rfl gf_nil)))) (ih14  s41 (Int32.ofInt 0) y14_3 z26a z41a z41b z41c hI41 (fr_tr rfl (fr_tr rfl hFc14 hF26) hF41) (in_w 0 1 (in_c 0 rfl) rfl) (in_w 0 1 i15 rfl) v14 e41 e41a e41b n14 n14a n14b m14))
              · skip
                have i44 := z_eq 0 0 c44 i41 rfl
                refine g_iconst 1 48 (gd rfl) rfl rfl (g_goto 52 (gd rfl) rfl (g_istore_n 53 (gd rfl) rfl (Nat.le_of_ble_eq_true rfl) (g_goto 14 (gd rfl) rfl ?_)))
                have v14 : z26a = s41.2.2.1 109 27 := fr_F (e26) hF41 rfl
                have n14 : (z26a).toInt ≤ (u_109_22).toInt := by exact (have a0 := in_u h1; have a1 := in_u ro_109_22; have a2 := in_u i22; have a3 := in_u ((inv_F hIc14 0 200 rfl v14_109_111)); have a4 := in_u ((inv_F hIc14 0 400 rfl v14_109_109)); have a5 := in_u ((inv_F hIc14 0 1000 rfl v14_109_27)); have a6 := in_u i15; have a7 := in_u i37; have a8 := in_u ((in_c 1 rfl)); have a9 := in_u i41c; have a10 := in_u i41b; have a11 := in_u i41a; have a12 := in_u i26a; by omega)
                have n14a : (z41a).toInt + (z41b).toInt ≤ (z26a).toInt := by exact (have a0 := in_u h1; have a1 := in_u ro_109_22; have a2 := in_u i22; have a3 := in_u ((inv_F hIc14 0 200 rfl v14_109_111)); have a4 := in_u ((inv_F hIc14 0 400 rfl v14_109_109)); have a5 := in_u ((inv_F hIc14 0 1000 rfl v14_109_27)); have a6 := in_u i15; have a7 := in_u i37; have a8 := in_u ((in_c 1 rfl)); have a9 := in_u i41c; have a10 := in_u i41b; have a11 := in_u i41a; have a12 := in_u i26a; by omega)
                have n14b : PQ s s41 ∧ PS s41 (s.2.2.1 109 109).toNatClampNeg (if ((Int32.ofInt 1)).toInt = 0 then 1 else 0) := by first | exact pe_tr g14_0 (pr_nx (hF26.1 187 rfl) (hF26.1 188 rfl) (hF26.2.2.1 109 109 rfl) (hF26.1 190 rfl) (hF26.2.2.1 109 111 rfl) (by rw [← e19]; exact c22)) | (have hg := g14_0; rw [if_neg c37] at hg; exact pe_tr hg (pr_tr (pr_nx (hF26.1 187 rfl) (hF26.1 188 rfl) (hF26.2.2.1 109 109 rfl) (hF26.1 190 rfl) (hF26.2.2.1 109 111 rfl) (by rw [← e19]; exact c22)) (p41 c44))) | (have hg := g14_0; rw [if_neg c37] at hg; exact pe_tr hg (pr_tr (pr_nx (hF26.1 187 rfl) (hF26.1 188 rfl) (hF26.2.2.1 109 109 rfl) (hF26.1 190 rfl) (hF26.2.2.1 109 111 rfl) (by rw [← e19]; exact c22)) (p41a c44))) | (have hg := g14_0; rw [if_pos c37] at hg; exact pe_tr hg (pr_tr (pr_nx (hF26.1 187 rfl) (hF26.1 188 rfl) (hF26.2.2.1 109 109 rfl) (hF26.1 190 rfl) (hF26.2.2.1 109 111 rfl) (by rw [← e19]; exact c22)) (p65 c72))) | (have hg := g14_0; rw [if_pos c37] at hg; exact pe_tr hg (pr_tr (pr_nx (hF26.1 187 rfl) (hF26.1 188 rfl) (hF26.2.2.1 109 109 rfl) (hF26.1 190 rfl) (hF26.2.2.1 109 111 rfl) (by rw [← e19]; exact c22)) (p65a c72))) | exact pe_0 (fr_sF rfl (fr_sF rfl fr_rf)) (by rw [← (show z41b = s41.2.2.1 109 111 from e41a)]; rfl)
                have m14 : 20 * ((u_109_22).toInt - (z26a).toInt) + 10 * (y14_3).toInt + 10 - (z41c).toInt < ((k14 : Nat) : Int) := by exact (have a0 := in_u h1; have a1 := in_u ro_109_22; have a2 := in_u i22; have a3 := in_u ((inv_F hIc14 0 200 rfl v14_109_111)); have a4 := in_u ((inv_F hIc14 0 400 rfl v14_109_109)); have a5 := in_u ((inv_F hIc14 0 1000 rfl v14_109_27)); have a6 := in_u i15; have a7 := in_u i37; have a8 := in_u ((in_c 1 rfl)); have a9 := in_u i41c; have a10 := in_u i41b; have a11 := in_u i41a; have a12 := in_u i26a; by omega)
                exact gg_w (by omega) (gg_f (gf_cons rfl (gf_cons rfl (gf_cons rfl (gf_cons rfl gf_nil)))) (ih14  s41 (Int32.ofInt 1) y14_3 z26a z41a z41b z41c hI41 (fr_tr rfl (fr_tr rfl hFc14 hF26) hF41) (in_w 0 1 (in_c 1 rfl) rfl) (in_w 0 1 i15 rfl) v14 e41 e41a e41b n14 n14a n14b m14))
  refine g_enter2 (k := 403) (N := 2250901) (by omega) rfl (Nat.le_of_ble_eq_true rfl) (g_aload_n 1 (gd rfl) rfl rfl (g_iconst 0 2 (gd rfl) rfl rfl (g_putI 5 (gd rfl) rfl rfl rfl rfl (have hI2 := inv_sF (q := 109) (j := 111) hI rfl (in_w 0 200 (in_c 0 rfl) rfl); g_aload_n 6 (gd rfl) rfl rfl (g_iconst 0 7 (gd rfl) rfl rfl (g_putI 10 (gd rfl) rfl rfl rfl rfl (have hI7 := inv_sF (q := 109) (j := 112) hI2 rfl (in_w (-2147483648) 2147483647 (in_c 0 rfl) rfl); g_iconst 1 11 (gd rfl) rfl rfl (g_istore_n 12 (gd rfl) rfl (Nat.le_of_ble_eq_true rfl) (g_iconst 1 13 (gd rfl) rfl rfl (g_istore_n 14 (gd rfl) rfl (Nat.le_of_ble_eq_true rfl) ?_))))))))))
  have v14 : u_109_27 = (sF (sF s 109 111 (Int32.ofInt 0)) 109 112 (Int32.ofInt 0)).2.2.1 109 27 := sF_ne rfl (sF_ne rfl (e_109_27))
  have v14a : u_109_109 = (sF (sF s 109 111 (Int32.ofInt 0)) 109 112 (Int32.ofInt 0)).2.2.1 109 109 := sF_ne rfl (sF_ne rfl (e_109_109))
  have v14b : (Int32.ofInt 0) = (sF (sF s 109 111 (Int32.ofInt 0)) 109 112 (Int32.ofInt 0)).2.2.1 109 111 := sF_ne rfl (sF_get)
  have n14 : (u_109_27).toInt ≤ (u_109_22).toInt := by exact (have a0 := in_u ((inv_F hI 0 400 rfl e_109_109)); have a1 := in_u ((inv_F hI 0 1000 rfl e_109_22)); have a2 := in_u ((inv_F hI 0 1000 rfl e_109_27)); have a3 := in_u h1; have a4 := in_u ((in_c 1 rfl)); have a5 := in_u ((in_c 0 rfl)); by omega)
  have n14a : (u_109_109).toInt + ((Int32.ofInt 0)).toInt ≤ (u_109_27).toInt := by exact (have a0 := in_u ((inv_F hI 0 400 rfl e_109_109)); have a1 := in_u ((inv_F hI 0 1000 rfl e_109_22)); have a2 := in_u ((inv_F hI 0 1000 rfl e_109_27)); have a3 := in_u h1; have a4 := in_u ((in_c 1 rfl)); have a5 := in_u ((in_c 0 rfl)); by omega)
  have n14b : PQ s (sF (sF s 109 111 (Int32.ofInt 0)) 109 112 (Int32.ofInt 0)) ∧ PS (sF (sF s 109 111 (Int32.ofInt 0)) 109 112 (Int32.ofInt 0)) (s.2.2.1 109 109).toNatClampNeg (if ((Int32.ofInt 1)).toInt = 0 then 1 else 0) := by first | exact pe_tr g14_0 (pr_nx (hF26.1 187 rfl) (hF26.1 188 rfl) (hF26.2.2.1 109 109 rfl) (hF26.1 190 rfl) (hF26.2.2.1 109 111 rfl) (by rw [← e19]; exact c22)) | (have hg := g14_0; rw [if_neg c37] at hg; exact pe_tr hg (pr_tr (pr_nx (hF26.1 187 rfl) (hF26.1 188 rfl) (hF26.2.2.1 109 109 rfl) (hF26.1 190 rfl) (hF26.2.2.1 109 111 rfl) (by rw [← e19]; exact c22)) (p41 c44))) | (have hg := g14_0; rw [if_neg c37] at hg; exact pe_tr hg (pr_tr (pr_nx (hF26.1 187 rfl) (hF26.1 188 rfl) (hF26.2.2.1 109 109 rfl) (hF26.1 190 rfl) (hF26.2.2.1 109 111 rfl) (by rw [← e19]; exact c22)) (p41a c44))) | (have hg := g14_0; rw [if_pos c37] at hg; exact pe_tr hg (pr_tr (pr_nx (hF26.1 187 rfl) (hF26.1 188 rfl) (hF26.2.2.1 109 109 rfl) (hF26.1 190 rfl) (hF26.2.2.1 109 111 rfl) (by rw [← e19]; exact c22)) (p65 c72))) | (have hg := g14_0; rw [if_pos c37] at hg; exact pe_tr hg (pr_tr (pr_nx (hF26.1 187 rfl) (hF26.1 188 rfl) (hF26.2.2.1 109 109 rfl) (hF26.1 190 rfl) (hF26.2.2.1 109 111 rfl) (by rw [← e19]; exact c22)) (p65a c72))) | exact pe_0 (fr_sF rfl (fr_sF rfl fr_rf)) (by rw [← (show (Int32.ofInt 0) = (sF (sF s 109 111 (Int32.ofInt 0)) 109 112 (Int32.ofInt 0)).2.2.1 109 111 from sF_ne rfl (sF_get))]; rfl)
  have m14 : 20 * ((u_109_22).toInt - (u_109_27).toInt) + 10 * ((Int32.ofInt 1)).toInt + 10 - (((sF (sF s 109 111 (Int32.ofInt 0)) 109 112 (Int32.ofInt 0)).2.2.1 109 23)).toInt < ((2500 : Nat) : Int) := by exact (have a0 := in_u ((inv_F hI 0 400 rfl e_109_109)); have a1 := in_u ((inv_F hI 0 1000 rfl e_109_22)); have a2 := in_u ((inv_F hI 0 1000 rfl e_109_27)); have a3 := in_u h1; have a4 := in_u ((in_c 1 rfl)); have a5 := in_u ((in_c 0 rfl)); have a6 := in_u ((show In ((sF (sF s 109 111 (Int32.ofInt 0)) 109 112 (Int32.ofInt 0)).2.2.1 109 23) 0 9 from inv_F hI7 0 9 rfl rfl)); by omega)
  exact gg_w (by omega) (gg_f (gf_cons rfl (gf_cons rfl (gf_cons rfl (gf_cons rfl gf_nil)))) (ct14 2500 (sF (sF s 109 111 (Int32.ofInt 0)) 109 112 (Int32.ofInt 0)) (Int32.ofInt 1) (Int32.ofInt 1) u_109_27 u_109_109 (Int32.ofInt 0) _ hI7 (fr_sF rfl (fr_sF rfl fr_rf)) (in_w 0 1 (in_c 1 rfl) rfl) (in_w 0 1 (in_c 1 rfl) rfl) v14 v14a v14b rfl n14 n14a n14b m14))

def fm_404 : FM := ([184, 185, 186, 187, 188, 189, 190], [], [(109, 0), (109, 23), (109, 24), (109, 27), (109, 28), (109, 29), (109, 30), (109, 109), (109, 111), (109, 112)], [(109, 31)])
/-- GraphHouseModel.program -/
theorem k_404 {Z : AmZ} {A : Nat → Nat} {s : GS} {ex : va_W} {d : Nat} {X : AmX}  (hd : 6 ≤ d) (hI : Inv s)  : GC Z d 404 [.ref (A 109)] (WW Z A s ++ ex) 0 0 (fun v u => ∃ t : GS, Inv t ∧ Fr fm_404 s t ∧ ∃ z : Int32, v = some (.int z) ∧ u = WW Z A t ++ ex ∧ In z (-4) 0) X := by
  intro post xp hP hX
  obtain ⟨u_109_22, e_109_22⟩ : ∃ w, w = s.2.2.1 109 22 := ⟨_, rfl⟩
  have ro_109_22 := inv_F hI 0 1000 rfl e_109_22
  have ct88 : ∀ (k88 : Nat) (sc88 : GS) (y88_1 : Int32), Rng sc88 → Fr fm_404 s sc88 → (In y88_1 0 400) → (∀ k : Nat, (k : Int) < (y88_1).toInt → sc88.1 184 k = sc88.1 187 k ∧ sc88.1 185 k = sc88.1 188 k) → (QQ sc88) → 400 - (y88_1).toInt < (k88 : Int) → GG Z (d - 1) 404 post (gx xp) (1 + k88 * 900) 88 (fun j => xlook j [(0, .ref (A 109)), (1, .int y88_1)]) [] (WW Z A sc88 ++ ex) 0 0 := by
    intro k88
    induction k88 with
    | zero => intro sc88 y88_1 hIc88 hFc88 j88_1 g88_0 g88_1 mm88; exact m_no mm88 j88_1 rfl
    | succ k88 ih88 =>
      intro sc88 y88_1 hIc88 hFc88 j88_1 g88_0 g88_1 mm88
      refine gg_w (M := 1 + k88 * 900 + 900) (by omega) (g_iload_n 89 (gd rfl) rfl rfl (g_aload_n 90 (gd rfl) rfl rfl (g_getI 93 (gd rfl) rfl rfl rfl (fun z90 e90 => have i90 := rng_F hIc88 0 400 rfl e90; g_cmp_ge 96 126 (gd rfl) rfl rfl (fun c93 => ?_) (fun c93 => ?_)))))
      · skip
        refine g_aload_n 127 (gd rfl) rfl rfl (g_getA (q2 := 186) 130 (gd rfl) rfl rfl rfl rfl (g_iconst 1 131 (gd rfl) rfl rfl (g_aload_n 132 (gd rfl) rfl rfl (g_getA (q2 := 189) 135 (gd rfl) rfl rfl rfl rfl (g_iconst 1 136 (gd rfl) rfl rfl (g_iaload 137 (gd rfl) rfl (n := 3) rfl (in_ix (in_c 1 rfl) rfl) (fun z136 e136 => have i136 := rng_I hIc88 (n := 3) (t := 0) 0 120 rfl (in_ix (in_c 1 rfl) rfl) rfl e136; g_iastore 138 (gd rfl) rfl (n := 3) rfl (in_ix (in_c 1 rfl) rfl) (have hI137 := rng_sI (q := 186) (j := (Int32.ofInt 1).toNatClampNeg) hIc88 rfl (in_w 0 120 i136 rfl); g_aload_n 139 (gd rfl) rfl rfl (g_getA (q2 := 186) 142 (gd rfl) rfl rfl rfl rfl (g_iconst 2 143 (gd rfl) rfl rfl (g_aload_n 144 (gd rfl) rfl rfl (g_getA (q2 := 189) 147 (gd rfl) rfl rfl rfl rfl (g_iconst 2 148 (gd rfl) rfl rfl (g_iaload 149 (gd rfl) rfl (n := 3) rfl (in_ix (in_c 2 rfl) rfl) (fun z148 e148 => have i148 := rng_I hI137 (n := 3) (t := 0) 0 120 rfl (in_ix (in_c 2 rfl) rfl) rfl e148; g_iastore 150 (gd rfl) rfl (n := 3) rfl (in_ix (in_c 2 rfl) rfl) (have hI149 := rng_sI (q := 186) (j := (Int32.ofInt 2).toNatClampNeg) hI137 rfl (in_w 0 120 i148 rfl); g_iconst 0 151 (gd rfl) rfl rfl ?_))))))))))))))))
        have hI151 : Inv (sI (sI sc88 186 (Int32.ofInt 1).toNatClampNeg z136) 186 (Int32.ofInt 2).toNatClampNeg z148) := by first | (have hFF : Fr ([187, 188, 189, 190], [], [(109, 0), (109, 23), (109, 24), (109, 27), (109, 28), (109, 29), (109, 30), (109, 109), (109, 111), (109, 112)], [(109, 31)]) s (sI (sI sc88 186 (Int32.ofInt 1).toNatClampNeg z136) 186 (Int32.ofInt 2).toNatClampNeg z148) := (fr_sI rfl (fr_sI rfl hFc88)); exact ⟨hI149, kk_all hI.2 hFF rfl⟩) | (have hFF : Fr fm_404 s (sI (sI sc88 186 (Int32.ofInt 1).toNatClampNeg z136) 186 (Int32.ofInt 2).toNatClampNeg z148) := (fr_sI rfl (fr_sI rfl hFc88)); exact ⟨hI149, kk_prog hI.2 hFF rfl (fin_kp g88_0 g88_1 e90 c93 e136 e148)⟩)
        exact g_ireturn (gd rfl) rfl rfl (hP _ _ ⟨(sI (sI sc88 186 (Int32.ofInt 1).toNatClampNeg z136) 186 (Int32.ofInt 2).toNatClampNeg z148), hI151, (fr_sI rfl (fr_sI rfl hFc88)), (Int32.ofInt 0), rfl, rfl, in_w (-4) 0 (in_c 0 rfl) rfl⟩)
      · skip
        have i93 := r_lt1 0 399 c93 j88_1 i90 rfl
        have i93a := r_lt2 1 400 c93 j88_1 i90 rfl
        refine g_aload_n 97 (gd rfl) rfl rfl (g_getA (q2 := 184) 100 (gd rfl) rfl rfl rfl rfl (g_iload_n 101 (gd rfl) rfl rfl (g_aload_n 102 (gd rfl) rfl rfl (g_getA (q2 := 187) 105 (gd rfl) rfl rfl rfl rfl (g_iload_n 106 (gd rfl) rfl rfl (g_iaload 107 (gd rfl) rfl (n := 400) rfl (in_ix i93 rfl) (fun z106 e106 => g_iastore 108 (gd rfl) rfl (n := 400) rfl (in_ix i93 rfl) (have hI107 := rng_sI (q := 184) (j := y88_1.toNatClampNeg) hIc88 rfl (in_w (-2147483648) 2147483647 (i_rng z106) rfl); g_aload_n 109 (gd rfl) rfl rfl (g_getA (q2 := 185) 112 (gd rfl) rfl rfl rfl rfl (g_iload_n 113 (gd rfl) rfl rfl (g_aload_n 114 (gd rfl) rfl rfl (g_getA (q2 := 188) 117 (gd rfl) rfl rfl rfl rfl (g_iload_n 118 (gd rfl) rfl rfl (g_iaload 119 (gd rfl) rfl (n := 400) rfl (in_ix i93 rfl) (fun z118 e118 => g_iastore 120 (gd rfl) rfl (n := 400) rfl (in_ix i93 rfl) (have hI119 := rng_sI (q := 185) (j := y88_1.toNatClampNeg) hI107 rfl (in_w (-2147483648) 2147483647 (i_rng z118) rfl); g_iinc 123 (gd rfl) rfl rfl (Nat.le_of_ble_eq_true rfl) (fun z120 e120 => have i120 := in_add 1 400 e120 i93 (in_c 1 rfl) rfl rfl; g_goto 88 (gd rfl) rfl ?_)))))))))))))))))
        have n88 : ∀ k : Nat, (k : Int) < (z120).toInt → (sI (sI sc88 184 y88_1.toNatClampNeg z106) 185 y88_1.toNatClampNeg z118).1 184 k = (sI (sI sc88 184 y88_1.toNatClampNeg z106) 185 y88_1.toNatClampNeg z118).1 187 k ∧ (sI (sI sc88 184 y88_1.toNatClampNeg z106) 185 y88_1.toNatClampNeg z118).1 185 k = (sI (sI sc88 184 y88_1.toNatClampNeg z106) 185 y88_1.toNatClampNeg z118).1 188 k := by first | (intro k hk; exfalso; have h0 : (Int32.ofInt 0).toInt = 0 := rfl; omega) | exact cpy_s g88_0 e106 e118 j88_1.1 (t_add e120 i93 (in_c 1 rfl) rfl)
        have n88a : QQ (sI (sI sc88 184 y88_1.toNatClampNeg z106) 185 y88_1.toNatClampNeg z118) := by first | exact qq_s g88_1 | exact qq_0 p41a (by rw [← v41b]; rfl) (by have h := c58; rw [e55] at h; exact h) e41a i53.1 p63 p63a (by have h := c80; have h2 := i77; unfold In at h2; show ((sI s63 189 (Int32.ofInt 2).toNatClampNeg z63b).2.2.1 109 23).toInt = 0; rw [← e77]; omega) (hF63.1 189 rfl) e63a
        exact gg_w (by omega) (gg_f (gf_cons rfl (gf_cons rfl gf_nil)) (ih88 (sI (sI sc88 184 y88_1.toNatClampNeg z106) 185 y88_1.toNatClampNeg z118) z120 hI119 (fr_sI rfl (fr_sI rfl hFc88)) (in_w 0 400 i120 rfl) n88 n88a (m_up mm88 (t_add e120 i93 (in_c 1 rfl) rfl) (in_w 1 1 (in_c 1 rfl) rfl))))
  refine g_enter2 (k := 404) (N := 361801) (by omega) rfl (Nat.le_of_ble_eq_true rfl) (g_aload_n 1 (gd rfl) rfl rfl (g_iconst 0 2 (gd rfl) rfl rfl (g_putI 5 (gd rfl) rfl rfl rfl rfl (have hI2 := rng_sF (q := 109) (j := 0) hI.1 rfl (in_w 0 2 (in_c 0 rfl) rfl); g_aload_n 6 (gd rfl) rfl rfl (g_iconst 0 7 (gd rfl) rfl rfl (g_putI 10 (gd rfl) rfl rfl rfl rfl (have hI7 := rng_sF (q := 109) (j := 23) hI2 rfl (in_w 0 9 (in_c 0 rfl) rfl); g_aload_n 11 (gd rfl) rfl rfl (g_getIv (y := u_109_22) 14 (gd rfl) rfl rfl rfl (sF_ne rfl (sF_ne rfl (e_109_22))) (g_bipush 120 16 (gd rfl) rfl rfl (g_cmp_le 19 29 (gd rfl) rfl rfl (fun c16 => ?_) (fun c16 => ?_)))))))))))
  · skip
    have i16 := r_le1 0 120 c16 ro_109_22 (in_c 120 rfl) rfl
    refine g_aload_n 30 (gd rfl) rfl rfl (g_iconst 0 31 (gd rfl) rfl rfl (g_putI 34 (gd rfl) rfl rfl rfl rfl (have hI31 := rng_sF (q := 109) (j := 27) hI7 rfl (in_w 0 1000 (in_c 0 rfl) rfl); g_aload_n 35 (gd rfl) rfl rfl (g_iconst 0 36 (gd rfl) rfl rfl (g_putI 39 (gd rfl) rfl rfl rfl rfl (have hI36 := rng_sF (q := 109) (j := 109) hI31 rfl (in_w 0 400 (in_c 0 rfl) rfl); g_aload_n 40 (gd rfl) rfl rfl (g_iconst 1 41 (gd rfl) rfl rfl ?_)))))))
    have hI41 : Inv (sF (sF (sF (sF s 109 0 (Int32.ofInt 0)) 109 23 (Int32.ofInt 0)) 109 27 (Int32.ofInt 0)) 109 109 (Int32.ofInt 0)) := by have hFF : Fr ([187, 188, 189, 190], [], [(109, 0), (109, 23), (109, 24), (109, 27), (109, 28), (109, 29), (109, 30), (109, 109), (109, 111), (109, 112)], [(109, 31)]) s (sF (sF (sF (sF s 109 0 (Int32.ofInt 0)) 109 23 (Int32.ofInt 0)) 109 27 (Int32.ofInt 0)) 109 109 (Int32.ofInt 0)) := (fr_sF rfl (fr_sF rfl (fr_sF rfl (fr_sF rfl fr_rf)))); exact ⟨hI36, kk_all hI.2 hFF rfl⟩
    have v41 : (Int32.ofInt 0) = (sF (sF (sF (sF s 109 0 (Int32.ofInt 0)) 109 23 (Int32.ofInt 0)) 109 27 (Int32.ofInt 0)) 109 109 (Int32.ofInt 0)).2.2.1 109 27 := sF_ne rfl (sF_get)
    have v41a : u_109_22 = (sF (sF (sF (sF s 109 0 (Int32.ofInt 0)) 109 23 (Int32.ofInt 0)) 109 27 (Int32.ofInt 0)) 109 109 (Int32.ofInt 0)).2.2.1 109 22 := sF_ne rfl (sF_ne rfl (sF_ne rfl (sF_ne rfl (e_109_22))))
    have v41b : (Int32.ofInt 0) = (sF (sF (sF (sF s 109 0 (Int32.ofInt 0)) 109 23 (Int32.ofInt 0)) 109 27 (Int32.ofInt 0)) 109 109 (Int32.ofInt 0)).2.2.1 109 109 := sF_get
    have n41 : ((Int32.ofInt 0)).toInt ≤ (u_109_22).toInt := by exact (have a0 := in_u i16; have a1 := in_u ((in_c 0 rfl)); by omega)
    have n41a : (u_109_22).toInt ≤ 120 := by exact (have a0 := in_u i16; have a1 := in_u ((in_c 0 rfl)); by omega)
    have n41b : ((Int32.ofInt 0)).toInt ≤ ((Int32.ofInt 0)).toInt := by exact (have a0 := in_u i16; have a1 := in_u ((in_c 0 rfl)); by omega)
    refine g_callv (X := _) (As := [.int (Int32.ofInt 1)]) (r := []) (b := A 109) (q := 109) 44 (gd rfl) rfl rfl rfl rfl rfl (ww_o rfl) (Nat.le_of_ble_eq_true rfl) (Nat.zero_le _) (Nat.zero_le _) (k_403 (by omega) hI41 (in_w 0 1 (in_c 1 rfl) rfl) v41 v41a v41b n41 n41a n41b) (fun e u h => h) (fun v u h => ?_)
    obtain ⟨s41, hI41a, hF41, n41c, n41d, n41e, rfl, rfl, p41, p41a⟩ := h
    obtain ⟨z41a, e41⟩ : ∃ w, w = s41.2.2.1 109 27 := ⟨_, rfl⟩
    have i41a := rng_F hI41a.1 0 1000 rfl e41
    obtain ⟨z41b, e41a⟩ : ∃ w, w = s41.2.2.1 109 109 := ⟨_, rfl⟩
    have i41b := rng_F hI41a.1 0 400 rfl e41a
    rw [← (show z41a = s41.2.2.1 109 27 from e41)] at n41c
    rw [← (show u_109_22 = s41.2.2.1 109 22 from fr_F (s := (sF (sF (sF (sF s 109 0 (Int32.ofInt 0)) 109 23 (Int32.ofInt 0)) 109 27 (Int32.ofInt 0)) 109 109 (Int32.ofInt 0))) (sF_ne rfl (sF_ne rfl (sF_ne rfl (sF_ne rfl (e_109_22))))) hF41 rfl)] at n41c
    rw [← (show z41a = s41.2.2.1 109 27 from e41)] at n41d
    rw [← (show z41b = s41.2.2.1 109 109 from e41a)] at n41d
    rw [← (show (Int32.ofInt 0) = (sF (sF (sF (sF s 109 0 (Int32.ofInt 0)) 109 23 (Int32.ofInt 0)) 109 27 (Int32.ofInt 0)) 109 109 (Int32.ofInt 0)).2.2.1 109 109 from sF_get)] at n41e
    rw [← (show z41b = s41.2.2.1 109 109 from e41a)] at n41e
    show GG _ _ _ _ _ _ _ _ [] _ _ _
    refine g_aload_n 45 (gd rfl) rfl rfl (g_getA (q2 := 189) 48 (gd rfl) rfl rfl rfl rfl (g_iconst 1 49 (gd rfl) rfl rfl (g_aload_n 50 (gd rfl) rfl rfl (g_getIv (y := z41b) 53 (gd rfl) rfl rfl rfl (e41a) ?_))))
    have i53 : In z41b 0 120 := by exact ⟨by exact (have a0 := in_u i16; have a1 := in_u i41b; have a2 := in_u i41a; have a3 := in_u ((in_c 0 rfl)); by omega), by exact (have a0 := in_u i16; have a1 := in_u i41b; have a2 := in_u i41a; have a3 := in_u ((in_c 0 rfl)); by omega)⟩
    refine g_iastore 54 (gd rfl) rfl (n := 3) rfl (in_ix (in_c 1 rfl) rfl) (have hI53 := rng_sI (q := 189) (j := (Int32.ofInt 1).toNatClampNeg) hI41a.1 rfl (in_w 0 120 i53 rfl); g_aload_n 55 (gd rfl) rfl rfl (g_getI 58 (gd rfl) rfl rfl rfl (fun z55 e55 => have i55 := rng_F hI53 0 9 rfl e55; g_if_ne 61 66 (gd rfl) rfl rfl (fun c58 => ?_) (fun c58 => ?_))))
    · skip
      have i58 := z_ne 1 9 c58 i55 rfl
      refine g_aload_n 67 (gd rfl) rfl rfl (g_getA (q2 := 189) 70 (gd rfl) rfl rfl rfl rfl (g_iconst 2 71 (gd rfl) rfl rfl (g_aload_n 72 (gd rfl) rfl rfl (g_getIv (y := z41b) 75 (gd rfl) rfl rfl rfl (sI_F (e41a)) ?_))))
      have i75 : In z41b 0 120 := by exact ⟨by exact (have a0 := in_u i16; have a1 := in_u i58; have a2 := in_u i53; have a3 := in_u i41a; have a4 := in_u ((in_c 0 rfl)); by omega), by exact (have a0 := in_u i16; have a1 := in_u i58; have a2 := in_u i53; have a3 := in_u i41a; have a4 := in_u ((in_c 0 rfl)); by omega)⟩
      refine g_iastore 76 (gd rfl) rfl (n := 3) rfl (in_ix (in_c 2 rfl) rfl) (have hI75 := rng_sI (q := 189) (j := (Int32.ofInt 2).toNatClampNeg) hI53 rfl (in_w 0 120 i75 rfl); g_aload_n 77 (gd rfl) rfl rfl (g_getIv (y := z55) 80 (gd rfl) rfl rfl rfl (sI_F (e55)) (g_if_le 83 86 (gd rfl) rfl rfl (fun c80 => ?_) (fun c80 => ?_))))
      · skip
        exact zn_le c80 i58 rfl
      · skip
        refine g_bipush (-4) 85 (gd rfl) rfl rfl ?_
        have hI85 : Inv (sI (sI s41 189 (Int32.ofInt 1).toNatClampNeg z41b) 189 (Int32.ofInt 2).toNatClampNeg z41b) := by first | (have hFF : Fr ([187, 188, 189, 190], [], [(109, 0), (109, 23), (109, 24), (109, 27), (109, 28), (109, 29), (109, 30), (109, 109), (109, 111), (109, 112)], [(109, 31)]) s (sI (sI s41 189 (Int32.ofInt 1).toNatClampNeg z41b) 189 (Int32.ofInt 2).toNatClampNeg z41b) := (fr_sI rfl (fr_sI rfl (fr_tr rfl (fr_sF rfl (fr_sF rfl (fr_sF rfl (fr_sF rfl fr_rf)))) hF41))); exact ⟨hI75, kk_all hI.2 hFF rfl⟩) | (have hFF : Fr fm_404 s (sI (sI s41 189 (Int32.ofInt 1).toNatClampNeg z41b) 189 (Int32.ofInt 2).toNatClampNeg z41b) := (fr_sI rfl (fr_sI rfl (fr_tr rfl (fr_sF rfl (fr_sF rfl (fr_sF rfl (fr_sF rfl fr_rf)))) hF41))); exact ⟨hI75, kk_prog hI.2 hFF rfl (fin_kp g88_0 g88_1 e90 c93 e136 e148)⟩)
        exact g_ireturn (gd rfl) rfl rfl (hP _ _ ⟨(sI (sI s41 189 (Int32.ofInt 1).toNatClampNeg z41b) 189 (Int32.ofInt 2).toNatClampNeg z41b), hI85, (fr_sI rfl (fr_sI rfl (fr_tr rfl (fr_sF rfl (fr_sF rfl (fr_sF rfl (fr_sF rfl fr_rf)))) hF41))), (Int32.ofInt (-4)), rfl, rfl, in_w (-4) 0 (in_c (-4) rfl) rfl⟩)
    · skip
      have i58 := z_eq 0 0 c58 i55 rfl
      refine g_aload_n 62 (gd rfl) rfl rfl (g_iconst 0 63 (gd rfl) rfl rfl ?_)
      have hI63 : Inv (sI s41 189 (Int32.ofInt 1).toNatClampNeg z41b) := by have hFF : Fr ([187, 188, 189, 190], [], [(109, 0), (109, 23), (109, 24), (109, 27), (109, 28), (109, 29), (109, 30), (109, 109), (109, 111), (109, 112)], [(109, 31)]) s (sI s41 189 (Int32.ofInt 1).toNatClampNeg z41b) := (fr_sI rfl (fr_tr rfl (fr_sF rfl (fr_sF rfl (fr_sF rfl (fr_sF rfl fr_rf)))) hF41)); exact ⟨hI53, kk_all hI.2 hFF rfl⟩
      have v63 : z41a = (sI s41 189 (Int32.ofInt 1).toNatClampNeg z41b).2.2.1 109 27 := sI_F (e41)
      have v63a : u_109_22 = (sI s41 189 (Int32.ofInt 1).toNatClampNeg z41b).2.2.1 109 22 := sI_F (fr_F (s := (sF (sF (sF (sF s 109 0 (Int32.ofInt 0)) 109 23 (Int32.ofInt 0)) 109 27 (Int32.ofInt 0)) 109 109 (Int32.ofInt 0))) (sF_ne rfl (sF_ne rfl (sF_ne rfl (sF_ne rfl (e_109_22))))) hF41 rfl)
      have v63b : z41b = (sI s41 189 (Int32.ofInt 1).toNatClampNeg z41b).2.2.1 109 109 := sI_F (e41a)
      have n63 : (z41a).toInt ≤ (u_109_22).toInt := by exact (have a0 := in_u i16; have a1 := in_u i58; have a2 := in_u i53; have a3 := in_u i41a; have a4 := in_u ((in_c 0 rfl)); by omega)
      have n63a : (u_109_22).toInt ≤ 120 := by exact (have a0 := in_u i16; have a1 := in_u i58; have a2 := in_u i53; have a3 := in_u i41a; have a4 := in_u ((in_c 0 rfl)); by omega)
      have n63b : (z41b).toInt ≤ (z41a).toInt := by exact (have a0 := in_u i16; have a1 := in_u i58; have a2 := in_u i53; have a3 := in_u i41a; have a4 := in_u ((in_c 0 rfl)); by omega)
      refine g_callv (X := _) (As := [.int (Int32.ofInt 0)]) (r := []) (b := A 109) (q := 109) 66 (gd rfl) rfl rfl rfl rfl rfl (ww_o rfl) (Nat.le_of_ble_eq_true rfl) (Nat.zero_le _) (Nat.zero_le _) (k_403 (by omega) hI63 (in_w 0 1 (in_c 0 rfl) rfl) v63 v63a v63b n63 n63a n63b) (fun e u h => h) (fun v u h => ?_)
      obtain ⟨s63, hI63a, hF63, n63c, n63d, n63e, rfl, rfl, p63, p63a⟩ := h
      obtain ⟨z63a, e63⟩ : ∃ w, w = s63.2.2.1 109 27 := ⟨_, rfl⟩
      have i63a := rng_F hI63a.1 0 1000 rfl e63
      obtain ⟨z63b, e63a⟩ : ∃ w, w = s63.2.2.1 109 109 := ⟨_, rfl⟩
      have i63b := rng_F hI63a.1 0 400 rfl e63a
      rw [← (show z63a = s63.2.2.1 109 27 from e63)] at n63c
      rw [← (show u_109_22 = s63.2.2.1 109 22 from fr_F (s := (sI s41 189 (Int32.ofInt 1).toNatClampNeg z41b)) (sI_F (fr_F (s := (sF (sF (sF (sF s 109 0 (Int32.ofInt 0)) 109 23 (Int32.ofInt 0)) 109 27 (Int32.ofInt 0)) 109 109 (Int32.ofInt 0))) (sF_ne rfl (sF_ne rfl (sF_ne rfl (sF_ne rfl (e_109_22))))) hF41 rfl)) hF63 rfl)] at n63c
      rw [← (show z63a = s63.2.2.1 109 27 from e63)] at n63d
      rw [← (show z63b = s63.2.2.1 109 109 from e63a)] at n63d
      rw [← (show z41b = (sI s41 189 (Int32.ofInt 1).toNatClampNeg z41b).2.2.1 109 109 from sI_F (e41a))] at n63e
      rw [← (show z63b = s63.2.2.1 109 109 from e63a)] at n63e
      show GG _ _ _ _ _ _ _ _ [] _ _ _
      refine g_aload_n 67 (gd rfl) rfl rfl (g_getA (q2 := 189) 70 (gd rfl) rfl rfl rfl rfl (g_iconst 2 71 (gd rfl) rfl rfl (g_aload_n 72 (gd rfl) rfl rfl (g_getIv (y := z63b) 75 (gd rfl) rfl rfl rfl (e63a) ?_))))
      have i75 : In z63b 0 120 := by exact ⟨by exact (have a0 := in_u i16; have a1 := in_u i63b; have a2 := in_u i63a; have a3 := in_u ((in_c 0 rfl)); by omega), by exact (have a0 := in_u i16; have a1 := in_u i63b; have a2 := in_u i63a; have a3 := in_u ((in_c 0 rfl)); by omega)⟩
      refine g_iastore 76 (gd rfl) rfl (n := 3) rfl (in_ix (in_c 2 rfl) rfl) (have hI75 := rng_sI (q := 189) (j := (Int32.ofInt 2).toNatClampNeg) hI63a.1 rfl (in_w 0 120 i75 rfl); g_aload_n 77 (gd rfl) rfl rfl (g_getI 80 (gd rfl) rfl rfl rfl (fun z77 e77 => have i77 := rng_F hI75 0 9 rfl e77; g_if_le 83 86 (gd rfl) rfl rfl (fun c80 => ?_) (fun c80 => ?_))))
      · skip
        have i80 := z_le 0 0 c80 i77 rfl
        refine g_iconst 0 87 (gd rfl) rfl rfl (g_istore_n 88 (gd rfl) rfl (Nat.le_of_ble_eq_true rfl) ?_)
        have n88 : ∀ k : Nat, (k : Int) < ((Int32.ofInt 0)).toInt → (sI s63 189 (Int32.ofInt 2).toNatClampNeg z63b).1 184 k = (sI s63 189 (Int32.ofInt 2).toNatClampNeg z63b).1 187 k ∧ (sI s63 189 (Int32.ofInt 2).toNatClampNeg z63b).1 185 k = (sI s63 189 (Int32.ofInt 2).toNatClampNeg z63b).1 188 k := by first | (intro k hk; exfalso; have h0 : (Int32.ofInt 0).toInt = 0 := rfl; omega) | exact cpy_s g88_0 e106 e118 j88_1.1 (t_add e120 i93 (in_c 1 rfl) rfl)
        have n88a : QQ (sI s63 189 (Int32.ofInt 2).toNatClampNeg z63b) := by first | exact qq_s g88_1 | exact qq_0 p41a (by rw [← v41b]; rfl) (by have h := c58; rw [e55] at h; exact h) e41a i53.1 p63 p63a (by have h := c80; have h2 := i77; unfold In at h2; show ((sI s63 189 (Int32.ofInt 2).toNatClampNeg z63b).2.2.1 109 23).toInt = 0; rw [← e77]; omega) (hF63.1 189 rfl) e63a
        exact gg_w (by omega) (gg_f (gf_cons rfl (gf_cons rfl gf_nil)) (ct88 401 (sI s63 189 (Int32.ofInt 2).toNatClampNeg z63b) (Int32.ofInt 0) hI75 (fr_sI rfl (fr_tr rfl (fr_sI rfl (fr_tr rfl (fr_sF rfl (fr_sF rfl (fr_sF rfl (fr_sF rfl fr_rf)))) hF41)) hF63)) (in_w 0 400 (in_c 0 rfl) rfl) n88 n88a (m_in 401 (in_w 0 400 (in_c 0 rfl) rfl) rfl)))
      · skip
        have i80 := z_gt 1 9 c80 i77 rfl
        refine g_bipush (-4) 85 (gd rfl) rfl rfl ?_
        have hI85 : Inv (sI s63 189 (Int32.ofInt 2).toNatClampNeg z63b) := by first | (have hFF : Fr ([187, 188, 189, 190], [], [(109, 0), (109, 23), (109, 24), (109, 27), (109, 28), (109, 29), (109, 30), (109, 109), (109, 111), (109, 112)], [(109, 31)]) s (sI s63 189 (Int32.ofInt 2).toNatClampNeg z63b) := (fr_sI rfl (fr_tr rfl (fr_sI rfl (fr_tr rfl (fr_sF rfl (fr_sF rfl (fr_sF rfl (fr_sF rfl fr_rf)))) hF41)) hF63)); exact ⟨hI75, kk_all hI.2 hFF rfl⟩) | (have hFF : Fr fm_404 s (sI s63 189 (Int32.ofInt 2).toNatClampNeg z63b) := (fr_sI rfl (fr_tr rfl (fr_sI rfl (fr_tr rfl (fr_sF rfl (fr_sF rfl (fr_sF rfl (fr_sF rfl fr_rf)))) hF41)) hF63)); exact ⟨hI75, kk_prog hI.2 hFF rfl (fin_kp g88_0 g88_1 e90 c93 e136 e148)⟩)
        exact g_ireturn (gd rfl) rfl rfl (hP _ _ ⟨(sI s63 189 (Int32.ofInt 2).toNatClampNeg z63b), hI85, (fr_sI rfl (fr_tr rfl (fr_sI rfl (fr_tr rfl (fr_sF rfl (fr_sF rfl (fr_sF rfl (fr_sF rfl fr_rf)))) hF41)) hF63)), (Int32.ofInt (-4)), rfl, rfl, in_w (-4) 0 (in_c (-4) rfl) rfl⟩)
  · skip
    have i16 := r_lt2 121 1000 c16 (in_c 120 rfl) ro_109_22 rfl
    refine g_aload_n 20 (gd rfl) rfl rfl (g_iconst 2 21 (gd rfl) rfl rfl (g_bipush 120 23 (gd rfl) rfl rfl ?_))
    have hI23 : Inv (sF (sF s 109 0 (Int32.ofInt 0)) 109 23 (Int32.ofInt 0)) := by have hFF : Fr ([187, 188, 189, 190], [], [(109, 0), (109, 23), (109, 24), (109, 27), (109, 28), (109, 29), (109, 30), (109, 109), (109, 111), (109, 112)], [(109, 31)]) s (sF (sF s 109 0 (Int32.ofInt 0)) 109 23 (Int32.ofInt 0)) := (fr_sF rfl (fr_sF rfl fr_rf)); exact ⟨hI7, kk_all hI.2 hFF rfl⟩
    refine g_callv (X := _) (As := [.int (Int32.ofInt 2), .int (Int32.ofInt 120)]) (r := []) (b := A 109) (q := 109) 26 (gd rfl) rfl rfl rfl rfl rfl (ww_o rfl) (Nat.le_of_ble_eq_true rfl) (Nat.zero_le _) (Nat.zero_le _) (k_298 (by omega) hI23 (in_w 1 5 (in_c 2 rfl) rfl)) (fun e u h => h) (fun v u h => ?_)
    obtain ⟨s23, hI23a, hF23, n23, rfl, rfl⟩ := h
    obtain ⟨z23a, e23⟩ : ∃ w, w = s23.2.2.1 109 23 := ⟨_, rfl⟩
    have i23a := rng_F hI23a.1 0 9 rfl e23
    rw [← (show z23a = s23.2.2.1 109 23 from e23)] at n23
    show GG _ _ _ _ _ _ _ _ [] _ _ _
    refine g_bipush (-4) 28 (gd rfl) rfl rfl ?_
    have hI28 : Inv s23 := by first | (have hFF : Fr ([187, 188, 189, 190], [], [(109, 0), (109, 23), (109, 24), (109, 27), (109, 28), (109, 29), (109, 30), (109, 109), (109, 111), (109, 112)], [(109, 31)]) s s23 := (fr_tr rfl (fr_sF rfl (fr_sF rfl fr_rf)) hF23); exact ⟨hI23a.1, kk_all hI.2 hFF rfl⟩) | (have hFF : Fr fm_404 s s23 := (fr_tr rfl (fr_sF rfl (fr_sF rfl fr_rf)) hF23); exact ⟨hI23a.1, kk_prog hI.2 hFF rfl (fin_kp g88_0 g88_1 e90 c93 e136 e148)⟩)
    exact g_ireturn (gd rfl) rfl rfl (hP _ _ ⟨s23, hI28, (fr_tr rfl (fr_sF rfl (fr_sF rfl fr_rf)) hF23), (Int32.ofInt (-4)), rfl, rfl, in_w (-4) 0 (in_c (-4) rfl) rfl⟩)

def fm_408 : FM := ([], [193], [], [])
/-- GraphHouseModel.workOut -/
theorem k_408 {Z : AmZ} {A : Nat → Nat} {s : GS} {ex : va_W} {d : Nat} {X : AmX} {x1 : Int32} (hd : 3 ≤ d) (hI : Inv s) (h1 : In x1 0 1) : GC Z d 408 [.ref (A 109), .int x1] (WW Z A s ++ ex) 0 0 (fun v u => ∃ t : GS, Inv t ∧ Fr fm_408 s t ∧ ∃ z : Int64, v = some (.long z) ∧ u = WW Z A t ++ ex) X := by
  intro post xp hP hX
  have ct17 : ∀ (k17 : Nat) (sc17 : GS) (y17_2 : Int32) (y17_3 : Int32), Inv sc17 → Fr fm_408 s sc17 → (In y17_2 0 120) → (In y17_3 0 120) → ((y17_2).toInt ≤ (y17_3).toInt) → (WS sc17 x1 y17_3 y17_2) → 120 - (y17_3).toInt < (k17 : Int) → GG Z (d - 1) 408 post (gx xp) (1 + k17 * 900) 17 (fun j => xlook j [(0, .ref (A 109)), (1, .int x1), (2, .int y17_2), (3, .int y17_3)]) [] (WW Z A sc17 ++ ex) 0 0 := by
    intro k17
    induction k17 with
    | zero => intro sc17 y17_2 y17_3 hIc17 hFc17 j17_2 j17_3 n17_0 g17_0 mm17; exact m_no mm17 j17_3 rfl
    | succ k17 ih17 =>
      intro sc17 y17_2 y17_3 hIc17 hFc17 j17_2 j17_3 n17_0 g17_0 mm17
      refine gg_w (M := 1 + k17 * 900 + 900) (by omega) (g_iload_n 18 (gd rfl) rfl rfl (g_aload_n 19 (gd rfl) rfl rfl (g_getA (q2 := 186) 22 (gd rfl) rfl rfl rfl rfl (g_iload_n 23 (gd rfl) rfl rfl (g_iconst 1 24 (gd rfl) rfl rfl (g_iadd 25 (gd rfl) rfl (fun z24 e24 => have i24 := in_add 1 2 e24 h1 (in_c 1 rfl) rfl rfl; g_iaload 26 (gd rfl) rfl (n := 3) rfl (in_ix i24 rfl) (fun z25 e25 => have i25 := inv_I hIc17 (n := 3) (t := 0) 0 120 rfl (in_ix i24 rfl) rfl e25; g_cmp_ge 29 232 (gd rfl) rfl rfl (fun c26 => ?_) (fun c26 => ?_)))))))))
      · skip
        exact g_aload_n 233 (gd rfl) rfl rfl (g_getA (q2 := 193) 236 (gd rfl) rfl rfl rfl rfl (g_iconst 0 237 (gd rfl) rfl rfl (g_laload 238 (gd rfl) rfl (n := 200) rfl (in_ix (in_c 0 rfl) rfl) (fun z237 e237 => g_lreturn (gd rfl) rfl (hP _ _ ⟨sc17, hIc17, hFc17, z237, rfl, rfl⟩)))))
      · skip
        have i26 := r_lt1 0 119 c26 j17_3 i25 rfl
        have i26a := r_lt2 1 120 c26 j17_3 i25 rfl
        refine g_aload_n 30 (gd rfl) rfl rfl (g_getA (q2 := 184) 33 (gd rfl) rfl rfl rfl rfl (g_iload_n 34 (gd rfl) rfl rfl (g_iaload 35 (gd rfl) rfl (n := 400) rfl (in_ix i26 rfl) (fun z34 e34 => g_istore 37 (gd rfl) rfl (Nat.le_of_ble_eq_true rfl) ?_))))
        obtain ⟨kn, hk1, hk2⟩ := ws_ok hIc17 h1 g17_0 e34 (t_add e24 h1 (in_c 1 rfl) rfl) e25 c26; have hkle := ws_le g17_0; have hk0 := g17_0.1
        refine g_iload 39 (gd rfl) rfl rfl (g_iconst 2 40 (gd rfl) rfl rfl (g_cmp_ge 43 81 (gd rfl) rfl rfl (fun c40 => ?_) (fun c40 => ?_)))
        · skip
          have i40 := r_le2 2 2147483647 c40 (in_c 2 rfl) (i_rng z34) rfl
          refine g_iload 83 (gd rfl) rfl rfl (g_iconst 2 84 (gd rfl) rfl rfl (g_cmp_ne 87 110 (gd rfl) rfl rfl (fun c84 => ?_) (fun c84 => ?_)))
          · skip
            have i84 := r_ne1 3 2147483647 c84 i40 (in_c 2 rfl) rfl
            have hk3 := hs_3 hk1 (by exact (have a0 := in_u h1; have a1 := in_u i26; have a2 := in_u j17_2; have a3 := in_u i84; have a4 := in_u i24; have a5 := t_add e24 h1 (in_c 1 rfl) rfl; have a6 := in_u ((in_c 1 rfl)); by omega)) c84
            refine g_iinc 113 (gd rfl) rfl rfl (Nat.le_of_ble_eq_true rfl) (fun z110 e110 => have i110 := in_add (-1) 119 e110 j17_2 (in_c (-1) rfl) rfl rfl; g_aload_n 114 (gd rfl) rfl rfl (g_getA (q2 := 193) 117 (gd rfl) rfl rfl rfl rfl (g_iload_n 118 (gd rfl) rfl rfl (g_iconst 1 119 (gd rfl) rfl rfl (g_isub 120 (gd rfl) rfl (fun z119 e119 => ?_))))))
            have i119 := in_sub (-2) 118 e119 i110 (in_c 1 rfl) rfl rfl
            have i120 : In z119 0 199 := by exact (have a0 := in_u h1; have a1 := in_u i26; have a2 := in_u j17_2; have a3 := in_u i84; have a4 := in_u i110; have a5 := t_add e110 j17_2 (in_c (-1) rfl) rfl; have a6 := in_u ((in_c (-1) rfl)); have a7 := in_u i119; have a8 := t_sub e119 i110 (in_c 1 rfl) rfl; have a9 := in_u ((in_c 1 rfl)); have a10 := in_u i24; have a11 := t_add e24 h1 (in_c 1 rfl) rfl; ⟨by omega, by omega⟩)
            refine g_laload 121 (gd rfl) rfl (n := 200) rfl (in_ix i120 rfl) (fun z120 e120 => g_lstore 123 (gd rfl) rfl (Nat.le_of_ble_eq_true rfl) (g_aload_n 124 (gd rfl) rfl rfl (g_getA (q2 := 193) 127 (gd rfl) rfl rfl rfl rfl (g_iload_n 128 (gd rfl) rfl rfl ?_))))
            have i128 : In z110 0 199 := by exact (have a0 := in_u h1; have a1 := in_u i26; have a2 := in_u j17_2; have a3 := in_u i84; have a4 := in_u i110; have a5 := t_add e110 j17_2 (in_c (-1) rfl) rfl; have a6 := in_u ((in_c (-1) rfl)); have a7 := in_u i120; have a8 := t_sub e119 i110 (in_c 1 rfl) rfl; have a9 := in_u ((in_c 1 rfl)); have a10 := in_u i24; have a11 := t_add e24 h1 (in_c 1 rfl) rfl; ⟨by omega, by omega⟩)
            refine g_laload 129 (gd rfl) rfl (n := 200) rfl (in_ix i128 rfl) (fun z128 e128 => g_lstore 131 (gd rfl) rfl (Nat.le_of_ble_eq_true rfl) (g_aload_n 132 (gd rfl) rfl rfl (g_getA (q2 := 193) 135 (gd rfl) rfl rfl rfl rfl (g_iload_n 136 (gd rfl) rfl rfl (g_iconst 1 137 (gd rfl) rfl rfl (g_isub 138 (gd rfl) rfl (fun z137 e137 => have i137 := in_sub (-1) 198 e137 i128 (in_c 1 rfl) rfl rfl; g_iload 140 (gd rfl) rfl rfl (g_bipush 42 142 (gd rfl) rfl rfl (g_cmp_ne 145 158 (gd rfl) rfl rfl (fun c142 => ?_) (fun c142 => ?_))))))))))
            · skip
              refine g_iload 160 (gd rfl) rfl rfl (g_bipush 43 162 (gd rfl) rfl rfl (g_cmp_ne 165 176 (gd rfl) rfl rfl (fun c162 => ?_) (fun c162 => ?_)))
              · skip
                refine g_iload 178 (gd rfl) rfl rfl (g_bipush 45 180 (gd rfl) rfl rfl (g_cmp_ne 183 194 (gd rfl) rfl rfl (fun c180 => ?_) (fun c180 => ?_)))
                · skip
                  refine g_iload 196 (gd rfl) rfl rfl (g_bipush 60 198 (gd rfl) rfl rfl (g_cmp_ne 201 212 (gd rfl) rfl rfl (fun c198 => ?_) (fun c198 => ?_)))
                  · skip
                    refine g_lload 214 (gd rfl) rfl rfl (g_lload 216 (gd rfl) rfl rfl (g_lcmp 217 (gd rfl) rfl (fun z216 e216 => have i216 := lc_in e216; g_if_ne 220 224 (gd rfl) rfl rfl (fun c217 => ?_) (fun c217 => ?_))))
                    · skip
                      have c217a := lc_ne e216 c217
                      refine g_lconst 0 225 (gd rfl) rfl rfl ?_
                      have i225 : In z137 0 199 := by exact (have a0 := in_u h1; have a1 := in_u i26; have a2 := in_u j17_2; have a3 := in_u i84; have a4 := in_u i128; have a5 := t_add e110 j17_2 (in_c (-1) rfl) rfl; have a6 := in_u ((in_c (-1) rfl)); have a7 := in_u i137; have a8 := t_sub e137 i128 (in_c 1 rfl) rfl; have a9 := in_u ((in_c 1 rfl)); have a10 := in_u i120; have a11 := t_sub e119 i110 (in_c 1 rfl) rfl; have a12 := in_u i24; have a13 := t_add e24 h1 (in_c 1 rfl) rfl; ⟨by omega, by omega⟩)
                      refine g_lastore 226 (gd rfl) rfl (n := 200) rfl (in_ix i225 rfl) (have hI225 := inv_sL (q := 193) (j := z137.toNatClampNeg) (x := (Int64.ofInt 0)) hIc17 rfl (l_rng (Int64.ofInt 0)); g_iinc 229 (gd rfl) rfl rfl (Nat.le_of_ble_eq_true rfl) (fun z226 e226 => have i226 := in_add 1 120 e226 i26 (in_c 1 rfl) rfl rfl; g_goto 17 (gd rfl) rfl ?_))
                      have i17 : In z110 0 120 := by exact ⟨by exact (have a0 := in_u h1; have a1 := in_u i26; have a2 := in_u j17_2; have a3 := in_u i84; have a4 := in_u i226; have a5 := t_add e226 i26 (in_c 1 rfl) rfl; have a6 := in_u ((in_c 1 rfl)); have a7 := in_u i128; have a8 := t_add e110 j17_2 (in_c (-1) rfl) rfl; have a9 := in_u ((in_c (-1) rfl)); have a10 := in_u i225; have a11 := t_sub e137 i128 (in_c 1 rfl) rfl; have a12 := in_u i120; have a13 := t_sub e119 i110 (in_c 1 rfl) rfl; have a14 := in_u i24; have a15 := t_add e24 h1 (in_c 1 rfl) rfl; by omega), by exact (have a0 := in_u h1; have a1 := in_u i26; have a2 := in_u j17_2; have a3 := in_u i84; have a4 := in_u i226; have a5 := t_add e226 i26 (in_c 1 rfl) rfl; have a6 := in_u ((in_c 1 rfl)); have a7 := in_u i128; have a8 := t_add e110 j17_2 (in_c (-1) rfl) rfl; have a9 := in_u ((in_c (-1) rfl)); have a10 := in_u i225; have a11 := t_sub e137 i128 (in_c 1 rfl) rfl; have a12 := in_u i120; have a13 := t_sub e119 i110 (in_c 1 rfl) rfl; have a14 := in_u i24; have a15 := t_add e24 h1 (in_c 1 rfl) rfl; by omega)⟩
                      have n17 : (z110).toInt ≤ (z226).toInt := by exact (have a0 := in_u h1; have a1 := in_u i26; have a2 := in_u j17_2; have a3 := in_u i84; have a4 := in_u i226; have a5 := t_add e226 i26 (in_c 1 rfl) rfl; have a6 := in_u ((in_c 1 rfl)); have a7 := in_u i17; have a8 := t_add e110 j17_2 (in_c (-1) rfl) rfl; have a9 := in_u ((in_c (-1) rfl)); have a10 := in_u i225; have a11 := t_sub e137 i128 (in_c 1 rfl) rfl; have a12 := in_u i120; have a13 := t_sub e119 i110 (in_c 1 rfl) rfl; have a14 := in_u i24; have a15 := t_add e24 h1 (in_c 1 rfl) rfl; by omega)
                      have n17a : WS (sL sc17 193 z137.toNatClampNeg (Int64.ofInt 0)) x1 z226 z110 := by first | exact hk2 _ _ (by exact (have a0 := in_u h1; have a1 := in_u i26; have a2 := in_u j17_2; have a3 := in_u i84; have a4 := in_u i226; have a5 := t_add e226 i26 (in_c 1 rfl) rfl; have a6 := in_u ((in_c 1 rfl)); have a7 := in_u i17; have a8 := t_add e110 j17_2 (in_c (-1) rfl) rfl; have a9 := in_u ((in_c (-1) rfl)); have a10 := in_u i225; have a11 := t_sub e137 i128 (in_c 1 rfl) rfl; have a12 := in_u i120; have a13 := t_sub e119 i110 (in_c 1 rfl) rfl; have a14 := in_u i24; have a15 := t_add e24 h1 (in_c 1 rfl) rfl; by omega)) (by exact (have a0 := in_u h1; have a1 := in_u i26; have a2 := in_u j17_2; have a3 := in_u i84; have a4 := in_u i226; have a5 := t_add e226 i26 (in_c 1 rfl) rfl; have a6 := in_u ((in_c 1 rfl)); have a7 := in_u i17; have a8 := t_add e110 j17_2 (in_c (-1) rfl) rfl; have a9 := in_u ((in_c (-1) rfl)); have a10 := in_u i225; have a11 := t_sub e137 i128 (in_c 1 rfl) rfl; have a12 := in_u i120; have a13 := t_sub e119 i110 (in_c 1 rfl) rfl; have a14 := in_u i24; have a15 := t_add e24 h1 (in_c 1 rfl) rfl; by omega)) | exact ws_0 rfl (by first | exact (by decide) | exact i15.1) (by unfold wa; first | (rw [if_pos c3]; rfl) | (rw [if_neg c3, e15]; rfl))
                      exact gg_w (by omega) (gg_f (gf_cons rfl (gf_cons rfl (gf_cons rfl (gf_cons rfl gf_nil)))) (ih17 (sL sc17 193 z137.toNatClampNeg (Int64.ofInt 0)) z110 z226 hI225 (fr_sL rfl hFc17) i17 (in_w 0 120 i226 rfl) n17 n17a (m_up mm17 (t_add e226 i26 (in_c 1 rfl) rfl) (in_w 1 1 (in_c 1 rfl) rfl))))
                    · skip
                      have i217 := z_eq 0 0 c217 i216 rfl
                      have c217a := lc_eq e216 c217
                      refine g_lconst 1 221 (gd rfl) rfl rfl (g_goto 225 (gd rfl) rfl ?_)
                      have i225 : In z137 0 199 := by exact (have a0 := in_u h1; have a1 := in_u i26; have a2 := in_u j17_2; have a3 := in_u i84; have a4 := in_u i128; have a5 := t_add e110 j17_2 (in_c (-1) rfl) rfl; have a6 := in_u ((in_c (-1) rfl)); have a7 := in_u i137; have a8 := t_sub e137 i128 (in_c 1 rfl) rfl; have a9 := in_u ((in_c 1 rfl)); have a10 := in_u i120; have a11 := t_sub e119 i110 (in_c 1 rfl) rfl; have a12 := in_u i24; have a13 := t_add e24 h1 (in_c 1 rfl) rfl; ⟨by omega, by omega⟩)
                      refine g_lastore 226 (gd rfl) rfl (n := 200) rfl (in_ix i225 rfl) (have hI225 := inv_sL (q := 193) (j := z137.toNatClampNeg) (x := (Int64.ofInt 1)) hIc17 rfl (l_rng (Int64.ofInt 1)); g_iinc 229 (gd rfl) rfl rfl (Nat.le_of_ble_eq_true rfl) (fun z226 e226 => have i226 := in_add 1 120 e226 i26 (in_c 1 rfl) rfl rfl; g_goto 17 (gd rfl) rfl ?_))
                      have i17 : In z110 0 120 := by exact ⟨by exact (have a0 := in_u h1; have a1 := in_u i26; have a2 := in_u j17_2; have a3 := in_u i84; have a4 := in_u i226; have a5 := t_add e226 i26 (in_c 1 rfl) rfl; have a6 := in_u ((in_c 1 rfl)); have a7 := in_u i128; have a8 := t_add e110 j17_2 (in_c (-1) rfl) rfl; have a9 := in_u ((in_c (-1) rfl)); have a10 := in_u i225; have a11 := t_sub e137 i128 (in_c 1 rfl) rfl; have a12 := in_u i120; have a13 := t_sub e119 i110 (in_c 1 rfl) rfl; have a14 := in_u i24; have a15 := t_add e24 h1 (in_c 1 rfl) rfl; by omega), by exact (have a0 := in_u h1; have a1 := in_u i26; have a2 := in_u j17_2; have a3 := in_u i84; have a4 := in_u i226; have a5 := t_add e226 i26 (in_c 1 rfl) rfl; have a6 := in_u ((in_c 1 rfl)); have a7 := in_u i128; have a8 := t_add e110 j17_2 (in_c (-1) rfl) rfl; have a9 := in_u ((in_c (-1) rfl)); have a10 := in_u i225; have a11 := t_sub e137 i128 (in_c 1 rfl) rfl; have a12 := in_u i120; have a13 := t_sub e119 i110 (in_c 1 rfl) rfl; have a14 := in_u i24; have a15 := t_add e24 h1 (in_c 1 rfl) rfl; by omega)⟩
                      have n17 : (z110).toInt ≤ (z226).toInt := by exact (have a0 := in_u h1; have a1 := in_u i26; have a2 := in_u j17_2; have a3 := in_u i84; have a4 := in_u i226; have a5 := t_add e226 i26 (in_c 1 rfl) rfl; have a6 := in_u ((in_c 1 rfl)); have a7 := in_u i17; have a8 := t_add e110 j17_2 (in_c (-1) rfl) rfl; have a9 := in_u ((in_c (-1) rfl)); have a10 := in_u i225; have a11 := t_sub e137 i128 (in_c 1 rfl) rfl; have a12 := in_u i120; have a13 := t_sub e119 i110 (in_c 1 rfl) rfl; have a14 := in_u i24; have a15 := t_add e24 h1 (in_c 1 rfl) rfl; by omega)
                      have n17a : WS (sL sc17 193 z137.toNatClampNeg (Int64.ofInt 1)) x1 z226 z110 := by first | exact hk2 _ _ (by exact (have a0 := in_u h1; have a1 := in_u i26; have a2 := in_u j17_2; have a3 := in_u i84; have a4 := in_u i226; have a5 := t_add e226 i26 (in_c 1 rfl) rfl; have a6 := in_u ((in_c 1 rfl)); have a7 := in_u i17; have a8 := t_add e110 j17_2 (in_c (-1) rfl) rfl; have a9 := in_u ((in_c (-1) rfl)); have a10 := in_u i225; have a11 := t_sub e137 i128 (in_c 1 rfl) rfl; have a12 := in_u i120; have a13 := t_sub e119 i110 (in_c 1 rfl) rfl; have a14 := in_u i24; have a15 := t_add e24 h1 (in_c 1 rfl) rfl; by omega)) (by exact (have a0 := in_u h1; have a1 := in_u i26; have a2 := in_u j17_2; have a3 := in_u i84; have a4 := in_u i226; have a5 := t_add e226 i26 (in_c 1 rfl) rfl; have a6 := in_u ((in_c 1 rfl)); have a7 := in_u i17; have a8 := t_add e110 j17_2 (in_c (-1) rfl) rfl; have a9 := in_u ((in_c (-1) rfl)); have a10 := in_u i225; have a11 := t_sub e137 i128 (in_c 1 rfl) rfl; have a12 := in_u i120; have a13 := t_sub e119 i110 (in_c 1 rfl) rfl; have a14 := in_u i24; have a15 := t_add e24 h1 (in_c 1 rfl) rfl; by omega)) | exact ws_0 rfl (by first | exact (by decide) | exact i15.1) (by unfold wa; first | (rw [if_pos c3]; rfl) | (rw [if_neg c3, e15]; rfl))
                      exact gg_w (by omega) (gg_f (gf_cons rfl (gf_cons rfl (gf_cons rfl (gf_cons rfl gf_nil)))) (ih17 (sL sc17 193 z137.toNatClampNeg (Int64.ofInt 1)) z110 z226 hI225 (fr_sL rfl hFc17) i17 (in_w 0 120 i226 rfl) n17 n17a (m_up mm17 (t_add e226 i26 (in_c 1 rfl) rfl) (in_w 1 1 (in_c 1 rfl) rfl))))
                  · skip
                    have i198 := r_eq1 60 60 c198 i84 (in_c 60 rfl) rfl
                    refine g_lload 203 (gd rfl) rfl rfl (g_lload 205 (gd rfl) rfl rfl (g_lcmp 206 (gd rfl) rfl (fun z205 e205 => have i205 := lc_in e205; g_if_ge 209 224 (gd rfl) rfl rfl (fun c206 => ?_) (fun c206 => ?_))))
                    · skip
                      have i206 := z_ge 0 1 c206 i205 rfl
                      have c206a := lc_ge e205 c206
                      refine g_lconst 0 225 (gd rfl) rfl rfl ?_
                      have i225 : In z137 0 199 := by exact (have a0 := in_u h1; have a1 := in_u i26; have a2 := in_u j17_2; have a3 := in_u i198; have a4 := in_u i128; have a5 := t_add e110 j17_2 (in_c (-1) rfl) rfl; have a6 := in_u ((in_c (-1) rfl)); have a7 := in_u i137; have a8 := t_sub e137 i128 (in_c 1 rfl) rfl; have a9 := in_u ((in_c 1 rfl)); have a10 := in_u i120; have a11 := t_sub e119 i110 (in_c 1 rfl) rfl; have a12 := in_u i24; have a13 := t_add e24 h1 (in_c 1 rfl) rfl; ⟨by omega, by omega⟩)
                      refine g_lastore 226 (gd rfl) rfl (n := 200) rfl (in_ix i225 rfl) (have hI225 := inv_sL (q := 193) (j := z137.toNatClampNeg) (x := (Int64.ofInt 0)) hIc17 rfl (l_rng (Int64.ofInt 0)); g_iinc 229 (gd rfl) rfl rfl (Nat.le_of_ble_eq_true rfl) (fun z226 e226 => have i226 := in_add 1 120 e226 i26 (in_c 1 rfl) rfl rfl; g_goto 17 (gd rfl) rfl ?_))
                      have i17 : In z110 0 120 := by exact ⟨by exact (have a0 := in_u h1; have a1 := in_u i26; have a2 := in_u j17_2; have a3 := in_u i198; have a4 := in_u i226; have a5 := t_add e226 i26 (in_c 1 rfl) rfl; have a6 := in_u ((in_c 1 rfl)); have a7 := in_u i128; have a8 := t_add e110 j17_2 (in_c (-1) rfl) rfl; have a9 := in_u ((in_c (-1) rfl)); have a10 := in_u i225; have a11 := t_sub e137 i128 (in_c 1 rfl) rfl; have a12 := in_u i120; have a13 := t_sub e119 i110 (in_c 1 rfl) rfl; have a14 := in_u i24; have a15 := t_add e24 h1 (in_c 1 rfl) rfl; by omega), by exact (have a0 := in_u h1; have a1 := in_u i26; have a2 := in_u j17_2; have a3 := in_u i198; have a4 := in_u i226; have a5 := t_add e226 i26 (in_c 1 rfl) rfl; have a6 := in_u ((in_c 1 rfl)); have a7 := in_u i128; have a8 := t_add e110 j17_2 (in_c (-1) rfl) rfl; have a9 := in_u ((in_c (-1) rfl)); have a10 := in_u i225; have a11 := t_sub e137 i128 (in_c 1 rfl) rfl; have a12 := in_u i120; have a13 := t_sub e119 i110 (in_c 1 rfl) rfl; have a14 := in_u i24; have a15 := t_add e24 h1 (in_c 1 rfl) rfl; by omega)⟩
                      have n17 : (z110).toInt ≤ (z226).toInt := by exact (have a0 := in_u h1; have a1 := in_u i26; have a2 := in_u j17_2; have a3 := in_u i198; have a4 := in_u i226; have a5 := t_add e226 i26 (in_c 1 rfl) rfl; have a6 := in_u ((in_c 1 rfl)); have a7 := in_u i17; have a8 := t_add e110 j17_2 (in_c (-1) rfl) rfl; have a9 := in_u ((in_c (-1) rfl)); have a10 := in_u i225; have a11 := t_sub e137 i128 (in_c 1 rfl) rfl; have a12 := in_u i120; have a13 := t_sub e119 i110 (in_c 1 rfl) rfl; have a14 := in_u i24; have a15 := t_add e24 h1 (in_c 1 rfl) rfl; by omega)
                      have n17a : WS (sL sc17 193 z137.toNatClampNeg (Int64.ofInt 0)) x1 z226 z110 := by first | exact hk2 _ _ (by exact (have a0 := in_u h1; have a1 := in_u i26; have a2 := in_u j17_2; have a3 := in_u i198; have a4 := in_u i226; have a5 := t_add e226 i26 (in_c 1 rfl) rfl; have a6 := in_u ((in_c 1 rfl)); have a7 := in_u i17; have a8 := t_add e110 j17_2 (in_c (-1) rfl) rfl; have a9 := in_u ((in_c (-1) rfl)); have a10 := in_u i225; have a11 := t_sub e137 i128 (in_c 1 rfl) rfl; have a12 := in_u i120; have a13 := t_sub e119 i110 (in_c 1 rfl) rfl; have a14 := in_u i24; have a15 := t_add e24 h1 (in_c 1 rfl) rfl; by omega)) (by exact (have a0 := in_u h1; have a1 := in_u i26; have a2 := in_u j17_2; have a3 := in_u i198; have a4 := in_u i226; have a5 := t_add e226 i26 (in_c 1 rfl) rfl; have a6 := in_u ((in_c 1 rfl)); have a7 := in_u i17; have a8 := t_add e110 j17_2 (in_c (-1) rfl) rfl; have a9 := in_u ((in_c (-1) rfl)); have a10 := in_u i225; have a11 := t_sub e137 i128 (in_c 1 rfl) rfl; have a12 := in_u i120; have a13 := t_sub e119 i110 (in_c 1 rfl) rfl; have a14 := in_u i24; have a15 := t_add e24 h1 (in_c 1 rfl) rfl; by omega)) | exact ws_0 rfl (by first | exact (by decide) | exact i15.1) (by unfold wa; first | (rw [if_pos c3]; rfl) | (rw [if_neg c3, e15]; rfl))
                      exact gg_w (by omega) (gg_f (gf_cons rfl (gf_cons rfl (gf_cons rfl (gf_cons rfl gf_nil)))) (ih17 (sL sc17 193 z137.toNatClampNeg (Int64.ofInt 0)) z110 z226 hI225 (fr_sL rfl hFc17) i17 (in_w 0 120 i226 rfl) n17 n17a (m_up mm17 (t_add e226 i26 (in_c 1 rfl) rfl) (in_w 1 1 (in_c 1 rfl) rfl))))
                    · skip
                      have i206 := z_lt (-1) (-1) c206 i205 rfl
                      have c206a := lc_lt e205 c206
                      have i206a := lr_lt1 (-9223372036854775808) 9223372036854775806 c206a (l_rng z120) (l_rng z128) rfl
                      have i206b := lr_lt2 (-9223372036854775807) 9223372036854775807 c206a (l_rng z120) (l_rng z128) rfl
                      refine g_goto 220 (gd rfl) rfl (g_lconst 1 221 (gd rfl) rfl rfl (g_goto 225 (gd rfl) rfl ?_))
                      have i225 : In z137 0 199 := by exact (have a0 := in_u h1; have a1 := in_u i26; have a2 := in_u j17_2; have a3 := in_u i198; have a4 := in_u i128; have a5 := t_add e110 j17_2 (in_c (-1) rfl) rfl; have a6 := in_u ((in_c (-1) rfl)); have a7 := in_u i137; have a8 := t_sub e137 i128 (in_c 1 rfl) rfl; have a9 := in_u ((in_c 1 rfl)); have a10 := in_u i120; have a11 := t_sub e119 i110 (in_c 1 rfl) rfl; have a12 := in_u i24; have a13 := t_add e24 h1 (in_c 1 rfl) rfl; ⟨by omega, by omega⟩)
                      refine g_lastore 226 (gd rfl) rfl (n := 200) rfl (in_ix i225 rfl) (have hI225 := inv_sL (q := 193) (j := z137.toNatClampNeg) (x := (Int64.ofInt 1)) hIc17 rfl (l_rng (Int64.ofInt 1)); g_iinc 229 (gd rfl) rfl rfl (Nat.le_of_ble_eq_true rfl) (fun z226 e226 => have i226 := in_add 1 120 e226 i26 (in_c 1 rfl) rfl rfl; g_goto 17 (gd rfl) rfl ?_))
                      have i17 : In z110 0 120 := by exact ⟨by exact (have a0 := in_u h1; have a1 := in_u i26; have a2 := in_u j17_2; have a3 := in_u i198; have a4 := in_u i226; have a5 := t_add e226 i26 (in_c 1 rfl) rfl; have a6 := in_u ((in_c 1 rfl)); have a7 := in_u i128; have a8 := t_add e110 j17_2 (in_c (-1) rfl) rfl; have a9 := in_u ((in_c (-1) rfl)); have a10 := in_u i225; have a11 := t_sub e137 i128 (in_c 1 rfl) rfl; have a12 := in_u i120; have a13 := t_sub e119 i110 (in_c 1 rfl) rfl; have a14 := in_u i24; have a15 := t_add e24 h1 (in_c 1 rfl) rfl; by omega), by exact (have a0 := in_u h1; have a1 := in_u i26; have a2 := in_u j17_2; have a3 := in_u i198; have a4 := in_u i226; have a5 := t_add e226 i26 (in_c 1 rfl) rfl; have a6 := in_u ((in_c 1 rfl)); have a7 := in_u i128; have a8 := t_add e110 j17_2 (in_c (-1) rfl) rfl; have a9 := in_u ((in_c (-1) rfl)); have a10 := in_u i225; have a11 := t_sub e137 i128 (in_c 1 rfl) rfl; have a12 := in_u i120; have a13 := t_sub e119 i110 (in_c 1 rfl) rfl; have a14 := in_u i24; have a15 := t_add e24 h1 (in_c 1 rfl) rfl; by omega)⟩
                      have n17 : (z110).toInt ≤ (z226).toInt := by exact (have a0 := in_u h1; have a1 := in_u i26; have a2 := in_u j17_2; have a3 := in_u i198; have a4 := in_u i226; have a5 := t_add e226 i26 (in_c 1 rfl) rfl; have a6 := in_u ((in_c 1 rfl)); have a7 := in_u i17; have a8 := t_add e110 j17_2 (in_c (-1) rfl) rfl; have a9 := in_u ((in_c (-1) rfl)); have a10 := in_u i225; have a11 := t_sub e137 i128 (in_c 1 rfl) rfl; have a12 := in_u i120; have a13 := t_sub e119 i110 (in_c 1 rfl) rfl; have a14 := in_u i24; have a15 := t_add e24 h1 (in_c 1 rfl) rfl; by omega)
                      have n17a : WS (sL sc17 193 z137.toNatClampNeg (Int64.ofInt 1)) x1 z226 z110 := by first | exact hk2 _ _ (by exact (have a0 := in_u h1; have a1 := in_u i26; have a2 := in_u j17_2; have a3 := in_u i198; have a4 := in_u i226; have a5 := t_add e226 i26 (in_c 1 rfl) rfl; have a6 := in_u ((in_c 1 rfl)); have a7 := in_u i17; have a8 := t_add e110 j17_2 (in_c (-1) rfl) rfl; have a9 := in_u ((in_c (-1) rfl)); have a10 := in_u i225; have a11 := t_sub e137 i128 (in_c 1 rfl) rfl; have a12 := in_u i120; have a13 := t_sub e119 i110 (in_c 1 rfl) rfl; have a14 := in_u i24; have a15 := t_add e24 h1 (in_c 1 rfl) rfl; by omega)) (by exact (have a0 := in_u h1; have a1 := in_u i26; have a2 := in_u j17_2; have a3 := in_u i198; have a4 := in_u i226; have a5 := t_add e226 i26 (in_c 1 rfl) rfl; have a6 := in_u ((in_c 1 rfl)); have a7 := in_u i17; have a8 := t_add e110 j17_2 (in_c (-1) rfl) rfl; have a9 := in_u ((in_c (-1) rfl)); have a10 := in_u i225; have a11 := t_sub e137 i128 (in_c 1 rfl) rfl; have a12 := in_u i120; have a13 := t_sub e119 i110 (in_c 1 rfl) rfl; have a14 := in_u i24; have a15 := t_add e24 h1 (in_c 1 rfl) rfl; by omega)) | exact ws_0 rfl (by first | exact (by decide) | exact i15.1) (by unfold wa; first | (rw [if_pos c3]; rfl) | (rw [if_neg c3, e15]; rfl))
                      exact gg_w (by omega) (gg_f (gf_cons rfl (gf_cons rfl (gf_cons rfl (gf_cons rfl gf_nil)))) (ih17 (sL sc17 193 z137.toNatClampNeg (Int64.ofInt 1)) z110 z226 hI225 (fr_sL rfl hFc17) i17 (in_w 0 120 i226 rfl) n17 n17a (m_up mm17 (t_add e226 i26 (in_c 1 rfl) rfl) (in_w 1 1 (in_c 1 rfl) rfl))))
                · skip
                  have i180 := r_eq1 45 45 c180 i84 (in_c 45 rfl) rfl
                  refine g_lload 185 (gd rfl) rfl rfl (g_lload 187 (gd rfl) rfl rfl (g_lsub 188 (gd rfl) rfl (fun z187 e187 => ?_)))
                  refine g_calls (As := [.long z187]) (r := [.int z137, .ref (A 193)]) 191 (gd rfl) rfl rfl rfl rfl rfl (Nat.le_of_ble_eq_true rfl) (mc := 0) (ms := 0) (Nat.zero_le _) (Nat.zero_le _) (P := fun v u => _) ?_ (fun v u h => h)
                  intro po188 xx188 hp188 hx188
                  refine g_enter2 (k := 405) (N := 300) (by omega) rfl (Nat.le_of_ble_eq_true rfl) (g_lload_n 1 (gd rfl) rfl rfl (g_ldc2_w 1000000000000 4 (gd rfl) rfl rfl (g_lcmp 5 (gd rfl) rfl (fun z188x4 e188x4 => have i188x4 := lc_in e188x4; g_if_le 8 14 (gd rfl) rfl rfl (fun c188x5 => ?_) (fun c188x5 => ?_)))))
                  · skip
                    have i188x5 := z_le (-1) 0 c188x5 i188x4 rfl
                    have c188x5a := lc_le e188x4 c188x5
                    have i188x5a := lr_le1 (-9223372036854775808) 1000000000000 c188x5a (l_rng z187) (l_c 1000000000000 rfl) rfl
                    refine g_lload_n 15 (gd rfl) rfl rfl (g_ldc2_w (-1000000000000) 18 (gd rfl) rfl rfl (g_lcmp 19 (gd rfl) rfl (fun z188x18 e188x18 => have i188x18 := lc_in e188x18; g_if_ge 22 28 (gd rfl) rfl rfl (fun c188x19 => ?_) (fun c188x19 => ?_))))
                    · skip
                      have i188x19 := z_ge 0 1 c188x19 i188x18 rfl
                      have c188x19a := lc_ge e188x18 c188x19
                      have i188x19a := lr_le2 (-1000000000000) 1000000000000 c188x19a (l_c (-1000000000000) rfl) i188x5a rfl
                      refine g_lload_n 29 (gd rfl) rfl rfl ?_
                      refine g_lreturn (gd rfl) rfl (hp188 _ _ ?_)
                      show GG _ _ _ _ _ _ _ _ [.long z187, .int z137, .ref (A 193)] _ _ _
                      refine g_goto 225 (gd rfl) rfl ?_
                      have i225 : In z137 0 199 := by exact (have a0 := in_u h1; have a1 := in_u i26; have a2 := in_u j17_2; have a3 := in_u i180; have a4 := in_u i128; have a5 := t_add e110 j17_2 (in_c (-1) rfl) rfl; have a6 := in_u ((in_c (-1) rfl)); have a7 := in_u i137; have a8 := t_sub e137 i128 (in_c 1 rfl) rfl; have a9 := in_u ((in_c 1 rfl)); have a10 := in_u i120; have a11 := t_sub e119 i110 (in_c 1 rfl) rfl; have a12 := in_u i24; have a13 := t_add e24 h1 (in_c 1 rfl) rfl; ⟨by omega, by omega⟩)
                      refine g_lastore 226 (gd rfl) rfl (n := 200) rfl (in_ix i225 rfl) (have hI225 := inv_sL (q := 193) (j := z137.toNatClampNeg) (x := z187) hIc17 rfl (l_rng z187); g_iinc 229 (gd rfl) rfl rfl (Nat.le_of_ble_eq_true rfl) (fun z226 e226 => have i226 := in_add 1 120 e226 i26 (in_c 1 rfl) rfl rfl; g_goto 17 (gd rfl) rfl ?_))
                      have i17 : In z110 0 120 := by exact ⟨by exact (have a0 := in_u h1; have a1 := in_u i26; have a2 := in_u j17_2; have a3 := in_u i180; have a4 := in_u i226; have a5 := t_add e226 i26 (in_c 1 rfl) rfl; have a6 := in_u ((in_c 1 rfl)); have a7 := in_u i128; have a8 := t_add e110 j17_2 (in_c (-1) rfl) rfl; have a9 := in_u ((in_c (-1) rfl)); have a10 := in_u i225; have a11 := t_sub e137 i128 (in_c 1 rfl) rfl; have a12 := in_u i120; have a13 := t_sub e119 i110 (in_c 1 rfl) rfl; have a14 := in_u i24; have a15 := t_add e24 h1 (in_c 1 rfl) rfl; by omega), by exact (have a0 := in_u h1; have a1 := in_u i26; have a2 := in_u j17_2; have a3 := in_u i180; have a4 := in_u i226; have a5 := t_add e226 i26 (in_c 1 rfl) rfl; have a6 := in_u ((in_c 1 rfl)); have a7 := in_u i128; have a8 := t_add e110 j17_2 (in_c (-1) rfl) rfl; have a9 := in_u ((in_c (-1) rfl)); have a10 := in_u i225; have a11 := t_sub e137 i128 (in_c 1 rfl) rfl; have a12 := in_u i120; have a13 := t_sub e119 i110 (in_c 1 rfl) rfl; have a14 := in_u i24; have a15 := t_add e24 h1 (in_c 1 rfl) rfl; by omega)⟩
                      have n17 : (z110).toInt ≤ (z226).toInt := by exact (have a0 := in_u h1; have a1 := in_u i26; have a2 := in_u j17_2; have a3 := in_u i180; have a4 := in_u i226; have a5 := t_add e226 i26 (in_c 1 rfl) rfl; have a6 := in_u ((in_c 1 rfl)); have a7 := in_u i17; have a8 := t_add e110 j17_2 (in_c (-1) rfl) rfl; have a9 := in_u ((in_c (-1) rfl)); have a10 := in_u i225; have a11 := t_sub e137 i128 (in_c 1 rfl) rfl; have a12 := in_u i120; have a13 := t_sub e119 i110 (in_c 1 rfl) rfl; have a14 := in_u i24; have a15 := t_add e24 h1 (in_c 1 rfl) rfl; by omega)
                      have n17a : WS (sL sc17 193 z137.toNatClampNeg z187) x1 z226 z110 := by first | exact hk2 _ _ (by exact (have a0 := in_u h1; have a1 := in_u i26; have a2 := in_u j17_2; have a3 := in_u i180; have a4 := in_u i226; have a5 := t_add e226 i26 (in_c 1 rfl) rfl; have a6 := in_u ((in_c 1 rfl)); have a7 := in_u i17; have a8 := t_add e110 j17_2 (in_c (-1) rfl) rfl; have a9 := in_u ((in_c (-1) rfl)); have a10 := in_u i225; have a11 := t_sub e137 i128 (in_c 1 rfl) rfl; have a12 := in_u i120; have a13 := t_sub e119 i110 (in_c 1 rfl) rfl; have a14 := in_u i24; have a15 := t_add e24 h1 (in_c 1 rfl) rfl; by omega)) (by exact (have a0 := in_u h1; have a1 := in_u i26; have a2 := in_u j17_2; have a3 := in_u i180; have a4 := in_u i226; have a5 := t_add e226 i26 (in_c 1 rfl) rfl; have a6 := in_u ((in_c 1 rfl)); have a7 := in_u i17; have a8 := t_add e110 j17_2 (in_c (-1) rfl) rfl; have a9 := in_u ((in_c (-1) rfl)); have a10 := in_u i225; have a11 := t_sub e137 i128 (in_c 1 rfl) rfl; have a12 := in_u i120; have a13 := t_sub e119 i110 (in_c 1 rfl) rfl; have a14 := in_u i24; have a15 := t_add e24 h1 (in_c 1 rfl) rfl; by omega)) | exact ws_0 rfl (by first | exact (by decide) | exact i15.1) (by unfold wa; first | (rw [if_pos c3]; rfl) | (rw [if_neg c3, e15]; rfl))
                      exact gg_w (by omega) (gg_f (gf_cons rfl (gf_cons rfl (gf_cons rfl (gf_cons rfl gf_nil)))) (ih17 (sL sc17 193 z137.toNatClampNeg z187) z110 z226 hI225 (fr_sL rfl hFc17) i17 (in_w 0 120 i226 rfl) n17 n17a (m_up mm17 (t_add e226 i26 (in_c 1 rfl) rfl) (in_w 1 1 (in_c 1 rfl) rfl))))
                    · skip
                      have i188x19 := z_lt (-1) (-1) c188x19 i188x18 rfl
                      have c188x19a := lc_lt e188x18 c188x19
                      have i188x19a := lr_lt1 (-9223372036854775808) (-1000000000001) c188x19a i188x5a (l_c (-1000000000000) rfl) rfl
                      refine g_ldc2_w (-1000000000000) 25 (gd rfl) rfl rfl (g_goto 29 (gd rfl) rfl ?_)
                      refine g_lreturn (gd rfl) rfl (hp188 _ _ ?_)
                      show GG _ _ _ _ _ _ _ _ [.long (Int64.ofInt (-1000000000000)), .int z137, .ref (A 193)] _ _ _
                      refine g_goto 225 (gd rfl) rfl ?_
                      have i225 : In z137 0 199 := by exact (have a0 := in_u h1; have a1 := in_u i26; have a2 := in_u j17_2; have a3 := in_u i180; have a4 := in_u i128; have a5 := t_add e110 j17_2 (in_c (-1) rfl) rfl; have a6 := in_u ((in_c (-1) rfl)); have a7 := in_u i137; have a8 := t_sub e137 i128 (in_c 1 rfl) rfl; have a9 := in_u ((in_c 1 rfl)); have a10 := in_u i120; have a11 := t_sub e119 i110 (in_c 1 rfl) rfl; have a12 := in_u i24; have a13 := t_add e24 h1 (in_c 1 rfl) rfl; ⟨by omega, by omega⟩)
                      refine g_lastore 226 (gd rfl) rfl (n := 200) rfl (in_ix i225 rfl) (have hI225 := inv_sL (q := 193) (j := z137.toNatClampNeg) (x := (Int64.ofInt (-1000000000000))) hIc17 rfl (l_rng (Int64.ofInt (-1000000000000))); g_iinc 229 (gd rfl) rfl rfl (Nat.le_of_ble_eq_true rfl) (fun z226 e226 => have i226 := in_add 1 120 e226 i26 (in_c 1 rfl) rfl rfl; g_goto 17 (gd rfl) rfl ?_))
                      have i17 : In z110 0 120 := by exact ⟨by exact (have a0 := in_u h1; have a1 := in_u i26; have a2 := in_u j17_2; have a3 := in_u i180; have a4 := in_u i226; have a5 := t_add e226 i26 (in_c 1 rfl) rfl; have a6 := in_u ((in_c 1 rfl)); have a7 := in_u i128; have a8 := t_add e110 j17_2 (in_c (-1) rfl) rfl; have a9 := in_u ((in_c (-1) rfl)); have a10 := in_u i225; have a11 := t_sub e137 i128 (in_c 1 rfl) rfl; have a12 := in_u i120; have a13 := t_sub e119 i110 (in_c 1 rfl) rfl; have a14 := in_u i24; have a15 := t_add e24 h1 (in_c 1 rfl) rfl; by omega), by exact (have a0 := in_u h1; have a1 := in_u i26; have a2 := in_u j17_2; have a3 := in_u i180; have a4 := in_u i226; have a5 := t_add e226 i26 (in_c 1 rfl) rfl; have a6 := in_u ((in_c 1 rfl)); have a7 := in_u i128; have a8 := t_add e110 j17_2 (in_c (-1) rfl) rfl; have a9 := in_u ((in_c (-1) rfl)); have a10 := in_u i225; have a11 := t_sub e137 i128 (in_c 1 rfl) rfl; have a12 := in_u i120; have a13 := t_sub e119 i110 (in_c 1 rfl) rfl; have a14 := in_u i24; have a15 := t_add e24 h1 (in_c 1 rfl) rfl; by omega)⟩
                      have n17 : (z110).toInt ≤ (z226).toInt := by exact (have a0 := in_u h1; have a1 := in_u i26; have a2 := in_u j17_2; have a3 := in_u i180; have a4 := in_u i226; have a5 := t_add e226 i26 (in_c 1 rfl) rfl; have a6 := in_u ((in_c 1 rfl)); have a7 := in_u i17; have a8 := t_add e110 j17_2 (in_c (-1) rfl) rfl; have a9 := in_u ((in_c (-1) rfl)); have a10 := in_u i225; have a11 := t_sub e137 i128 (in_c 1 rfl) rfl; have a12 := in_u i120; have a13 := t_sub e119 i110 (in_c 1 rfl) rfl; have a14 := in_u i24; have a15 := t_add e24 h1 (in_c 1 rfl) rfl; by omega)
                      have n17a : WS (sL sc17 193 z137.toNatClampNeg (Int64.ofInt (-1000000000000))) x1 z226 z110 := by first | exact hk2 _ _ (by exact (have a0 := in_u h1; have a1 := in_u i26; have a2 := in_u j17_2; have a3 := in_u i180; have a4 := in_u i226; have a5 := t_add e226 i26 (in_c 1 rfl) rfl; have a6 := in_u ((in_c 1 rfl)); have a7 := in_u i17; have a8 := t_add e110 j17_2 (in_c (-1) rfl) rfl; have a9 := in_u ((in_c (-1) rfl)); have a10 := in_u i225; have a11 := t_sub e137 i128 (in_c 1 rfl) rfl; have a12 := in_u i120; have a13 := t_sub e119 i110 (in_c 1 rfl) rfl; have a14 := in_u i24; have a15 := t_add e24 h1 (in_c 1 rfl) rfl; by omega)) (by exact (have a0 := in_u h1; have a1 := in_u i26; have a2 := in_u j17_2; have a3 := in_u i180; have a4 := in_u i226; have a5 := t_add e226 i26 (in_c 1 rfl) rfl; have a6 := in_u ((in_c 1 rfl)); have a7 := in_u i17; have a8 := t_add e110 j17_2 (in_c (-1) rfl) rfl; have a9 := in_u ((in_c (-1) rfl)); have a10 := in_u i225; have a11 := t_sub e137 i128 (in_c 1 rfl) rfl; have a12 := in_u i120; have a13 := t_sub e119 i110 (in_c 1 rfl) rfl; have a14 := in_u i24; have a15 := t_add e24 h1 (in_c 1 rfl) rfl; by omega)) | exact ws_0 rfl (by first | exact (by decide) | exact i15.1) (by unfold wa; first | (rw [if_pos c3]; rfl) | (rw [if_neg c3, e15]; rfl))
                      exact gg_w (by omega) (gg_f (gf_cons rfl (gf_cons rfl (gf_cons rfl (gf_cons rfl gf_nil)))) (ih17 (sL sc17 193 z137.toNatClampNeg (Int64.ofInt (-1000000000000))) z110 z226 hI225 (fr_sL rfl hFc17) i17 (in_w 0 120 i226 rfl) n17 n17a (m_up mm17 (t_add e226 i26 (in_c 1 rfl) rfl) (in_w 1 1 (in_c 1 rfl) rfl))))
                  · skip
                    have i188x5 := z_gt 1 1 c188x5 i188x4 rfl
                    have c188x5a := lc_gt e188x4 c188x5
                    have i188x5a := lr_lt2 1000000000001 9223372036854775807 c188x5a (l_c 1000000000000 rfl) (l_rng z187) rfl
                    refine g_ldc2_w 1000000000000 11 (gd rfl) rfl rfl (g_goto 29 (gd rfl) rfl ?_)
                    refine g_lreturn (gd rfl) rfl (hp188 _ _ ?_)
                    show GG _ _ _ _ _ _ _ _ [.long (Int64.ofInt 1000000000000), .int z137, .ref (A 193)] _ _ _
                    refine g_goto 225 (gd rfl) rfl ?_
                    have i225 : In z137 0 199 := by exact (have a0 := in_u h1; have a1 := in_u i26; have a2 := in_u j17_2; have a3 := in_u i180; have a4 := in_u i128; have a5 := t_add e110 j17_2 (in_c (-1) rfl) rfl; have a6 := in_u ((in_c (-1) rfl)); have a7 := in_u i137; have a8 := t_sub e137 i128 (in_c 1 rfl) rfl; have a9 := in_u ((in_c 1 rfl)); have a10 := in_u i120; have a11 := t_sub e119 i110 (in_c 1 rfl) rfl; have a12 := in_u i24; have a13 := t_add e24 h1 (in_c 1 rfl) rfl; ⟨by omega, by omega⟩)
                    refine g_lastore 226 (gd rfl) rfl (n := 200) rfl (in_ix i225 rfl) (have hI225 := inv_sL (q := 193) (j := z137.toNatClampNeg) (x := (Int64.ofInt 1000000000000)) hIc17 rfl (l_rng (Int64.ofInt 1000000000000)); g_iinc 229 (gd rfl) rfl rfl (Nat.le_of_ble_eq_true rfl) (fun z226 e226 => have i226 := in_add 1 120 e226 i26 (in_c 1 rfl) rfl rfl; g_goto 17 (gd rfl) rfl ?_))
                    have i17 : In z110 0 120 := by exact ⟨by exact (have a0 := in_u h1; have a1 := in_u i26; have a2 := in_u j17_2; have a3 := in_u i180; have a4 := in_u i226; have a5 := t_add e226 i26 (in_c 1 rfl) rfl; have a6 := in_u ((in_c 1 rfl)); have a7 := in_u i128; have a8 := t_add e110 j17_2 (in_c (-1) rfl) rfl; have a9 := in_u ((in_c (-1) rfl)); have a10 := in_u i225; have a11 := t_sub e137 i128 (in_c 1 rfl) rfl; have a12 := in_u i120; have a13 := t_sub e119 i110 (in_c 1 rfl) rfl; have a14 := in_u i24; have a15 := t_add e24 h1 (in_c 1 rfl) rfl; by omega), by exact (have a0 := in_u h1; have a1 := in_u i26; have a2 := in_u j17_2; have a3 := in_u i180; have a4 := in_u i226; have a5 := t_add e226 i26 (in_c 1 rfl) rfl; have a6 := in_u ((in_c 1 rfl)); have a7 := in_u i128; have a8 := t_add e110 j17_2 (in_c (-1) rfl) rfl; have a9 := in_u ((in_c (-1) rfl)); have a10 := in_u i225; have a11 := t_sub e137 i128 (in_c 1 rfl) rfl; have a12 := in_u i120; have a13 := t_sub e119 i110 (in_c 1 rfl) rfl; have a14 := in_u i24; have a15 := t_add e24 h1 (in_c 1 rfl) rfl; by omega)⟩
                    have n17 : (z110).toInt ≤ (z226).toInt := by exact (have a0 := in_u h1; have a1 := in_u i26; have a2 := in_u j17_2; have a3 := in_u i180; have a4 := in_u i226; have a5 := t_add e226 i26 (in_c 1 rfl) rfl; have a6 := in_u ((in_c 1 rfl)); have a7 := in_u i17; have a8 := t_add e110 j17_2 (in_c (-1) rfl) rfl; have a9 := in_u ((in_c (-1) rfl)); have a10 := in_u i225; have a11 := t_sub e137 i128 (in_c 1 rfl) rfl; have a12 := in_u i120; have a13 := t_sub e119 i110 (in_c 1 rfl) rfl; have a14 := in_u i24; have a15 := t_add e24 h1 (in_c 1 rfl) rfl; by omega)
                    have n17a : WS (sL sc17 193 z137.toNatClampNeg (Int64.ofInt 1000000000000)) x1 z226 z110 := by first | exact hk2 _ _ (by exact (have a0 := in_u h1; have a1 := in_u i26; have a2 := in_u j17_2; have a3 := in_u i180; have a4 := in_u i226; have a5 := t_add e226 i26 (in_c 1 rfl) rfl; have a6 := in_u ((in_c 1 rfl)); have a7 := in_u i17; have a8 := t_add e110 j17_2 (in_c (-1) rfl) rfl; have a9 := in_u ((in_c (-1) rfl)); have a10 := in_u i225; have a11 := t_sub e137 i128 (in_c 1 rfl) rfl; have a12 := in_u i120; have a13 := t_sub e119 i110 (in_c 1 rfl) rfl; have a14 := in_u i24; have a15 := t_add e24 h1 (in_c 1 rfl) rfl; by omega)) (by exact (have a0 := in_u h1; have a1 := in_u i26; have a2 := in_u j17_2; have a3 := in_u i180; have a4 := in_u i226; have a5 := t_add e226 i26 (in_c 1 rfl) rfl; have a6 := in_u ((in_c 1 rfl)); have a7 := in_u i17; have a8 := t_add e110 j17_2 (in_c (-1) rfl) rfl; have a9 := in_u ((in_c (-1) rfl)); have a10 := in_u i225; have a11 := t_sub e137 i128 (in_c 1 rfl) rfl; have a12 := in_u i120; have a13 := t_sub e119 i110 (in_c 1 rfl) rfl; have a14 := in_u i24; have a15 := t_add e24 h1 (in_c 1 rfl) rfl; by omega)) | exact ws_0 rfl (by first | exact (by decide) | exact i15.1) (by unfold wa; first | (rw [if_pos c3]; rfl) | (rw [if_neg c3, e15]; rfl))
                    exact gg_w (by omega) (gg_f (gf_cons rfl (gf_cons rfl (gf_cons rfl (gf_cons rfl gf_nil)))) (ih17 (sL sc17 193 z137.toNatClampNeg (Int64.ofInt 1000000000000)) z110 z226 hI225 (fr_sL rfl hFc17) i17 (in_w 0 120 i226 rfl) n17 n17a (m_up mm17 (t_add e226 i26 (in_c 1 rfl) rfl) (in_w 1 1 (in_c 1 rfl) rfl))))
              · skip
                have i162 := r_eq1 43 43 c162 i84 (in_c 43 rfl) rfl
                refine g_lload 167 (gd rfl) rfl rfl (g_lload 169 (gd rfl) rfl rfl (g_ladd 170 (gd rfl) rfl (fun z169 e169 => ?_)))
                refine g_calls (As := [.long z169]) (r := [.int z137, .ref (A 193)]) 173 (gd rfl) rfl rfl rfl rfl rfl (Nat.le_of_ble_eq_true rfl) (mc := 0) (ms := 0) (Nat.zero_le _) (Nat.zero_le _) (P := fun v u => _) ?_ (fun v u h => h)
                intro po170 xx170 hp170 hx170
                refine g_enter2 (k := 405) (N := 300) (by omega) rfl (Nat.le_of_ble_eq_true rfl) (g_lload_n 1 (gd rfl) rfl rfl (g_ldc2_w 1000000000000 4 (gd rfl) rfl rfl (g_lcmp 5 (gd rfl) rfl (fun z170x4 e170x4 => have i170x4 := lc_in e170x4; g_if_le 8 14 (gd rfl) rfl rfl (fun c170x5 => ?_) (fun c170x5 => ?_)))))
                · skip
                  have i170x5 := z_le (-1) 0 c170x5 i170x4 rfl
                  have c170x5a := lc_le e170x4 c170x5
                  have i170x5a := lr_le1 (-9223372036854775808) 1000000000000 c170x5a (l_rng z169) (l_c 1000000000000 rfl) rfl
                  refine g_lload_n 15 (gd rfl) rfl rfl (g_ldc2_w (-1000000000000) 18 (gd rfl) rfl rfl (g_lcmp 19 (gd rfl) rfl (fun z170x18 e170x18 => have i170x18 := lc_in e170x18; g_if_ge 22 28 (gd rfl) rfl rfl (fun c170x19 => ?_) (fun c170x19 => ?_))))
                  · skip
                    have i170x19 := z_ge 0 1 c170x19 i170x18 rfl
                    have c170x19a := lc_ge e170x18 c170x19
                    have i170x19a := lr_le2 (-1000000000000) 1000000000000 c170x19a (l_c (-1000000000000) rfl) i170x5a rfl
                    refine g_lload_n 29 (gd rfl) rfl rfl ?_
                    refine g_lreturn (gd rfl) rfl (hp170 _ _ ?_)
                    show GG _ _ _ _ _ _ _ _ [.long z169, .int z137, .ref (A 193)] _ _ _
                    refine g_goto 225 (gd rfl) rfl ?_
                    have i225 : In z137 0 199 := by exact (have a0 := in_u h1; have a1 := in_u i26; have a2 := in_u j17_2; have a3 := in_u i162; have a4 := in_u i128; have a5 := t_add e110 j17_2 (in_c (-1) rfl) rfl; have a6 := in_u ((in_c (-1) rfl)); have a7 := in_u i137; have a8 := t_sub e137 i128 (in_c 1 rfl) rfl; have a9 := in_u ((in_c 1 rfl)); have a10 := in_u i120; have a11 := t_sub e119 i110 (in_c 1 rfl) rfl; have a12 := in_u i24; have a13 := t_add e24 h1 (in_c 1 rfl) rfl; ⟨by omega, by omega⟩)
                    refine g_lastore 226 (gd rfl) rfl (n := 200) rfl (in_ix i225 rfl) (have hI225 := inv_sL (q := 193) (j := z137.toNatClampNeg) (x := z169) hIc17 rfl (l_rng z169); g_iinc 229 (gd rfl) rfl rfl (Nat.le_of_ble_eq_true rfl) (fun z226 e226 => have i226 := in_add 1 120 e226 i26 (in_c 1 rfl) rfl rfl; g_goto 17 (gd rfl) rfl ?_))
                    have i17 : In z110 0 120 := by exact ⟨by exact (have a0 := in_u h1; have a1 := in_u i26; have a2 := in_u j17_2; have a3 := in_u i162; have a4 := in_u i226; have a5 := t_add e226 i26 (in_c 1 rfl) rfl; have a6 := in_u ((in_c 1 rfl)); have a7 := in_u i128; have a8 := t_add e110 j17_2 (in_c (-1) rfl) rfl; have a9 := in_u ((in_c (-1) rfl)); have a10 := in_u i225; have a11 := t_sub e137 i128 (in_c 1 rfl) rfl; have a12 := in_u i120; have a13 := t_sub e119 i110 (in_c 1 rfl) rfl; have a14 := in_u i24; have a15 := t_add e24 h1 (in_c 1 rfl) rfl; by omega), by exact (have a0 := in_u h1; have a1 := in_u i26; have a2 := in_u j17_2; have a3 := in_u i162; have a4 := in_u i226; have a5 := t_add e226 i26 (in_c 1 rfl) rfl; have a6 := in_u ((in_c 1 rfl)); have a7 := in_u i128; have a8 := t_add e110 j17_2 (in_c (-1) rfl) rfl; have a9 := in_u ((in_c (-1) rfl)); have a10 := in_u i225; have a11 := t_sub e137 i128 (in_c 1 rfl) rfl; have a12 := in_u i120; have a13 := t_sub e119 i110 (in_c 1 rfl) rfl; have a14 := in_u i24; have a15 := t_add e24 h1 (in_c 1 rfl) rfl; by omega)⟩
                    have n17 : (z110).toInt ≤ (z226).toInt := by exact (have a0 := in_u h1; have a1 := in_u i26; have a2 := in_u j17_2; have a3 := in_u i162; have a4 := in_u i226; have a5 := t_add e226 i26 (in_c 1 rfl) rfl; have a6 := in_u ((in_c 1 rfl)); have a7 := in_u i17; have a8 := t_add e110 j17_2 (in_c (-1) rfl) rfl; have a9 := in_u ((in_c (-1) rfl)); have a10 := in_u i225; have a11 := t_sub e137 i128 (in_c 1 rfl) rfl; have a12 := in_u i120; have a13 := t_sub e119 i110 (in_c 1 rfl) rfl; have a14 := in_u i24; have a15 := t_add e24 h1 (in_c 1 rfl) rfl; by omega)
                    have n17a : WS (sL sc17 193 z137.toNatClampNeg z169) x1 z226 z110 := by first | exact hk2 _ _ (by exact (have a0 := in_u h1; have a1 := in_u i26; have a2 := in_u j17_2; have a3 := in_u i162; have a4 := in_u i226; have a5 := t_add e226 i26 (in_c 1 rfl) rfl; have a6 := in_u ((in_c 1 rfl)); have a7 := in_u i17; have a8 := t_add e110 j17_2 (in_c (-1) rfl) rfl; have a9 := in_u ((in_c (-1) rfl)); have a10 := in_u i225; have a11 := t_sub e137 i128 (in_c 1 rfl) rfl; have a12 := in_u i120; have a13 := t_sub e119 i110 (in_c 1 rfl) rfl; have a14 := in_u i24; have a15 := t_add e24 h1 (in_c 1 rfl) rfl; by omega)) (by exact (have a0 := in_u h1; have a1 := in_u i26; have a2 := in_u j17_2; have a3 := in_u i162; have a4 := in_u i226; have a5 := t_add e226 i26 (in_c 1 rfl) rfl; have a6 := in_u ((in_c 1 rfl)); have a7 := in_u i17; have a8 := t_add e110 j17_2 (in_c (-1) rfl) rfl; have a9 := in_u ((in_c (-1) rfl)); have a10 := in_u i225; have a11 := t_sub e137 i128 (in_c 1 rfl) rfl; have a12 := in_u i120; have a13 := t_sub e119 i110 (in_c 1 rfl) rfl; have a14 := in_u i24; have a15 := t_add e24 h1 (in_c 1 rfl) rfl; by omega)) | exact ws_0 rfl (by first | exact (by decide) | exact i15.1) (by unfold wa; first | (rw [if_pos c3]; rfl) | (rw [if_neg c3, e15]; rfl))
                    exact gg_w (by omega) (gg_f (gf_cons rfl (gf_cons rfl (gf_cons rfl (gf_cons rfl gf_nil)))) (ih17 (sL sc17 193 z137.toNatClampNeg z169) z110 z226 hI225 (fr_sL rfl hFc17) i17 (in_w 0 120 i226 rfl) n17 n17a (m_up mm17 (t_add e226 i26 (in_c 1 rfl) rfl) (in_w 1 1 (in_c 1 rfl) rfl))))
                  · skip
                    have i170x19 := z_lt (-1) (-1) c170x19 i170x18 rfl
                    have c170x19a := lc_lt e170x18 c170x19
                    have i170x19a := lr_lt1 (-9223372036854775808) (-1000000000001) c170x19a i170x5a (l_c (-1000000000000) rfl) rfl
                    refine g_ldc2_w (-1000000000000) 25 (gd rfl) rfl rfl (g_goto 29 (gd rfl) rfl ?_)
                    refine g_lreturn (gd rfl) rfl (hp170 _ _ ?_)
                    show GG _ _ _ _ _ _ _ _ [.long (Int64.ofInt (-1000000000000)), .int z137, .ref (A 193)] _ _ _
                    refine g_goto 225 (gd rfl) rfl ?_
                    have i225 : In z137 0 199 := by exact (have a0 := in_u h1; have a1 := in_u i26; have a2 := in_u j17_2; have a3 := in_u i162; have a4 := in_u i128; have a5 := t_add e110 j17_2 (in_c (-1) rfl) rfl; have a6 := in_u ((in_c (-1) rfl)); have a7 := in_u i137; have a8 := t_sub e137 i128 (in_c 1 rfl) rfl; have a9 := in_u ((in_c 1 rfl)); have a10 := in_u i120; have a11 := t_sub e119 i110 (in_c 1 rfl) rfl; have a12 := in_u i24; have a13 := t_add e24 h1 (in_c 1 rfl) rfl; ⟨by omega, by omega⟩)
                    refine g_lastore 226 (gd rfl) rfl (n := 200) rfl (in_ix i225 rfl) (have hI225 := inv_sL (q := 193) (j := z137.toNatClampNeg) (x := (Int64.ofInt (-1000000000000))) hIc17 rfl (l_rng (Int64.ofInt (-1000000000000))); g_iinc 229 (gd rfl) rfl rfl (Nat.le_of_ble_eq_true rfl) (fun z226 e226 => have i226 := in_add 1 120 e226 i26 (in_c 1 rfl) rfl rfl; g_goto 17 (gd rfl) rfl ?_))
                    have i17 : In z110 0 120 := by exact ⟨by exact (have a0 := in_u h1; have a1 := in_u i26; have a2 := in_u j17_2; have a3 := in_u i162; have a4 := in_u i226; have a5 := t_add e226 i26 (in_c 1 rfl) rfl; have a6 := in_u ((in_c 1 rfl)); have a7 := in_u i128; have a8 := t_add e110 j17_2 (in_c (-1) rfl) rfl; have a9 := in_u ((in_c (-1) rfl)); have a10 := in_u i225; have a11 := t_sub e137 i128 (in_c 1 rfl) rfl; have a12 := in_u i120; have a13 := t_sub e119 i110 (in_c 1 rfl) rfl; have a14 := in_u i24; have a15 := t_add e24 h1 (in_c 1 rfl) rfl; by omega), by exact (have a0 := in_u h1; have a1 := in_u i26; have a2 := in_u j17_2; have a3 := in_u i162; have a4 := in_u i226; have a5 := t_add e226 i26 (in_c 1 rfl) rfl; have a6 := in_u ((in_c 1 rfl)); have a7 := in_u i128; have a8 := t_add e110 j17_2 (in_c (-1) rfl) rfl; have a9 := in_u ((in_c (-1) rfl)); have a10 := in_u i225; have a11 := t_sub e137 i128 (in_c 1 rfl) rfl; have a12 := in_u i120; have a13 := t_sub e119 i110 (in_c 1 rfl) rfl; have a14 := in_u i24; have a15 := t_add e24 h1 (in_c 1 rfl) rfl; by omega)⟩
                    have n17 : (z110).toInt ≤ (z226).toInt := by exact (have a0 := in_u h1; have a1 := in_u i26; have a2 := in_u j17_2; have a3 := in_u i162; have a4 := in_u i226; have a5 := t_add e226 i26 (in_c 1 rfl) rfl; have a6 := in_u ((in_c 1 rfl)); have a7 := in_u i17; have a8 := t_add e110 j17_2 (in_c (-1) rfl) rfl; have a9 := in_u ((in_c (-1) rfl)); have a10 := in_u i225; have a11 := t_sub e137 i128 (in_c 1 rfl) rfl; have a12 := in_u i120; have a13 := t_sub e119 i110 (in_c 1 rfl) rfl; have a14 := in_u i24; have a15 := t_add e24 h1 (in_c 1 rfl) rfl; by omega)
                    have n17a : WS (sL sc17 193 z137.toNatClampNeg (Int64.ofInt (-1000000000000))) x1 z226 z110 := by first | exact hk2 _ _ (by exact (have a0 := in_u h1; have a1 := in_u i26; have a2 := in_u j17_2; have a3 := in_u i162; have a4 := in_u i226; have a5 := t_add e226 i26 (in_c 1 rfl) rfl; have a6 := in_u ((in_c 1 rfl)); have a7 := in_u i17; have a8 := t_add e110 j17_2 (in_c (-1) rfl) rfl; have a9 := in_u ((in_c (-1) rfl)); have a10 := in_u i225; have a11 := t_sub e137 i128 (in_c 1 rfl) rfl; have a12 := in_u i120; have a13 := t_sub e119 i110 (in_c 1 rfl) rfl; have a14 := in_u i24; have a15 := t_add e24 h1 (in_c 1 rfl) rfl; by omega)) (by exact (have a0 := in_u h1; have a1 := in_u i26; have a2 := in_u j17_2; have a3 := in_u i162; have a4 := in_u i226; have a5 := t_add e226 i26 (in_c 1 rfl) rfl; have a6 := in_u ((in_c 1 rfl)); have a7 := in_u i17; have a8 := t_add e110 j17_2 (in_c (-1) rfl) rfl; have a9 := in_u ((in_c (-1) rfl)); have a10 := in_u i225; have a11 := t_sub e137 i128 (in_c 1 rfl) rfl; have a12 := in_u i120; have a13 := t_sub e119 i110 (in_c 1 rfl) rfl; have a14 := in_u i24; have a15 := t_add e24 h1 (in_c 1 rfl) rfl; by omega)) | exact ws_0 rfl (by first | exact (by decide) | exact i15.1) (by unfold wa; first | (rw [if_pos c3]; rfl) | (rw [if_neg c3, e15]; rfl))
                    exact gg_w (by omega) (gg_f (gf_cons rfl (gf_cons rfl (gf_cons rfl (gf_cons rfl gf_nil)))) (ih17 (sL sc17 193 z137.toNatClampNeg (Int64.ofInt (-1000000000000))) z110 z226 hI225 (fr_sL rfl hFc17) i17 (in_w 0 120 i226 rfl) n17 n17a (m_up mm17 (t_add e226 i26 (in_c 1 rfl) rfl) (in_w 1 1 (in_c 1 rfl) rfl))))
                · skip
                  have i170x5 := z_gt 1 1 c170x5 i170x4 rfl
                  have c170x5a := lc_gt e170x4 c170x5
                  have i170x5a := lr_lt2 1000000000001 9223372036854775807 c170x5a (l_c 1000000000000 rfl) (l_rng z169) rfl
                  refine g_ldc2_w 1000000000000 11 (gd rfl) rfl rfl (g_goto 29 (gd rfl) rfl ?_)
                  refine g_lreturn (gd rfl) rfl (hp170 _ _ ?_)
                  show GG _ _ _ _ _ _ _ _ [.long (Int64.ofInt 1000000000000), .int z137, .ref (A 193)] _ _ _
                  refine g_goto 225 (gd rfl) rfl ?_
                  have i225 : In z137 0 199 := by exact (have a0 := in_u h1; have a1 := in_u i26; have a2 := in_u j17_2; have a3 := in_u i162; have a4 := in_u i128; have a5 := t_add e110 j17_2 (in_c (-1) rfl) rfl; have a6 := in_u ((in_c (-1) rfl)); have a7 := in_u i137; have a8 := t_sub e137 i128 (in_c 1 rfl) rfl; have a9 := in_u ((in_c 1 rfl)); have a10 := in_u i120; have a11 := t_sub e119 i110 (in_c 1 rfl) rfl; have a12 := in_u i24; have a13 := t_add e24 h1 (in_c 1 rfl) rfl; ⟨by omega, by omega⟩)
                  refine g_lastore 226 (gd rfl) rfl (n := 200) rfl (in_ix i225 rfl) (have hI225 := inv_sL (q := 193) (j := z137.toNatClampNeg) (x := (Int64.ofInt 1000000000000)) hIc17 rfl (l_rng (Int64.ofInt 1000000000000)); g_iinc 229 (gd rfl) rfl rfl (Nat.le_of_ble_eq_true rfl) (fun z226 e226 => have i226 := in_add 1 120 e226 i26 (in_c 1 rfl) rfl rfl; g_goto 17 (gd rfl) rfl ?_))
                  have i17 : In z110 0 120 := by exact ⟨by exact (have a0 := in_u h1; have a1 := in_u i26; have a2 := in_u j17_2; have a3 := in_u i162; have a4 := in_u i226; have a5 := t_add e226 i26 (in_c 1 rfl) rfl; have a6 := in_u ((in_c 1 rfl)); have a7 := in_u i128; have a8 := t_add e110 j17_2 (in_c (-1) rfl) rfl; have a9 := in_u ((in_c (-1) rfl)); have a10 := in_u i225; have a11 := t_sub e137 i128 (in_c 1 rfl) rfl; have a12 := in_u i120; have a13 := t_sub e119 i110 (in_c 1 rfl) rfl; have a14 := in_u i24; have a15 := t_add e24 h1 (in_c 1 rfl) rfl; by omega), by exact (have a0 := in_u h1; have a1 := in_u i26; have a2 := in_u j17_2; have a3 := in_u i162; have a4 := in_u i226; have a5 := t_add e226 i26 (in_c 1 rfl) rfl; have a6 := in_u ((in_c 1 rfl)); have a7 := in_u i128; have a8 := t_add e110 j17_2 (in_c (-1) rfl) rfl; have a9 := in_u ((in_c (-1) rfl)); have a10 := in_u i225; have a11 := t_sub e137 i128 (in_c 1 rfl) rfl; have a12 := in_u i120; have a13 := t_sub e119 i110 (in_c 1 rfl) rfl; have a14 := in_u i24; have a15 := t_add e24 h1 (in_c 1 rfl) rfl; by omega)⟩
                  have n17 : (z110).toInt ≤ (z226).toInt := by exact (have a0 := in_u h1; have a1 := in_u i26; have a2 := in_u j17_2; have a3 := in_u i162; have a4 := in_u i226; have a5 := t_add e226 i26 (in_c 1 rfl) rfl; have a6 := in_u ((in_c 1 rfl)); have a7 := in_u i17; have a8 := t_add e110 j17_2 (in_c (-1) rfl) rfl; have a9 := in_u ((in_c (-1) rfl)); have a10 := in_u i225; have a11 := t_sub e137 i128 (in_c 1 rfl) rfl; have a12 := in_u i120; have a13 := t_sub e119 i110 (in_c 1 rfl) rfl; have a14 := in_u i24; have a15 := t_add e24 h1 (in_c 1 rfl) rfl; by omega)
                  have n17a : WS (sL sc17 193 z137.toNatClampNeg (Int64.ofInt 1000000000000)) x1 z226 z110 := by first | exact hk2 _ _ (by exact (have a0 := in_u h1; have a1 := in_u i26; have a2 := in_u j17_2; have a3 := in_u i162; have a4 := in_u i226; have a5 := t_add e226 i26 (in_c 1 rfl) rfl; have a6 := in_u ((in_c 1 rfl)); have a7 := in_u i17; have a8 := t_add e110 j17_2 (in_c (-1) rfl) rfl; have a9 := in_u ((in_c (-1) rfl)); have a10 := in_u i225; have a11 := t_sub e137 i128 (in_c 1 rfl) rfl; have a12 := in_u i120; have a13 := t_sub e119 i110 (in_c 1 rfl) rfl; have a14 := in_u i24; have a15 := t_add e24 h1 (in_c 1 rfl) rfl; by omega)) (by exact (have a0 := in_u h1; have a1 := in_u i26; have a2 := in_u j17_2; have a3 := in_u i162; have a4 := in_u i226; have a5 := t_add e226 i26 (in_c 1 rfl) rfl; have a6 := in_u ((in_c 1 rfl)); have a7 := in_u i17; have a8 := t_add e110 j17_2 (in_c (-1) rfl) rfl; have a9 := in_u ((in_c (-1) rfl)); have a10 := in_u i225; have a11 := t_sub e137 i128 (in_c 1 rfl) rfl; have a12 := in_u i120; have a13 := t_sub e119 i110 (in_c 1 rfl) rfl; have a14 := in_u i24; have a15 := t_add e24 h1 (in_c 1 rfl) rfl; by omega)) | exact ws_0 rfl (by first | exact (by decide) | exact i15.1) (by unfold wa; first | (rw [if_pos c3]; rfl) | (rw [if_neg c3, e15]; rfl))
                  exact gg_w (by omega) (gg_f (gf_cons rfl (gf_cons rfl (gf_cons rfl (gf_cons rfl gf_nil)))) (ih17 (sL sc17 193 z137.toNatClampNeg (Int64.ofInt 1000000000000)) z110 z226 hI225 (fr_sL rfl hFc17) i17 (in_w 0 120 i226 rfl) n17 n17a (m_up mm17 (t_add e226 i26 (in_c 1 rfl) rfl) (in_w 1 1 (in_c 1 rfl) rfl))))
            · skip
              have i142 := r_eq1 42 42 c142 i84 (in_c 42 rfl) rfl
              refine g_lload 147 (gd rfl) rfl rfl (g_lload 149 (gd rfl) rfl rfl (g_calls (As := [.long z120, .long z128]) (r := [.int z137, .ref (A 193)]) 152 (gd rfl) rfl rfl rfl rfl rfl (Nat.le_of_ble_eq_true rfl) (Nat.zero_le _) (Nat.zero_le _) (k_406 (by omega) hIc17 ) (fun v u h => ?_)))
              obtain ⟨z149, rfl, rfl⟩ := h
              show GG _ _ _ _ _ _ _ _ [.long z149, .int z137, .ref (A 193)] _ _ _
              refine g_calls (As := [.long z149]) (r := [.int z137, .ref (A 193)]) 155 (gd rfl) rfl rfl rfl rfl rfl (Nat.le_of_ble_eq_true rfl) (mc := 0) (ms := 0) (Nat.zero_le _) (Nat.zero_le _) (P := fun v u => _) ?_ (fun v u h => h)
              intro po152 xx152 hp152 hx152
              refine g_enter2 (k := 405) (N := 300) (by omega) rfl (Nat.le_of_ble_eq_true rfl) (g_lload_n 1 (gd rfl) rfl rfl (g_ldc2_w 1000000000000 4 (gd rfl) rfl rfl (g_lcmp 5 (gd rfl) rfl (fun z152x4 e152x4 => have i152x4 := lc_in e152x4; g_if_le 8 14 (gd rfl) rfl rfl (fun c152x5 => ?_) (fun c152x5 => ?_)))))
              · skip
                have i152x5 := z_le (-1) 0 c152x5 i152x4 rfl
                have c152x5a := lc_le e152x4 c152x5
                have i152x5a := lr_le1 (-9223372036854775808) 1000000000000 c152x5a (l_rng z149) (l_c 1000000000000 rfl) rfl
                refine g_lload_n 15 (gd rfl) rfl rfl (g_ldc2_w (-1000000000000) 18 (gd rfl) rfl rfl (g_lcmp 19 (gd rfl) rfl (fun z152x18 e152x18 => have i152x18 := lc_in e152x18; g_if_ge 22 28 (gd rfl) rfl rfl (fun c152x19 => ?_) (fun c152x19 => ?_))))
                · skip
                  have i152x19 := z_ge 0 1 c152x19 i152x18 rfl
                  have c152x19a := lc_ge e152x18 c152x19
                  have i152x19a := lr_le2 (-1000000000000) 1000000000000 c152x19a (l_c (-1000000000000) rfl) i152x5a rfl
                  refine g_lload_n 29 (gd rfl) rfl rfl ?_
                  refine g_lreturn (gd rfl) rfl (hp152 _ _ ?_)
                  show GG _ _ _ _ _ _ _ _ [.long z149, .int z137, .ref (A 193)] _ _ _
                  refine g_goto 225 (gd rfl) rfl ?_
                  have i225 : In z137 0 199 := by exact (have a0 := in_u h1; have a1 := in_u i26; have a2 := in_u j17_2; have a3 := in_u i142; have a4 := in_u i128; have a5 := t_add e110 j17_2 (in_c (-1) rfl) rfl; have a6 := in_u ((in_c (-1) rfl)); have a7 := in_u i137; have a8 := t_sub e137 i128 (in_c 1 rfl) rfl; have a9 := in_u ((in_c 1 rfl)); have a10 := in_u i120; have a11 := t_sub e119 i110 (in_c 1 rfl) rfl; have a12 := in_u i24; have a13 := t_add e24 h1 (in_c 1 rfl) rfl; ⟨by omega, by omega⟩)
                  refine g_lastore 226 (gd rfl) rfl (n := 200) rfl (in_ix i225 rfl) (have hI225 := inv_sL (q := 193) (j := z137.toNatClampNeg) (x := z149) hIc17 rfl (l_rng z149); g_iinc 229 (gd rfl) rfl rfl (Nat.le_of_ble_eq_true rfl) (fun z226 e226 => have i226 := in_add 1 120 e226 i26 (in_c 1 rfl) rfl rfl; g_goto 17 (gd rfl) rfl ?_))
                  have i17 : In z110 0 120 := by exact ⟨by exact (have a0 := in_u h1; have a1 := in_u i26; have a2 := in_u j17_2; have a3 := in_u i142; have a4 := in_u i226; have a5 := t_add e226 i26 (in_c 1 rfl) rfl; have a6 := in_u ((in_c 1 rfl)); have a7 := in_u i128; have a8 := t_add e110 j17_2 (in_c (-1) rfl) rfl; have a9 := in_u ((in_c (-1) rfl)); have a10 := in_u i225; have a11 := t_sub e137 i128 (in_c 1 rfl) rfl; have a12 := in_u i120; have a13 := t_sub e119 i110 (in_c 1 rfl) rfl; have a14 := in_u i24; have a15 := t_add e24 h1 (in_c 1 rfl) rfl; by omega), by exact (have a0 := in_u h1; have a1 := in_u i26; have a2 := in_u j17_2; have a3 := in_u i142; have a4 := in_u i226; have a5 := t_add e226 i26 (in_c 1 rfl) rfl; have a6 := in_u ((in_c 1 rfl)); have a7 := in_u i128; have a8 := t_add e110 j17_2 (in_c (-1) rfl) rfl; have a9 := in_u ((in_c (-1) rfl)); have a10 := in_u i225; have a11 := t_sub e137 i128 (in_c 1 rfl) rfl; have a12 := in_u i120; have a13 := t_sub e119 i110 (in_c 1 rfl) rfl; have a14 := in_u i24; have a15 := t_add e24 h1 (in_c 1 rfl) rfl; by omega)⟩
                  have n17 : (z110).toInt ≤ (z226).toInt := by exact (have a0 := in_u h1; have a1 := in_u i26; have a2 := in_u j17_2; have a3 := in_u i142; have a4 := in_u i226; have a5 := t_add e226 i26 (in_c 1 rfl) rfl; have a6 := in_u ((in_c 1 rfl)); have a7 := in_u i17; have a8 := t_add e110 j17_2 (in_c (-1) rfl) rfl; have a9 := in_u ((in_c (-1) rfl)); have a10 := in_u i225; have a11 := t_sub e137 i128 (in_c 1 rfl) rfl; have a12 := in_u i120; have a13 := t_sub e119 i110 (in_c 1 rfl) rfl; have a14 := in_u i24; have a15 := t_add e24 h1 (in_c 1 rfl) rfl; by omega)
                  have n17a : WS (sL sc17 193 z137.toNatClampNeg z149) x1 z226 z110 := by first | exact hk2 _ _ (by exact (have a0 := in_u h1; have a1 := in_u i26; have a2 := in_u j17_2; have a3 := in_u i142; have a4 := in_u i226; have a5 := t_add e226 i26 (in_c 1 rfl) rfl; have a6 := in_u ((in_c 1 rfl)); have a7 := in_u i17; have a8 := t_add e110 j17_2 (in_c (-1) rfl) rfl; have a9 := in_u ((in_c (-1) rfl)); have a10 := in_u i225; have a11 := t_sub e137 i128 (in_c 1 rfl) rfl; have a12 := in_u i120; have a13 := t_sub e119 i110 (in_c 1 rfl) rfl; have a14 := in_u i24; have a15 := t_add e24 h1 (in_c 1 rfl) rfl; by omega)) (by exact (have a0 := in_u h1; have a1 := in_u i26; have a2 := in_u j17_2; have a3 := in_u i142; have a4 := in_u i226; have a5 := t_add e226 i26 (in_c 1 rfl) rfl; have a6 := in_u ((in_c 1 rfl)); have a7 := in_u i17; have a8 := t_add e110 j17_2 (in_c (-1) rfl) rfl; have a9 := in_u ((in_c (-1) rfl)); have a10 := in_u i225; have a11 := t_sub e137 i128 (in_c 1 rfl) rfl; have a12 := in_u i120; have a13 := t_sub e119 i110 (in_c 1 rfl) rfl; have a14 := in_u i24; have a15 := t_add e24 h1 (in_c 1 rfl) rfl; by omega)) | exact ws_0 rfl (by first | exact (by decide) | exact i15.1) (by unfold wa; first | (rw [if_pos c3]; rfl) | (rw [if_neg c3, e15]; rfl))
                  exact gg_w (by omega) (gg_f (gf_cons rfl (gf_cons rfl (gf_cons rfl (gf_cons rfl gf_nil)))) (ih17 (sL sc17 193 z137.toNatClampNeg z149) z110 z226 hI225 (fr_sL rfl hFc17) i17 (in_w 0 120 i226 rfl) n17 n17a (m_up mm17 (t_add e226 i26 (in_c 1 rfl) rfl) (in_w 1 1 (in_c 1 rfl) rfl))))
                · skip
                  have i152x19 := z_lt (-1) (-1) c152x19 i152x18 rfl
                  have c152x19a := lc_lt e152x18 c152x19
                  have i152x19a := lr_lt1 (-9223372036854775808) (-1000000000001) c152x19a i152x5a (l_c (-1000000000000) rfl) rfl
                  refine g_ldc2_w (-1000000000000) 25 (gd rfl) rfl rfl (g_goto 29 (gd rfl) rfl ?_)
                  refine g_lreturn (gd rfl) rfl (hp152 _ _ ?_)
                  show GG _ _ _ _ _ _ _ _ [.long (Int64.ofInt (-1000000000000)), .int z137, .ref (A 193)] _ _ _
                  refine g_goto 225 (gd rfl) rfl ?_
                  have i225 : In z137 0 199 := by exact (have a0 := in_u h1; have a1 := in_u i26; have a2 := in_u j17_2; have a3 := in_u i142; have a4 := in_u i128; have a5 := t_add e110 j17_2 (in_c (-1) rfl) rfl; have a6 := in_u ((in_c (-1) rfl)); have a7 := in_u i137; have a8 := t_sub e137 i128 (in_c 1 rfl) rfl; have a9 := in_u ((in_c 1 rfl)); have a10 := in_u i120; have a11 := t_sub e119 i110 (in_c 1 rfl) rfl; have a12 := in_u i24; have a13 := t_add e24 h1 (in_c 1 rfl) rfl; ⟨by omega, by omega⟩)
                  refine g_lastore 226 (gd rfl) rfl (n := 200) rfl (in_ix i225 rfl) (have hI225 := inv_sL (q := 193) (j := z137.toNatClampNeg) (x := (Int64.ofInt (-1000000000000))) hIc17 rfl (l_rng (Int64.ofInt (-1000000000000))); g_iinc 229 (gd rfl) rfl rfl (Nat.le_of_ble_eq_true rfl) (fun z226 e226 => have i226 := in_add 1 120 e226 i26 (in_c 1 rfl) rfl rfl; g_goto 17 (gd rfl) rfl ?_))
                  have i17 : In z110 0 120 := by exact ⟨by exact (have a0 := in_u h1; have a1 := in_u i26; have a2 := in_u j17_2; have a3 := in_u i142; have a4 := in_u i226; have a5 := t_add e226 i26 (in_c 1 rfl) rfl; have a6 := in_u ((in_c 1 rfl)); have a7 := in_u i128; have a8 := t_add e110 j17_2 (in_c (-1) rfl) rfl; have a9 := in_u ((in_c (-1) rfl)); have a10 := in_u i225; have a11 := t_sub e137 i128 (in_c 1 rfl) rfl; have a12 := in_u i120; have a13 := t_sub e119 i110 (in_c 1 rfl) rfl; have a14 := in_u i24; have a15 := t_add e24 h1 (in_c 1 rfl) rfl; by omega), by exact (have a0 := in_u h1; have a1 := in_u i26; have a2 := in_u j17_2; have a3 := in_u i142; have a4 := in_u i226; have a5 := t_add e226 i26 (in_c 1 rfl) rfl; have a6 := in_u ((in_c 1 rfl)); have a7 := in_u i128; have a8 := t_add e110 j17_2 (in_c (-1) rfl) rfl; have a9 := in_u ((in_c (-1) rfl)); have a10 := in_u i225; have a11 := t_sub e137 i128 (in_c 1 rfl) rfl; have a12 := in_u i120; have a13 := t_sub e119 i110 (in_c 1 rfl) rfl; have a14 := in_u i24; have a15 := t_add e24 h1 (in_c 1 rfl) rfl; by omega)⟩
                  have n17 : (z110).toInt ≤ (z226).toInt := by exact (have a0 := in_u h1; have a1 := in_u i26; have a2 := in_u j17_2; have a3 := in_u i142; have a4 := in_u i226; have a5 := t_add e226 i26 (in_c 1 rfl) rfl; have a6 := in_u ((in_c 1 rfl)); have a7 := in_u i17; have a8 := t_add e110 j17_2 (in_c (-1) rfl) rfl; have a9 := in_u ((in_c (-1) rfl)); have a10 := in_u i225; have a11 := t_sub e137 i128 (in_c 1 rfl) rfl; have a12 := in_u i120; have a13 := t_sub e119 i110 (in_c 1 rfl) rfl; have a14 := in_u i24; have a15 := t_add e24 h1 (in_c 1 rfl) rfl; by omega)
                  have n17a : WS (sL sc17 193 z137.toNatClampNeg (Int64.ofInt (-1000000000000))) x1 z226 z110 := by first | exact hk2 _ _ (by exact (have a0 := in_u h1; have a1 := in_u i26; have a2 := in_u j17_2; have a3 := in_u i142; have a4 := in_u i226; have a5 := t_add e226 i26 (in_c 1 rfl) rfl; have a6 := in_u ((in_c 1 rfl)); have a7 := in_u i17; have a8 := t_add e110 j17_2 (in_c (-1) rfl) rfl; have a9 := in_u ((in_c (-1) rfl)); have a10 := in_u i225; have a11 := t_sub e137 i128 (in_c 1 rfl) rfl; have a12 := in_u i120; have a13 := t_sub e119 i110 (in_c 1 rfl) rfl; have a14 := in_u i24; have a15 := t_add e24 h1 (in_c 1 rfl) rfl; by omega)) (by exact (have a0 := in_u h1; have a1 := in_u i26; have a2 := in_u j17_2; have a3 := in_u i142; have a4 := in_u i226; have a5 := t_add e226 i26 (in_c 1 rfl) rfl; have a6 := in_u ((in_c 1 rfl)); have a7 := in_u i17; have a8 := t_add e110 j17_2 (in_c (-1) rfl) rfl; have a9 := in_u ((in_c (-1) rfl)); have a10 := in_u i225; have a11 := t_sub e137 i128 (in_c 1 rfl) rfl; have a12 := in_u i120; have a13 := t_sub e119 i110 (in_c 1 rfl) rfl; have a14 := in_u i24; have a15 := t_add e24 h1 (in_c 1 rfl) rfl; by omega)) | exact ws_0 rfl (by first | exact (by decide) | exact i15.1) (by unfold wa; first | (rw [if_pos c3]; rfl) | (rw [if_neg c3, e15]; rfl))
                  exact gg_w (by omega) (gg_f (gf_cons rfl (gf_cons rfl (gf_cons rfl (gf_cons rfl gf_nil)))) (ih17 (sL sc17 193 z137.toNatClampNeg (Int64.ofInt (-1000000000000))) z110 z226 hI225 (fr_sL rfl hFc17) i17 (in_w 0 120 i226 rfl) n17 n17a (m_up mm17 (t_add e226 i26 (in_c 1 rfl) rfl) (in_w 1 1 (in_c 1 rfl) rfl))))
              · skip
                have i152x5 := z_gt 1 1 c152x5 i152x4 rfl
                have c152x5a := lc_gt e152x4 c152x5
                have i152x5a := lr_lt2 1000000000001 9223372036854775807 c152x5a (l_c 1000000000000 rfl) (l_rng z149) rfl
                refine g_ldc2_w 1000000000000 11 (gd rfl) rfl rfl (g_goto 29 (gd rfl) rfl ?_)
                refine g_lreturn (gd rfl) rfl (hp152 _ _ ?_)
                show GG _ _ _ _ _ _ _ _ [.long (Int64.ofInt 1000000000000), .int z137, .ref (A 193)] _ _ _
                refine g_goto 225 (gd rfl) rfl ?_
                have i225 : In z137 0 199 := by exact (have a0 := in_u h1; have a1 := in_u i26; have a2 := in_u j17_2; have a3 := in_u i142; have a4 := in_u i128; have a5 := t_add e110 j17_2 (in_c (-1) rfl) rfl; have a6 := in_u ((in_c (-1) rfl)); have a7 := in_u i137; have a8 := t_sub e137 i128 (in_c 1 rfl) rfl; have a9 := in_u ((in_c 1 rfl)); have a10 := in_u i120; have a11 := t_sub e119 i110 (in_c 1 rfl) rfl; have a12 := in_u i24; have a13 := t_add e24 h1 (in_c 1 rfl) rfl; ⟨by omega, by omega⟩)
                refine g_lastore 226 (gd rfl) rfl (n := 200) rfl (in_ix i225 rfl) (have hI225 := inv_sL (q := 193) (j := z137.toNatClampNeg) (x := (Int64.ofInt 1000000000000)) hIc17 rfl (l_rng (Int64.ofInt 1000000000000)); g_iinc 229 (gd rfl) rfl rfl (Nat.le_of_ble_eq_true rfl) (fun z226 e226 => have i226 := in_add 1 120 e226 i26 (in_c 1 rfl) rfl rfl; g_goto 17 (gd rfl) rfl ?_))
                have i17 : In z110 0 120 := by exact ⟨by exact (have a0 := in_u h1; have a1 := in_u i26; have a2 := in_u j17_2; have a3 := in_u i142; have a4 := in_u i226; have a5 := t_add e226 i26 (in_c 1 rfl) rfl; have a6 := in_u ((in_c 1 rfl)); have a7 := in_u i128; have a8 := t_add e110 j17_2 (in_c (-1) rfl) rfl; have a9 := in_u ((in_c (-1) rfl)); have a10 := in_u i225; have a11 := t_sub e137 i128 (in_c 1 rfl) rfl; have a12 := in_u i120; have a13 := t_sub e119 i110 (in_c 1 rfl) rfl; have a14 := in_u i24; have a15 := t_add e24 h1 (in_c 1 rfl) rfl; by omega), by exact (have a0 := in_u h1; have a1 := in_u i26; have a2 := in_u j17_2; have a3 := in_u i142; have a4 := in_u i226; have a5 := t_add e226 i26 (in_c 1 rfl) rfl; have a6 := in_u ((in_c 1 rfl)); have a7 := in_u i128; have a8 := t_add e110 j17_2 (in_c (-1) rfl) rfl; have a9 := in_u ((in_c (-1) rfl)); have a10 := in_u i225; have a11 := t_sub e137 i128 (in_c 1 rfl) rfl; have a12 := in_u i120; have a13 := t_sub e119 i110 (in_c 1 rfl) rfl; have a14 := in_u i24; have a15 := t_add e24 h1 (in_c 1 rfl) rfl; by omega)⟩
                have n17 : (z110).toInt ≤ (z226).toInt := by exact (have a0 := in_u h1; have a1 := in_u i26; have a2 := in_u j17_2; have a3 := in_u i142; have a4 := in_u i226; have a5 := t_add e226 i26 (in_c 1 rfl) rfl; have a6 := in_u ((in_c 1 rfl)); have a7 := in_u i17; have a8 := t_add e110 j17_2 (in_c (-1) rfl) rfl; have a9 := in_u ((in_c (-1) rfl)); have a10 := in_u i225; have a11 := t_sub e137 i128 (in_c 1 rfl) rfl; have a12 := in_u i120; have a13 := t_sub e119 i110 (in_c 1 rfl) rfl; have a14 := in_u i24; have a15 := t_add e24 h1 (in_c 1 rfl) rfl; by omega)
                have n17a : WS (sL sc17 193 z137.toNatClampNeg (Int64.ofInt 1000000000000)) x1 z226 z110 := by first | exact hk2 _ _ (by exact (have a0 := in_u h1; have a1 := in_u i26; have a2 := in_u j17_2; have a3 := in_u i142; have a4 := in_u i226; have a5 := t_add e226 i26 (in_c 1 rfl) rfl; have a6 := in_u ((in_c 1 rfl)); have a7 := in_u i17; have a8 := t_add e110 j17_2 (in_c (-1) rfl) rfl; have a9 := in_u ((in_c (-1) rfl)); have a10 := in_u i225; have a11 := t_sub e137 i128 (in_c 1 rfl) rfl; have a12 := in_u i120; have a13 := t_sub e119 i110 (in_c 1 rfl) rfl; have a14 := in_u i24; have a15 := t_add e24 h1 (in_c 1 rfl) rfl; by omega)) (by exact (have a0 := in_u h1; have a1 := in_u i26; have a2 := in_u j17_2; have a3 := in_u i142; have a4 := in_u i226; have a5 := t_add e226 i26 (in_c 1 rfl) rfl; have a6 := in_u ((in_c 1 rfl)); have a7 := in_u i17; have a8 := t_add e110 j17_2 (in_c (-1) rfl) rfl; have a9 := in_u ((in_c (-1) rfl)); have a10 := in_u i225; have a11 := t_sub e137 i128 (in_c 1 rfl) rfl; have a12 := in_u i120; have a13 := t_sub e119 i110 (in_c 1 rfl) rfl; have a14 := in_u i24; have a15 := t_add e24 h1 (in_c 1 rfl) rfl; by omega)) | exact ws_0 rfl (by first | exact (by decide) | exact i15.1) (by unfold wa; first | (rw [if_pos c3]; rfl) | (rw [if_neg c3, e15]; rfl))
                exact gg_w (by omega) (gg_f (gf_cons rfl (gf_cons rfl (gf_cons rfl (gf_cons rfl gf_nil)))) (ih17 (sL sc17 193 z137.toNatClampNeg (Int64.ofInt 1000000000000)) z110 z226 hI225 (fr_sL rfl hFc17) i17 (in_w 0 120 i226 rfl) n17 n17a (m_up mm17 (t_add e226 i26 (in_c 1 rfl) rfl) (in_w 1 1 (in_c 1 rfl) rfl))))
          · skip
            have i84 := r_eq1 2 2 c84 i40 (in_c 2 rfl) rfl
            have hk3 := hs_2 hk1 c84
            refine g_aload_n 88 (gd rfl) rfl rfl (g_getA (q2 := 193) 91 (gd rfl) rfl rfl rfl rfl (g_iload_n 92 (gd rfl) rfl rfl (g_iconst 1 93 (gd rfl) rfl rfl (g_isub 94 (gd rfl) rfl (fun z93 e93 => have i93 := in_sub (-1) 119 e93 j17_2 (in_c 1 rfl) rfl rfl; g_aload_n 95 (gd rfl) rfl rfl (g_getA (q2 := 193) 98 (gd rfl) rfl rfl rfl rfl (g_iload_n 99 (gd rfl) rfl rfl (g_iconst 1 100 (gd rfl) rfl rfl (g_isub 101 (gd rfl) rfl (fun z100 e100 => ?_))))))))))
            have i100 := in_sub (-1) 119 e100 j17_2 (in_c 1 rfl) rfl rfl
            have i101 : In z100 0 199 := by exact (have a0 := in_u h1; have a1 := in_u i26; have a2 := in_u j17_2; have a3 := in_u i84; have a4 := in_u i100; have a5 := t_sub e100 j17_2 (in_c 1 rfl) rfl; have a6 := in_u ((in_c 1 rfl)); have a7 := in_u i93; have a8 := t_sub e93 j17_2 (in_c 1 rfl) rfl; have a9 := in_u i24; have a10 := t_add e24 h1 (in_c 1 rfl) rfl; ⟨by omega, by omega⟩)
            refine g_laload 102 (gd rfl) rfl (n := 200) rfl (in_ix i101 rfl) (fun z101 e101 => g_lneg 103 (gd rfl) rfl (fun z102 e102 => ?_))
            refine g_calls (As := [.long z102]) (r := [.int z93, .ref (A 193)]) 106 (gd rfl) rfl rfl rfl rfl rfl (Nat.le_of_ble_eq_true rfl) (mc := 0) (ms := 0) (Nat.zero_le _) (Nat.zero_le _) (P := fun v u => _) ?_ (fun v u h => h)
            intro po103 xx103 hp103 hx103
            refine g_enter2 (k := 405) (N := 300) (by omega) rfl (Nat.le_of_ble_eq_true rfl) (g_lload_n 1 (gd rfl) rfl rfl (g_ldc2_w 1000000000000 4 (gd rfl) rfl rfl (g_lcmp 5 (gd rfl) rfl (fun z103x4 e103x4 => have i103x4 := lc_in e103x4; g_if_le 8 14 (gd rfl) rfl rfl (fun c103x5 => ?_) (fun c103x5 => ?_)))))
            · skip
              have i103x5 := z_le (-1) 0 c103x5 i103x4 rfl
              have c103x5a := lc_le e103x4 c103x5
              have i103x5a := lr_le1 (-9223372036854775808) 1000000000000 c103x5a (l_rng z102) (l_c 1000000000000 rfl) rfl
              refine g_lload_n 15 (gd rfl) rfl rfl (g_ldc2_w (-1000000000000) 18 (gd rfl) rfl rfl (g_lcmp 19 (gd rfl) rfl (fun z103x18 e103x18 => have i103x18 := lc_in e103x18; g_if_ge 22 28 (gd rfl) rfl rfl (fun c103x19 => ?_) (fun c103x19 => ?_))))
              · skip
                have i103x19 := z_ge 0 1 c103x19 i103x18 rfl
                have c103x19a := lc_ge e103x18 c103x19
                have i103x19a := lr_le2 (-1000000000000) 1000000000000 c103x19a (l_c (-1000000000000) rfl) i103x5a rfl
                refine g_lload_n 29 (gd rfl) rfl rfl ?_
                refine g_lreturn (gd rfl) rfl (hp103 _ _ ?_)
                show GG _ _ _ _ _ _ _ _ [.long z102, .int z93, .ref (A 193)] _ _ _
                have i106 : In z93 0 199 := by exact (have a0 := in_u h1; have a1 := in_u i26; have a2 := in_u j17_2; have a3 := in_u i84; have a4 := in_u i101; have a5 := t_sub e100 j17_2 (in_c 1 rfl) rfl; have a6 := in_u ((in_c 1 rfl)); have a7 := in_u i93; have a8 := t_sub e93 j17_2 (in_c 1 rfl) rfl; have a9 := in_u i24; have a10 := t_add e24 h1 (in_c 1 rfl) rfl; ⟨by omega, by omega⟩)
                refine g_lastore 107 (gd rfl) rfl (n := 200) rfl (in_ix i106 rfl) (have hI106 := inv_sL (q := 193) (j := z93.toNatClampNeg) (x := z102) hIc17 rfl (l_rng z102); g_goto 226 (gd rfl) rfl (g_iinc 229 (gd rfl) rfl rfl (Nat.le_of_ble_eq_true rfl) (fun z226 e226 => have i226 := in_add 1 120 e226 i26 (in_c 1 rfl) rfl rfl; g_goto 17 (gd rfl) rfl ?_)))
                have n17 : (y17_2).toInt ≤ (z226).toInt := by exact (have a0 := in_u h1; have a1 := in_u i26; have a2 := in_u j17_2; have a3 := in_u i84; have a4 := in_u i226; have a5 := t_add e226 i26 (in_c 1 rfl) rfl; have a6 := in_u ((in_c 1 rfl)); have a7 := in_u i101; have a8 := t_sub e100 j17_2 (in_c 1 rfl) rfl; have a9 := in_u i106; have a10 := t_sub e93 j17_2 (in_c 1 rfl) rfl; have a11 := in_u i24; have a12 := t_add e24 h1 (in_c 1 rfl) rfl; by omega)
                have n17a : WS (sL sc17 193 z93.toNatClampNeg z102) x1 z226 y17_2 := by first | exact hk2 _ _ (by exact (have a0 := in_u h1; have a1 := in_u i26; have a2 := in_u j17_2; have a3 := in_u i84; have a4 := in_u i226; have a5 := t_add e226 i26 (in_c 1 rfl) rfl; have a6 := in_u ((in_c 1 rfl)); have a7 := in_u i101; have a8 := t_sub e100 j17_2 (in_c 1 rfl) rfl; have a9 := in_u i106; have a10 := t_sub e93 j17_2 (in_c 1 rfl) rfl; have a11 := in_u i24; have a12 := t_add e24 h1 (in_c 1 rfl) rfl; by omega)) (by exact (have a0 := in_u h1; have a1 := in_u i26; have a2 := in_u j17_2; have a3 := in_u i84; have a4 := in_u i226; have a5 := t_add e226 i26 (in_c 1 rfl) rfl; have a6 := in_u ((in_c 1 rfl)); have a7 := in_u i101; have a8 := t_sub e100 j17_2 (in_c 1 rfl) rfl; have a9 := in_u i106; have a10 := t_sub e93 j17_2 (in_c 1 rfl) rfl; have a11 := in_u i24; have a12 := t_add e24 h1 (in_c 1 rfl) rfl; by omega)) | exact ws_0 rfl (by first | exact (by decide) | exact i15.1) (by unfold wa; first | (rw [if_pos c3]; rfl) | (rw [if_neg c3, e15]; rfl))
                exact gg_w (by omega) (gg_f (gf_cons rfl (gf_cons rfl (gf_cons rfl (gf_cons rfl gf_nil)))) (ih17 (sL sc17 193 z93.toNatClampNeg z102) y17_2 z226 hI106 (fr_sL rfl hFc17) (in_w 0 120 j17_2 rfl) (in_w 0 120 i226 rfl) n17 n17a (m_up mm17 (t_add e226 i26 (in_c 1 rfl) rfl) (in_w 1 1 (in_c 1 rfl) rfl))))
              · skip
                have i103x19 := z_lt (-1) (-1) c103x19 i103x18 rfl
                have c103x19a := lc_lt e103x18 c103x19
                have i103x19a := lr_lt1 (-9223372036854775808) (-1000000000001) c103x19a i103x5a (l_c (-1000000000000) rfl) rfl
                refine g_ldc2_w (-1000000000000) 25 (gd rfl) rfl rfl (g_goto 29 (gd rfl) rfl ?_)
                refine g_lreturn (gd rfl) rfl (hp103 _ _ ?_)
                show GG _ _ _ _ _ _ _ _ [.long (Int64.ofInt (-1000000000000)), .int z93, .ref (A 193)] _ _ _
                have i106 : In z93 0 199 := by exact (have a0 := in_u h1; have a1 := in_u i26; have a2 := in_u j17_2; have a3 := in_u i84; have a4 := in_u i101; have a5 := t_sub e100 j17_2 (in_c 1 rfl) rfl; have a6 := in_u ((in_c 1 rfl)); have a7 := in_u i93; have a8 := t_sub e93 j17_2 (in_c 1 rfl) rfl; have a9 := in_u i24; have a10 := t_add e24 h1 (in_c 1 rfl) rfl; ⟨by omega, by omega⟩)
                refine g_lastore 107 (gd rfl) rfl (n := 200) rfl (in_ix i106 rfl) (have hI106 := inv_sL (q := 193) (j := z93.toNatClampNeg) (x := (Int64.ofInt (-1000000000000))) hIc17 rfl (l_rng (Int64.ofInt (-1000000000000))); g_goto 226 (gd rfl) rfl (g_iinc 229 (gd rfl) rfl rfl (Nat.le_of_ble_eq_true rfl) (fun z226 e226 => have i226 := in_add 1 120 e226 i26 (in_c 1 rfl) rfl rfl; g_goto 17 (gd rfl) rfl ?_)))
                have n17 : (y17_2).toInt ≤ (z226).toInt := by exact (have a0 := in_u h1; have a1 := in_u i26; have a2 := in_u j17_2; have a3 := in_u i84; have a4 := in_u i226; have a5 := t_add e226 i26 (in_c 1 rfl) rfl; have a6 := in_u ((in_c 1 rfl)); have a7 := in_u i101; have a8 := t_sub e100 j17_2 (in_c 1 rfl) rfl; have a9 := in_u i106; have a10 := t_sub e93 j17_2 (in_c 1 rfl) rfl; have a11 := in_u i24; have a12 := t_add e24 h1 (in_c 1 rfl) rfl; by omega)
                have n17a : WS (sL sc17 193 z93.toNatClampNeg (Int64.ofInt (-1000000000000))) x1 z226 y17_2 := by first | exact hk2 _ _ (by exact (have a0 := in_u h1; have a1 := in_u i26; have a2 := in_u j17_2; have a3 := in_u i84; have a4 := in_u i226; have a5 := t_add e226 i26 (in_c 1 rfl) rfl; have a6 := in_u ((in_c 1 rfl)); have a7 := in_u i101; have a8 := t_sub e100 j17_2 (in_c 1 rfl) rfl; have a9 := in_u i106; have a10 := t_sub e93 j17_2 (in_c 1 rfl) rfl; have a11 := in_u i24; have a12 := t_add e24 h1 (in_c 1 rfl) rfl; by omega)) (by exact (have a0 := in_u h1; have a1 := in_u i26; have a2 := in_u j17_2; have a3 := in_u i84; have a4 := in_u i226; have a5 := t_add e226 i26 (in_c 1 rfl) rfl; have a6 := in_u ((in_c 1 rfl)); have a7 := in_u i101; have a8 := t_sub e100 j17_2 (in_c 1 rfl) rfl; have a9 := in_u i106; have a10 := t_sub e93 j17_2 (in_c 1 rfl) rfl; have a11 := in_u i24; have a12 := t_add e24 h1 (in_c 1 rfl) rfl; by omega)) | exact ws_0 rfl (by first | exact (by decide) | exact i15.1) (by unfold wa; first | (rw [if_pos c3]; rfl) | (rw [if_neg c3, e15]; rfl))
                exact gg_w (by omega) (gg_f (gf_cons rfl (gf_cons rfl (gf_cons rfl (gf_cons rfl gf_nil)))) (ih17 (sL sc17 193 z93.toNatClampNeg (Int64.ofInt (-1000000000000))) y17_2 z226 hI106 (fr_sL rfl hFc17) (in_w 0 120 j17_2 rfl) (in_w 0 120 i226 rfl) n17 n17a (m_up mm17 (t_add e226 i26 (in_c 1 rfl) rfl) (in_w 1 1 (in_c 1 rfl) rfl))))
            · skip
              have i103x5 := z_gt 1 1 c103x5 i103x4 rfl
              have c103x5a := lc_gt e103x4 c103x5
              have i103x5a := lr_lt2 1000000000001 9223372036854775807 c103x5a (l_c 1000000000000 rfl) (l_rng z102) rfl
              refine g_ldc2_w 1000000000000 11 (gd rfl) rfl rfl (g_goto 29 (gd rfl) rfl ?_)
              refine g_lreturn (gd rfl) rfl (hp103 _ _ ?_)
              show GG _ _ _ _ _ _ _ _ [.long (Int64.ofInt 1000000000000), .int z93, .ref (A 193)] _ _ _
              have i106 : In z93 0 199 := by exact (have a0 := in_u h1; have a1 := in_u i26; have a2 := in_u j17_2; have a3 := in_u i84; have a4 := in_u i101; have a5 := t_sub e100 j17_2 (in_c 1 rfl) rfl; have a6 := in_u ((in_c 1 rfl)); have a7 := in_u i93; have a8 := t_sub e93 j17_2 (in_c 1 rfl) rfl; have a9 := in_u i24; have a10 := t_add e24 h1 (in_c 1 rfl) rfl; ⟨by omega, by omega⟩)
              refine g_lastore 107 (gd rfl) rfl (n := 200) rfl (in_ix i106 rfl) (have hI106 := inv_sL (q := 193) (j := z93.toNatClampNeg) (x := (Int64.ofInt 1000000000000)) hIc17 rfl (l_rng (Int64.ofInt 1000000000000)); g_goto 226 (gd rfl) rfl (g_iinc 229 (gd rfl) rfl rfl (Nat.le_of_ble_eq_true rfl) (fun z226 e226 => have i226 := in_add 1 120 e226 i26 (in_c 1 rfl) rfl rfl; g_goto 17 (gd rfl) rfl ?_)))
              have n17 : (y17_2).toInt ≤ (z226).toInt := by exact (have a0 := in_u h1; have a1 := in_u i26; have a2 := in_u j17_2; have a3 := in_u i84; have a4 := in_u i226; have a5 := t_add e226 i26 (in_c 1 rfl) rfl; have a6 := in_u ((in_c 1 rfl)); have a7 := in_u i101; have a8 := t_sub e100 j17_2 (in_c 1 rfl) rfl; have a9 := in_u i106; have a10 := t_sub e93 j17_2 (in_c 1 rfl) rfl; have a11 := in_u i24; have a12 := t_add e24 h1 (in_c 1 rfl) rfl; by omega)
              have n17a : WS (sL sc17 193 z93.toNatClampNeg (Int64.ofInt 1000000000000)) x1 z226 y17_2 := by first | exact hk2 _ _ (by exact (have a0 := in_u h1; have a1 := in_u i26; have a2 := in_u j17_2; have a3 := in_u i84; have a4 := in_u i226; have a5 := t_add e226 i26 (in_c 1 rfl) rfl; have a6 := in_u ((in_c 1 rfl)); have a7 := in_u i101; have a8 := t_sub e100 j17_2 (in_c 1 rfl) rfl; have a9 := in_u i106; have a10 := t_sub e93 j17_2 (in_c 1 rfl) rfl; have a11 := in_u i24; have a12 := t_add e24 h1 (in_c 1 rfl) rfl; by omega)) (by exact (have a0 := in_u h1; have a1 := in_u i26; have a2 := in_u j17_2; have a3 := in_u i84; have a4 := in_u i226; have a5 := t_add e226 i26 (in_c 1 rfl) rfl; have a6 := in_u ((in_c 1 rfl)); have a7 := in_u i101; have a8 := t_sub e100 j17_2 (in_c 1 rfl) rfl; have a9 := in_u i106; have a10 := t_sub e93 j17_2 (in_c 1 rfl) rfl; have a11 := in_u i24; have a12 := t_add e24 h1 (in_c 1 rfl) rfl; by omega)) | exact ws_0 rfl (by first | exact (by decide) | exact i15.1) (by unfold wa; first | (rw [if_pos c3]; rfl) | (rw [if_neg c3, e15]; rfl))
              exact gg_w (by omega) (gg_f (gf_cons rfl (gf_cons rfl (gf_cons rfl (gf_cons rfl gf_nil)))) (ih17 (sL sc17 193 z93.toNatClampNeg (Int64.ofInt 1000000000000)) y17_2 z226 hI106 (fr_sL rfl hFc17) (in_w 0 120 j17_2 rfl) (in_w 0 120 i226 rfl) n17 n17a (m_up mm17 (t_add e226 i26 (in_c 1 rfl) rfl) (in_w 1 1 (in_c 1 rfl) rfl))))
        · skip
          have i40 := r_lt1 (-2147483648) 1 c40 (i_rng z34) (in_c 2 rfl) rfl
          have hk3 := (hs_0 hk1 c40)
          refine g_aload_n 44 (gd rfl) rfl rfl (g_getA (q2 := 193) 47 (gd rfl) rfl rfl rfl rfl (g_iload_n 48 (gd rfl) rfl rfl (g_iload 50 (gd rfl) rfl rfl (g_if_ne 53 63 (gd rfl) rfl rfl (fun c50 => ?_) (fun c50 => ?_)))))
          · skip
            refine g_aload_n 64 (gd rfl) rfl rfl (g_getA (q2 := 194) 67 (gd rfl) rfl rfl rfl rfl (g_aload_n 68 (gd rfl) rfl rfl (g_getA (q2 := 185) 71 (gd rfl) rfl rfl rfl rfl (g_iload_n 72 (gd rfl) rfl rfl (g_iaload 73 (gd rfl) rfl (n := 400) rfl (in_ix i26 rfl) (fun z72 e72 => ?_))))))
            have i73 : In z72 0 8 := by rw [e72]; exact hk3.2 c50
            refine g_laload 74 (gd rfl) rfl (n := 9) rfl (in_ix i73 rfl) (fun z73 e73 => g_lastore 75 (gd rfl) rfl (n := 200) rfl (in_ix j17_2 rfl) (have hI74 := inv_sL (q := 193) (j := y17_2.toNatClampNeg) (x := z73) hIc17 rfl (l_rng z73); g_iinc 78 (gd rfl) rfl rfl (Nat.le_of_ble_eq_true rfl) (fun z75 e75 => have i75 := in_add 1 121 e75 j17_2 (in_c 1 rfl) rfl rfl; g_goto 226 (gd rfl) rfl (g_iinc 229 (gd rfl) rfl rfl (Nat.le_of_ble_eq_true rfl) (fun z226 e226 => have i226 := in_add 1 120 e226 i26 (in_c 1 rfl) rfl rfl; g_goto 17 (gd rfl) rfl ?_)))))
            have i17 : In z75 0 120 := by exact ⟨by exact (have a0 := in_u h1; have a1 := in_u i26; have a2 := in_u j17_2; have a3 := in_u i40; have a4 := in_u i226; have a5 := t_add e226 i26 (in_c 1 rfl) rfl; have a6 := in_u ((in_c 1 rfl)); have a7 := in_u i75; have a8 := t_add e75 j17_2 (in_c 1 rfl) rfl; have a9 := in_u i24; have a10 := t_add e24 h1 (in_c 1 rfl) rfl; by omega), by exact (have a0 := in_u h1; have a1 := in_u i26; have a2 := in_u j17_2; have a3 := in_u i40; have a4 := in_u i226; have a5 := t_add e226 i26 (in_c 1 rfl) rfl; have a6 := in_u ((in_c 1 rfl)); have a7 := in_u i75; have a8 := t_add e75 j17_2 (in_c 1 rfl) rfl; have a9 := in_u i24; have a10 := t_add e24 h1 (in_c 1 rfl) rfl; by omega)⟩
            have n17 : (z75).toInt ≤ (z226).toInt := by exact (have a0 := in_u h1; have a1 := in_u i26; have a2 := in_u j17_2; have a3 := in_u i40; have a4 := in_u i226; have a5 := t_add e226 i26 (in_c 1 rfl) rfl; have a6 := in_u ((in_c 1 rfl)); have a7 := in_u i17; have a8 := t_add e75 j17_2 (in_c 1 rfl) rfl; have a9 := in_u i24; have a10 := t_add e24 h1 (in_c 1 rfl) rfl; by omega)
            have n17a : WS (sL sc17 193 y17_2.toNatClampNeg z73) x1 z226 z75 := by first | exact hk2 _ _ (by exact (have a0 := in_u h1; have a1 := in_u i26; have a2 := in_u j17_2; have a3 := in_u i40; have a4 := in_u i226; have a5 := t_add e226 i26 (in_c 1 rfl) rfl; have a6 := in_u ((in_c 1 rfl)); have a7 := in_u i17; have a8 := t_add e75 j17_2 (in_c 1 rfl) rfl; have a9 := in_u i24; have a10 := t_add e24 h1 (in_c 1 rfl) rfl; by omega)) (by exact (have a0 := in_u h1; have a1 := in_u i26; have a2 := in_u j17_2; have a3 := in_u i40; have a4 := in_u i226; have a5 := t_add e226 i26 (in_c 1 rfl) rfl; have a6 := in_u ((in_c 1 rfl)); have a7 := in_u i17; have a8 := t_add e75 j17_2 (in_c 1 rfl) rfl; have a9 := in_u i24; have a10 := t_add e24 h1 (in_c 1 rfl) rfl; by omega)) | exact ws_0 rfl (by first | exact (by decide) | exact i15.1) (by unfold wa; first | (rw [if_pos c3]; rfl) | (rw [if_neg c3, e15]; rfl))
            exact gg_w (by omega) (gg_f (gf_cons rfl (gf_cons rfl (gf_cons rfl (gf_cons rfl gf_nil)))) (ih17 (sL sc17 193 y17_2.toNatClampNeg z73) z75 z226 hI74 (fr_sL rfl hFc17) i17 (in_w 0 120 i226 rfl) n17 n17a (m_up mm17 (t_add e226 i26 (in_c 1 rfl) rfl) (in_w 1 1 (in_c 1 rfl) rfl))))
          · skip
            have i50 := z_eq 0 0 c50 i40 rfl
            refine g_aload_n 54 (gd rfl) rfl rfl (g_getA (q2 := 185) 57 (gd rfl) rfl rfl rfl rfl (g_iload_n 58 (gd rfl) rfl rfl (g_iaload 59 (gd rfl) rfl (n := 400) rfl (in_ix i26 rfl) (fun z58 e58 => g_i2l 60 (gd rfl) rfl (fun z59 e59 => have i59 := l_i e59 (i_rng z58); g_goto 74 (gd rfl) rfl (g_lastore 75 (gd rfl) rfl (n := 200) rfl (in_ix j17_2 rfl) (have hI74 := inv_sL (q := 193) (j := y17_2.toNatClampNeg) (x := z59) hIc17 rfl (l_rng z59); g_iinc 78 (gd rfl) rfl rfl (Nat.le_of_ble_eq_true rfl) (fun z75 e75 => have i75 := in_add 1 121 e75 j17_2 (in_c 1 rfl) rfl rfl; g_goto 226 (gd rfl) rfl (g_iinc 229 (gd rfl) rfl rfl (Nat.le_of_ble_eq_true rfl) (fun z226 e226 => have i226 := in_add 1 120 e226 i26 (in_c 1 rfl) rfl rfl; g_goto 17 (gd rfl) rfl ?_))))))))))
            have i17 : In z75 0 120 := by exact ⟨by exact (have a0 := in_u h1; have a1 := in_u i26; have a2 := in_u j17_2; have a3 := in_u i50; have a4 := in_u i226; have a5 := t_add e226 i26 (in_c 1 rfl) rfl; have a6 := in_u ((in_c 1 rfl)); have a7 := in_u i75; have a8 := t_add e75 j17_2 (in_c 1 rfl) rfl; have a9 := tx_i2l e59; have a10 := in_u i24; have a11 := t_add e24 h1 (in_c 1 rfl) rfl; by omega), by exact (have a0 := in_u h1; have a1 := in_u i26; have a2 := in_u j17_2; have a3 := in_u i50; have a4 := in_u i226; have a5 := t_add e226 i26 (in_c 1 rfl) rfl; have a6 := in_u ((in_c 1 rfl)); have a7 := in_u i75; have a8 := t_add e75 j17_2 (in_c 1 rfl) rfl; have a9 := tx_i2l e59; have a10 := in_u i24; have a11 := t_add e24 h1 (in_c 1 rfl) rfl; by omega)⟩
            have n17 : (z75).toInt ≤ (z226).toInt := by exact (have a0 := in_u h1; have a1 := in_u i26; have a2 := in_u j17_2; have a3 := in_u i50; have a4 := in_u i226; have a5 := t_add e226 i26 (in_c 1 rfl) rfl; have a6 := in_u ((in_c 1 rfl)); have a7 := in_u i17; have a8 := t_add e75 j17_2 (in_c 1 rfl) rfl; have a9 := tx_i2l e59; have a10 := in_u i24; have a11 := t_add e24 h1 (in_c 1 rfl) rfl; by omega)
            have n17a : WS (sL sc17 193 y17_2.toNatClampNeg z59) x1 z226 z75 := by first | exact hk2 _ _ (by exact (have a0 := in_u h1; have a1 := in_u i26; have a2 := in_u j17_2; have a3 := in_u i50; have a4 := in_u i226; have a5 := t_add e226 i26 (in_c 1 rfl) rfl; have a6 := in_u ((in_c 1 rfl)); have a7 := in_u i17; have a8 := t_add e75 j17_2 (in_c 1 rfl) rfl; have a9 := tx_i2l e59; have a10 := in_u i24; have a11 := t_add e24 h1 (in_c 1 rfl) rfl; by omega)) (by exact (have a0 := in_u h1; have a1 := in_u i26; have a2 := in_u j17_2; have a3 := in_u i50; have a4 := in_u i226; have a5 := t_add e226 i26 (in_c 1 rfl) rfl; have a6 := in_u ((in_c 1 rfl)); have a7 := in_u i17; have a8 := t_add e75 j17_2 (in_c 1 rfl) rfl; have a9 := tx_i2l e59; have a10 := in_u i24; have a11 := t_add e24 h1 (in_c 1 rfl) rfl; by omega)) | exact ws_0 rfl (by first | exact (by decide) | exact i15.1) (by unfold wa; first | (rw [if_pos c3]; rfl) | (rw [if_neg c3, e15]; rfl))
            exact gg_w (by omega) (gg_f (gf_cons rfl (gf_cons rfl (gf_cons rfl (gf_cons rfl gf_nil)))) (ih17 (sL sc17 193 y17_2.toNatClampNeg z59) z75 z226 hI74 (fr_sL rfl hFc17) i17 (in_w 0 120 i226 rfl) n17 n17a (m_up mm17 (t_add e226 i26 (in_c 1 rfl) rfl) (in_w 1 1 (in_c 1 rfl) rfl))))
  refine g_enter2 (k := 408) (N := 109801) (by omega) rfl (Nat.le_of_ble_eq_true rfl) (g_iconst 0 1 (gd rfl) rfl rfl (g_istore_n 2 (gd rfl) rfl (Nat.le_of_ble_eq_true rfl) (g_iload_n 3 (gd rfl) rfl rfl (g_if_ne 6 10 (gd rfl) rfl rfl (fun c3 => ?_) (fun c3 => ?_)))))
  · skip
    have i3 := z_ne 1 1 c3 h1 rfl
    refine g_aload_n 11 (gd rfl) rfl rfl (g_getA (q2 := 186) 14 (gd rfl) rfl rfl rfl rfl (g_iconst 1 15 (gd rfl) rfl rfl (g_iaload 16 (gd rfl) rfl (n := 3) rfl (in_ix (in_c 1 rfl) rfl) (fun z15 e15 => have i15 := inv_I hI (n := 3) (t := 0) 0 120 rfl (in_ix (in_c 1 rfl) rfl) rfl e15; g_istore_n 17 (gd rfl) rfl (Nat.le_of_ble_eq_true rfl) ?_))))
    have n17 : ((Int32.ofInt 0)).toInt ≤ (z15).toInt := by exact (have a0 := in_u i3; have a1 := in_u i15; have a2 := in_u ((in_c 0 rfl)); by omega)
    have n17a : WS s x1 z15 (Int32.ofInt 0) := by first | exact hk2 _ _ (by exact (have a0 := in_u i3; have a1 := in_u i15; have a2 := in_u ((in_c 0 rfl)); by omega)) (by exact (have a0 := in_u i3; have a1 := in_u i15; have a2 := in_u ((in_c 0 rfl)); by omega)) | exact ws_0 rfl (by first | exact (by decide) | exact i15.1) (by unfold wa; first | (rw [if_pos c3]; rfl) | (rw [if_neg c3, e15]; rfl))
    exact gg_w (by omega) (gg_f (gf_cons rfl (gf_cons rfl (gf_cons rfl (gf_cons rfl gf_nil)))) (ct17 121 s (Int32.ofInt 0) z15 hI fr_rf (in_w 0 120 (in_c 0 rfl) rfl) (in_w 0 120 i15 rfl) n17 n17a (m_in 121 (in_w 0 120 i15 rfl) rfl)))
  · skip
    have i3 := z_eq 0 0 c3 h1 rfl
    refine g_iconst 0 7 (gd rfl) rfl rfl (g_goto 16 (gd rfl) rfl (g_istore_n 17 (gd rfl) rfl (Nat.le_of_ble_eq_true rfl) ?_))
    have n17 : ((Int32.ofInt 0)).toInt ≤ ((Int32.ofInt 0)).toInt := by exact (have a0 := in_u i3; have a1 := in_u ((in_c 0 rfl)); by omega)
    have n17a : WS s x1 (Int32.ofInt 0) (Int32.ofInt 0) := by first | exact hk2 _ _ (by exact (have a0 := in_u i3; have a1 := in_u ((in_c 0 rfl)); by omega)) (by exact (have a0 := in_u i3; have a1 := in_u ((in_c 0 rfl)); by omega)) | exact ws_0 rfl (by first | exact (by decide) | exact i15.1) (by unfold wa; first | (rw [if_pos c3]; rfl) | (rw [if_neg c3, e15]; rfl))
    exact gg_w (by omega) (gg_f (gf_cons rfl (gf_cons rfl (gf_cons rfl (gf_cons rfl gf_nil)))) (ct17 121 s (Int32.ofInt 0) (Int32.ofInt 0) hI fr_rf (in_w 0 120 (in_c 0 rfl) rfl) (in_w 0 120 (in_c 0 rfl) rfl) n17 n17a (m_in 121 (in_w 0 120 (in_c 0 rfl) rfl) rfl)))

def fm_409 : FM := ([], [191, 192, 193, 194], [(109, 0), (109, 113), (109, 116), (109, 117), (109, 118)], [(109, 121)])
/-- GraphHouseModel.run -/
theorem k_409 {Z : AmZ} {A : Nat → Nat} {s : GS} {ex : va_W} {d : Nat} {X : AmX} {x1 : Int32} {x2 : Int32} {x3 : Int32} {x4 : Int64} (hd : 4 ≤ d) (hI : Inv s)  : GC Z d 409 [.ref (A 109), .int x1, .int x2, .int x3, .long x4] (WW Z A s ++ ex) 0 0 (fun v u => ∃ t : GS, Inv t ∧ Fr fm_409 s t ∧ ∃ z : Int32, v = some (.int z) ∧ u = WW Z A t ++ ex ∧ In z 0 200) X := by
  intro post xp hP hX
  obtain ⟨u_109_20, e_109_20⟩ : ∃ w, w = s.2.2.1 109 20 := ⟨_, rfl⟩
  have ro_109_20 := inv_F hI 0 32 rfl e_109_20
  have ct179 : ∀ (k179 : Nat) (sc179 : GS) (y179_6 : Int32) (y179_7 : Int32), Inv sc179 → Fr fm_409 s sc179 → (In x1 0 200) → (In x2 1 4) → (In x3 0 90) → (In y179_6 0 200) → (In y179_7 0 1) → 200 - (y179_6).toInt < (k179 : Int) → GG Z (d - 1) 409 post (gx xp) (1 + k179 * 63902) 179 (fun j => xlook j [(0, .ref (A 109)), (1, .int x1), (2, .int x2), (3, .int x3), (4, .long x4), (6, .int y179_6), (7, .int y179_7)]) [] (WW Z A sc179 ++ ex) 0 0 := by
    intro k179
    induction k179 with
    | zero => intro sc179 y179_6 y179_7 hIc179 hFc179 j179_1 j179_2 j179_3 j179_6 j179_7 mm179; exfalso; have a0 := j179_3; unfold In at a0; have a1 := j179_2; unfold In at a1; have a2 := j179_1; unfold In at a2; have a3 := ro_109_20; unfold In at a3; have a4 := j179_7; unfold In at a4; have a5 := j179_6; unfold In at a5; omega
    | succ k179 ih179 =>
      intro sc179 y179_6 y179_7 hIc179 hFc179 j179_1 j179_2 j179_3 j179_6 j179_7 mm179
      refine gg_w (M := 1 + k179 * 63902 + 63902) (by omega) ?_
      have ct275 : ∀ (k275 : Nat) (sc275 : GS) (y275_6 : Int32) (y275_7 : Int32) (y275_8 : Int32), Inv sc275 → Fr fm_409 s sc275 → (In x1 1 200) → (In y275_6 1 200) → (In y275_7 0 1) → (In y275_8 0 32) → ((y275_6).toInt = y179_6.toInt + 1) → 32 - (y275_8).toInt < (k275 : Int) → GG Z (d - 1) 409 post (gx xp) (1 + k179 * 63902 + 1 + k275 * 900) 275 (fun j => xlook j [(0, .ref (A 109)), (1, .int x1), (2, .int x2), (3, .int x3), (4, .long x4), (6, .int y275_6), (7, .int y275_7), (8, .int y275_8)]) [] (WW Z A sc275 ++ ex) 0 0 := by
        intro k275
        induction k275 with
        | zero => intro sc275 y275_6 y275_7 y275_8 hIc275 hFc275 j275_1 j275_6 j275_7 j275_8 n275_0 mm275; exact m_no mm275 j275_8 rfl
        | succ k275 ih275 =>
          intro sc275 y275_6 y275_7 y275_8 hIc275 hFc275 j275_1 j275_6 j275_7 j275_8 n275_0 mm275
          refine gg_w (M := 1 + k179 * 63902 + 1 + k275 * 900 + 900) (by omega) (g_iload 277 (gd rfl) rfl rfl (g_aload_n 278 (gd rfl) rfl rfl (g_getIv (y := u_109_20) 281 (gd rfl) rfl rfl rfl (fr_F e_109_20 hFc275 rfl) (g_cmp_ge 284 304 (gd rfl) rfl rfl (fun c281 => ?_) (fun c281 => ?_)))))
          · skip
            refine g_goto 179 (gd rfl) rfl ?_
            have m179 : 200 - (y275_6).toInt < ((k179 : Nat) : Int) := by exact (have a0 := in_u j179_3; have a1 := in_u j179_2; have a2 := in_u j275_1; have a3 := in_u ro_109_20; have a4 := in_u j275_8; have a5 := in_u j275_7; have a6 := in_u j275_6; by omega)
            exact gg_w (by omega) (gg_f (gf_cons rfl (gf_cons rfl (gf_cons rfl (gf_cons rfl (gf_cons rfl (gf_cons rfl (gf_cons rfl gf_nil))))))) (ih179  sc275 y275_6 y275_7 hIc275 hFc275 (in_w 0 200 j275_1 rfl) (in_w 1 4 j179_2 rfl) (in_w 0 90 j179_3 rfl) (in_w 0 200 j275_6 rfl) (in_w 0 1 j275_7 rfl) m179))
          · skip
            have i281 := r_lt1 0 31 c281 j275_8 ro_109_20 rfl
            have i281a := r_lt2 1 32 c281 j275_8 ro_109_20 rfl
            refine g_aload_n 285 (gd rfl) rfl rfl (g_getA (q2 := 191) 288 (gd rfl) rfl rfl rfl rfl (g_iload 290 (gd rfl) rfl rfl (g_aload_n 291 (gd rfl) rfl rfl (g_getA (q2 := 192) 294 (gd rfl) rfl rfl rfl rfl (g_iload 296 (gd rfl) rfl rfl (g_laload 297 (gd rfl) rfl (n := 32) rfl (in_ix i281 rfl) (fun z296 e296 => g_lastore 298 (gd rfl) rfl (n := 32) rfl (in_ix i281 rfl) (have hI297 := inv_sL (q := 191) (j := y275_8.toNatClampNeg) (x := z296) hIc275 rfl (l_rng z296); g_iinc 301 (gd rfl) rfl rfl (Nat.le_of_ble_eq_true rfl) (fun z298 e298 => have i298 := in_add 1 32 e298 i281 (in_c 1 rfl) rfl rfl; g_goto 275 (gd rfl) rfl ?_)))))))))
            have n275 : (y275_6).toInt = y179_6.toInt + 1 := by exact (have a0 := in_u j179_3; have a1 := in_u j179_2; have a2 := in_u j275_1; have a3 := in_u i281a; have a4 := in_u i281; have a5 := in_u j275_7; have a6 := in_u j275_6; have a7 := in_u i298; have a8 := t_add e298 i281 (in_c 1 rfl) rfl; have a9 := in_u ((in_c 1 rfl)); by omega)
            exact gg_w (by omega) (gg_f (gf_cons rfl (gf_cons rfl (gf_cons rfl (gf_cons rfl (gf_cons rfl (gf_cons rfl (gf_cons rfl (gf_cons rfl gf_nil)))))))) (ih275 (sL sc275 191 y275_8.toNatClampNeg z296) y275_6 y275_7 z298 hI297 (fr_sL rfl hFc275) (in_w 1 200 j275_1 rfl) (in_w 1 200 j275_6 rfl) (in_w 0 1 j275_7 rfl) (in_w 0 32 i298 rfl) n275 (m_up mm275 (t_add e298 i281 (in_c 1 rfl) rfl) (in_w 1 1 (in_c 1 rfl) rfl))))
      have ct207 : ∀ (k207 : Nat) (sc207 : GS) (y207_6 : Int32) (y207_7 : Int32) (y207_8 : Int32), Inv sc207 → Fr fm_409 s sc207 → (In x1 1 200) → (In y207_6 1 200) → (In y207_7 0 1) → (In y207_8 0 32) → ((y207_6).toInt = y179_6.toInt + 1) → 32 - (y207_8).toInt < (k207 : Int) → GG Z (d - 1) 409 post (gx xp) (1 + k179 * 63902 + 29702 + k207 * 900) 207 (fun j => xlook j [(0, .ref (A 109)), (1, .int x1), (2, .int x2), (3, .int x3), (4, .long x4), (6, .int y207_6), (7, .int y207_7), (8, .int y207_8)]) [] (WW Z A sc207 ++ ex) 0 0 := by
        intro k207
        induction k207 with
        | zero => intro sc207 y207_6 y207_7 y207_8 hIc207 hFc207 j207_1 j207_6 j207_7 j207_8 n207_0 mm207; exact m_no mm207 j207_8 rfl
        | succ k207 ih207 =>
          intro sc207 y207_6 y207_7 y207_8 hIc207 hFc207 j207_1 j207_6 j207_7 j207_8 n207_0 mm207
          refine gg_w (M := 1 + k179 * 63902 + 29702 + k207 * 900 + 900) (by omega) (g_iload 209 (gd rfl) rfl rfl (g_aload_n 210 (gd rfl) rfl rfl (g_getIv (y := u_109_20) 213 (gd rfl) rfl rfl rfl (fr_F e_109_20 hFc207 rfl) (g_cmp_ge 216 272 (gd rfl) rfl rfl (fun c213 => ?_) (fun c213 => ?_)))))
          · skip
            refine g_iconst 0 273 (gd rfl) rfl rfl (g_istore 275 (gd rfl) rfl (Nat.le_of_ble_eq_true rfl) ?_)
            have n275 : (y207_6).toInt = y179_6.toInt + 1 := by exact (have a0 := in_u j179_3; have a1 := in_u j179_2; have a2 := in_u j207_1; have a3 := in_u ro_109_20; have a4 := in_u j207_8; have a5 := in_u j207_7; have a6 := in_u j207_6; have a7 := in_u ((in_c 0 rfl)); by omega)
            exact gg_w (by omega) (gg_f (gf_cons rfl (gf_cons rfl (gf_cons rfl (gf_cons rfl (gf_cons rfl (gf_cons rfl (gf_cons rfl (gf_cons rfl gf_nil)))))))) (ct275 33 sc207 y207_6 y207_7 (Int32.ofInt 0) hIc207 hFc207 (in_w 1 200 j207_1 rfl) (in_w 1 200 j207_6 rfl) (in_w 0 1 j207_7 rfl) (in_w 0 32 (in_c 0 rfl) rfl) n275 (m_in 33 (in_w 0 32 (in_c 0 rfl) rfl) rfl)))
          · skip
            have i213 := r_lt1 0 31 c213 j207_8 ro_109_20 rfl
            have i213a := r_lt2 1 32 c213 j207_8 ro_109_20 rfl
            refine g_aload_n 217 (gd rfl) rfl rfl (g_iload 219 (gd rfl) rfl rfl (g_iload 221 (gd rfl) rfl rfl (g_callv (X := _) (As := [.int y207_8, .int y207_6]) (r := []) (b := A 109) (q := 109) 224 (gd rfl) rfl rfl rfl rfl rfl (ww_o rfl) (Nat.le_of_ble_eq_true rfl) (Nat.zero_le _) (Nat.zero_le _) (k_407 (by omega) hIc207 (in_w 0 31 i213 rfl) (in_w 0 200 j207_6 rfl)) (fun e u h => h) (fun v u h => ?_))))
            obtain ⟨s221, hI221, hF221, rfl, rfl⟩ := h
            show GG _ _ _ _ _ _ _ _ [] _ _ _
            refine g_aload_n 225 (gd rfl) rfl rfl (g_getA (q2 := 192) 228 (gd rfl) rfl rfl rfl rfl (g_iload 230 (gd rfl) rfl rfl (g_aload_n 231 (gd rfl) rfl rfl (g_iconst 1 232 (gd rfl) rfl rfl (g_callv (X := _) (As := [.int (Int32.ofInt 1)]) (r := [.int y207_8, .ref (A 192)]) (b := A 109) (q := 109) 235 (gd rfl) rfl rfl rfl rfl rfl (ww_o rfl) (Nat.le_of_ble_eq_true rfl) (Nat.zero_le _) (Nat.zero_le _) (k_408 (by omega) hI221 (in_w 0 1 (in_c 1 rfl) rfl)) (fun e u h => h) (fun v u h => ?_))))))
            obtain ⟨s232, hI232, hF232, z232, rfl, rfl⟩ := h
            show GG _ _ _ _ _ _ _ _ [.long z232, .int y207_8, .ref (A 192)] _ _ _
            refine g_lastore 236 (gd rfl) rfl (n := 32) rfl (in_ix i213 rfl) (have hI235 := inv_sL (q := 192) (j := y207_8.toNatClampNeg) (x := z232) hI232 rfl (l_rng z232); g_iload 238 (gd rfl) rfl rfl (g_if_ne 241 259 (gd rfl) rfl rfl (fun c238 => ?_) (fun c238 => ?_)))
            · skip
              have i238 := z_ne 1 1 c238 j207_7 rfl
              refine g_iconst 1 260 (gd rfl) rfl rfl (g_goto 264 (gd rfl) rfl (g_istore 266 (gd rfl) rfl (Nat.le_of_ble_eq_true rfl) (g_iinc 269 (gd rfl) rfl rfl (Nat.le_of_ble_eq_true rfl) (fun z266 e266 => have i266 := in_add 1 32 e266 i213 (in_c 1 rfl) rfl rfl; g_goto 207 (gd rfl) rfl ?_))))
              have n207 : (y207_6).toInt = y179_6.toInt + 1 := by exact (have a0 := in_u j179_3; have a1 := in_u j179_2; have a2 := in_u j207_1; have a3 := in_u i213a; have a4 := in_u i213; have a5 := in_u i238; have a6 := in_u j207_6; have a7 := in_u i266; have a8 := t_add e266 i213 (in_c 1 rfl) rfl; have a9 := in_u ((in_c 1 rfl)); by omega)
              exact gg_w (by omega) (gg_f (gf_cons rfl (gf_cons rfl (gf_cons rfl (gf_cons rfl (gf_cons rfl (gf_cons rfl (gf_cons rfl (gf_cons rfl gf_nil)))))))) (ih207 (sL s232 192 y207_8.toNatClampNeg z232) y207_6 (Int32.ofInt 1) z266 hI235 (fr_sL rfl (fr_tr rfl (fr_tr rfl hFc207 hF221) hF232)) (in_w 1 200 j207_1 rfl) (in_w 1 200 j207_6 rfl) (in_w 0 1 (in_c 1 rfl) rfl) (in_w 0 32 i266 rfl) n207 (m_up mm207 (t_add e266 i213 (in_c 1 rfl) rfl) (in_w 1 1 (in_c 1 rfl) rfl))))
            · skip
              have i238 := z_eq 0 0 c238 j207_7 rfl
              refine g_aload_n 242 (gd rfl) rfl rfl (g_getA (q2 := 192) 245 (gd rfl) rfl rfl rfl rfl (g_iload 247 (gd rfl) rfl rfl (g_laload 248 (gd rfl) rfl (n := 32) rfl (in_ix i213 rfl) (fun z247 e247 => g_aload_n 249 (gd rfl) rfl rfl (g_getA (q2 := 191) 252 (gd rfl) rfl rfl rfl rfl (g_iload 254 (gd rfl) rfl rfl (g_laload 255 (gd rfl) rfl (n := 32) rfl (in_ix i213 rfl) (fun z254 e254 => g_lcmp 256 (gd rfl) rfl (fun z255 e255 => have i255 := lc_in e255; g_if_eq 259 263 (gd rfl) rfl rfl (fun c256 => ?_) (fun c256 => ?_))))))))))
              · skip
                have i256 := z_eq 0 0 c256 i255 rfl
                have c256a := lc_eq e255 c256
                refine g_iconst 0 264 (gd rfl) rfl rfl (g_istore 266 (gd rfl) rfl (Nat.le_of_ble_eq_true rfl) (g_iinc 269 (gd rfl) rfl rfl (Nat.le_of_ble_eq_true rfl) (fun z266 e266 => have i266 := in_add 1 32 e266 i213 (in_c 1 rfl) rfl rfl; g_goto 207 (gd rfl) rfl ?_)))
                have n207 : (y207_6).toInt = y179_6.toInt + 1 := by exact (have a0 := in_u j179_3; have a1 := in_u j179_2; have a2 := in_u j207_1; have a3 := in_u i213a; have a4 := in_u i213; have a5 := in_u i238; have a6 := in_u j207_6; have a7 := in_u i266; have a8 := t_add e266 i213 (in_c 1 rfl) rfl; have a9 := in_u ((in_c 1 rfl)); have a10 := in_u ((in_c 0 rfl)); by omega)
                exact gg_w (by omega) (gg_f (gf_cons rfl (gf_cons rfl (gf_cons rfl (gf_cons rfl (gf_cons rfl (gf_cons rfl (gf_cons rfl (gf_cons rfl gf_nil)))))))) (ih207 (sL s232 192 y207_8.toNatClampNeg z232) y207_6 (Int32.ofInt 0) z266 hI235 (fr_sL rfl (fr_tr rfl (fr_tr rfl hFc207 hF221) hF232)) (in_w 1 200 j207_1 rfl) (in_w 1 200 j207_6 rfl) (in_w 0 1 (in_c 0 rfl) rfl) (in_w 0 32 i266 rfl) n207 (m_up mm207 (t_add e266 i213 (in_c 1 rfl) rfl) (in_w 1 1 (in_c 1 rfl) rfl))))
              · skip
                have c256a := lc_ne e255 c256
                refine g_iconst 1 260 (gd rfl) rfl rfl (g_goto 264 (gd rfl) rfl (g_istore 266 (gd rfl) rfl (Nat.le_of_ble_eq_true rfl) (g_iinc 269 (gd rfl) rfl rfl (Nat.le_of_ble_eq_true rfl) (fun z266 e266 => have i266 := in_add 1 32 e266 i213 (in_c 1 rfl) rfl rfl; g_goto 207 (gd rfl) rfl ?_))))
                have n207 : (y207_6).toInt = y179_6.toInt + 1 := by exact (have a0 := in_u j179_3; have a1 := in_u j179_2; have a2 := in_u j207_1; have a3 := in_u i213a; have a4 := in_u i213; have a5 := in_u i238; have a6 := in_u j207_6; have a7 := in_u i266; have a8 := t_add e266 i213 (in_c 1 rfl) rfl; have a9 := in_u ((in_c 1 rfl)); by omega)
                exact gg_w (by omega) (gg_f (gf_cons rfl (gf_cons rfl (gf_cons rfl (gf_cons rfl (gf_cons rfl (gf_cons rfl (gf_cons rfl (gf_cons rfl gf_nil)))))))) (ih207 (sL s232 192 y207_8.toNatClampNeg z232) y207_6 (Int32.ofInt 1) z266 hI235 (fr_sL rfl (fr_tr rfl (fr_tr rfl hFc207 hF221) hF232)) (in_w 1 200 j207_1 rfl) (in_w 1 200 j207_6 rfl) (in_w 0 1 (in_c 1 rfl) rfl) (in_w 0 32 i266 rfl) n207 (m_up mm207 (t_add e266 i213 (in_c 1 rfl) rfl) (in_w 1 1 (in_c 1 rfl) rfl))))
      refine g_iload 181 (gd rfl) rfl rfl (g_if_eq 184 307 (gd rfl) rfl rfl (fun c181 => ?_) (fun c181 => ?_))
      · skip
        have i181 := z_eq 0 0 c181 j179_7 rfl
        exact g_iload 309 (gd rfl) rfl rfl (g_ireturn (gd rfl) rfl rfl (hP _ _ ⟨sc179, hIc179, hFc179, y179_6, rfl, rfl, in_w 0 200 j179_6 rfl⟩))
      · skip
        have i181 := z_ne 1 1 c181 j179_7 rfl
        refine g_iload 186 (gd rfl) rfl rfl (g_iload_n 187 (gd rfl) rfl rfl (g_cmp_ge 190 307 (gd rfl) rfl rfl (fun c187 => ?_) (fun c187 => ?_)))
        · skip
          exact g_iload 309 (gd rfl) rfl rfl (g_ireturn (gd rfl) rfl rfl (hP _ _ ⟨sc179, hIc179, hFc179, y179_6, rfl, rfl, in_w 0 200 j179_6 rfl⟩))
        · skip
          have i187 := r_lt1 0 199 c187 j179_6 j179_1 rfl
          have i187a := r_lt2 1 200 c187 j179_6 j179_1 rfl
          refine g_iinc 193 (gd rfl) rfl rfl (Nat.le_of_ble_eq_true rfl) (fun z190 e190 => have i190 := in_add 1 200 e190 i187 (in_c 1 rfl) rfl rfl; g_aload_n 194 (gd rfl) rfl rfl (g_iload_n 195 (gd rfl) rfl rfl (g_iload_n 196 (gd rfl) rfl rfl (g_lload 198 (gd rfl) rfl rfl (g_callv (X := _) (As := [.int x2, .int x3, .long x4]) (r := []) (b := A 109) (q := 109) 201 (gd rfl) rfl rfl rfl rfl rfl (ww_o rfl) (Nat.le_of_ble_eq_true rfl) (Nat.zero_le _) (Nat.zero_le _) (k_411 (by omega) hIc179 (in_w 1 4 j179_2 rfl) (in_w 0 90 j179_3 rfl)) (fun e u h => h) (fun v u h => ?_))))))
          obtain ⟨s198, hI198, hF198, rfl, rfl⟩ := h
          show GG _ _ _ _ _ _ _ _ [] _ _ _
          refine g_iconst 0 202 (gd rfl) rfl rfl (g_istore 204 (gd rfl) rfl (Nat.le_of_ble_eq_true rfl) (g_iconst 0 205 (gd rfl) rfl rfl (g_istore 207 (gd rfl) rfl (Nat.le_of_ble_eq_true rfl) ?_)))
          have n207 : (z190).toInt = y179_6.toInt + 1 := by exact (have a0 := in_u j179_3; have a1 := in_u j179_2; have a2 := in_u i187a; have a3 := in_u ro_109_20; have a4 := in_u i181; have a5 := in_u i187; have a6 := in_u ((in_c 0 rfl)); have a7 := in_u i190; have a8 := t_add e190 i187 (in_c 1 rfl) rfl; have a9 := in_u ((in_c 1 rfl)); by omega)
          exact gg_w (by omega) (gg_f (gf_cons rfl (gf_cons rfl (gf_cons rfl (gf_cons rfl (gf_cons rfl (gf_cons rfl (gf_cons rfl (gf_cons rfl gf_nil)))))))) (ct207 33 s198 z190 (Int32.ofInt 0) (Int32.ofInt 0) hI198 (fr_tr rfl hFc179 hF198) (in_w 1 200 i187a rfl) (in_w 1 200 i190 rfl) (in_w 0 1 (in_c 0 rfl) rfl) (in_w 0 32 (in_c 0 rfl) rfl) n207 (m_in 33 (in_w 0 32 (in_c 0 rfl) rfl) rfl)))
  have ct144 : ∀ (k144 : Nat) (sc144 : GS) (y144_6 : Int32), Inv sc144 → Fr fm_409 s sc144 → (In x1 0 200) → (In x2 1 4) → (In x3 0 90) → (In y144_6 0 32) → 32 - (y144_6).toInt < (k144 : Int) → GG Z (d - 1) 409 post (gx xp) (12844304 + k144 * 900) 144 (fun j => xlook j [(0, .ref (A 109)), (1, .int x1), (2, .int x2), (3, .int x3), (4, .long x4), (6, .int y144_6)]) [] (WW Z A sc144 ++ ex) 0 0 := by
    intro k144
    induction k144 with
    | zero => intro sc144 y144_6 hIc144 hFc144 j144_1 j144_2 j144_3 j144_6 mm144; exact m_no mm144 j144_6 rfl
    | succ k144 ih144 =>
      intro sc144 y144_6 hIc144 hFc144 j144_1 j144_2 j144_3 j144_6 mm144
      refine gg_w (M := 12844304 + k144 * 900 + 900) (by omega) (g_iload 146 (gd rfl) rfl rfl (g_aload_n 147 (gd rfl) rfl rfl (g_getIv (y := u_109_20) 150 (gd rfl) rfl rfl rfl (fr_F e_109_20 hFc144 rfl) (g_cmp_ge 153 173 (gd rfl) rfl rfl (fun c150 => ?_) (fun c150 => ?_)))))
      · skip
        refine g_iconst 0 174 (gd rfl) rfl rfl (g_istore 176 (gd rfl) rfl (Nat.le_of_ble_eq_true rfl) (g_iconst 1 177 (gd rfl) rfl rfl (g_istore 179 (gd rfl) rfl (Nat.le_of_ble_eq_true rfl) ?_)))
        have m179 : 200 - ((Int32.ofInt 0)).toInt < ((201 : Nat) : Int) := by exact (have a0 := in_u j144_3; have a1 := in_u j144_2; have a2 := in_u j144_1; have a3 := in_u ro_109_20; have a4 := in_u j144_6; have a5 := in_u ((in_c 1 rfl)); have a6 := in_u ((in_c 0 rfl)); by omega)
        exact gg_w (by omega) (gg_f (gf_cons rfl (gf_cons rfl (gf_cons rfl (gf_cons rfl (gf_cons rfl (gf_cons rfl (gf_cons rfl gf_nil))))))) (ct179 201 sc144 (Int32.ofInt 0) (Int32.ofInt 1) hIc144 hFc144 (in_w 0 200 j144_1 rfl) (in_w 1 4 j144_2 rfl) (in_w 0 90 j144_3 rfl) (in_w 0 200 (in_c 0 rfl) rfl) (in_w 0 1 (in_c 1 rfl) rfl) m179))
      · skip
        have i150 := r_lt1 0 31 c150 j144_6 ro_109_20 rfl
        have i150a := r_lt2 1 32 c150 j144_6 ro_109_20 rfl
        exact g_aload_n 154 (gd rfl) rfl rfl (g_getA (q2 := 191) 157 (gd rfl) rfl rfl rfl rfl (g_iload 159 (gd rfl) rfl rfl (g_aload_n 160 (gd rfl) rfl rfl (g_getA (q2 := 192) 163 (gd rfl) rfl rfl rfl rfl (g_iload 165 (gd rfl) rfl rfl (g_laload 166 (gd rfl) rfl (n := 32) rfl (in_ix i150 rfl) (fun z165 e165 => g_lastore 167 (gd rfl) rfl (n := 32) rfl (in_ix i150 rfl) (have hI166 := inv_sL (q := 191) (j := y144_6.toNatClampNeg) (x := z165) hIc144 rfl (l_rng z165); g_iinc 170 (gd rfl) rfl rfl (Nat.le_of_ble_eq_true rfl) (fun z167 e167 => have i167 := in_add 1 32 e167 i150 (in_c 1 rfl) rfl rfl; g_goto 144 (gd rfl) rfl (gg_w (by omega) (gg_f (gf_cons rfl (gf_cons rfl (gf_cons rfl (gf_cons rfl (gf_cons rfl (gf_cons rfl gf_nil)))))) (ih144 (sL sc144 191 y144_6.toNatClampNeg z165) z167 hI166 (fr_sL rfl hFc144) (in_w 0 200 j144_1 rfl) (in_w 1 4 j144_2 rfl) (in_w 0 90 j144_3 rfl) (in_w 0 32 i167 rfl) (m_up mm144 (t_add e167 i150 (in_c 1 rfl) rfl) (in_w 1 1 (in_c 1 rfl) rfl))))))))))))))
  have ct107 : ∀ (k107 : Nat) (sc107 : GS) (y107_6 : Int32), Inv sc107 → Fr fm_409 s sc107 → (In x1 0 200) → (In x2 1 4) → (In x3 0 90) → (In y107_6 0 32) → 32 - (y107_6).toInt < (k107 : Int) → GG Z (d - 1) 409 post (gx xp) (12874005 + k107 * 900) 107 (fun j => xlook j [(0, .ref (A 109)), (1, .int x1), (2, .int x2), (3, .int x3), (4, .long x4), (6, .int y107_6)]) [] (WW Z A sc107 ++ ex) 0 0 := by
    intro k107
    induction k107 with
    | zero => intro sc107 y107_6 hIc107 hFc107 j107_1 j107_2 j107_3 j107_6 mm107; exact m_no mm107 j107_6 rfl
    | succ k107 ih107 =>
      intro sc107 y107_6 hIc107 hFc107 j107_1 j107_2 j107_3 j107_6 mm107
      refine gg_w (M := 12874005 + k107 * 900 + 900) (by omega) (g_iload 109 (gd rfl) rfl rfl (g_aload_n 110 (gd rfl) rfl rfl (g_getIv (y := u_109_20) 113 (gd rfl) rfl rfl rfl (fr_F e_109_20 hFc107 rfl) (g_cmp_ge 116 141 (gd rfl) rfl rfl (fun c113 => ?_) (fun c113 => ?_)))))
      · skip
        exact g_iconst 0 142 (gd rfl) rfl rfl (g_istore 144 (gd rfl) rfl (Nat.le_of_ble_eq_true rfl) (gg_w (by omega) (gg_f (gf_cons rfl (gf_cons rfl (gf_cons rfl (gf_cons rfl (gf_cons rfl (gf_cons rfl gf_nil)))))) (ct144 33 sc107 (Int32.ofInt 0) hIc107 hFc107 (in_w 0 200 j107_1 rfl) (in_w 1 4 j107_2 rfl) (in_w 0 90 j107_3 rfl) (in_w 0 32 (in_c 0 rfl) rfl) (m_in 33 (in_w 0 32 (in_c 0 rfl) rfl) rfl)))))
      · skip
        have i113 := r_lt1 0 31 c113 j107_6 ro_109_20 rfl
        have i113a := r_lt2 1 32 c113 j107_6 ro_109_20 rfl
        refine g_aload_n 117 (gd rfl) rfl rfl (g_iload 119 (gd rfl) rfl rfl (g_iconst 0 120 (gd rfl) rfl rfl (g_callv (X := _) (As := [.int y107_6, .int (Int32.ofInt 0)]) (r := []) (b := A 109) (q := 109) 123 (gd rfl) rfl rfl rfl rfl rfl (ww_o rfl) (Nat.le_of_ble_eq_true rfl) (Nat.zero_le _) (Nat.zero_le _) (k_407 (by omega) hIc107 (in_w 0 31 i113 rfl) (in_w 0 200 (in_c 0 rfl) rfl)) (fun e u h => h) (fun v u h => ?_))))
        obtain ⟨s120, hI120, hF120, rfl, rfl⟩ := h
        show GG _ _ _ _ _ _ _ _ [] _ _ _
        refine g_aload_n 124 (gd rfl) rfl rfl (g_getA (q2 := 192) 127 (gd rfl) rfl rfl rfl rfl (g_iload 129 (gd rfl) rfl rfl (g_aload_n 130 (gd rfl) rfl rfl (g_iconst 0 131 (gd rfl) rfl rfl (g_callv (X := _) (As := [.int (Int32.ofInt 0)]) (r := [.int y107_6, .ref (A 192)]) (b := A 109) (q := 109) 134 (gd rfl) rfl rfl rfl rfl rfl (ww_o rfl) (Nat.le_of_ble_eq_true rfl) (Nat.zero_le _) (Nat.zero_le _) (k_408 (by omega) hI120 (in_w 0 1 (in_c 0 rfl) rfl)) (fun e u h => h) (fun v u h => ?_))))))
        obtain ⟨s131, hI131, hF131, z131, rfl, rfl⟩ := h
        show GG _ _ _ _ _ _ _ _ [.long z131, .int y107_6, .ref (A 192)] _ _ _
        exact g_lastore 135 (gd rfl) rfl (n := 32) rfl (in_ix i113 rfl) (have hI134 := inv_sL (q := 192) (j := y107_6.toNatClampNeg) (x := z131) hI131 rfl (l_rng z131); g_iinc 138 (gd rfl) rfl rfl (Nat.le_of_ble_eq_true rfl) (fun z135 e135 => have i135 := in_add 1 32 e135 i113 (in_c 1 rfl) rfl rfl; g_goto 107 (gd rfl) rfl (gg_w (by omega) (gg_f (gf_cons rfl (gf_cons rfl (gf_cons rfl (gf_cons rfl (gf_cons rfl (gf_cons rfl gf_nil)))))) (ih107 (sL s131 192 y107_6.toNatClampNeg z131) z135 hI134 (fr_sL rfl (fr_tr rfl (fr_tr rfl hFc107 hF120) hF131)) (in_w 0 200 j107_1 rfl) (in_w 1 4 j107_2 rfl) (in_w 0 90 j107_3 rfl) (in_w 0 32 i135 rfl) (m_up mm107 (t_add e135 i113 (in_c 1 rfl) rfl) (in_w 1 1 (in_c 1 rfl) rfl)))))))
  have ct81 : ∀ (k81 : Nat) (sc81 : GS) (y81_6 : Int32), Inv sc81 → Fr fm_409 s sc81 → (In x1 0 200) → (In x2 1 4) → (In x3 0 90) → (In y81_6 0 32) → 32 - (y81_6).toInt < (k81 : Int) → GG Z (d - 1) 409 post (gx xp) (12903706 + k81 * 900) 81 (fun j => xlook j [(0, .ref (A 109)), (1, .int x1), (2, .int x2), (3, .int x3), (4, .long x4), (6, .int y81_6)]) [] (WW Z A sc81 ++ ex) 0 0 := by
    intro k81
    induction k81 with
    | zero => intro sc81 y81_6 hIc81 hFc81 j81_1 j81_2 j81_3 j81_6 mm81; exact m_no mm81 j81_6 rfl
    | succ k81 ih81 =>
      intro sc81 y81_6 hIc81 hFc81 j81_1 j81_2 j81_3 j81_6 mm81
      refine gg_w (M := 12903706 + k81 * 900 + 900) (by omega) (g_iload 83 (gd rfl) rfl rfl (g_aload_n 84 (gd rfl) rfl rfl (g_getIv (y := u_109_20) 87 (gd rfl) rfl rfl rfl (fr_F e_109_20 hFc81 rfl) (g_cmp_ge 90 104 (gd rfl) rfl rfl (fun c87 => ?_) (fun c87 => ?_)))))
      · skip
        exact g_iconst 0 105 (gd rfl) rfl rfl (g_istore 107 (gd rfl) rfl (Nat.le_of_ble_eq_true rfl) (gg_w (by omega) (gg_f (gf_cons rfl (gf_cons rfl (gf_cons rfl (gf_cons rfl (gf_cons rfl (gf_cons rfl gf_nil)))))) (ct107 33 sc81 (Int32.ofInt 0) hIc81 hFc81 (in_w 0 200 j81_1 rfl) (in_w 1 4 j81_2 rfl) (in_w 0 90 j81_3 rfl) (in_w 0 32 (in_c 0 rfl) rfl) (m_in 33 (in_w 0 32 (in_c 0 rfl) rfl) rfl)))))
      · skip
        have i87 := r_lt1 0 31 c87 j81_6 ro_109_20 rfl
        have i87a := r_lt2 1 32 c87 j81_6 ro_109_20 rfl
        exact g_aload_n 91 (gd rfl) rfl rfl (g_getA (q2 := 191) 94 (gd rfl) rfl rfl rfl rfl (g_iload 96 (gd rfl) rfl rfl (g_lconst 0 97 (gd rfl) rfl rfl (g_lastore 98 (gd rfl) rfl (n := 32) rfl (in_ix i87 rfl) (have hI97 := inv_sL (q := 191) (j := y81_6.toNatClampNeg) (x := (Int64.ofInt 0)) hIc81 rfl (l_rng (Int64.ofInt 0)); g_iinc 101 (gd rfl) rfl rfl (Nat.le_of_ble_eq_true rfl) (fun z98 e98 => have i98 := in_add 1 32 e98 i87 (in_c 1 rfl) rfl rfl; g_goto 81 (gd rfl) rfl (gg_w (by omega) (gg_f (gf_cons rfl (gf_cons rfl (gf_cons rfl (gf_cons rfl (gf_cons rfl (gf_cons rfl gf_nil)))))) (ih81 (sL sc81 191 y81_6.toNatClampNeg (Int64.ofInt 0)) z98 hI97 (fr_sL rfl hFc81) (in_w 0 200 j81_1 rfl) (in_w 1 4 j81_2 rfl) (in_w 0 90 j81_3 rfl) (in_w 0 32 i98 rfl) (m_up mm81 (t_add e98 i87 (in_c 1 rfl) rfl) (in_w 1 1 (in_c 1 rfl) rfl)))))))))))
  refine g_enter2 (k := 409) (N := 12934306) (by omega) rfl (Nat.le_of_ble_eq_true rfl) (g_aload_n 1 (gd rfl) rfl rfl (g_iload_n 2 (gd rfl) rfl rfl (g_i2l 3 (gd rfl) rfl (fun z2 e2 => have i2 := l_i e2 (i_rng x1); g_lconst 0 4 (gd rfl) rfl rfl (g_ldc2_w 200 7 (gd rfl) rfl rfl ?_)))))
  refine g_calls (As := [.long z2, .long (Int64.ofInt 0), .long (Int64.ofInt 200)]) (r := [.ref (A 109)]) 10 (gd rfl) rfl rfl rfl rfl rfl (Nat.le_of_ble_eq_true rfl) (mc := 0) (ms := 0) (Nat.zero_le _) (Nat.zero_le _) (P := fun v u => _) ?_ (fun v u h => h)
  intro po7 xx7 hp7 hx7
  refine g_enter2 (k := 269) (N := 300) (by omega) rfl (Nat.le_of_ble_eq_true rfl) (g_lload_n 1 (gd rfl) rfl rfl (g_lload_n 2 (gd rfl) rfl rfl (g_lcmp 3 (gd rfl) rfl (fun z7x2 e7x2 => have i7x2 := lc_in e7x2; g_if_lt 6 17 (gd rfl) rfl rfl (fun c7x3 => ?_) (fun c7x3 => ?_)))))
  · skip
    have i7x3 := z_lt (-1) (-1) c7x3 i7x2 rfl
    have c7x3a := lc_lt e7x2 c7x3
    have i7x3a := lr_lt1 (-2147483648) (-1) c7x3a i2 (l_c 0 rfl) rfl
    have i7x3b := l_b e2 i7x3a
    refine g_iconst 0 18 (gd rfl) rfl rfl ?_
    refine g_ireturn (gd rfl) rfl (nb01 (in_w 0 1 (in_c 0 rfl) rfl)) (hp7 _ _ ?_)
    show GG _ _ _ _ _ _ _ _ [.int (Int32.ofInt 0), .ref (A 109)] _ _ _
    refine g_if_eq 13 41 (gd rfl) rfl rfl (fun c10 => ?_) (fun c10 => ?_)
    · skip
      refine g_iconst 0 42 (gd rfl) rfl rfl ?_
      refine g_callv (X := _) (As := [.int (Int32.ofInt 0)]) (r := []) (b := A 109) (q := 109) 45 (gd rfl) rfl rfl rfl rfl rfl (ww_o rfl) (Nat.le_of_ble_eq_true rfl) (mc := 0) (ms := 0) (Nat.zero_le _) (Nat.zero_le _) (P := fun v u => _) ?_ (fun e u h => h) (fun v u h => h)
      intro po42 xx42 hp42 hx42
      refine g_enter2 (k := 271) (N := 300) (by omega) rfl (Nat.le_of_ble_eq_true rfl) (g_aload_n 1 (gd rfl) rfl rfl (g_iload_n 2 (gd rfl) rfl rfl (g_iconst 1 3 (gd rfl) rfl rfl ?_)))
      refine g_callv (X := _) (As := [.int (Int32.ofInt 0), .int (Int32.ofInt 1)]) (r := []) (b := A 109) (q := 109) 6 (gd rfl) rfl rfl rfl rfl rfl (ww_o rfl) (Nat.le_of_ble_eq_true rfl) (mc := 0) (ms := 0) (Nat.zero_le _) (Nat.zero_le _) (P := fun v u => _) ?_ (fun e u h => h) (fun v u h => h)
      intro po42x3 xx42x3 hp42x3 hx42x3
      refine g_enter2 (k := 270) (N := 300) (by omega) rfl (Nat.le_of_ble_eq_true rfl) (g_aload_n 1 (gd rfl) rfl rfl (g_iload_n 2 (gd rfl) rfl rfl (g_if_ne 5 9 (gd rfl) rfl rfl (fun c42x3x2 => ?_) (fun c42x3x2 => ?_))))
      · skip
        exact zn_ne c42x3x2 (in_c 0 rfl) rfl
      · skip
        refine g_iconst 1 6 (gd rfl) rfl rfl (g_goto 18 (gd rfl) rfl (g_putI 21 (gd rfl) rfl rfl rfl rfl (have hI42x3x18 := inv_sF (q := 109) (j := 0) hI rfl (in_w 0 2 (in_c 1 rfl) rfl); g_aload_n 22 (gd rfl) rfl rfl (g_getIv (y := (Int32.ofInt 1)) 25 (gd rfl) rfl rfl rfl (sF_get) (g_if_le 28 32 (gd rfl) rfl rfl (fun c42x3x25 => ?_) (fun c42x3x25 => ?_))))))
        · skip
          exact zn_le c42x3x25 (in_c 1 rfl) rfl
        · skip
          refine g_iconst 1 29 (gd rfl) rfl rfl (g_goto 33 (gd rfl) rfl ?_)
          refine g_ireturn (gd rfl) rfl (nb01 (in_w 0 1 (in_c 1 rfl) rfl)) (hp42x3 _ _ ?_)
          show GG _ _ _ _ _ _ _ _ [.int (Int32.ofInt 1)] _ _ _
          refine g_ireturn (gd rfl) rfl (nb01 (in_w 0 1 (in_c 1 rfl) rfl)) (hp42 _ _ ?_)
          show GG _ _ _ _ _ _ _ _ [.int (Int32.ofInt 1)] _ _ _
          refine g_if_eq 48 50 (gd rfl) rfl rfl (fun c45 => ?_) (fun c45 => ?_)
          · skip
            exact zn_eq c45 (in_c 1 rfl) rfl
          · skip
            exact g_iconst 0 49 (gd rfl) rfl rfl (g_ireturn (gd rfl) rfl rfl (hP _ _ ⟨(sF s 109 0 (Int32.ofInt 1)), hI42x3x18, (fr_sF rfl fr_rf), (Int32.ofInt 0), rfl, rfl, in_w 0 200 (in_c 0 rfl) rfl⟩))
    · skip
      exact zn_ne c10 (in_c 0 rfl) rfl
  · skip
    have i7x3 := z_ge 0 1 c7x3 i7x2 rfl
    have c7x3a := lc_ge e7x2 c7x3
    have i7x3a := lr_le2 0 2147483647 c7x3a (l_c 0 rfl) i2 rfl
    have i7x3b := l_b e2 i7x3a
    refine g_lload_n 7 (gd rfl) rfl rfl (g_lload 9 (gd rfl) rfl rfl (g_lcmp 10 (gd rfl) rfl (fun z7x9 e7x9 => have i7x9 := lc_in e7x9; g_if_gt 13 17 (gd rfl) rfl rfl (fun c7x10 => ?_) (fun c7x10 => ?_))))
    · skip
      have i7x10 := z_gt 1 1 c7x10 i7x9 rfl
      have c7x10a := lc_gt e7x9 c7x10
      have i7x10a := lr_lt2 201 2147483647 c7x10a (l_c 200 rfl) i7x3a rfl
      have i7x10b := l_b e2 i7x10a
      refine g_iconst 0 18 (gd rfl) rfl rfl ?_
      refine g_ireturn (gd rfl) rfl (nb01 (in_w 0 1 (in_c 0 rfl) rfl)) (hp7 _ _ ?_)
      show GG _ _ _ _ _ _ _ _ [.int (Int32.ofInt 0), .ref (A 109)] _ _ _
      refine g_if_eq 13 41 (gd rfl) rfl rfl (fun c10 => ?_) (fun c10 => ?_)
      · skip
        refine g_iconst 0 42 (gd rfl) rfl rfl ?_
        refine g_callv (X := _) (As := [.int (Int32.ofInt 0)]) (r := []) (b := A 109) (q := 109) 45 (gd rfl) rfl rfl rfl rfl rfl (ww_o rfl) (Nat.le_of_ble_eq_true rfl) (mc := 0) (ms := 0) (Nat.zero_le _) (Nat.zero_le _) (P := fun v u => _) ?_ (fun e u h => h) (fun v u h => h)
        intro po42 xx42 hp42 hx42
        refine g_enter2 (k := 271) (N := 300) (by omega) rfl (Nat.le_of_ble_eq_true rfl) (g_aload_n 1 (gd rfl) rfl rfl (g_iload_n 2 (gd rfl) rfl rfl (g_iconst 1 3 (gd rfl) rfl rfl ?_)))
        refine g_callv (X := _) (As := [.int (Int32.ofInt 0), .int (Int32.ofInt 1)]) (r := []) (b := A 109) (q := 109) 6 (gd rfl) rfl rfl rfl rfl rfl (ww_o rfl) (Nat.le_of_ble_eq_true rfl) (mc := 0) (ms := 0) (Nat.zero_le _) (Nat.zero_le _) (P := fun v u => _) ?_ (fun e u h => h) (fun v u h => h)
        intro po42x3 xx42x3 hp42x3 hx42x3
        refine g_enter2 (k := 270) (N := 300) (by omega) rfl (Nat.le_of_ble_eq_true rfl) (g_aload_n 1 (gd rfl) rfl rfl (g_iload_n 2 (gd rfl) rfl rfl (g_if_ne 5 9 (gd rfl) rfl rfl (fun c42x3x2 => ?_) (fun c42x3x2 => ?_))))
        · skip
          exact zn_ne c42x3x2 (in_c 0 rfl) rfl
        · skip
          refine g_iconst 1 6 (gd rfl) rfl rfl (g_goto 18 (gd rfl) rfl (g_putI 21 (gd rfl) rfl rfl rfl rfl (have hI42x3x18 := inv_sF (q := 109) (j := 0) hI rfl (in_w 0 2 (in_c 1 rfl) rfl); g_aload_n 22 (gd rfl) rfl rfl (g_getIv (y := (Int32.ofInt 1)) 25 (gd rfl) rfl rfl rfl (sF_get) (g_if_le 28 32 (gd rfl) rfl rfl (fun c42x3x25 => ?_) (fun c42x3x25 => ?_))))))
          · skip
            exact zn_le c42x3x25 (in_c 1 rfl) rfl
          · skip
            refine g_iconst 1 29 (gd rfl) rfl rfl (g_goto 33 (gd rfl) rfl ?_)
            refine g_ireturn (gd rfl) rfl (nb01 (in_w 0 1 (in_c 1 rfl) rfl)) (hp42x3 _ _ ?_)
            show GG _ _ _ _ _ _ _ _ [.int (Int32.ofInt 1)] _ _ _
            refine g_ireturn (gd rfl) rfl (nb01 (in_w 0 1 (in_c 1 rfl) rfl)) (hp42 _ _ ?_)
            show GG _ _ _ _ _ _ _ _ [.int (Int32.ofInt 1)] _ _ _
            refine g_if_eq 48 50 (gd rfl) rfl rfl (fun c45 => ?_) (fun c45 => ?_)
            · skip
              exact zn_eq c45 (in_c 1 rfl) rfl
            · skip
              exact g_iconst 0 49 (gd rfl) rfl rfl (g_ireturn (gd rfl) rfl rfl (hP _ _ ⟨(sF s 109 0 (Int32.ofInt 1)), hI42x3x18, (fr_sF rfl fr_rf), (Int32.ofInt 0), rfl, rfl, in_w 0 200 (in_c 0 rfl) rfl⟩))
      · skip
        exact zn_ne c10 (in_c 0 rfl) rfl
    · skip
      have i7x10 := z_le (-1) 0 c7x10 i7x9 rfl
      have c7x10a := lc_le e7x9 c7x10
      have i7x10a := lr_le1 0 200 c7x10a i7x3a (l_c 200 rfl) rfl
      have i7x10b := l_b e2 i7x10a
      refine g_iconst 1 14 (gd rfl) rfl rfl (g_goto 18 (gd rfl) rfl ?_)
      refine g_ireturn (gd rfl) rfl (nb01 (in_w 0 1 (in_c 1 rfl) rfl)) (hp7 _ _ ?_)
      show GG _ _ _ _ _ _ _ _ [.int (Int32.ofInt 1), .ref (A 109)] _ _ _
      refine g_if_eq 13 41 (gd rfl) rfl rfl (fun c10 => ?_) (fun c10 => ?_)
      · skip
        exact zn_eq c10 (in_c 1 rfl) rfl
      · skip
        refine g_iload_n 14 (gd rfl) rfl rfl (g_i2l 15 (gd rfl) rfl (fun z14 e14 => have i14 := l_i e14 (i_rng x2); g_lconst 1 16 (gd rfl) rfl rfl (g_ldc2_w 4 19 (gd rfl) rfl rfl ?_)))
        refine g_calls (As := [.long z14, .long (Int64.ofInt 1), .long (Int64.ofInt 4)]) (r := [.ref (A 109)]) 22 (gd rfl) rfl rfl rfl rfl rfl (Nat.le_of_ble_eq_true rfl) (mc := 0) (ms := 0) (Nat.zero_le _) (Nat.zero_le _) (P := fun v u => _) ?_ (fun v u h => h)
        intro po19 xx19 hp19 hx19
        refine g_enter2 (k := 269) (N := 300) (by omega) rfl (Nat.le_of_ble_eq_true rfl) (g_lload_n 1 (gd rfl) rfl rfl (g_lload_n 2 (gd rfl) rfl rfl (g_lcmp 3 (gd rfl) rfl (fun z19x2 e19x2 => have i19x2 := lc_in e19x2; g_if_lt 6 17 (gd rfl) rfl rfl (fun c19x3 => ?_) (fun c19x3 => ?_)))))
        · skip
          have i19x3 := z_lt (-1) (-1) c19x3 i19x2 rfl
          have c19x3a := lc_lt e19x2 c19x3
          have i19x3a := lr_lt1 (-2147483648) 0 c19x3a i14 (l_c 1 rfl) rfl
          have i19x3b := l_b e14 i19x3a
          refine g_iconst 0 18 (gd rfl) rfl rfl ?_
          refine g_ireturn (gd rfl) rfl (nb01 (in_w 0 1 (in_c 0 rfl) rfl)) (hp19 _ _ ?_)
          show GG _ _ _ _ _ _ _ _ [.int (Int32.ofInt 0), .ref (A 109)] _ _ _
          refine g_if_eq 25 41 (gd rfl) rfl rfl (fun c22 => ?_) (fun c22 => ?_)
          · skip
            refine g_iconst 0 42 (gd rfl) rfl rfl ?_
            refine g_callv (X := _) (As := [.int (Int32.ofInt 0)]) (r := []) (b := A 109) (q := 109) 45 (gd rfl) rfl rfl rfl rfl rfl (ww_o rfl) (Nat.le_of_ble_eq_true rfl) (mc := 0) (ms := 0) (Nat.zero_le _) (Nat.zero_le _) (P := fun v u => _) ?_ (fun e u h => h) (fun v u h => h)
            intro po42 xx42 hp42 hx42
            refine g_enter2 (k := 271) (N := 300) (by omega) rfl (Nat.le_of_ble_eq_true rfl) (g_aload_n 1 (gd rfl) rfl rfl (g_iload_n 2 (gd rfl) rfl rfl (g_iconst 1 3 (gd rfl) rfl rfl ?_)))
            refine g_callv (X := _) (As := [.int (Int32.ofInt 0), .int (Int32.ofInt 1)]) (r := []) (b := A 109) (q := 109) 6 (gd rfl) rfl rfl rfl rfl rfl (ww_o rfl) (Nat.le_of_ble_eq_true rfl) (mc := 0) (ms := 0) (Nat.zero_le _) (Nat.zero_le _) (P := fun v u => _) ?_ (fun e u h => h) (fun v u h => h)
            intro po42x3 xx42x3 hp42x3 hx42x3
            refine g_enter2 (k := 270) (N := 300) (by omega) rfl (Nat.le_of_ble_eq_true rfl) (g_aload_n 1 (gd rfl) rfl rfl (g_iload_n 2 (gd rfl) rfl rfl (g_if_ne 5 9 (gd rfl) rfl rfl (fun c42x3x2 => ?_) (fun c42x3x2 => ?_))))
            · skip
              exact zn_ne c42x3x2 (in_c 0 rfl) rfl
            · skip
              refine g_iconst 1 6 (gd rfl) rfl rfl (g_goto 18 (gd rfl) rfl (g_putI 21 (gd rfl) rfl rfl rfl rfl (have hI42x3x18 := inv_sF (q := 109) (j := 0) hI rfl (in_w 0 2 (in_c 1 rfl) rfl); g_aload_n 22 (gd rfl) rfl rfl (g_getIv (y := (Int32.ofInt 1)) 25 (gd rfl) rfl rfl rfl (sF_get) (g_if_le 28 32 (gd rfl) rfl rfl (fun c42x3x25 => ?_) (fun c42x3x25 => ?_))))))
              · skip
                exact zn_le c42x3x25 (in_c 1 rfl) rfl
              · skip
                refine g_iconst 1 29 (gd rfl) rfl rfl (g_goto 33 (gd rfl) rfl ?_)
                refine g_ireturn (gd rfl) rfl (nb01 (in_w 0 1 (in_c 1 rfl) rfl)) (hp42x3 _ _ ?_)
                show GG _ _ _ _ _ _ _ _ [.int (Int32.ofInt 1)] _ _ _
                refine g_ireturn (gd rfl) rfl (nb01 (in_w 0 1 (in_c 1 rfl) rfl)) (hp42 _ _ ?_)
                show GG _ _ _ _ _ _ _ _ [.int (Int32.ofInt 1)] _ _ _
                refine g_if_eq 48 50 (gd rfl) rfl rfl (fun c45 => ?_) (fun c45 => ?_)
                · skip
                  exact zn_eq c45 (in_c 1 rfl) rfl
                · skip
                  exact g_iconst 0 49 (gd rfl) rfl rfl (g_ireturn (gd rfl) rfl rfl (hP _ _ ⟨(sF s 109 0 (Int32.ofInt 1)), hI42x3x18, (fr_sF rfl fr_rf), (Int32.ofInt 0), rfl, rfl, in_w 0 200 (in_c 0 rfl) rfl⟩))
          · skip
            exact zn_ne c22 (in_c 0 rfl) rfl
        · skip
          have i19x3 := z_ge 0 1 c19x3 i19x2 rfl
          have c19x3a := lc_ge e19x2 c19x3
          have i19x3a := lr_le2 1 2147483647 c19x3a (l_c 1 rfl) i14 rfl
          have i19x3b := l_b e14 i19x3a
          refine g_lload_n 7 (gd rfl) rfl rfl (g_lload 9 (gd rfl) rfl rfl (g_lcmp 10 (gd rfl) rfl (fun z19x9 e19x9 => have i19x9 := lc_in e19x9; g_if_gt 13 17 (gd rfl) rfl rfl (fun c19x10 => ?_) (fun c19x10 => ?_))))
          · skip
            have i19x10 := z_gt 1 1 c19x10 i19x9 rfl
            have c19x10a := lc_gt e19x9 c19x10
            have i19x10a := lr_lt2 5 2147483647 c19x10a (l_c 4 rfl) i19x3a rfl
            have i19x10b := l_b e14 i19x10a
            refine g_iconst 0 18 (gd rfl) rfl rfl ?_
            refine g_ireturn (gd rfl) rfl (nb01 (in_w 0 1 (in_c 0 rfl) rfl)) (hp19 _ _ ?_)
            show GG _ _ _ _ _ _ _ _ [.int (Int32.ofInt 0), .ref (A 109)] _ _ _
            refine g_if_eq 25 41 (gd rfl) rfl rfl (fun c22 => ?_) (fun c22 => ?_)
            · skip
              refine g_iconst 0 42 (gd rfl) rfl rfl ?_
              refine g_callv (X := _) (As := [.int (Int32.ofInt 0)]) (r := []) (b := A 109) (q := 109) 45 (gd rfl) rfl rfl rfl rfl rfl (ww_o rfl) (Nat.le_of_ble_eq_true rfl) (mc := 0) (ms := 0) (Nat.zero_le _) (Nat.zero_le _) (P := fun v u => _) ?_ (fun e u h => h) (fun v u h => h)
              intro po42 xx42 hp42 hx42
              refine g_enter2 (k := 271) (N := 300) (by omega) rfl (Nat.le_of_ble_eq_true rfl) (g_aload_n 1 (gd rfl) rfl rfl (g_iload_n 2 (gd rfl) rfl rfl (g_iconst 1 3 (gd rfl) rfl rfl ?_)))
              refine g_callv (X := _) (As := [.int (Int32.ofInt 0), .int (Int32.ofInt 1)]) (r := []) (b := A 109) (q := 109) 6 (gd rfl) rfl rfl rfl rfl rfl (ww_o rfl) (Nat.le_of_ble_eq_true rfl) (mc := 0) (ms := 0) (Nat.zero_le _) (Nat.zero_le _) (P := fun v u => _) ?_ (fun e u h => h) (fun v u h => h)
              intro po42x3 xx42x3 hp42x3 hx42x3
              refine g_enter2 (k := 270) (N := 300) (by omega) rfl (Nat.le_of_ble_eq_true rfl) (g_aload_n 1 (gd rfl) rfl rfl (g_iload_n 2 (gd rfl) rfl rfl (g_if_ne 5 9 (gd rfl) rfl rfl (fun c42x3x2 => ?_) (fun c42x3x2 => ?_))))
              · skip
                exact zn_ne c42x3x2 (in_c 0 rfl) rfl
              · skip
                refine g_iconst 1 6 (gd rfl) rfl rfl (g_goto 18 (gd rfl) rfl (g_putI 21 (gd rfl) rfl rfl rfl rfl (have hI42x3x18 := inv_sF (q := 109) (j := 0) hI rfl (in_w 0 2 (in_c 1 rfl) rfl); g_aload_n 22 (gd rfl) rfl rfl (g_getIv (y := (Int32.ofInt 1)) 25 (gd rfl) rfl rfl rfl (sF_get) (g_if_le 28 32 (gd rfl) rfl rfl (fun c42x3x25 => ?_) (fun c42x3x25 => ?_))))))
                · skip
                  exact zn_le c42x3x25 (in_c 1 rfl) rfl
                · skip
                  refine g_iconst 1 29 (gd rfl) rfl rfl (g_goto 33 (gd rfl) rfl ?_)
                  refine g_ireturn (gd rfl) rfl (nb01 (in_w 0 1 (in_c 1 rfl) rfl)) (hp42x3 _ _ ?_)
                  show GG _ _ _ _ _ _ _ _ [.int (Int32.ofInt 1)] _ _ _
                  refine g_ireturn (gd rfl) rfl (nb01 (in_w 0 1 (in_c 1 rfl) rfl)) (hp42 _ _ ?_)
                  show GG _ _ _ _ _ _ _ _ [.int (Int32.ofInt 1)] _ _ _
                  refine g_if_eq 48 50 (gd rfl) rfl rfl (fun c45 => ?_) (fun c45 => ?_)
                  · skip
                    exact zn_eq c45 (in_c 1 rfl) rfl
                  · skip
                    exact g_iconst 0 49 (gd rfl) rfl rfl (g_ireturn (gd rfl) rfl rfl (hP _ _ ⟨(sF s 109 0 (Int32.ofInt 1)), hI42x3x18, (fr_sF rfl fr_rf), (Int32.ofInt 0), rfl, rfl, in_w 0 200 (in_c 0 rfl) rfl⟩))
            · skip
              exact zn_ne c22 (in_c 0 rfl) rfl
          · skip
            have i19x10 := z_le (-1) 0 c19x10 i19x9 rfl
            have c19x10a := lc_le e19x9 c19x10
            have i19x10a := lr_le1 1 4 c19x10a i19x3a (l_c 4 rfl) rfl
            have i19x10b := l_b e14 i19x10a
            refine g_iconst 1 14 (gd rfl) rfl rfl (g_goto 18 (gd rfl) rfl ?_)
            refine g_ireturn (gd rfl) rfl (nb01 (in_w 0 1 (in_c 1 rfl) rfl)) (hp19 _ _ ?_)
            show GG _ _ _ _ _ _ _ _ [.int (Int32.ofInt 1), .ref (A 109)] _ _ _
            refine g_if_eq 25 41 (gd rfl) rfl rfl (fun c22 => ?_) (fun c22 => ?_)
            · skip
              exact zn_eq c22 (in_c 1 rfl) rfl
            · skip
              refine g_iload_n 26 (gd rfl) rfl rfl (g_i2l 27 (gd rfl) rfl (fun z26 e26 => have i26 := l_i e26 (i_rng x3); g_lconst 0 28 (gd rfl) rfl rfl (g_ldc2_w 90 31 (gd rfl) rfl rfl ?_)))
              refine g_calls (As := [.long z26, .long (Int64.ofInt 0), .long (Int64.ofInt 90)]) (r := [.ref (A 109)]) 34 (gd rfl) rfl rfl rfl rfl rfl (Nat.le_of_ble_eq_true rfl) (mc := 0) (ms := 0) (Nat.zero_le _) (Nat.zero_le _) (P := fun v u => _) ?_ (fun v u h => h)
              intro po31 xx31 hp31 hx31
              refine g_enter2 (k := 269) (N := 300) (by omega) rfl (Nat.le_of_ble_eq_true rfl) (g_lload_n 1 (gd rfl) rfl rfl (g_lload_n 2 (gd rfl) rfl rfl (g_lcmp 3 (gd rfl) rfl (fun z31x2 e31x2 => have i31x2 := lc_in e31x2; g_if_lt 6 17 (gd rfl) rfl rfl (fun c31x3 => ?_) (fun c31x3 => ?_)))))
              · skip
                have i31x3 := z_lt (-1) (-1) c31x3 i31x2 rfl
                have c31x3a := lc_lt e31x2 c31x3
                have i31x3a := lr_lt1 (-2147483648) (-1) c31x3a i26 (l_c 0 rfl) rfl
                have i31x3b := l_b e26 i31x3a
                refine g_iconst 0 18 (gd rfl) rfl rfl ?_
                refine g_ireturn (gd rfl) rfl (nb01 (in_w 0 1 (in_c 0 rfl) rfl)) (hp31 _ _ ?_)
                show GG _ _ _ _ _ _ _ _ [.int (Int32.ofInt 0), .ref (A 109)] _ _ _
                refine g_if_eq 37 41 (gd rfl) rfl rfl (fun c34 => ?_) (fun c34 => ?_)
                · skip
                  refine g_iconst 0 42 (gd rfl) rfl rfl ?_
                  refine g_callv (X := _) (As := [.int (Int32.ofInt 0)]) (r := []) (b := A 109) (q := 109) 45 (gd rfl) rfl rfl rfl rfl rfl (ww_o rfl) (Nat.le_of_ble_eq_true rfl) (mc := 0) (ms := 0) (Nat.zero_le _) (Nat.zero_le _) (P := fun v u => _) ?_ (fun e u h => h) (fun v u h => h)
                  intro po42 xx42 hp42 hx42
                  refine g_enter2 (k := 271) (N := 300) (by omega) rfl (Nat.le_of_ble_eq_true rfl) (g_aload_n 1 (gd rfl) rfl rfl (g_iload_n 2 (gd rfl) rfl rfl (g_iconst 1 3 (gd rfl) rfl rfl ?_)))
                  refine g_callv (X := _) (As := [.int (Int32.ofInt 0), .int (Int32.ofInt 1)]) (r := []) (b := A 109) (q := 109) 6 (gd rfl) rfl rfl rfl rfl rfl (ww_o rfl) (Nat.le_of_ble_eq_true rfl) (mc := 0) (ms := 0) (Nat.zero_le _) (Nat.zero_le _) (P := fun v u => _) ?_ (fun e u h => h) (fun v u h => h)
                  intro po42x3 xx42x3 hp42x3 hx42x3
                  refine g_enter2 (k := 270) (N := 300) (by omega) rfl (Nat.le_of_ble_eq_true rfl) (g_aload_n 1 (gd rfl) rfl rfl (g_iload_n 2 (gd rfl) rfl rfl (g_if_ne 5 9 (gd rfl) rfl rfl (fun c42x3x2 => ?_) (fun c42x3x2 => ?_))))
                  · skip
                    exact zn_ne c42x3x2 (in_c 0 rfl) rfl
                  · skip
                    refine g_iconst 1 6 (gd rfl) rfl rfl (g_goto 18 (gd rfl) rfl (g_putI 21 (gd rfl) rfl rfl rfl rfl (have hI42x3x18 := inv_sF (q := 109) (j := 0) hI rfl (in_w 0 2 (in_c 1 rfl) rfl); g_aload_n 22 (gd rfl) rfl rfl (g_getIv (y := (Int32.ofInt 1)) 25 (gd rfl) rfl rfl rfl (sF_get) (g_if_le 28 32 (gd rfl) rfl rfl (fun c42x3x25 => ?_) (fun c42x3x25 => ?_))))))
                    · skip
                      exact zn_le c42x3x25 (in_c 1 rfl) rfl
                    · skip
                      refine g_iconst 1 29 (gd rfl) rfl rfl (g_goto 33 (gd rfl) rfl ?_)
                      refine g_ireturn (gd rfl) rfl (nb01 (in_w 0 1 (in_c 1 rfl) rfl)) (hp42x3 _ _ ?_)
                      show GG _ _ _ _ _ _ _ _ [.int (Int32.ofInt 1)] _ _ _
                      refine g_ireturn (gd rfl) rfl (nb01 (in_w 0 1 (in_c 1 rfl) rfl)) (hp42 _ _ ?_)
                      show GG _ _ _ _ _ _ _ _ [.int (Int32.ofInt 1)] _ _ _
                      refine g_if_eq 48 50 (gd rfl) rfl rfl (fun c45 => ?_) (fun c45 => ?_)
                      · skip
                        exact zn_eq c45 (in_c 1 rfl) rfl
                      · skip
                        exact g_iconst 0 49 (gd rfl) rfl rfl (g_ireturn (gd rfl) rfl rfl (hP _ _ ⟨(sF s 109 0 (Int32.ofInt 1)), hI42x3x18, (fr_sF rfl fr_rf), (Int32.ofInt 0), rfl, rfl, in_w 0 200 (in_c 0 rfl) rfl⟩))
                · skip
                  exact zn_ne c34 (in_c 0 rfl) rfl
              · skip
                have i31x3 := z_ge 0 1 c31x3 i31x2 rfl
                have c31x3a := lc_ge e31x2 c31x3
                have i31x3a := lr_le2 0 2147483647 c31x3a (l_c 0 rfl) i26 rfl
                have i31x3b := l_b e26 i31x3a
                refine g_lload_n 7 (gd rfl) rfl rfl (g_lload 9 (gd rfl) rfl rfl (g_lcmp 10 (gd rfl) rfl (fun z31x9 e31x9 => have i31x9 := lc_in e31x9; g_if_gt 13 17 (gd rfl) rfl rfl (fun c31x10 => ?_) (fun c31x10 => ?_))))
                · skip
                  have i31x10 := z_gt 1 1 c31x10 i31x9 rfl
                  have c31x10a := lc_gt e31x9 c31x10
                  have i31x10a := lr_lt2 91 2147483647 c31x10a (l_c 90 rfl) i31x3a rfl
                  have i31x10b := l_b e26 i31x10a
                  refine g_iconst 0 18 (gd rfl) rfl rfl ?_
                  refine g_ireturn (gd rfl) rfl (nb01 (in_w 0 1 (in_c 0 rfl) rfl)) (hp31 _ _ ?_)
                  show GG _ _ _ _ _ _ _ _ [.int (Int32.ofInt 0), .ref (A 109)] _ _ _
                  refine g_if_eq 37 41 (gd rfl) rfl rfl (fun c34 => ?_) (fun c34 => ?_)
                  · skip
                    refine g_iconst 0 42 (gd rfl) rfl rfl ?_
                    refine g_callv (X := _) (As := [.int (Int32.ofInt 0)]) (r := []) (b := A 109) (q := 109) 45 (gd rfl) rfl rfl rfl rfl rfl (ww_o rfl) (Nat.le_of_ble_eq_true rfl) (mc := 0) (ms := 0) (Nat.zero_le _) (Nat.zero_le _) (P := fun v u => _) ?_ (fun e u h => h) (fun v u h => h)
                    intro po42 xx42 hp42 hx42
                    refine g_enter2 (k := 271) (N := 300) (by omega) rfl (Nat.le_of_ble_eq_true rfl) (g_aload_n 1 (gd rfl) rfl rfl (g_iload_n 2 (gd rfl) rfl rfl (g_iconst 1 3 (gd rfl) rfl rfl ?_)))
                    refine g_callv (X := _) (As := [.int (Int32.ofInt 0), .int (Int32.ofInt 1)]) (r := []) (b := A 109) (q := 109) 6 (gd rfl) rfl rfl rfl rfl rfl (ww_o rfl) (Nat.le_of_ble_eq_true rfl) (mc := 0) (ms := 0) (Nat.zero_le _) (Nat.zero_le _) (P := fun v u => _) ?_ (fun e u h => h) (fun v u h => h)
                    intro po42x3 xx42x3 hp42x3 hx42x3
                    refine g_enter2 (k := 270) (N := 300) (by omega) rfl (Nat.le_of_ble_eq_true rfl) (g_aload_n 1 (gd rfl) rfl rfl (g_iload_n 2 (gd rfl) rfl rfl (g_if_ne 5 9 (gd rfl) rfl rfl (fun c42x3x2 => ?_) (fun c42x3x2 => ?_))))
                    · skip
                      exact zn_ne c42x3x2 (in_c 0 rfl) rfl
                    · skip
                      refine g_iconst 1 6 (gd rfl) rfl rfl (g_goto 18 (gd rfl) rfl (g_putI 21 (gd rfl) rfl rfl rfl rfl (have hI42x3x18 := inv_sF (q := 109) (j := 0) hI rfl (in_w 0 2 (in_c 1 rfl) rfl); g_aload_n 22 (gd rfl) rfl rfl (g_getIv (y := (Int32.ofInt 1)) 25 (gd rfl) rfl rfl rfl (sF_get) (g_if_le 28 32 (gd rfl) rfl rfl (fun c42x3x25 => ?_) (fun c42x3x25 => ?_))))))
                      · skip
                        exact zn_le c42x3x25 (in_c 1 rfl) rfl
                      · skip
                        refine g_iconst 1 29 (gd rfl) rfl rfl (g_goto 33 (gd rfl) rfl ?_)
                        refine g_ireturn (gd rfl) rfl (nb01 (in_w 0 1 (in_c 1 rfl) rfl)) (hp42x3 _ _ ?_)
                        show GG _ _ _ _ _ _ _ _ [.int (Int32.ofInt 1)] _ _ _
                        refine g_ireturn (gd rfl) rfl (nb01 (in_w 0 1 (in_c 1 rfl) rfl)) (hp42 _ _ ?_)
                        show GG _ _ _ _ _ _ _ _ [.int (Int32.ofInt 1)] _ _ _
                        refine g_if_eq 48 50 (gd rfl) rfl rfl (fun c45 => ?_) (fun c45 => ?_)
                        · skip
                          exact zn_eq c45 (in_c 1 rfl) rfl
                        · skip
                          exact g_iconst 0 49 (gd rfl) rfl rfl (g_ireturn (gd rfl) rfl rfl (hP _ _ ⟨(sF s 109 0 (Int32.ofInt 1)), hI42x3x18, (fr_sF rfl fr_rf), (Int32.ofInt 0), rfl, rfl, in_w 0 200 (in_c 0 rfl) rfl⟩))
                  · skip
                    exact zn_ne c34 (in_c 0 rfl) rfl
                · skip
                  have i31x10 := z_le (-1) 0 c31x10 i31x9 rfl
                  have c31x10a := lc_le e31x9 c31x10
                  have i31x10a := lr_le1 0 90 c31x10a i31x3a (l_c 90 rfl) rfl
                  have i31x10b := l_b e26 i31x10a
                  refine g_iconst 1 14 (gd rfl) rfl rfl (g_goto 18 (gd rfl) rfl ?_)
                  refine g_ireturn (gd rfl) rfl (nb01 (in_w 0 1 (in_c 1 rfl) rfl)) (hp31 _ _ ?_)
                  show GG _ _ _ _ _ _ _ _ [.int (Int32.ofInt 1), .ref (A 109)] _ _ _
                  refine g_if_eq 37 41 (gd rfl) rfl rfl (fun c34 => ?_) (fun c34 => ?_)
                  · skip
                    exact zn_eq c34 (in_c 1 rfl) rfl
                  · skip
                    refine g_iconst 1 38 (gd rfl) rfl rfl (g_goto 42 (gd rfl) rfl ?_)
                    refine g_callv (X := _) (As := [.int (Int32.ofInt 1)]) (r := []) (b := A 109) (q := 109) 45 (gd rfl) rfl rfl rfl rfl rfl (ww_o rfl) (Nat.le_of_ble_eq_true rfl) (mc := 0) (ms := 0) (Nat.zero_le _) (Nat.zero_le _) (P := fun v u => _) ?_ (fun e u h => h) (fun v u h => h)
                    intro po42 xx42 hp42 hx42
                    refine g_enter2 (k := 271) (N := 300) (by omega) rfl (Nat.le_of_ble_eq_true rfl) (g_aload_n 1 (gd rfl) rfl rfl (g_iload_n 2 (gd rfl) rfl rfl (g_iconst 1 3 (gd rfl) rfl rfl ?_)))
                    refine g_callv (X := _) (As := [.int (Int32.ofInt 1), .int (Int32.ofInt 1)]) (r := []) (b := A 109) (q := 109) 6 (gd rfl) rfl rfl rfl rfl rfl (ww_o rfl) (Nat.le_of_ble_eq_true rfl) (mc := 0) (ms := 0) (Nat.zero_le _) (Nat.zero_le _) (P := fun v u => _) ?_ (fun e u h => h) (fun v u h => h)
                    intro po42x3 xx42x3 hp42x3 hx42x3
                    refine g_enter2 (k := 270) (N := 300) (by omega) rfl (Nat.le_of_ble_eq_true rfl) (g_aload_n 1 (gd rfl) rfl rfl (g_iload_n 2 (gd rfl) rfl rfl (g_if_ne 5 9 (gd rfl) rfl rfl (fun c42x3x2 => ?_) (fun c42x3x2 => ?_))))
                    · skip
                      refine g_iload_n 10 (gd rfl) rfl rfl (g_if_ne 13 17 (gd rfl) rfl rfl (fun c42x3x10 => ?_) (fun c42x3x10 => ?_))
                      · skip
                        refine g_iconst 0 18 (gd rfl) rfl rfl (g_putI 21 (gd rfl) rfl rfl rfl rfl (have hI42x3x18 := inv_sF (q := 109) (j := 0) hI rfl (in_w 0 2 (in_c 0 rfl) rfl); g_aload_n 22 (gd rfl) rfl rfl (g_getIv (y := (Int32.ofInt 0)) 25 (gd rfl) rfl rfl rfl (sF_get) (g_if_le 28 32 (gd rfl) rfl rfl (fun c42x3x25 => ?_) (fun c42x3x25 => ?_)))))
                        · skip
                          refine g_iconst 0 33 (gd rfl) rfl rfl ?_
                          refine g_ireturn (gd rfl) rfl (nb01 (in_w 0 1 (in_c 0 rfl) rfl)) (hp42x3 _ _ ?_)
                          show GG _ _ _ _ _ _ _ _ [.int (Int32.ofInt 0)] _ _ _
                          refine g_ireturn (gd rfl) rfl (nb01 (in_w 0 1 (in_c 0 rfl) rfl)) (hp42 _ _ ?_)
                          show GG _ _ _ _ _ _ _ _ [.int (Int32.ofInt 0)] _ _ _
                          refine g_if_eq 48 50 (gd rfl) rfl rfl (fun c45 => ?_) (fun c45 => ?_)
                          · skip
                            exact g_aload_n 51 (gd rfl) rfl rfl (g_aload_n 52 (gd rfl) rfl rfl (g_getIv (y := u_109_20) 55 (gd rfl) rfl rfl rfl (sF_ne rfl (e_109_20)) (g_putI 58 (gd rfl) rfl rfl rfl rfl (have hI55 := inv_sF (q := 109) (j := 113) hI42x3x18 rfl (in_w 0 32 ro_109_20 rfl); g_aload_n 59 (gd rfl) rfl rfl (g_iconst 0 60 (gd rfl) rfl rfl (g_putI 63 (gd rfl) rfl rfl rfl rfl (have hI60 := inv_sF (q := 109) (j := 116) hI55 rfl (in_w (-2147483648) 2147483647 (in_c 0 rfl) rfl); g_aload_n 64 (gd rfl) rfl rfl (g_iconst 0 65 (gd rfl) rfl rfl (g_putI 68 (gd rfl) rfl rfl rfl rfl (have hI65 := inv_sF (q := 109) (j := 117) hI60 rfl (in_w (-2147483648) 2147483647 (in_c 0 rfl) rfl); g_aload_n 69 (gd rfl) rfl rfl (g_iconst 0 70 (gd rfl) rfl rfl (g_putI 73 (gd rfl) rfl rfl rfl rfl (have hI70 := inv_sF (q := 109) (j := 118) hI65 rfl (in_w (-2147483648) 2147483647 (in_c 0 rfl) rfl); g_aload_n 74 (gd rfl) rfl rfl (g_lconst 0 75 (gd rfl) rfl rfl (g_putL 78 (gd rfl) rfl rfl rfl rfl (have hI75 := inv_sG (q := 109) (j := 121) (x := (Int64.ofInt 0)) hI70 rfl (l_rng (Int64.ofInt 0)); g_iconst 0 79 (gd rfl) rfl rfl (g_istore 81 (gd rfl) rfl (Nat.le_of_ble_eq_true rfl) (gg_w (by omega) (gg_f (gf_cons rfl (gf_cons rfl (gf_cons rfl (gf_cons rfl (gf_cons rfl (gf_cons rfl gf_nil)))))) (ct81 33 (sG (sF (sF (sF (sF (sF s 109 0 (Int32.ofInt 0)) 109 113 u_109_20) 109 116 (Int32.ofInt 0)) 109 117 (Int32.ofInt 0)) 109 118 (Int32.ofInt 0)) 109 121 (Int64.ofInt 0)) (Int32.ofInt 0) hI75 (fr_sG rfl (fr_sF rfl (fr_sF rfl (fr_sF rfl (fr_sF rfl (fr_sF rfl fr_rf)))))) (in_w 0 200 i7x10b rfl) (in_w 1 4 i19x10b rfl) (in_w 0 90 i31x10b rfl) (in_w 0 32 (in_c 0 rfl) rfl) (m_in 33 (in_w 0 32 (in_c 0 rfl) rfl) rfl)))))))))))))))))))))
                          · skip
                            exact zn_ne c45 (in_c 0 rfl) rfl
                        · skip
                          exact zn_gt c42x3x25 (in_c 0 rfl) rfl
                      · skip
                        exact zn_eq c42x3x10 (in_c 1 rfl) rfl
                    · skip
                      exact zn_eq c42x3x2 (in_c 1 rfl) rfl
