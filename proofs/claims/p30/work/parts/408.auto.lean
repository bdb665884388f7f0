section
/-! methods, by vc.py -/
def fm_307 : FM := ([126], [], [(109, 26)], [])
/-- GraphHouseModel.putNumber -/
theorem k_307 {Z : AmZ} {A : Nat → Nat} {s : GS} {ex : va_W} {d : Nat} {X : AmX} {x1 : Int32} {u_109_26 : Int32} (hd : 3 ≤ d) (hI : Inv s) (h1 : In x1 (-1000000) 1000000) (e_109_26 : u_109_26 = s.2.2.1 109 26) (p_0 : (u_109_26).toInt ≤ 7900) : GC Z d 307 [.ref (A 109), .int x1] (WW Z A s ++ ex) 0 0 (fun v u => ∃ t : GS, Inv t ∧ Fr fm_307 s t ∧ ((t.2.2.1 109 26).toInt ≤ (s.2.2.1 109 26).toInt + 9) ∧ v = none ∧ u = WW Z A t ++ ex) X := by
  intro post xp hP hX
  have ct45 : ∀ (k45 : Nat) (sc45 : GS) (y45_2 : Int32) (y45_3 : Int32) (w45_109_26 : Int32), Inv sc45 → Fr fm_307 s sc45 → (In y45_2 0 1000000) → (In y45_3 0 1000000) → (w45_109_26 = sc45.2.2.1 109 26) → ((((y45_3).toInt = 1 ∧ (w45_109_26).toInt ≤ (u_109_26).toInt + 8) ∨ ((y45_3).toInt = 10 ∧ (w45_109_26).toInt ≤ (u_109_26).toInt + 7) ∨ ((y45_3).toInt = 100 ∧ (w45_109_26).toInt ≤ (u_109_26).toInt + 6) ∨ ((y45_3).toInt = 1000 ∧ (w45_109_26).toInt ≤ (u_109_26).toInt + 5) ∨ ((y45_3).toInt = 10000 ∧ (w45_109_26).toInt ≤ (u_109_26).toInt + 4) ∨ ((y45_3).toInt = 100000 ∧ (w45_109_26).toInt ≤ (u_109_26).toInt + 3) ∨ ((y45_3).toInt = 1000000 ∧ (w45_109_26).toInt ≤ (u_109_26).toInt + 2) ∨ ((y45_3).toInt = 0 ∧ (w45_109_26).toInt ≤ (u_109_26).toInt + 9))) → (y45_3).toInt < (k45 : Int) → GG Z (d - 1) 307 post (gx xp) (1 + k45 * 900) 45 (fun j => xlook j [(0, .ref (A 109)), (1, .int x1), (2, .int y45_2), (3, .int y45_3)]) [] (WW Z A sc45 ++ ex) 0 0 := by
    intro k45
    induction k45 with
    | zero => intro sc45 y45_2 y45_3 w45_109_26 hIc45 hFc45 j45_2 j45_3 v45_109_26 n45_0 mm45; exfalso; (first | have a0 := oa2 h1 ((inv_F hIc45 0 8000 rfl v45_109_26)) | ((first | have a0 := in_u h1 | (have a0 := h1; unfold In at a0)); (first | have a1 := in_u ((inv_F hIc45 0 8000 rfl v45_109_26)) | (have a1 := (inv_F hIc45 0 8000 rfl v45_109_26); unfold In at a1)))); have a2 := j45_3; unfold In at a2; have a3 := j45_2; unfold In at a3; omega
    | succ k45 ih45 =>
      intro sc45 y45_2 y45_3 w45_109_26 hIc45 hFc45 j45_2 j45_3 v45_109_26 n45_0 mm45
      refine gg_w (M := 1 + k45 * 900 + 900) gws ?_
      refine g_iload_n 46 (gd rfl) rfl rfl ?_
      refine g_if_le 49 70 (gd rfl) rfl rfl (fun c46 => ?_) (fun c46 => ?_)
      · skip
        have i46 := z_le 0 0 c46 j45_3 rfl
        have n70 : (w45_109_26).toInt ≤ (u_109_26).toInt + 9 := by (first | have a0 := oa4 h1 ((inv_F hIc45 0 8000 rfl v45_109_26)) i46 j45_2 | ((first | have a0 := in_u h1 | (have a0 := h1; unfold In at a0)); (first | have a1 := in_u ((inv_F hIc45 0 8000 rfl v45_109_26)) | (have a1 := (inv_F hIc45 0 8000 rfl v45_109_26); unfold In at a1)); (first | have a2 := in_u i46 | (have a2 := i46; unfold In at a2)); (first | have a3 := in_u j45_2 | (have a3 := j45_2; unfold In at a3)))); omega
        have n70a : (sc45.2.2.1 109 26).toInt ≤ (s.2.2.1 109 26).toInt + 9 := by have b0 : w45_109_26 = sc45.2.2.1 109 26 := v45_109_26; first | (rw [← b0, ← e_109_26]; exact n70) | (rw [← b0]; exact n70)
        exact g_return (gd rfl) rfl (hP _ _ ⟨sc45, hIc45, hFc45, n70a, rfl, rfl⟩)
      · skip
        have i46 := z_gt 1 1000000 c46 j45_3 rfl
        refine g_aload_n 50 (gd rfl) rfl rfl ?_
        refine g_bipush 48 52 (gd rfl) rfl rfl ?_
        refine g_iload_n 53 (gd rfl) rfl rfl ?_
        refine g_iload_n 54 (gd rfl) rfl rfl ?_
        refine g_idiv 55 (gd rfl) rfl (dv_nz i46 rfl) (fun z54 e54 => ?_)
        have i54 := in_divv e54 j45_2 i46 rfl
        refine g_bipush 10 57 (gd rfl) rfl rfl ?_
        refine g_irem 58 (gd rfl) rfl (by decide) (fun z57 e57 => ?_)
        have i57 := in_rem 9 e57 i54 rfl rfl
        refine g_iadd 59 (gd rfl) rfl (fun z58 e58 => ?_)
        have i58 := in_add 48 57 e58 (in_c 48 rfl) i57 rfl rfl
        refine g_callv (X := _) (As := [.int z58]) (r := []) (b := A 109) (q := 109) 62 (gd rfl) rfl rfl rfl rfl rfl (ww_o rfl) (Nat.le_of_ble_eq_true rfl) (mc := 0) (ms := 0) (Nat.zero_le _) (Nat.zero_le _) (P := fun v u => _) ?_ (fun e u h => h) (fun v u h => h)
        intro po59 xx59 hp59 hx59
        refine g_enter2 (k := 306) (N := 300) (by first | exact dq1 hd rfl | exact dq0 hd rfl | exact dq2 hd rfl | exact dq3 hd rfl | omega) rfl (Nat.le_of_ble_eq_true rfl) ?_
        refine g_aload_n 1 (gd rfl) rfl rfl ?_
        refine g_getA (q2 := 126) 4 (gd rfl) rfl rfl rfl rfl ?_
        refine g_aload_n 5 (gd rfl) rfl rfl ?_
        refine g_getI 8 (gd rfl) rfl rfl rfl (fun z59x5 e59x5 => ?_)
        have q59x5 : w45_109_26 = z59x5 := (v45_109_26).trans e59x5.symm
        subst q59x5
        refine g_iload_n 9 (gd rfl) rfl rfl ?_
        have i59x9 : In w45_109_26 0 7999 := by (first | have a0 := oa5 h1 ((inv_F hIc45 0 8000 rfl v45_109_26)) i46 j45_2 i58 | ((first | have a0 := in_u h1 | (have a0 := h1; unfold In at a0)); (first | have a1 := in_u ((inv_F hIc45 0 8000 rfl v45_109_26)) | (have a1 := (inv_F hIc45 0 8000 rfl v45_109_26); unfold In at a1)); (first | have a2 := in_u i46 | (have a2 := i46; unfold In at a2)); (first | have a3 := in_u j45_2 | (have a3 := j45_2; unfold In at a3)); (first | have a4 := in_u i58 | (have a4 := i58; unfold In at a4)))); have a5 := t_add e58 (in_c 48 rfl) i57 rfl; (first | have a6 := oa2 i57 ((in_c 48 rfl)) | ((first | have a6 := in_u i57 | (have a6 := i57; unfold In at a6)); (first | have a7 := in_u ((in_c 48 rfl)) | (have a7 := (in_c 48 rfl); unfold In at a7)))); exact ⟨by omega, by omega⟩
        refine g_iastore 10 (gd rfl) rfl (n := 8000) rfl (in_ix i59x9 rfl) ?_
        have hI59x9 := inv_sI (q := 126) (j := w45_109_26.toNatClampNeg) hIc45 rfl (in_w (-2147483648) 2147483647 i58 rfl)
        refine g_aload_n 11 (gd rfl) rfl rfl ?_
        refine g_dup 12 (gd rfl) rfl rfl ?_
        refine g_getI 15 (gd rfl) rfl rfl rfl (fun z59x12 e59x12 => ?_)
        have q59x12 : w45_109_26 = z59x12 := (sI_F (v45_109_26)).trans e59x12.symm
        subst q59x12
        refine g_iconst 1 16 (gd rfl) rfl rfl ?_
        refine g_iadd 17 (gd rfl) rfl (fun z59x16 e59x16 => ?_)
        have i59x16 := in_add 1 8000 e59x16 i59x9 (in_c 1 rfl) rfl rfl
        refine g_putI 20 (gd rfl) rfl rfl rfl rfl ?_
        have hI59x17 := inv_sF (q := 109) (j := 26) hI59x9 rfl (in_w 0 8000 i59x16 rfl)
        refine g_return (gd rfl) rfl (hp59 _ _ ?_)
        show GG _ _ _ _ _ _ _ _ [] _ _ _
        refine g_iload_n 63 (gd rfl) rfl rfl ?_
        refine g_bipush 10 65 (gd rfl) rfl rfl ?_
        refine g_idiv 66 (gd rfl) rfl (by decide) (fun z65 e65 => ?_)
        have i65 := in_div 0 100000 e65 i46 rfl rfl
        refine g_istore_n 67 (gd rfl) rfl (Nat.le_of_ble_eq_true rfl) ?_
        refine g_goto 45 (gd rfl) rfl ?_
        have v45 : z59x16 = (sF (sI sc45 126 w45_109_26.toNatClampNeg z58) 109 26 z59x16).2.2.1 109 26 := sF_get
        have n45 : (((z65).toInt = 1 ∧ (z59x16).toInt ≤ (u_109_26).toInt + 8) ∨ ((z65).toInt = 10 ∧ (z59x16).toInt ≤ (u_109_26).toInt + 7) ∨ ((z65).toInt = 100 ∧ (z59x16).toInt ≤ (u_109_26).toInt + 6) ∨ ((z65).toInt = 1000 ∧ (z59x16).toInt ≤ (u_109_26).toInt + 5) ∨ ((z65).toInt = 10000 ∧ (z59x16).toInt ≤ (u_109_26).toInt + 4) ∨ ((z65).toInt = 100000 ∧ (z59x16).toInt ≤ (u_109_26).toInt + 3) ∨ ((z65).toInt = 1000000 ∧ (z59x16).toInt ≤ (u_109_26).toInt + 2) ∨ ((z65).toInt = 0 ∧ (z59x16).toInt ≤ (u_109_26).toInt + 9)) := by (first | have a0 := oa5 h1 i59x9 i46 j45_2 i65 | ((first | have a0 := in_u h1 | (have a0 := h1; unfold In at a0)); (first | have a1 := in_u i59x9 | (have a1 := i59x9; unfold In at a1)); (first | have a2 := in_u i46 | (have a2 := i46; unfold In at a2)); (first | have a3 := in_u j45_2 | (have a3 := j45_2; unfold In at a3)); (first | have a4 := in_u i65 | (have a4 := i65; unfold In at a4)))); have a5 := t_div e65 i46 rfl; (first | have a6 := in_u i59x16 | (have a6 := i59x16; unfold In at a6)); have a7 := t_add e59x16 i59x9 (in_c 1 rfl) rfl; (first | have a8 := oa2 ((in_c 1 rfl)) i58 | ((first | have a8 := in_u ((in_c 1 rfl)) | (have a8 := (in_c 1 rfl); unfold In at a8)); (first | have a9 := in_u i58 | (have a9 := i58; unfold In at a9)))); have a10 := t_add e58 (in_c 48 rfl) i57 rfl; (first | have a11 := oa2 i57 ((in_c 48 rfl)) | ((first | have a11 := in_u i57 | (have a11 := i57; unfold In at a11)); (first | have a12 := in_u ((in_c 48 rfl)) | (have a12 := (in_c 48 rfl); unfold In at a12)))); rcases n45_0 with h9 | h9 | h9 | h9 | h9 | h9 | h9 | h9; (exact Or.inr (Or.inr (Or.inr (Or.inr (Or.inr (Or.inr (Or.inr (⟨by omega, by omega⟩)))))))); (exact Or.inl ⟨by omega, by omega⟩); (exact Or.inr (Or.inl ⟨by omega, by omega⟩)); (exact Or.inr (Or.inr (Or.inl ⟨by omega, by omega⟩))); (exact Or.inr (Or.inr (Or.inr (Or.inl ⟨by omega, by omega⟩)))); (exact Or.inr (Or.inr (Or.inr (Or.inr (Or.inl ⟨by omega, by omega⟩))))); (exact Or.inr (Or.inr (Or.inr (Or.inr (Or.inr (Or.inl ⟨by omega, by omega⟩)))))); (exfalso; omega)
        have m45 : (z65).toInt < ((k45 : Nat) : Int) := by (first | have a0 := oa5 h1 i59x9 i46 j45_2 i65 | ((first | have a0 := in_u h1 | (have a0 := h1; unfold In at a0)); (first | have a1 := in_u i59x9 | (have a1 := i59x9; unfold In at a1)); (first | have a2 := in_u i46 | (have a2 := i46; unfold In at a2)); (first | have a3 := in_u j45_2 | (have a3 := j45_2; unfold In at a3)); (first | have a4 := in_u i65 | (have a4 := i65; unfold In at a4)))); have a5 := t_div e65 i46 rfl; (first | have a6 := in_u i59x16 | (have a6 := i59x16; unfold In at a6)); have a7 := t_add e59x16 i59x9 (in_c 1 rfl) rfl; (first | have a8 := oa2 ((in_c 1 rfl)) i58 | ((first | have a8 := in_u ((in_c 1 rfl)) | (have a8 := (in_c 1 rfl); unfold In at a8)); (first | have a9 := in_u i58 | (have a9 := i58; unfold In at a9)))); have a10 := t_add e58 (in_c 48 rfl) i57 rfl; (first | have a11 := oa2 i57 ((in_c 48 rfl)) | ((first | have a11 := in_u i57 | (have a11 := i57; unfold In at a11)); (first | have a12 := in_u ((in_c 48 rfl)) | (have a12 := (in_c 48 rfl); unfold In at a12)))); omega
        exact gg_w (by first | exact Nat.le_add_right _ _ | exact gw2 | exact gw3 | exact gwe rfl | exact gwf rfl | exact gwg rfl | exact gwh rfl | omega) (gg_f (gf_cons rfl (gf_cons rfl (gf_cons rfl (gf_cons rfl gf_nil)))) (ih45  (sF (sI sc45 126 w45_109_26.toNatClampNeg z58) 109 26 z59x16) y45_2 z65 z59x16 hI59x17 (fr_sF rfl (fr_sI rfl hFc45)) (in_w 0 1000000 j45_2 rfl) (in_w 0 1000000 i65 rfl) v45 n45 m45))
  have ct29 : ∀ (k29 : Nat) (sc29 : GS) (y29_2 : Int32) (y29_3 : Int32) (w29_109_26 : Int32), Inv sc29 → Fr fm_307 s sc29 → (In y29_2 0 1000000) → (In y29_3 1 1000000) → (w29_109_26 = sc29.2.2.1 109 26) → ((w29_109_26).toInt ≤ (u_109_26).toInt + 2) → (((y29_3).toInt = 1 ∨ (y29_3).toInt = 10 ∨ (y29_3).toInt = 100 ∨ (y29_3).toInt = 1000 ∨ (y29_3).toInt = 10000 ∨ (y29_3).toInt = 100000 ∨ (y29_3).toInt = 1000000)) → 2000000 - (y29_3).toInt < (k29 : Int) → GG Z (d - 1) 307 post (gx xp) (900001802 + k29 * 900) 29 (fun j => xlook j [(0, .ref (A 109)), (1, .int x1), (2, .int y29_2), (3, .int y29_3)]) [] (WW Z A sc29 ++ ex) 0 0 := by
    intro k29
    induction k29 with
    | zero => intro sc29 y29_2 y29_3 w29_109_26 hIc29 hFc29 j29_2 j29_3 v29_109_26 n29_0 n29_1 mm29; exfalso; (first | have a0 := oa2 h1 ((inv_F hIc29 0 8000 rfl v29_109_26)) | ((first | have a0 := in_u h1 | (have a0 := h1; unfold In at a0)); (first | have a1 := in_u ((inv_F hIc29 0 8000 rfl v29_109_26)) | (have a1 := (inv_F hIc29 0 8000 rfl v29_109_26); unfold In at a1)))); have a2 := j29_3; unfold In at a2; have a3 := j29_2; unfold In at a3; omega
    | succ k29 ih29 =>
      intro sc29 y29_2 y29_3 w29_109_26 hIc29 hFc29 j29_2 j29_3 v29_109_26 n29_0 n29_1 mm29
      refine gg_w (M := 900001802 + k29 * 900 + 900) gws ?_
      refine g_iload_n 30 (gd rfl) rfl rfl ?_
      refine g_iload_n 31 (gd rfl) rfl rfl ?_
      refine g_idiv 32 (gd rfl) rfl (dv_nz j29_3 rfl) (fun z31 e31 => ?_)
      have i31 := in_divv e31 j29_2 j29_3 rfl
      refine g_bipush 10 34 (gd rfl) rfl rfl ?_
      refine g_cmp_lt 37 45 (gd rfl) rfl rfl (fun c34 => ?_) (fun c34 => ?_)
      · skip
        have i34 := r_lt1 0 9 c34 i31 (in_c 10 rfl) rfl
        have n45 : (((y29_3).toInt = 1 ∧ (w29_109_26).toInt ≤ (u_109_26).toInt + 8) ∨ ((y29_3).toInt = 10 ∧ (w29_109_26).toInt ≤ (u_109_26).toInt + 7) ∨ ((y29_3).toInt = 100 ∧ (w29_109_26).toInt ≤ (u_109_26).toInt + 6) ∨ ((y29_3).toInt = 1000 ∧ (w29_109_26).toInt ≤ (u_109_26).toInt + 5) ∨ ((y29_3).toInt = 10000 ∧ (w29_109_26).toInt ≤ (u_109_26).toInt + 4) ∨ ((y29_3).toInt = 100000 ∧ (w29_109_26).toInt ≤ (u_109_26).toInt + 3) ∨ ((y29_3).toInt = 1000000 ∧ (w29_109_26).toInt ≤ (u_109_26).toInt + 2) ∨ ((y29_3).toInt = 0 ∧ (w29_109_26).toInt ≤ (u_109_26).toInt + 9)) := by (first | have a0 := oa4 h1 ((inv_F hIc29 0 8000 rfl v29_109_26)) j29_3 j29_2 | ((first | have a0 := in_u h1 | (have a0 := h1; unfold In at a0)); (first | have a1 := in_u ((inv_F hIc29 0 8000 rfl v29_109_26)) | (have a1 := (inv_F hIc29 0 8000 rfl v29_109_26); unfold In at a1)); (first | have a2 := in_u j29_3 | (have a2 := j29_3; unfold In at a2)); (first | have a3 := in_u j29_2 | (have a3 := j29_2; unfold In at a3)))); rcases n29_1 with h9 | h9 | h9 | h9 | h9 | h9 | h9; (exact Or.inl ⟨by omega, by omega⟩); (exact Or.inr (Or.inl ⟨by omega, by omega⟩)); (exact Or.inr (Or.inr (Or.inl ⟨by omega, by omega⟩))); (exact Or.inr (Or.inr (Or.inr (Or.inl ⟨by omega, by omega⟩)))); (exact Or.inr (Or.inr (Or.inr (Or.inr (Or.inl ⟨by omega, by omega⟩))))); (exact Or.inr (Or.inr (Or.inr (Or.inr (Or.inr (Or.inl ⟨by omega, by omega⟩)))))); (exact Or.inr (Or.inr (Or.inr (Or.inr (Or.inr (Or.inr (Or.inl ⟨by omega, by omega⟩)))))))
        have m45 : (y29_3).toInt < ((1000002 : Nat) : Int) := by (first | have a0 := oa4 h1 ((inv_F hIc29 0 8000 rfl v29_109_26)) j29_3 j29_2 | ((first | have a0 := in_u h1 | (have a0 := h1; unfold In at a0)); (first | have a1 := in_u ((inv_F hIc29 0 8000 rfl v29_109_26)) | (have a1 := (inv_F hIc29 0 8000 rfl v29_109_26); unfold In at a1)); (first | have a2 := in_u j29_3 | (have a2 := j29_3; unfold In at a2)); (first | have a3 := in_u j29_2 | (have a3 := j29_2; unfold In at a3)))); omega
        exact gg_w (by first | exact Nat.le_add_right _ _ | exact gw2 | exact gw3 | exact gwe rfl | exact gwf rfl | exact gwg rfl | exact gwh rfl | omega) (gg_f (gf_cons rfl (gf_cons rfl (gf_cons rfl (gf_cons rfl gf_nil)))) (ct45 1000002 sc29 y29_2 y29_3 w29_109_26 hIc29 hFc29 (in_w 0 1000000 j29_2 rfl) (in_w 0 1000000 j29_3 rfl) v29_109_26 n45 m45))
      · skip
        have i34 := r_le2 10 1000000 c34 (in_c 10 rfl) i31 rfl
        refine g_iload_n 38 (gd rfl) rfl rfl ?_
        refine g_bipush 10 40 (gd rfl) rfl rfl ?_
        refine g_imul 41 (gd rfl) rfl (fun z40 e40 => ?_)
        have i40 := in_mulc 10 10 10000000 (Or.inr e40) j29_3 rfl rfl
        refine g_istore_n 42 (gd rfl) rfl (Nat.le_of_ble_eq_true rfl) ?_
        refine g_goto 29 (gd rfl) rfl ?_
        have i29 : In z40 1 1000000 := by have h := t_divv e31 j29_2 j29_3 rfl; have h2 := (t_mulc 10 (Or.inr e40) j29_3 rfl).1; have h10 : (Int32.ofInt 10).toInt = 10 := rfl; rw [h, h10] at c34; have h3 := (Int.le_ediv_iff_mul_le (by have := j29_3.1; omega)).mp c34; have := j29_2.2; have := j29_3.1; exact ⟨by omega, by omega⟩
        have n29 : (w29_109_26).toInt ≤ (u_109_26).toInt + 2 := by first | exact n29_0 | ((first | have a0 := oa5 h1 ((inv_F hIc29 0 8000 rfl v29_109_26)) j29_3 j29_2 i29 | ((first | have a0 := in_u h1 | (have a0 := h1; unfold In at a0)); (first | have a1 := in_u ((inv_F hIc29 0 8000 rfl v29_109_26)) | (have a1 := (inv_F hIc29 0 8000 rfl v29_109_26); unfold In at a1)); (first | have a2 := in_u j29_3 | (have a2 := j29_3; unfold In at a2)); (first | have a3 := in_u j29_2 | (have a3 := j29_2; unfold In at a3)); (first | have a4 := in_u i29 | (have a4 := i29; unfold In at a4)))); have a5 := (t_mulc 10 (Or.inr e40) j29_3 rfl).1; omega)
        have n29a : ((z40).toInt = 1 ∨ (z40).toInt = 10 ∨ (z40).toInt = 100 ∨ (z40).toInt = 1000 ∨ (z40).toInt = 10000 ∨ (z40).toInt = 100000 ∨ (z40).toInt = 1000000) := by (first | have a0 := oa5 h1 ((inv_F hIc29 0 8000 rfl v29_109_26)) j29_3 j29_2 i29 | ((first | have a0 := in_u h1 | (have a0 := h1; unfold In at a0)); (first | have a1 := in_u ((inv_F hIc29 0 8000 rfl v29_109_26)) | (have a1 := (inv_F hIc29 0 8000 rfl v29_109_26); unfold In at a1)); (first | have a2 := in_u j29_3 | (have a2 := j29_3; unfold In at a2)); (first | have a3 := in_u j29_2 | (have a3 := j29_2; unfold In at a3)); (first | have a4 := in_u i29 | (have a4 := i29; unfold In at a4)))); have a5 := (t_mulc 10 (Or.inr e40) j29_3 rfl).1; rcases n29_1 with h9 | h9 | h9 | h9 | h9 | h9 | h9; (exact Or.inr (Or.inl (by omega))); (exact Or.inr (Or.inr (Or.inl (by omega)))); (exact Or.inr (Or.inr (Or.inr (Or.inl (by omega))))); (exact Or.inr (Or.inr (Or.inr (Or.inr (Or.inl (by omega)))))); (exact Or.inr (Or.inr (Or.inr (Or.inr (Or.inr (Or.inl (by omega))))))); (exact Or.inr (Or.inr (Or.inr (Or.inr (Or.inr (Or.inr ((by omega)))))))); (exfalso; omega)
        have m29 : 2000000 - (z40).toInt < ((k29 : Nat) : Int) := by (first | have a0 := oa5 h1 ((inv_F hIc29 0 8000 rfl v29_109_26)) j29_3 j29_2 i29 | ((first | have a0 := in_u h1 | (have a0 := h1; unfold In at a0)); (first | have a1 := in_u ((inv_F hIc29 0 8000 rfl v29_109_26)) | (have a1 := (inv_F hIc29 0 8000 rfl v29_109_26); unfold In at a1)); (first | have a2 := in_u j29_3 | (have a2 := j29_3; unfold In at a2)); (first | have a3 := in_u j29_2 | (have a3 := j29_2; unfold In at a3)); (first | have a4 := in_u i29 | (have a4 := i29; unfold In at a4)))); have a5 := (t_mulc 10 (Or.inr e40) j29_3 rfl).1; omega
        exact gg_w (by first | exact Nat.le_add_right _ _ | exact gw2 | exact gw3 | exact gwe rfl | exact gwf rfl | exact gwg rfl | exact gwh rfl | omega) (gg_f (gf_cons rfl (gf_cons rfl (gf_cons rfl (gf_cons rfl gf_nil)))) (ih29  sc29 y29_2 z40 w29_109_26 hIc29 hFc29 (in_w 0 1000000 j29_2 rfl) i29 v29_109_26 n29 n29a m29))
  refine g_enter2 (k := 307) (N := 2700003602) (by first | exact dq1 hd rfl | exact dq0 hd rfl | exact dq2 hd rfl | exact dq3 hd rfl | omega) rfl (Nat.le_of_ble_eq_true rfl) ?_
  refine g_aload_n 1 (gd rfl) rfl rfl ?_
  refine g_bipush 32 3 (gd rfl) rfl rfl ?_
  refine g_callv (X := _) (As := [.int (Int32.ofInt 32)]) (r := []) (b := A 109) (q := 109) 6 (gd rfl) rfl rfl rfl rfl rfl (ww_o rfl) (Nat.le_of_ble_eq_true rfl) (mc := 0) (ms := 0) (Nat.zero_le _) (Nat.zero_le _) (P := fun v u => _) ?_ (fun e u h => h) (fun v u h => h)
  intro po3 xx3 hp3 hx3
  refine g_enter2 (k := 306) (N := 300) (by first | exact dq1 hd rfl | exact dq0 hd rfl | exact dq2 hd rfl | exact dq3 hd rfl | omega) rfl (Nat.le_of_ble_eq_true rfl) ?_
  refine g_aload_n 1 (gd rfl) rfl rfl ?_
  refine g_getA (q2 := 126) 4 (gd rfl) rfl rfl rfl rfl ?_
  refine g_aload_n 5 (gd rfl) rfl rfl ?_
  refine g_getI 8 (gd rfl) rfl rfl rfl (fun z3x5 e3x5 => ?_)
  have q3x5 : u_109_26 = z3x5 := (e_109_26).trans e3x5.symm
  subst q3x5
  refine g_iload_n 9 (gd rfl) rfl rfl ?_
  have i3x9 : In u_109_26 0 7999 := by (first | have a0 := oa3 ((inv_F hI 0 8000 rfl e_109_26)) h1 ((in_c 32 rfl)) | ((first | have a0 := in_u ((inv_F hI 0 8000 rfl e_109_26)) | (have a0 := (inv_F hI 0 8000 rfl e_109_26); unfold In at a0)); (first | have a1 := in_u h1 | (have a1 := h1; unfold In at a1)); (first | have a2 := in_u ((in_c 32 rfl)) | (have a2 := (in_c 32 rfl); unfold In at a2)))); exact ⟨by omega, by omega⟩
  refine g_iastore 10 (gd rfl) rfl (n := 8000) rfl (in_ix i3x9 rfl) ?_
  have hI3x9 := inv_sI (q := 126) (j := u_109_26.toNatClampNeg) hI rfl (in_w (-2147483648) 2147483647 (in_c 32 rfl) rfl)
  refine g_aload_n 11 (gd rfl) rfl rfl ?_
  refine g_dup 12 (gd rfl) rfl rfl ?_
  refine g_getI 15 (gd rfl) rfl rfl rfl (fun z3x12 e3x12 => ?_)
  have q3x12 : u_109_26 = z3x12 := (sI_F (e_109_26)).trans e3x12.symm
  subst q3x12
  refine g_iconst 1 16 (gd rfl) rfl rfl ?_
  refine g_iadd 17 (gd rfl) rfl (fun z3x16 e3x16 => ?_)
  have i3x16 := in_add 1 8000 e3x16 i3x9 (in_c 1 rfl) rfl rfl
  refine g_putI 20 (gd rfl) rfl rfl rfl rfl ?_
  have hI3x17 := inv_sF (q := 109) (j := 26) hI3x9 rfl (in_w 0 8000 i3x16 rfl)
  refine g_return (gd rfl) rfl (hp3 _ _ ?_)
  show GG _ _ _ _ _ _ _ _ [] _ _ _
  refine g_iload_n 7 (gd rfl) rfl rfl ?_
  refine g_if_ge 10 16 (gd rfl) rfl rfl (fun c7 => ?_) (fun c7 => ?_)
  · skip
    have i7 := z_ge 0 1000000 c7 h1 rfl
    refine g_iload_n 17 (gd rfl) rfl rfl ?_
    refine g_if_ge 20 25 (gd rfl) rfl rfl (fun c17 => ?_) (fun c17 => ?_)
    · skip
      refine g_iload_n 26 (gd rfl) rfl rfl ?_
      refine g_istore_n 27 (gd rfl) rfl (Nat.le_of_ble_eq_true rfl) ?_
      refine g_iconst 1 28 (gd rfl) rfl rfl ?_
      refine g_istore_n 29 (gd rfl) rfl (Nat.le_of_ble_eq_true rfl) ?_
      have v29 : z3x16 = (sF (sI s 126 u_109_26.toNatClampNeg (Int32.ofInt 32)) 109 26 z3x16).2.2.1 109 26 := sF_get
      have n29 : (z3x16).toInt ≤ (u_109_26).toInt + 2 := by (first | have a0 := oa4 i3x9 i7 ((in_c 1 rfl)) i3x16 | ((first | have a0 := in_u i3x9 | (have a0 := i3x9; unfold In at a0)); (first | have a1 := in_u i7 | (have a1 := i7; unfold In at a1)); (first | have a2 := in_u ((in_c 1 rfl)) | (have a2 := (in_c 1 rfl); unfold In at a2)); (first | have a3 := in_u i3x16 | (have a3 := i3x16; unfold In at a3)))); have a4 := t_add e3x16 i3x9 (in_c 1 rfl) rfl; omega
      have n29a : (((Int32.ofInt 1)).toInt = 1 ∨ ((Int32.ofInt 1)).toInt = 10 ∨ ((Int32.ofInt 1)).toInt = 100 ∨ ((Int32.ofInt 1)).toInt = 1000 ∨ ((Int32.ofInt 1)).toInt = 10000 ∨ ((Int32.ofInt 1)).toInt = 100000 ∨ ((Int32.ofInt 1)).toInt = 1000000) := by exact Or.inl (by decide)
      have m29 : 2000000 - ((Int32.ofInt 1)).toInt < ((2000001 : Nat) : Int) := by (first | have a0 := oa4 i3x9 i7 ((in_c 1 rfl)) i3x16 | ((first | have a0 := in_u i3x9 | (have a0 := i3x9; unfold In at a0)); (first | have a1 := in_u i7 | (have a1 := i7; unfold In at a1)); (first | have a2 := in_u ((in_c 1 rfl)) | (have a2 := (in_c 1 rfl); unfold In at a2)); (first | have a3 := in_u i3x16 | (have a3 := i3x16; unfold In at a3)))); have a4 := t_add e3x16 i3x9 (in_c 1 rfl) rfl; omega
      exact gg_w (by first | exact Nat.le_of_ble_eq_true rfl | omega) (gg_f (gf_cons rfl (gf_cons rfl (gf_cons rfl (gf_cons rfl gf_nil)))) (ct29 2000001 (sF (sI s 126 u_109_26.toNatClampNeg (Int32.ofInt 32)) 109 26 z3x16) x1 (Int32.ofInt 1) z3x16 hI3x17 (fr_sF rfl (fr_sI rfl fr_rf)) (in_w 0 1000000 i7 rfl) (in_w 1 1000000 (in_c 1 rfl) rfl) v29 n29 n29a m29))
    · skip
      exact zn_lt c17 i7 rfl
  · skip
    have i7 := z_lt (-1000000) (-1) c7 h1 rfl
    refine g_aload_n 11 (gd rfl) rfl rfl ?_
    refine g_bipush 45 13 (gd rfl) rfl rfl ?_
    refine g_callv (X := _) (As := [.int (Int32.ofInt 45)]) (r := []) (b := A 109) (q := 109) 16 (gd rfl) rfl rfl rfl rfl rfl (ww_o rfl) (Nat.le_of_ble_eq_true rfl) (mc := 0) (ms := 0) (Nat.zero_le _) (Nat.zero_le _) (P := fun v u => _) ?_ (fun e u h => h) (fun v u h => h)
    intro po13 xx13 hp13 hx13
    refine g_enter2 (k := 306) (N := 300) (by first | exact dq1 hd rfl | exact dq0 hd rfl | exact dq2 hd rfl | exact dq3 hd rfl | omega) rfl (Nat.le_of_ble_eq_true rfl) ?_
    refine g_aload_n 1 (gd rfl) rfl rfl ?_
    refine g_getA (q2 := 126) 4 (gd rfl) rfl rfl rfl rfl ?_
    refine g_aload_n 5 (gd rfl) rfl rfl ?_
    refine g_getI 8 (gd rfl) rfl rfl rfl (fun z13x5 e13x5 => ?_)
    have q13x5 : z3x16 = z13x5 := (sF_get).trans e13x5.symm
    subst q13x5
    refine g_iload_n 9 (gd rfl) rfl rfl ?_
    have i13x9 : In z3x16 0 7999 := by (first | have a0 := oa4 i3x9 i7 ((in_c 45 rfl)) i3x16 | ((first | have a0 := in_u i3x9 | (have a0 := i3x9; unfold In at a0)); (first | have a1 := in_u i7 | (have a1 := i7; unfold In at a1)); (first | have a2 := in_u ((in_c 45 rfl)) | (have a2 := (in_c 45 rfl); unfold In at a2)); (first | have a3 := in_u i3x16 | (have a3 := i3x16; unfold In at a3)))); have a4 := t_add e3x16 i3x9 (in_c 1 rfl) rfl; (first | have a5 := in_u ((in_c 1 rfl)) | (have a5 := (in_c 1 rfl); unfold In at a5)); exact ⟨by omega, by omega⟩
    refine g_iastore 10 (gd rfl) rfl (n := 8000) rfl (in_ix i13x9 rfl) ?_
    have hI13x9 := inv_sI (q := 126) (j := z3x16.toNatClampNeg) hI3x17 rfl (in_w (-2147483648) 2147483647 (in_c 45 rfl) rfl)
    refine g_aload_n 11 (gd rfl) rfl rfl ?_
    refine g_dup 12 (gd rfl) rfl rfl ?_
    refine g_getI 15 (gd rfl) rfl rfl rfl (fun z13x12 e13x12 => ?_)
    have q13x12 : z3x16 = z13x12 := (sI_F (sF_get)).trans e13x12.symm
    subst q13x12
    refine g_iconst 1 16 (gd rfl) rfl rfl ?_
    refine g_iadd 17 (gd rfl) rfl (fun z13x16 e13x16 => ?_)
    have i13x16 := in_add 1 8000 e13x16 i13x9 (in_c 1 rfl) rfl rfl
    refine g_putI 20 (gd rfl) rfl rfl rfl rfl ?_
    have hI13x17 := inv_sF (q := 109) (j := 26) hI13x9 rfl (in_w 0 8000 i13x16 rfl)
    refine g_return (gd rfl) rfl (hp13 _ _ ?_)
    show GG _ _ _ _ _ _ _ _ [] _ _ _
    refine g_iload_n 17 (gd rfl) rfl rfl ?_
    refine g_if_ge 20 25 (gd rfl) rfl rfl (fun c17 => ?_) (fun c17 => ?_)
    · skip
      exact zn_ge c17 i7 rfl
    · skip
      refine g_iload_n 21 (gd rfl) rfl rfl ?_
      refine g_ineg 22 (gd rfl) rfl (fun z21 e21 => ?_)
      have i21 := in_neg 1 1000000 e21 i7 rfl
      refine g_goto 26 (gd rfl) rfl ?_
      refine g_istore_n 27 (gd rfl) rfl (Nat.le_of_ble_eq_true rfl) ?_
      refine g_iconst 1 28 (gd rfl) rfl rfl ?_
      refine g_istore_n 29 (gd rfl) rfl (Nat.le_of_ble_eq_true rfl) ?_
      have v29 : z13x16 = (sF (sI (sF (sI s 126 u_109_26.toNatClampNeg (Int32.ofInt 32)) 109 26 z3x16) 126 z3x16.toNatClampNeg (Int32.ofInt 45)) 109 26 z13x16).2.2.1 109 26 := sF_get
      have n29 : (z13x16).toInt ≤ (u_109_26).toInt + 2 := by (first | have a0 := oa5 i3x9 i7 ((in_c 1 rfl)) i21 i13x16 | ((first | have a0 := in_u i3x9 | (have a0 := i3x9; unfold In at a0)); (first | have a1 := in_u i7 | (have a1 := i7; unfold In at a1)); (first | have a2 := in_u ((in_c 1 rfl)) | (have a2 := (in_c 1 rfl); unfold In at a2)); (first | have a3 := in_u i21 | (have a3 := i21; unfold In at a3)); (first | have a4 := in_u i13x16 | (have a4 := i13x16; unfold In at a4)))); have a5 := t_add e13x16 i13x9 (in_c 1 rfl) rfl; (first | have a6 := in_u i13x9 | (have a6 := i13x9; unfold In at a6)); have a7 := t_add e3x16 i3x9 (in_c 1 rfl) rfl; omega
      have n29a : (((Int32.ofInt 1)).toInt = 1 ∨ ((Int32.ofInt 1)).toInt = 10 ∨ ((Int32.ofInt 1)).toInt = 100 ∨ ((Int32.ofInt 1)).toInt = 1000 ∨ ((Int32.ofInt 1)).toInt = 10000 ∨ ((Int32.ofInt 1)).toInt = 100000 ∨ ((Int32.ofInt 1)).toInt = 1000000) := by exact Or.inl (by decide)
      have m29 : 2000000 - ((Int32.ofInt 1)).toInt < ((2000001 : Nat) : Int) := by (first | have a0 := oa5 i3x9 i7 ((in_c 1 rfl)) i21 i13x16 | ((first | have a0 := in_u i3x9 | (have a0 := i3x9; unfold In at a0)); (first | have a1 := in_u i7 | (have a1 := i7; unfold In at a1)); (first | have a2 := in_u ((in_c 1 rfl)) | (have a2 := (in_c 1 rfl); unfold In at a2)); (first | have a3 := in_u i21 | (have a3 := i21; unfold In at a3)); (first | have a4 := in_u i13x16 | (have a4 := i13x16; unfold In at a4)))); have a5 := t_add e13x16 i13x9 (in_c 1 rfl) rfl; (first | have a6 := in_u i13x9 | (have a6 := i13x9; unfold In at a6)); have a7 := t_add e3x16 i3x9 (in_c 1 rfl) rfl; omega
      exact gg_w (by first | exact Nat.le_of_ble_eq_true rfl | omega) (gg_f (gf_cons rfl (gf_cons rfl (gf_cons rfl (gf_cons rfl gf_nil)))) (ct29 2000001 (sF (sI (sF (sI s 126 u_109_26.toNatClampNeg (Int32.ofInt 32)) 109 26 z3x16) 126 z3x16.toNatClampNeg (Int32.ofInt 45)) 109 26 z13x16) z21 (Int32.ofInt 1) z13x16 hI13x17 (fr_sF rfl (fr_sI rfl (fr_sF rfl (fr_sI rfl fr_rf)))) (in_w 0 1000000 i21 rfl) (in_w 1 1000000 (in_c 1 rfl) rfl) v29 n29 n29a m29))

def fm_308 : FM := ([126], [], [(109, 0), (109, 26)], [])
/-- GraphHouseModel.print -/
theorem k_308 {Z : AmZ} {A : Nat → Nat} {s : GS} {ex : va_W} {d : Nat} {X : AmX}  (hd : 4 ≤ d) (hI : Inv s)  : GC Z d 308 [.ref (A 109)] (WW Z A s ++ ex) 0 0 (fun v u => ∃ t : GS, Inv t ∧ Fr fm_308 s t ∧ ∃ z : Int32, v = some (.int z) ∧ u = WW Z A t ++ ex ∧ In z 0 8000) X := by
  intro post xp hP hX
  obtain ⟨u_109_18, e_109_18⟩ : ∃ w, w = s.2.2.1 109 18 := ⟨_, rfl⟩
  have ro_109_18 := inv_F hI 0 1 rfl e_109_18
  obtain ⟨u_109_19, e_109_19⟩ : ∃ w, w = s.2.2.1 109 19 := ⟨_, rfl⟩
  have ro_109_19 := inv_F hI 0 160 rfl e_109_19
  obtain ⟨u_109_20, e_109_20⟩ : ∃ w, w = s.2.2.1 109 20 := ⟨_, rfl⟩
  have ro_109_20 := inv_F hI 0 32 rfl e_109_20
  have ct70 : ∀ (k70 : Nat) (sc70 : GS) (y70_1 : Int32) (w70_109_26 : Int32), Inv sc70 → Fr fm_308 s sc70 → (In y70_1 0 400) → (w70_109_26 = sc70.2.2.1 109 26) → ((w70_109_26).toInt ≤ 128 + 40 * ((y70_1).toInt - (u_109_19).toInt)) → ((u_109_19).toInt ≤ (y70_1).toInt) → 400 - (y70_1).toInt < (k70 : Int) → GG Z (d - 1) 308 post (gx xp) (1 + k70 * 900) 70 (fun j => xlook j [(0, .ref (A 109)), (1, .int y70_1)]) [] (WW Z A sc70 ++ ex) 0 0 := by
    intro k70
    induction k70 with
    | zero => intro sc70 y70_1 w70_109_26 hIc70 hFc70 j70_1 v70_109_26 n70_0 n70_1 mm70; exact m_no mm70 j70_1 rfl
    | succ k70 ih70 =>
      intro sc70 y70_1 w70_109_26 hIc70 hFc70 j70_1 v70_109_26 n70_0 n70_1 mm70
      refine gg_w (M := 1 + k70 * 900 + 900) gws ?_
      refine g_iload_n 71 (gd rfl) rfl rfl ?_
      refine g_aload_n 72 (gd rfl) rfl rfl ?_
      refine g_getI 75 (gd rfl) rfl rfl rfl (fun z72 e72 => ?_)
      have q72 : u_109_19 = z72 := (fr_F e_109_19 hFc70 rfl).trans e72.symm
      subst q72
      refine g_sipush 160 78 (gd rfl) rfl rfl ?_
      refine g_iadd 79 (gd rfl) rfl (fun z78 e78 => ?_)
      have i78 := in_add 160 320 e78 ro_109_19 (in_c 160 rfl) rfl rfl
      refine g_cmp_ge 82 168 (gd rfl) rfl rfl (fun c79 => ?_) (fun c79 => ?_)
      · skip
        have i79 := r_le2 160 400 c79 i78 j70_1 rfl
        refine g_aload_n 169 (gd rfl) rfl rfl ?_
        refine g_getI 172 (gd rfl) rfl rfl rfl (fun z169 e169 => ?_)
        have q169 : w70_109_26 = z169 := (v70_109_26).trans e169.symm
        subst q169
        exact g_ireturn (gd rfl) rfl rfl (hP _ _ ⟨sc70, hIc70, hFc70, w70_109_26, rfl, rfl, in_w 0 8000 (inv_F hIc70 0 8000 rfl v70_109_26) rfl⟩)
      · skip
        have i79 := r_lt1 0 319 c79 j70_1 i78 rfl
        refine g_aload_n 83 (gd rfl) rfl rfl ?_
        refine g_getA (q2 := 112) 86 (gd rfl) rfl rfl rfl rfl ?_
        refine g_iload_n 87 (gd rfl) rfl rfl ?_
        refine g_baload 88 (gd rfl) rfl (n := 480) rfl (in_ix i79 rfl) (fun z87 e87 => ?_)
        have i87 := inv_I hIc70 (n := 480) (t := 3) 0 1 rfl (in_ix i79 rfl) rfl e87
        refine g_if_eq 91 162 (gd rfl) rfl rfl (fun c88 => ?_) (fun c88 => ?_)
        · skip
          have i88 := z_eq 0 0 c88 i87 rfl
          refine g_iinc 165 (gd rfl) rfl rfl (Nat.le_of_ble_eq_true rfl) (fun z162 e162 => ?_)
          have i162 := in_add 1 320 e162 i79 (in_c 1 rfl) rfl rfl
          refine g_goto 70 (gd rfl) rfl ?_
          have n70 : (w70_109_26).toInt ≤ 128 + 40 * ((z162).toInt - (u_109_19).toInt) := by (first | have a0 := oa6 ro_109_20 ro_109_19 ro_109_18 ((inv_F hIc70 0 8000 rfl v70_109_26)) i79 i162 | ((first | have a0 := in_u ro_109_20 | (have a0 := ro_109_20; unfold In at a0)); (first | have a1 := in_u ro_109_19 | (have a1 := ro_109_19; unfold In at a1)); (first | have a2 := in_u ro_109_18 | (have a2 := ro_109_18; unfold In at a2)); (first | have a3 := in_u ((inv_F hIc70 0 8000 rfl v70_109_26)) | (have a3 := (inv_F hIc70 0 8000 rfl v70_109_26); unfold In at a3)); (first | have a4 := in_u i79 | (have a4 := i79; unfold In at a4)); (first | have a5 := in_u i162 | (have a5 := i162; unfold In at a5)))); have a6 := t_add e162 i79 (in_c 1 rfl) rfl; (first | have a7 := oa2 ((in_c 1 rfl)) i78 | ((first | have a7 := in_u ((in_c 1 rfl)) | (have a7 := (in_c 1 rfl); unfold In at a7)); (first | have a8 := in_u i78 | (have a8 := i78; unfold In at a8)))); have a9 := t_add e78 ro_109_19 (in_c 160 rfl) rfl; (first | have a10 := in_u ((in_c 160 rfl)) | (have a10 := (in_c 160 rfl); unfold In at a10)); omega
          have n70a : (u_109_19).toInt ≤ (z162).toInt := by (first | have a0 := oa6 ro_109_20 ro_109_19 ro_109_18 ((inv_F hIc70 0 8000 rfl v70_109_26)) i79 i162 | ((first | have a0 := in_u ro_109_20 | (have a0 := ro_109_20; unfold In at a0)); (first | have a1 := in_u ro_109_19 | (have a1 := ro_109_19; unfold In at a1)); (first | have a2 := in_u ro_109_18 | (have a2 := ro_109_18; unfold In at a2)); (first | have a3 := in_u ((inv_F hIc70 0 8000 rfl v70_109_26)) | (have a3 := (inv_F hIc70 0 8000 rfl v70_109_26); unfold In at a3)); (first | have a4 := in_u i79 | (have a4 := i79; unfold In at a4)); (first | have a5 := in_u i162 | (have a5 := i162; unfold In at a5)))); have a6 := t_add e162 i79 (in_c 1 rfl) rfl; (first | have a7 := oa2 ((in_c 1 rfl)) i78 | ((first | have a7 := in_u ((in_c 1 rfl)) | (have a7 := (in_c 1 rfl); unfold In at a7)); (first | have a8 := in_u i78 | (have a8 := i78; unfold In at a8)))); have a9 := t_add e78 ro_109_19 (in_c 160 rfl) rfl; (first | have a10 := in_u ((in_c 160 rfl)) | (have a10 := (in_c 160 rfl); unfold In at a10)); omega
          exact gg_w (by first | exact Nat.le_add_right _ _ | exact gw2 | exact gw3 | exact gwe rfl | exact gwf rfl | exact gwg rfl | exact gwh rfl | omega) (gg_f (gf_cons rfl (gf_cons rfl gf_nil)) (ih70 sc70 z162 w70_109_26 hIc70 hFc70 (in_w 0 400 i162 rfl) v70_109_26 n70 n70a (m_up mm70 (t_add e162 i79 (in_c 1 rfl) rfl) (in_w 1 1 (in_c 1 rfl) rfl))))
        · skip
          have i88 := z_ne 1 1 c88 i87 rfl
          refine g_aload_n 92 (gd rfl) rfl rfl ?_
          refine g_bipush 97 94 (gd rfl) rfl rfl ?_
          refine g_callv (X := _) (As := [.int (Int32.ofInt 97)]) (r := []) (b := A 109) (q := 109) 97 (gd rfl) rfl rfl rfl rfl rfl (ww_o rfl) (Nat.le_of_ble_eq_true rfl) (mc := 0) (ms := 0) (Nat.zero_le _) (Nat.zero_le _) (P := fun v u => _) ?_ (fun e u h => h) (fun v u h => h)
          intro po94 xx94 hp94 hx94
          refine g_enter2 (k := 306) (N := 300) (by first | exact dq1 hd rfl | exact dq0 hd rfl | exact dq2 hd rfl | exact dq3 hd rfl | omega) rfl (Nat.le_of_ble_eq_true rfl) ?_
          refine g_aload_n 1 (gd rfl) rfl rfl ?_
          refine g_getA (q2 := 126) 4 (gd rfl) rfl rfl rfl rfl ?_
          refine g_aload_n 5 (gd rfl) rfl rfl ?_
          refine g_getI 8 (gd rfl) rfl rfl rfl (fun z94x5 e94x5 => ?_)
          have q94x5 : w70_109_26 = z94x5 := (v70_109_26).trans e94x5.symm
          subst q94x5
          refine g_iload_n 9 (gd rfl) rfl rfl ?_
          have i94x9 : In w70_109_26 0 7999 := by (first | have a0 := oa7 ro_109_20 ro_109_19 ro_109_18 ((inv_F hIc70 0 8000 rfl v70_109_26)) i79 ((in_c 97 rfl)) i78 | ((first | have a0 := in_u ro_109_20 | (have a0 := ro_109_20; unfold In at a0)); (first | have a1 := in_u ro_109_19 | (have a1 := ro_109_19; unfold In at a1)); (first | have a2 := in_u ro_109_18 | (have a2 := ro_109_18; unfold In at a2)); (first | have a3 := in_u ((inv_F hIc70 0 8000 rfl v70_109_26)) | (have a3 := (inv_F hIc70 0 8000 rfl v70_109_26); unfold In at a3)); (first | have a4 := in_u i79 | (have a4 := i79; unfold In at a4)); (first | have a5 := in_u ((in_c 97 rfl)) | (have a5 := (in_c 97 rfl); unfold In at a5)); (first | have a6 := in_u i78 | (have a6 := i78; unfold In at a6)))); have a7 := t_add e78 ro_109_19 (in_c 160 rfl) rfl; (first | have a8 := in_u ((in_c 160 rfl)) | (have a8 := (in_c 160 rfl); unfold In at a8)); exact ⟨by omega, by omega⟩
          refine g_iastore 10 (gd rfl) rfl (n := 8000) rfl (in_ix i94x9 rfl) ?_
          have hI94x9 := inv_sI (q := 126) (j := w70_109_26.toNatClampNeg) hIc70 rfl (in_w (-2147483648) 2147483647 (in_c 97 rfl) rfl)
          refine g_aload_n 11 (gd rfl) rfl rfl ?_
          refine g_dup 12 (gd rfl) rfl rfl ?_
          refine g_getI 15 (gd rfl) rfl rfl rfl (fun z94x12 e94x12 => ?_)
          have q94x12 : w70_109_26 = z94x12 := (sI_F (v70_109_26)).trans e94x12.symm
          subst q94x12
          refine g_iconst 1 16 (gd rfl) rfl rfl ?_
          refine g_iadd 17 (gd rfl) rfl (fun z94x16 e94x16 => ?_)
          have i94x16 := in_add 1 8000 e94x16 i94x9 (in_c 1 rfl) rfl rfl
          refine g_putI 20 (gd rfl) rfl rfl rfl rfl ?_
          have hI94x17 := inv_sF (q := 109) (j := 26) hI94x9 rfl (in_w 0 8000 i94x16 rfl)
          refine g_return (gd rfl) rfl (hp94 _ _ ?_)
          show GG _ _ _ _ _ _ _ _ [] _ _ _
          refine g_aload_n 98 (gd rfl) rfl rfl ?_
          refine g_aload_n 99 (gd rfl) rfl rfl ?_
          refine g_getA (q2 := 113) 102 (gd rfl) rfl rfl rfl rfl ?_
          refine g_iload_n 103 (gd rfl) rfl rfl ?_
          refine g_iaload 104 (gd rfl) rfl (n := 480) rfl (in_ix i79 rfl) (fun z103 e103 => ?_)
          have i103 := inv_I hI94x17 (n := 480) (t := 0) 0 31 rfl (in_ix i79 rfl) rfl e103
          have v104 : z94x16 = (sF (sI sc70 126 w70_109_26.toNatClampNeg (Int32.ofInt 97)) 109 26 z94x16).2.2.1 109 26 := sF_get
          have n104 : (z94x16).toInt ≤ 7900 := by (first | have a0 := oa6 ro_109_20 ro_109_19 ro_109_18 i94x9 i79 i94x16 | ((first | have a0 := in_u ro_109_20 | (have a0 := ro_109_20; unfold In at a0)); (first | have a1 := in_u ro_109_19 | (have a1 := ro_109_19; unfold In at a1)); (first | have a2 := in_u ro_109_18 | (have a2 := ro_109_18; unfold In at a2)); (first | have a3 := in_u i94x9 | (have a3 := i94x9; unfold In at a3)); (first | have a4 := in_u i79 | (have a4 := i79; unfold In at a4)); (first | have a5 := in_u i94x16 | (have a5 := i94x16; unfold In at a5)))); have a6 := t_add e94x16 i94x9 (in_c 1 rfl) rfl; (first | have a7 := oa2 ((in_c 1 rfl)) i78 | ((first | have a7 := in_u ((in_c 1 rfl)) | (have a7 := (in_c 1 rfl); unfold In at a7)); (first | have a8 := in_u i78 | (have a8 := i78; unfold In at a8)))); have a9 := t_add e78 ro_109_19 (in_c 160 rfl) rfl; (first | have a10 := in_u ((in_c 160 rfl)) | (have a10 := (in_c 160 rfl); unfold In at a10)); omega
          refine g_callv (X := _) (As := [.int z103]) (r := []) (b := A 109) (q := 109) 107 (gd rfl) rfl rfl rfl rfl rfl (ww_o rfl) (Nat.le_of_ble_eq_true rfl) (Nat.zero_le _) (Nat.zero_le _) (k_307 (by first | exact dq1 hd rfl | exact dq0 hd rfl | exact dq2 hd rfl | exact dq3 hd rfl | omega) hI94x17 (in_w (-1000000) 1000000 i103 rfl) v104 n104) (fun e u h => h) (fun v u h => ?_)
          obtain ⟨s104, hI104, hF104, n104a, rfl, rfl⟩ := h
          obtain ⟨z104a, e104⟩ : ∃ w, w = s104.2.2.1 109 26 := ⟨_, rfl⟩
          have i104a := inv_F hI104 0 8000 rfl e104
          rw [← (show z94x16 = (sF (sI sc70 126 w70_109_26.toNatClampNeg (Int32.ofInt 97)) 109 26 z94x16).2.2.1 109 26 from sF_get)] at n104a
          rw [← (show z104a = s104.2.2.1 109 26 from e104)] at n104a
          show GG _ _ _ _ _ _ _ _ [] _ _ _
          refine g_aload_n 108 (gd rfl) rfl rfl ?_
          refine g_aload_n 109 (gd rfl) rfl rfl ?_
          refine g_getA (q2 := 114) 112 (gd rfl) rfl rfl rfl rfl ?_
          refine g_iload_n 113 (gd rfl) rfl rfl ?_
          refine g_iaload 114 (gd rfl) rfl (n := 480) rfl (in_ix i79 rfl) (fun z113 e113 => ?_)
          have i113 := inv_I hI104 (n := 480) (t := 0) 0 31 rfl (in_ix i79 rfl) rfl e113
          have n114 : (z104a).toInt ≤ 7900 := by (first | have a0 := oa7 ro_109_20 ro_109_19 ro_109_18 i94x9 i79 i104a i94x16 | ((first | have a0 := in_u ro_109_20 | (have a0 := ro_109_20; unfold In at a0)); (first | have a1 := in_u ro_109_19 | (have a1 := ro_109_19; unfold In at a1)); (first | have a2 := in_u ro_109_18 | (have a2 := ro_109_18; unfold In at a2)); (first | have a3 := in_u i94x9 | (have a3 := i94x9; unfold In at a3)); (first | have a4 := in_u i79 | (have a4 := i79; unfold In at a4)); (first | have a5 := in_u i104a | (have a5 := i104a; unfold In at a5)); (first | have a6 := in_u i94x16 | (have a6 := i94x16; unfold In at a6)))); have a7 := t_add e94x16 i94x9 (in_c 1 rfl) rfl; (first | have a8 := oa2 ((in_c 1 rfl)) i78 | ((first | have a8 := in_u ((in_c 1 rfl)) | (have a8 := (in_c 1 rfl); unfold In at a8)); (first | have a9 := in_u i78 | (have a9 := i78; unfold In at a9)))); have a10 := t_add e78 ro_109_19 (in_c 160 rfl) rfl; (first | have a11 := in_u ((in_c 160 rfl)) | (have a11 := (in_c 160 rfl); unfold In at a11)); omega
          refine g_callv (X := _) (As := [.int z113]) (r := []) (b := A 109) (q := 109) 117 (gd rfl) rfl rfl rfl rfl rfl (ww_o rfl) (Nat.le_of_ble_eq_true rfl) (Nat.zero_le _) (Nat.zero_le _) (k_307 (by first | exact dq1 hd rfl | exact dq0 hd rfl | exact dq2 hd rfl | exact dq3 hd rfl | omega) hI104 (in_w (-1000000) 1000000 i113 rfl) e104 n114) (fun e u h => h) (fun v u h => ?_)
          obtain ⟨s114, hI114, hF114, n114a, rfl, rfl⟩ := h
          obtain ⟨z114a, e114⟩ : ∃ w, w = s114.2.2.1 109 26 := ⟨_, rfl⟩
          have i114a := inv_F hI114 0 8000 rfl e114
          rw [← (show z104a = s104.2.2.1 109 26 from e104)] at n114a
          rw [← (show z114a = s114.2.2.1 109 26 from e114)] at n114a
          show GG _ _ _ _ _ _ _ _ [] _ _ _
          refine g_aload_n 118 (gd rfl) rfl rfl ?_
          refine g_aload_n 119 (gd rfl) rfl rfl ?_
          refine g_getA (q2 := 115) 122 (gd rfl) rfl rfl rfl rfl ?_
          refine g_iload_n 123 (gd rfl) rfl rfl ?_
          refine g_iaload 124 (gd rfl) rfl (n := 480) rfl (in_ix i79 rfl) (fun z123 e123 => ?_)
          have i123 := inv_I hI114 (n := 480) (t := 0) (-1000000) 1000000 rfl (in_ix i79 rfl) rfl e123
          have n124 : (z114a).toInt ≤ 7900 := by (first | have a0 := oa7 ro_109_20 ro_109_19 ro_109_18 i94x9 i79 i114a i94x16 | ((first | have a0 := in_u ro_109_20 | (have a0 := ro_109_20; unfold In at a0)); (first | have a1 := in_u ro_109_19 | (have a1 := ro_109_19; unfold In at a1)); (first | have a2 := in_u ro_109_18 | (have a2 := ro_109_18; unfold In at a2)); (first | have a3 := in_u i94x9 | (have a3 := i94x9; unfold In at a3)); (first | have a4 := in_u i79 | (have a4 := i79; unfold In at a4)); (first | have a5 := in_u i114a | (have a5 := i114a; unfold In at a5)); (first | have a6 := in_u i94x16 | (have a6 := i94x16; unfold In at a6)))); have a7 := t_add e94x16 i94x9 (in_c 1 rfl) rfl; (first | have a8 := oa2 ((in_c 1 rfl)) i78 | ((first | have a8 := in_u ((in_c 1 rfl)) | (have a8 := (in_c 1 rfl); unfold In at a8)); (first | have a9 := in_u i78 | (have a9 := i78; unfold In at a9)))); have a10 := t_add e78 ro_109_19 (in_c 160 rfl) rfl; (first | have a11 := in_u ((in_c 160 rfl)) | (have a11 := (in_c 160 rfl); unfold In at a11)); omega
          refine g_callv (X := _) (As := [.int z123]) (r := []) (b := A 109) (q := 109) 127 (gd rfl) rfl rfl rfl rfl rfl (ww_o rfl) (Nat.le_of_ble_eq_true rfl) (Nat.zero_le _) (Nat.zero_le _) (k_307 (by first | exact dq1 hd rfl | exact dq0 hd rfl | exact dq2 hd rfl | exact dq3 hd rfl | omega) hI114 (in_w (-1000000) 1000000 i123 rfl) e114 n124) (fun e u h => h) (fun v u h => ?_)
          obtain ⟨s124, hI124, hF124, n124a, rfl, rfl⟩ := h
          obtain ⟨z124a, e124⟩ : ∃ w, w = s124.2.2.1 109 26 := ⟨_, rfl⟩
          have i124a := inv_F hI124 0 8000 rfl e124
          rw [← (show z114a = s114.2.2.1 109 26 from e114)] at n124a
          rw [← (show z124a = s124.2.2.1 109 26 from e124)] at n124a
          show GG _ _ _ _ _ _ _ _ [] _ _ _
          refine g_aload_n 128 (gd rfl) rfl rfl ?_
          refine g_aload_n 129 (gd rfl) rfl rfl ?_
          refine g_getA (q2 := 116) 132 (gd rfl) rfl rfl rfl rfl ?_
          refine g_iload_n 133 (gd rfl) rfl rfl ?_
          refine g_iaload 134 (gd rfl) rfl (n := 480) rfl (in_ix i79 rfl) (fun z133 e133 => ?_)
          have i133 := inv_I hI124 (n := 480) (t := 0) 0 1000000 rfl (in_ix i79 rfl) rfl e133
          have n134 : (z124a).toInt ≤ 7900 := by (first | have a0 := oa7 ro_109_20 ro_109_19 ro_109_18 i94x9 i79 i124a i94x16 | ((first | have a0 := in_u ro_109_20 | (have a0 := ro_109_20; unfold In at a0)); (first | have a1 := in_u ro_109_19 | (have a1 := ro_109_19; unfold In at a1)); (first | have a2 := in_u ro_109_18 | (have a2 := ro_109_18; unfold In at a2)); (first | have a3 := in_u i94x9 | (have a3 := i94x9; unfold In at a3)); (first | have a4 := in_u i79 | (have a4 := i79; unfold In at a4)); (first | have a5 := in_u i124a | (have a5 := i124a; unfold In at a5)); (first | have a6 := in_u i94x16 | (have a6 := i94x16; unfold In at a6)))); have a7 := t_add e94x16 i94x9 (in_c 1 rfl) rfl; (first | have a8 := oa2 ((in_c 1 rfl)) i78 | ((first | have a8 := in_u ((in_c 1 rfl)) | (have a8 := (in_c 1 rfl); unfold In at a8)); (first | have a9 := in_u i78 | (have a9 := i78; unfold In at a9)))); have a10 := t_add e78 ro_109_19 (in_c 160 rfl) rfl; (first | have a11 := in_u ((in_c 160 rfl)) | (have a11 := (in_c 160 rfl); unfold In at a11)); omega
          refine g_callv (X := _) (As := [.int z133]) (r := []) (b := A 109) (q := 109) 137 (gd rfl) rfl rfl rfl rfl rfl (ww_o rfl) (Nat.le_of_ble_eq_true rfl) (Nat.zero_le _) (Nat.zero_le _) (k_307 (by first | exact dq1 hd rfl | exact dq0 hd rfl | exact dq2 hd rfl | exact dq3 hd rfl | omega) hI124 (in_w (-1000000) 1000000 i133 rfl) e124 n134) (fun e u h => h) (fun v u h => ?_)
          obtain ⟨s134, hI134, hF134, n134a, rfl, rfl⟩ := h
          obtain ⟨z134a, e134⟩ : ∃ w, w = s134.2.2.1 109 26 := ⟨_, rfl⟩
          have i134a := inv_F hI134 0 8000 rfl e134
          rw [← (show z124a = s124.2.2.1 109 26 from e124)] at n134a
          rw [← (show z134a = s134.2.2.1 109 26 from e134)] at n134a
          show GG _ _ _ _ _ _ _ _ [] _ _ _
          refine g_aload_n 138 (gd rfl) rfl rfl ?_
          refine g_bipush 32 140 (gd rfl) rfl rfl ?_
          refine g_callv (X := _) (As := [.int (Int32.ofInt 32)]) (r := []) (b := A 109) (q := 109) 143 (gd rfl) rfl rfl rfl rfl rfl (ww_o rfl) (Nat.le_of_ble_eq_true rfl) (mc := 0) (ms := 0) (Nat.zero_le _) (Nat.zero_le _) (P := fun v u => _) ?_ (fun e u h => h) (fun v u h => h)
          intro po140 xx140 hp140 hx140
          refine g_enter2 (k := 306) (N := 300) (by first | exact dq1 hd rfl | exact dq0 hd rfl | exact dq2 hd rfl | exact dq3 hd rfl | omega) rfl (Nat.le_of_ble_eq_true rfl) ?_
          refine g_aload_n 1 (gd rfl) rfl rfl ?_
          refine g_getA (q2 := 126) 4 (gd rfl) rfl rfl rfl rfl ?_
          refine g_aload_n 5 (gd rfl) rfl rfl ?_
          refine g_getI 8 (gd rfl) rfl rfl rfl (fun z140x5 e140x5 => ?_)
          have q140x5 : z134a = z140x5 := (e134).trans e140x5.symm
          subst q140x5
          refine g_iload_n 9 (gd rfl) rfl rfl ?_
          have i140x9 : In z134a 0 7999 := by (first | have a0 := oa8 ro_109_20 ro_109_19 ro_109_18 i94x9 i79 ((in_c 32 rfl)) i134a i94x16 | ((first | have a0 := in_u ro_109_20 | (have a0 := ro_109_20; unfold In at a0)); (first | have a1 := in_u ro_109_19 | (have a1 := ro_109_19; unfold In at a1)); (first | have a2 := in_u ro_109_18 | (have a2 := ro_109_18; unfold In at a2)); (first | have a3 := in_u i94x9 | (have a3 := i94x9; unfold In at a3)); (first | have a4 := in_u i79 | (have a4 := i79; unfold In at a4)); (first | have a5 := in_u ((in_c 32 rfl)) | (have a5 := (in_c 32 rfl); unfold In at a5)); (first | have a6 := in_u i134a | (have a6 := i134a; unfold In at a6)); (first | have a7 := in_u i94x16 | (have a7 := i94x16; unfold In at a7)))); have a8 := t_add e94x16 i94x9 (in_c 1 rfl) rfl; (first | have a9 := oa2 ((in_c 1 rfl)) i78 | ((first | have a9 := in_u ((in_c 1 rfl)) | (have a9 := (in_c 1 rfl); unfold In at a9)); (first | have a10 := in_u i78 | (have a10 := i78; unfold In at a10)))); have a11 := t_add e78 ro_109_19 (in_c 160 rfl) rfl; (first | have a12 := in_u ((in_c 160 rfl)) | (have a12 := (in_c 160 rfl); unfold In at a12)); exact ⟨by omega, by omega⟩
          refine g_iastore 10 (gd rfl) rfl (n := 8000) rfl (in_ix i140x9 rfl) ?_
          have hI140x9 := inv_sI (q := 126) (j := z134a.toNatClampNeg) hI134 rfl (in_w (-2147483648) 2147483647 (in_c 32 rfl) rfl)
          refine g_aload_n 11 (gd rfl) rfl rfl ?_
          refine g_dup 12 (gd rfl) rfl rfl ?_
          refine g_getI 15 (gd rfl) rfl rfl rfl (fun z140x12 e140x12 => ?_)
          have q140x12 : z134a = z140x12 := (sI_F (e134)).trans e140x12.symm
          subst q140x12
          refine g_iconst 1 16 (gd rfl) rfl rfl ?_
          refine g_iadd 17 (gd rfl) rfl (fun z140x16 e140x16 => ?_)
          have i140x16 := in_add 1 8000 e140x16 i140x9 (in_c 1 rfl) rfl rfl
          refine g_putI 20 (gd rfl) rfl rfl rfl rfl ?_
          have hI140x17 := inv_sF (q := 109) (j := 26) hI140x9 rfl (in_w 0 8000 i140x16 rfl)
          refine g_return (gd rfl) rfl (hp140 _ _ ?_)
          show GG _ _ _ _ _ _ _ _ [] _ _ _
          refine g_aload_n 144 (gd rfl) rfl rfl ?_
          refine g_bipush 97 146 (gd rfl) rfl rfl ?_
          refine g_aload_n 147 (gd rfl) rfl rfl ?_
          refine g_getA (q2 := 117) 150 (gd rfl) rfl rfl rfl rfl ?_
          refine g_iload_n 151 (gd rfl) rfl rfl ?_
          refine g_iaload 152 (gd rfl) rfl (n := 480) rfl (in_ix i79 rfl) (fun z151 e151 => ?_)
          have i151 := inv_I hI140x17 (n := 480) (t := 0) 0 25 rfl (in_ix i79 rfl) rfl e151
          refine g_iadd 153 (gd rfl) rfl (fun z152 e152 => ?_)
          have i152 := in_add 97 122 e152 (in_c 97 rfl) i151 rfl rfl
          refine g_callv (X := _) (As := [.int z152]) (r := []) (b := A 109) (q := 109) 156 (gd rfl) rfl rfl rfl rfl rfl (ww_o rfl) (Nat.le_of_ble_eq_true rfl) (mc := 0) (ms := 0) (Nat.zero_le _) (Nat.zero_le _) (P := fun v u => _) ?_ (fun e u h => h) (fun v u h => h)
          intro po153 xx153 hp153 hx153
          refine g_enter2 (k := 306) (N := 300) (by first | exact dq1 hd rfl | exact dq0 hd rfl | exact dq2 hd rfl | exact dq3 hd rfl | omega) rfl (Nat.le_of_ble_eq_true rfl) ?_
          refine g_aload_n 1 (gd rfl) rfl rfl ?_
          refine g_getA (q2 := 126) 4 (gd rfl) rfl rfl rfl rfl ?_
          refine g_aload_n 5 (gd rfl) rfl rfl ?_
          refine g_getI 8 (gd rfl) rfl rfl rfl (fun z153x5 e153x5 => ?_)
          have q153x5 : z140x16 = z153x5 := (sF_get).trans e153x5.symm
          subst q153x5
          refine g_iload_n 9 (gd rfl) rfl rfl ?_
          have i153x9 : In z140x16 0 7999 := by (first | have a0 := oa6 ro_109_20 ro_109_19 ro_109_18 i94x9 i79 i152 | ((first | have a0 := in_u ro_109_20 | (have a0 := ro_109_20; unfold In at a0)); (first | have a1 := in_u ro_109_19 | (have a1 := ro_109_19; unfold In at a1)); (first | have a2 := in_u ro_109_18 | (have a2 := ro_109_18; unfold In at a2)); (first | have a3 := in_u i94x9 | (have a3 := i94x9; unfold In at a3)); (first | have a4 := in_u i79 | (have a4 := i79; unfold In at a4)); (first | have a5 := in_u i152 | (have a5 := i152; unfold In at a5)))); have a6 := t_add e152 (in_c 97 rfl) i151 rfl; (first | have a7 := oa3 i151 ((in_c 97 rfl)) i140x16 | ((first | have a7 := in_u i151 | (have a7 := i151; unfold In at a7)); (first | have a8 := in_u ((in_c 97 rfl)) | (have a8 := (in_c 97 rfl); unfold In at a8)); (first | have a9 := in_u i140x16 | (have a9 := i140x16; unfold In at a9)))); have a10 := t_add e140x16 i140x9 (in_c 1 rfl) rfl; (first | have a11 := oa3 ((in_c 1 rfl)) i140x9 i94x16 | ((first | have a11 := in_u ((in_c 1 rfl)) | (have a11 := (in_c 1 rfl); unfold In at a11)); (first | have a12 := in_u i140x9 | (have a12 := i140x9; unfold In at a12)); (first | have a13 := in_u i94x16 | (have a13 := i94x16; unfold In at a13)))); have a14 := t_add e94x16 i94x9 (in_c 1 rfl) rfl; (first | have a15 := in_u i78 | (have a15 := i78; unfold In at a15)); have a16 := t_add e78 ro_109_19 (in_c 160 rfl) rfl; (first | have a17 := in_u ((in_c 160 rfl)) | (have a17 := (in_c 160 rfl); unfold In at a17)); exact ⟨by omega, by omega⟩
          refine g_iastore 10 (gd rfl) rfl (n := 8000) rfl (in_ix i153x9 rfl) ?_
          have hI153x9 := inv_sI (q := 126) (j := z140x16.toNatClampNeg) hI140x17 rfl (in_w (-2147483648) 2147483647 i152 rfl)
          refine g_aload_n 11 (gd rfl) rfl rfl ?_
          refine g_dup 12 (gd rfl) rfl rfl ?_
          refine g_getI 15 (gd rfl) rfl rfl rfl (fun z153x12 e153x12 => ?_)
          have q153x12 : z140x16 = z153x12 := (sI_F (sF_get)).trans e153x12.symm
          subst q153x12
          refine g_iconst 1 16 (gd rfl) rfl rfl ?_
          refine g_iadd 17 (gd rfl) rfl (fun z153x16 e153x16 => ?_)
          have i153x16 := in_add 1 8000 e153x16 i153x9 (in_c 1 rfl) rfl rfl
          refine g_putI 20 (gd rfl) rfl rfl rfl rfl ?_
          have hI153x17 := inv_sF (q := 109) (j := 26) hI153x9 rfl (in_w 0 8000 i153x16 rfl)
          refine g_return (gd rfl) rfl (hp153 _ _ ?_)
          show GG _ _ _ _ _ _ _ _ [] _ _ _
          refine g_aload_n 157 (gd rfl) rfl rfl ?_
          refine g_bipush 59 159 (gd rfl) rfl rfl ?_
          refine g_callv (X := _) (As := [.int (Int32.ofInt 59)]) (r := []) (b := A 109) (q := 109) 162 (gd rfl) rfl rfl rfl rfl rfl (ww_o rfl) (Nat.le_of_ble_eq_true rfl) (mc := 0) (ms := 0) (Nat.zero_le _) (Nat.zero_le _) (P := fun v u => _) ?_ (fun e u h => h) (fun v u h => h)
          intro po159 xx159 hp159 hx159
          refine g_enter2 (k := 306) (N := 300) (by first | exact dq1 hd rfl | exact dq0 hd rfl | exact dq2 hd rfl | exact dq3 hd rfl | omega) rfl (Nat.le_of_ble_eq_true rfl) ?_
          refine g_aload_n 1 (gd rfl) rfl rfl ?_
          refine g_getA (q2 := 126) 4 (gd rfl) rfl rfl rfl rfl ?_
          refine g_aload_n 5 (gd rfl) rfl rfl ?_
          refine g_getI 8 (gd rfl) rfl rfl rfl (fun z159x5 e159x5 => ?_)
          have q159x5 : z153x16 = z159x5 := (sF_get).trans e159x5.symm
          subst q159x5
          refine g_iload_n 9 (gd rfl) rfl rfl ?_
          have i159x9 : In z153x16 0 7999 := by (first | have a0 := oa7 ro_109_20 ro_109_19 ro_109_18 i94x9 i79 ((in_c 59 rfl)) i153x16 | ((first | have a0 := in_u ro_109_20 | (have a0 := ro_109_20; unfold In at a0)); (first | have a1 := in_u ro_109_19 | (have a1 := ro_109_19; unfold In at a1)); (first | have a2 := in_u ro_109_18 | (have a2 := ro_109_18; unfold In at a2)); (first | have a3 := in_u i94x9 | (have a3 := i94x9; unfold In at a3)); (first | have a4 := in_u i79 | (have a4 := i79; unfold In at a4)); (first | have a5 := in_u ((in_c 59 rfl)) | (have a5 := (in_c 59 rfl); unfold In at a5)); (first | have a6 := in_u i153x16 | (have a6 := i153x16; unfold In at a6)))); have a7 := t_add e153x16 i153x9 (in_c 1 rfl) rfl; (first | have a8 := oa2 ((in_c 1 rfl)) i153x9 | ((first | have a8 := in_u ((in_c 1 rfl)) | (have a8 := (in_c 1 rfl); unfold In at a8)); (first | have a9 := in_u i153x9 | (have a9 := i153x9; unfold In at a9)))); have a10 := t_add e140x16 i140x9 (in_c 1 rfl) rfl; (first | have a11 := oa2 i140x9 i152 | ((first | have a11 := in_u i140x9 | (have a11 := i140x9; unfold In at a11)); (first | have a12 := in_u i152 | (have a12 := i152; unfold In at a12)))); have a13 := t_add e152 (in_c 97 rfl) i151 rfl; (first | have a14 := oa3 i151 ((in_c 97 rfl)) i94x16 | ((first | have a14 := in_u i151 | (have a14 := i151; unfold In at a14)); (first | have a15 := in_u ((in_c 97 rfl)) | (have a15 := (in_c 97 rfl); unfold In at a15)); (first | have a16 := in_u i94x16 | (have a16 := i94x16; unfold In at a16)))); have a17 := t_add e94x16 i94x9 (in_c 1 rfl) rfl; (first | have a18 := in_u i78 | (have a18 := i78; unfold In at a18)); have a19 := t_add e78 ro_109_19 (in_c 160 rfl) rfl; (first | have a20 := in_u ((in_c 160 rfl)) | (have a20 := (in_c 160 rfl); unfold In at a20)); exact ⟨by omega, by omega⟩
          refine g_iastore 10 (gd rfl) rfl (n := 8000) rfl (in_ix i159x9 rfl) ?_
          have hI159x9 := inv_sI (q := 126) (j := z153x16.toNatClampNeg) hI153x17 rfl (in_w (-2147483648) 2147483647 (in_c 59 rfl) rfl)
          refine g_aload_n 11 (gd rfl) rfl rfl ?_
          refine g_dup 12 (gd rfl) rfl rfl ?_
          refine g_getI 15 (gd rfl) rfl rfl rfl (fun z159x12 e159x12 => ?_)
          have q159x12 : z153x16 = z159x12 := (sI_F (sF_get)).trans e159x12.symm
          subst q159x12
          refine g_iconst 1 16 (gd rfl) rfl rfl ?_
          refine g_iadd 17 (gd rfl) rfl (fun z159x16 e159x16 => ?_)
          have i159x16 := in_add 1 8000 e159x16 i159x9 (in_c 1 rfl) rfl rfl
          refine g_putI 20 (gd rfl) rfl rfl rfl rfl ?_
          have hI159x17 := inv_sF (q := 109) (j := 26) hI159x9 rfl (in_w 0 8000 i159x16 rfl)
          refine g_return (gd rfl) rfl (hp159 _ _ ?_)
          show GG _ _ _ _ _ _ _ _ [] _ _ _
          refine g_iinc 165 (gd rfl) rfl rfl (Nat.le_of_ble_eq_true rfl) (fun z162 e162 => ?_)
          have i162 := in_add 1 320 e162 i79 (in_c 1 rfl) rfl rfl
          refine g_goto 70 (gd rfl) rfl ?_
          have v70 : z159x16 = (sF (sI (sF (sI (sF (sI s134 126 z134a.toNatClampNeg (Int32.ofInt 32)) 109 26 z140x16) 126 z140x16.toNatClampNeg z152) 109 26 z153x16) 126 z153x16.toNatClampNeg (Int32.ofInt 59)) 109 26 z159x16).2.2.1 109 26 := sF_get
          have n70 : (z159x16).toInt ≤ 128 + 40 * ((z162).toInt - (u_109_19).toInt) := by (first | have a0 := oa6 ro_109_20 ro_109_19 ro_109_18 i94x9 i79 i162 | ((first | have a0 := in_u ro_109_20 | (have a0 := ro_109_20; unfold In at a0)); (first | have a1 := in_u ro_109_19 | (have a1 := ro_109_19; unfold In at a1)); (first | have a2 := in_u ro_109_18 | (have a2 := ro_109_18; unfold In at a2)); (first | have a3 := in_u i94x9 | (have a3 := i94x9; unfold In at a3)); (first | have a4 := in_u i79 | (have a4 := i79; unfold In at a4)); (first | have a5 := in_u i162 | (have a5 := i162; unfold In at a5)))); have a6 := t_add e162 i79 (in_c 1 rfl) rfl; (first | have a7 := oa2 ((in_c 1 rfl)) i159x16 | ((first | have a7 := in_u ((in_c 1 rfl)) | (have a7 := (in_c 1 rfl); unfold In at a7)); (first | have a8 := in_u i159x16 | (have a8 := i159x16; unfold In at a8)))); have a9 := t_add e159x16 i159x9 (in_c 1 rfl) rfl; (first | have a10 := in_u i159x9 | (have a10 := i159x9; unfold In at a10)); have a11 := t_add e153x16 i153x9 (in_c 1 rfl) rfl; (first | have a12 := in_u i153x9 | (have a12 := i153x9; unfold In at a12)); have a13 := t_add e140x16 i140x9 (in_c 1 rfl) rfl; (first | have a14 := oa2 i140x9 i152 | ((first | have a14 := in_u i140x9 | (have a14 := i140x9; unfold In at a14)); (first | have a15 := in_u i152 | (have a15 := i152; unfold In at a15)))); have a16 := t_add e152 (in_c 97 rfl) i151 rfl; (first | have a17 := oa3 i151 ((in_c 97 rfl)) i94x16 | ((first | have a17 := in_u i151 | (have a17 := i151; unfold In at a17)); (first | have a18 := in_u ((in_c 97 rfl)) | (have a18 := (in_c 97 rfl); unfold In at a18)); (first | have a19 := in_u i94x16 | (have a19 := i94x16; unfold In at a19)))); have a20 := t_add e94x16 i94x9 (in_c 1 rfl) rfl; (first | have a21 := in_u i78 | (have a21 := i78; unfold In at a21)); have a22 := t_add e78 ro_109_19 (in_c 160 rfl) rfl; (first | have a23 := in_u ((in_c 160 rfl)) | (have a23 := (in_c 160 rfl); unfold In at a23)); omega
          have n70a : (u_109_19).toInt ≤ (z162).toInt := by (first | have a0 := oa6 ro_109_20 ro_109_19 ro_109_18 i94x9 i79 i162 | ((first | have a0 := in_u ro_109_20 | (have a0 := ro_109_20; unfold In at a0)); (first | have a1 := in_u ro_109_19 | (have a1 := ro_109_19; unfold In at a1)); (first | have a2 := in_u ro_109_18 | (have a2 := ro_109_18; unfold In at a2)); (first | have a3 := in_u i94x9 | (have a3 := i94x9; unfold In at a3)); (first | have a4 := in_u i79 | (have a4 := i79; unfold In at a4)); (first | have a5 := in_u i162 | (have a5 := i162; unfold In at a5)))); have a6 := t_add e162 i79 (in_c 1 rfl) rfl; (first | have a7 := oa2 ((in_c 1 rfl)) i159x16 | ((first | have a7 := in_u ((in_c 1 rfl)) | (have a7 := (in_c 1 rfl); unfold In at a7)); (first | have a8 := in_u i159x16 | (have a8 := i159x16; unfold In at a8)))); have a9 := t_add e159x16 i159x9 (in_c 1 rfl) rfl; (first | have a10 := in_u i159x9 | (have a10 := i159x9; unfold In at a10)); have a11 := t_add e153x16 i153x9 (in_c 1 rfl) rfl; (first | have a12 := in_u i153x9 | (have a12 := i153x9; unfold In at a12)); have a13 := t_add e140x16 i140x9 (in_c 1 rfl) rfl; (first | have a14 := oa2 i140x9 i152 | ((first | have a14 := in_u i140x9 | (have a14 := i140x9; unfold In at a14)); (first | have a15 := in_u i152 | (have a15 := i152; unfold In at a15)))); have a16 := t_add e152 (in_c 97 rfl) i151 rfl; (first | have a17 := oa3 i151 ((in_c 97 rfl)) i94x16 | ((first | have a17 := in_u i151 | (have a17 := i151; unfold In at a17)); (first | have a18 := in_u ((in_c 97 rfl)) | (have a18 := (in_c 97 rfl); unfold In at a18)); (first | have a19 := in_u i94x16 | (have a19 := i94x16; unfold In at a19)))); have a20 := t_add e94x16 i94x9 (in_c 1 rfl) rfl; (first | have a21 := in_u i78 | (have a21 := i78; unfold In at a21)); have a22 := t_add e78 ro_109_19 (in_c 160 rfl) rfl; (first | have a23 := in_u ((in_c 160 rfl)) | (have a23 := (in_c 160 rfl); unfold In at a23)); omega
          exact gg_w (by first | exact Nat.le_add_right _ _ | exact gw2 | exact gw3 | exact gwe rfl | exact gwf rfl | exact gwg rfl | exact gwh rfl | omega) (gg_f (gf_cons rfl (gf_cons rfl gf_nil)) (ih70 (sF (sI (sF (sI (sF (sI s134 126 z134a.toNatClampNeg (Int32.ofInt 32)) 109 26 z140x16) 126 z140x16.toNatClampNeg z152) 109 26 z153x16) 126 z153x16.toNatClampNeg (Int32.ofInt 59)) 109 26 z159x16) z162 z159x16 hI159x17 (fr_sF rfl (fr_sI rfl (fr_sF rfl (fr_sI rfl (fr_sF rfl (fr_sI rfl (fr_tr rfl (fr_tr rfl (fr_tr rfl (fr_tr rfl (fr_sF rfl (fr_sI rfl hFc70)) hF104) hF114) hF124) hF134))))))) (in_w 0 400 i162 rfl) v70 n70 n70a (m_up mm70 (t_add e162 i79 (in_c 1 rfl) rfl) (in_w 1 1 (in_c 1 rfl) rfl))))
  have ct12 : ∀ (k12 : Nat) (sc12 : GS) (y12_1 : Int32) (w12_109_26 : Int32), Inv sc12 → Fr fm_308 s sc12 → (In y12_1 0 32) → (w12_109_26 = sc12.2.2.1 109 26) → ((w12_109_26).toInt ≤ 4 * (y12_1).toInt) → 32 - (y12_1).toInt < (k12 : Int) → GG Z (d - 1) 308 post (gx xp) (360902 + k12 * 900) 12 (fun j => xlook j [(0, .ref (A 109)), (1, .int y12_1)]) [] (WW Z A sc12 ++ ex) 0 0 := by
    intro k12
    induction k12 with
    | zero => intro sc12 y12_1 w12_109_26 hIc12 hFc12 j12_1 v12_109_26 n12_0 mm12; exact m_no mm12 j12_1 rfl
    | succ k12 ih12 =>
      intro sc12 y12_1 w12_109_26 hIc12 hFc12 j12_1 v12_109_26 n12_0 mm12
      refine gg_w (M := 360902 + k12 * 900 + 900) gws ?_
      refine g_iload_n 13 (gd rfl) rfl rfl ?_
      refine g_aload_n 14 (gd rfl) rfl rfl ?_
      refine g_getI 17 (gd rfl) rfl rfl rfl (fun z14 e14 => ?_)
      have q14 : u_109_20 = z14 := (fr_F e_109_20 hFc12 rfl).trans e14.symm
      subst q14
      refine g_cmp_ge 20 65 (gd rfl) rfl rfl (fun c17 => ?_) (fun c17 => ?_)
      · skip
        refine g_aload_n 66 (gd rfl) rfl rfl ?_
        refine g_getI 69 (gd rfl) rfl rfl rfl (fun z66 e66 => ?_)
        have q66 : u_109_19 = z66 := (fr_F e_109_19 hFc12 rfl).trans e66.symm
        subst q66
        refine g_istore_n 70 (gd rfl) rfl (Nat.le_of_ble_eq_true rfl) ?_
        have n70 : (w12_109_26).toInt ≤ 128 + 40 * ((u_109_19).toInt - (u_109_19).toInt) := by (first | have a0 := oa5 ro_109_20 ro_109_19 ro_109_18 ((inv_F hIc12 0 8000 rfl v12_109_26)) j12_1 | ((first | have a0 := in_u ro_109_20 | (have a0 := ro_109_20; unfold In at a0)); (first | have a1 := in_u ro_109_19 | (have a1 := ro_109_19; unfold In at a1)); (first | have a2 := in_u ro_109_18 | (have a2 := ro_109_18; unfold In at a2)); (first | have a3 := in_u ((inv_F hIc12 0 8000 rfl v12_109_26)) | (have a3 := (inv_F hIc12 0 8000 rfl v12_109_26); unfold In at a3)); (first | have a4 := in_u j12_1 | (have a4 := j12_1; unfold In at a4)))); omega
        have n70a : (u_109_19).toInt ≤ (u_109_19).toInt := by exact Int.le_refl _
        exact gg_w (by first | exact Nat.le_add_right _ _ | exact gw2 | exact gw3 | exact gwe rfl | exact gwf rfl | exact gwg rfl | exact gwh rfl | omega) (gg_f (gf_cons rfl (gf_cons rfl gf_nil)) (ct70 401 sc12 u_109_19 w12_109_26 hIc12 hFc12 (in_w 0 400 ro_109_19 rfl) v12_109_26 n70 n70a (m_in 401 (in_w 0 400 ro_109_19 rfl) rfl)))
      · skip
        have i17 := r_lt1 0 31 c17 j12_1 ro_109_20 rfl
        have i17a := r_lt2 1 32 c17 j12_1 ro_109_20 rfl
        refine g_aload_n 21 (gd rfl) rfl rfl ?_
        refine g_bipush 110 23 (gd rfl) rfl rfl ?_
        refine g_callv (X := _) (As := [.int (Int32.ofInt 110)]) (r := []) (b := A 109) (q := 109) 26 (gd rfl) rfl rfl rfl rfl rfl (ww_o rfl) (Nat.le_of_ble_eq_true rfl) (mc := 0) (ms := 0) (Nat.zero_le _) (Nat.zero_le _) (P := fun v u => _) ?_ (fun e u h => h) (fun v u h => h)
        intro po23 xx23 hp23 hx23
        refine g_enter2 (k := 306) (N := 300) (by first | exact dq1 hd rfl | exact dq0 hd rfl | exact dq2 hd rfl | exact dq3 hd rfl | omega) rfl (Nat.le_of_ble_eq_true rfl) ?_
        refine g_aload_n 1 (gd rfl) rfl rfl ?_
        refine g_getA (q2 := 126) 4 (gd rfl) rfl rfl rfl rfl ?_
        refine g_aload_n 5 (gd rfl) rfl rfl ?_
        refine g_getI 8 (gd rfl) rfl rfl rfl (fun z23x5 e23x5 => ?_)
        have q23x5 : w12_109_26 = z23x5 := (v12_109_26).trans e23x5.symm
        subst q23x5
        refine g_iload_n 9 (gd rfl) rfl rfl ?_
        have i23x9 : In w12_109_26 0 7999 := by (first | have a0 := oa6 i17a ro_109_19 ro_109_18 ((inv_F hIc12 0 8000 rfl v12_109_26)) i17 ((in_c 110 rfl)) | ((first | have a0 := in_u i17a | (have a0 := i17a; unfold In at a0)); (first | have a1 := in_u ro_109_19 | (have a1 := ro_109_19; unfold In at a1)); (first | have a2 := in_u ro_109_18 | (have a2 := ro_109_18; unfold In at a2)); (first | have a3 := in_u ((inv_F hIc12 0 8000 rfl v12_109_26)) | (have a3 := (inv_F hIc12 0 8000 rfl v12_109_26); unfold In at a3)); (first | have a4 := in_u i17 | (have a4 := i17; unfold In at a4)); (first | have a5 := in_u ((in_c 110 rfl)) | (have a5 := (in_c 110 rfl); unfold In at a5)))); exact ⟨by omega, by omega⟩
        refine g_iastore 10 (gd rfl) rfl (n := 8000) rfl (in_ix i23x9 rfl) ?_
        have hI23x9 := inv_sI (q := 126) (j := w12_109_26.toNatClampNeg) hIc12 rfl (in_w (-2147483648) 2147483647 (in_c 110 rfl) rfl)
        refine g_aload_n 11 (gd rfl) rfl rfl ?_
        refine g_dup 12 (gd rfl) rfl rfl ?_
        refine g_getI 15 (gd rfl) rfl rfl rfl (fun z23x12 e23x12 => ?_)
        have q23x12 : w12_109_26 = z23x12 := (sI_F (v12_109_26)).trans e23x12.symm
        subst q23x12
        refine g_iconst 1 16 (gd rfl) rfl rfl ?_
        refine g_iadd 17 (gd rfl) rfl (fun z23x16 e23x16 => ?_)
        have i23x16 := in_add 1 8000 e23x16 i23x9 (in_c 1 rfl) rfl rfl
        refine g_putI 20 (gd rfl) rfl rfl rfl rfl ?_
        have hI23x17 := inv_sF (q := 109) (j := 26) hI23x9 rfl (in_w 0 8000 i23x16 rfl)
        refine g_return (gd rfl) rfl (hp23 _ _ ?_)
        show GG _ _ _ _ _ _ _ _ [] _ _ _
        refine g_aload_n 27 (gd rfl) rfl rfl ?_
        refine g_bipush 32 29 (gd rfl) rfl rfl ?_
        refine g_callv (X := _) (As := [.int (Int32.ofInt 32)]) (r := []) (b := A 109) (q := 109) 32 (gd rfl) rfl rfl rfl rfl rfl (ww_o rfl) (Nat.le_of_ble_eq_true rfl) (mc := 0) (ms := 0) (Nat.zero_le _) (Nat.zero_le _) (P := fun v u => _) ?_ (fun e u h => h) (fun v u h => h)
        intro po29 xx29 hp29 hx29
        refine g_enter2 (k := 306) (N := 300) (by first | exact dq1 hd rfl | exact dq0 hd rfl | exact dq2 hd rfl | exact dq3 hd rfl | omega) rfl (Nat.le_of_ble_eq_true rfl) ?_
        refine g_aload_n 1 (gd rfl) rfl rfl ?_
        refine g_getA (q2 := 126) 4 (gd rfl) rfl rfl rfl rfl ?_
        refine g_aload_n 5 (gd rfl) rfl rfl ?_
        refine g_getI 8 (gd rfl) rfl rfl rfl (fun z29x5 e29x5 => ?_)
        have q29x5 : z23x16 = z29x5 := (sF_get).trans e29x5.symm
        subst q29x5
        refine g_iload_n 9 (gd rfl) rfl rfl ?_
        have i29x9 : In z23x16 0 7999 := by (first | have a0 := oa7 i17a ro_109_19 ro_109_18 i23x9 i17 ((in_c 32 rfl)) i23x16 | ((first | have a0 := in_u i17a | (have a0 := i17a; unfold In at a0)); (first | have a1 := in_u ro_109_19 | (have a1 := ro_109_19; unfold In at a1)); (first | have a2 := in_u ro_109_18 | (have a2 := ro_109_18; unfold In at a2)); (first | have a3 := in_u i23x9 | (have a3 := i23x9; unfold In at a3)); (first | have a4 := in_u i17 | (have a4 := i17; unfold In at a4)); (first | have a5 := in_u ((in_c 32 rfl)) | (have a5 := (in_c 32 rfl); unfold In at a5)); (first | have a6 := in_u i23x16 | (have a6 := i23x16; unfold In at a6)))); have a7 := t_add e23x16 i23x9 (in_c 1 rfl) rfl; (first | have a8 := in_u ((in_c 1 rfl)) | (have a8 := (in_c 1 rfl); unfold In at a8)); exact ⟨by omega, by omega⟩
        refine g_iastore 10 (gd rfl) rfl (n := 8000) rfl (in_ix i29x9 rfl) ?_
        have hI29x9 := inv_sI (q := 126) (j := z23x16.toNatClampNeg) hI23x17 rfl (in_w (-2147483648) 2147483647 (in_c 32 rfl) rfl)
        refine g_aload_n 11 (gd rfl) rfl rfl ?_
        refine g_dup 12 (gd rfl) rfl rfl ?_
        refine g_getI 15 (gd rfl) rfl rfl rfl (fun z29x12 e29x12 => ?_)
        have q29x12 : z23x16 = z29x12 := (sI_F (sF_get)).trans e29x12.symm
        subst q29x12
        refine g_iconst 1 16 (gd rfl) rfl rfl ?_
        refine g_iadd 17 (gd rfl) rfl (fun z29x16 e29x16 => ?_)
        have i29x16 := in_add 1 8000 e29x16 i29x9 (in_c 1 rfl) rfl rfl
        refine g_putI 20 (gd rfl) rfl rfl rfl rfl ?_
        have hI29x17 := inv_sF (q := 109) (j := 26) hI29x9 rfl (in_w 0 8000 i29x16 rfl)
        refine g_return (gd rfl) rfl (hp29 _ _ ?_)
        show GG _ _ _ _ _ _ _ _ [] _ _ _
        refine g_aload_n 33 (gd rfl) rfl rfl ?_
        refine g_bipush 97 35 (gd rfl) rfl rfl ?_
        refine g_aload_n 36 (gd rfl) rfl rfl ?_
        refine g_getA (q2 := 111) 39 (gd rfl) rfl rfl rfl rfl ?_
        refine g_bipush 32 41 (gd rfl) rfl rfl ?_
        refine g_aload_n 42 (gd rfl) rfl rfl ?_
        refine g_getI 45 (gd rfl) rfl rfl rfl (fun z42 e42 => ?_)
        have q42 : u_109_18 = z42 := (sF_ne rfl (sI_F (sF_ne rfl (sI_F (fr_F e_109_18 hFc12 rfl))))).trans e42.symm
        subst q42
        refine g_imul 46 (gd rfl) rfl (fun z45 e45 => ?_)
        have i45 := in_mulc 32 0 32 (Or.inl e45) ro_109_18 rfl rfl
        refine g_iload_n 47 (gd rfl) rfl rfl ?_
        refine g_iadd 48 (gd rfl) rfl (fun z47 e47 => ?_)
        have i47 := in_add 0 63 e47 i45 i17 rfl rfl
        refine g_iaload 49 (gd rfl) rfl (n := 96) rfl (in_ix i47 rfl) (fun z48 e48 => ?_)
        have i48 := inv_I hI29x17 (n := 96) (t := 0) 0 25 rfl (in_ix i47 rfl) rfl e48
        refine g_iadd 50 (gd rfl) rfl (fun z49 e49 => ?_)
        have i49 := in_add 97 122 e49 (in_c 97 rfl) i48 rfl rfl
        refine g_callv (X := _) (As := [.int z49]) (r := []) (b := A 109) (q := 109) 53 (gd rfl) rfl rfl rfl rfl rfl (ww_o rfl) (Nat.le_of_ble_eq_true rfl) (mc := 0) (ms := 0) (Nat.zero_le _) (Nat.zero_le _) (P := fun v u => _) ?_ (fun e u h => h) (fun v u h => h)
        intro po50 xx50 hp50 hx50
        refine g_enter2 (k := 306) (N := 300) (by first | exact dq1 hd rfl | exact dq0 hd rfl | exact dq2 hd rfl | exact dq3 hd rfl | omega) rfl (Nat.le_of_ble_eq_true rfl) ?_
        refine g_aload_n 1 (gd rfl) rfl rfl ?_
        refine g_getA (q2 := 126) 4 (gd rfl) rfl rfl rfl rfl ?_
        refine g_aload_n 5 (gd rfl) rfl rfl ?_
        refine g_getI 8 (gd rfl) rfl rfl rfl (fun z50x5 e50x5 => ?_)
        have q50x5 : z29x16 = z50x5 := (sF_get).trans e50x5.symm
        subst q50x5
        refine g_iload_n 9 (gd rfl) rfl rfl ?_
        have i50x9 : In z29x16 0 7999 := by (first | have a0 := oa6 i17a ro_109_19 ro_109_18 i23x9 i17 i49 | ((first | have a0 := in_u i17a | (have a0 := i17a; unfold In at a0)); (first | have a1 := in_u ro_109_19 | (have a1 := ro_109_19; unfold In at a1)); (first | have a2 := in_u ro_109_18 | (have a2 := ro_109_18; unfold In at a2)); (first | have a3 := in_u i23x9 | (have a3 := i23x9; unfold In at a3)); (first | have a4 := in_u i17 | (have a4 := i17; unfold In at a4)); (first | have a5 := in_u i49 | (have a5 := i49; unfold In at a5)))); have a6 := t_add e49 (in_c 97 rfl) i48 rfl; (first | have a7 := oa3 i48 ((in_c 97 rfl)) i29x16 | ((first | have a7 := in_u i48 | (have a7 := i48; unfold In at a7)); (first | have a8 := in_u ((in_c 97 rfl)) | (have a8 := (in_c 97 rfl); unfold In at a8)); (first | have a9 := in_u i29x16 | (have a9 := i29x16; unfold In at a9)))); have a10 := t_add e29x16 i29x9 (in_c 1 rfl) rfl; (first | have a11 := oa2 ((in_c 1 rfl)) i29x9 | ((first | have a11 := in_u ((in_c 1 rfl)) | (have a11 := (in_c 1 rfl); unfold In at a11)); (first | have a12 := in_u i29x9 | (have a12 := i29x9; unfold In at a12)))); have a13 := t_add e23x16 i23x9 (in_c 1 rfl) rfl; (first | have a14 := in_u i47 | (have a14 := i47; unfold In at a14)); have a15 := t_add e47 i45 i17 rfl; (first | have a16 := in_u i45 | (have a16 := i45; unfold In at a16)); have a17 := (t_mulc 32 (Or.inl e45) ro_109_18 rfl).1; exact ⟨by omega, by omega⟩
        refine g_iastore 10 (gd rfl) rfl (n := 8000) rfl (in_ix i50x9 rfl) ?_
        have hI50x9 := inv_sI (q := 126) (j := z29x16.toNatClampNeg) hI29x17 rfl (in_w (-2147483648) 2147483647 i49 rfl)
        refine g_aload_n 11 (gd rfl) rfl rfl ?_
        refine g_dup 12 (gd rfl) rfl rfl ?_
        refine g_getI 15 (gd rfl) rfl rfl rfl (fun z50x12 e50x12 => ?_)
        have q50x12 : z29x16 = z50x12 := (sI_F (sF_get)).trans e50x12.symm
        subst q50x12
        refine g_iconst 1 16 (gd rfl) rfl rfl ?_
        refine g_iadd 17 (gd rfl) rfl (fun z50x16 e50x16 => ?_)
        have i50x16 := in_add 1 8000 e50x16 i50x9 (in_c 1 rfl) rfl rfl
        refine g_putI 20 (gd rfl) rfl rfl rfl rfl ?_
        have hI50x17 := inv_sF (q := 109) (j := 26) hI50x9 rfl (in_w 0 8000 i50x16 rfl)
        refine g_return (gd rfl) rfl (hp50 _ _ ?_)
        show GG _ _ _ _ _ _ _ _ [] _ _ _
        refine g_aload_n 54 (gd rfl) rfl rfl ?_
        refine g_bipush 59 56 (gd rfl) rfl rfl ?_
        refine g_callv (X := _) (As := [.int (Int32.ofInt 59)]) (r := []) (b := A 109) (q := 109) 59 (gd rfl) rfl rfl rfl rfl rfl (ww_o rfl) (Nat.le_of_ble_eq_true rfl) (mc := 0) (ms := 0) (Nat.zero_le _) (Nat.zero_le _) (P := fun v u => _) ?_ (fun e u h => h) (fun v u h => h)
        intro po56 xx56 hp56 hx56
        refine g_enter2 (k := 306) (N := 300) (by first | exact dq1 hd rfl | exact dq0 hd rfl | exact dq2 hd rfl | exact dq3 hd rfl | omega) rfl (Nat.le_of_ble_eq_true rfl) ?_
        refine g_aload_n 1 (gd rfl) rfl rfl ?_
        refine g_getA (q2 := 126) 4 (gd rfl) rfl rfl rfl rfl ?_
        refine g_aload_n 5 (gd rfl) rfl rfl ?_
        refine g_getI 8 (gd rfl) rfl rfl rfl (fun z56x5 e56x5 => ?_)
        have q56x5 : z50x16 = z56x5 := (sF_get).trans e56x5.symm
        subst q56x5
        refine g_iload_n 9 (gd rfl) rfl rfl ?_
        have i56x9 : In z50x16 0 7999 := by (first | have a0 := oa7 i17a ro_109_19 ro_109_18 i23x9 i17 ((in_c 59 rfl)) i50x16 | ((first | have a0 := in_u i17a | (have a0 := i17a; unfold In at a0)); (first | have a1 := in_u ro_109_19 | (have a1 := ro_109_19; unfold In at a1)); (first | have a2 := in_u ro_109_18 | (have a2 := ro_109_18; unfold In at a2)); (first | have a3 := in_u i23x9 | (have a3 := i23x9; unfold In at a3)); (first | have a4 := in_u i17 | (have a4 := i17; unfold In at a4)); (first | have a5 := in_u ((in_c 59 rfl)) | (have a5 := (in_c 59 rfl); unfold In at a5)); (first | have a6 := in_u i50x16 | (have a6 := i50x16; unfold In at a6)))); have a7 := t_add e50x16 i50x9 (in_c 1 rfl) rfl; (first | have a8 := oa2 ((in_c 1 rfl)) i50x9 | ((first | have a8 := in_u ((in_c 1 rfl)) | (have a8 := (in_c 1 rfl); unfold In at a8)); (first | have a9 := in_u i50x9 | (have a9 := i50x9; unfold In at a9)))); have a10 := t_add e29x16 i29x9 (in_c 1 rfl) rfl; (first | have a11 := in_u i29x9 | (have a11 := i29x9; unfold In at a11)); have a12 := t_add e23x16 i23x9 (in_c 1 rfl) rfl; (first | have a13 := in_u i49 | (have a13 := i49; unfold In at a13)); have a14 := t_add e49 (in_c 97 rfl) i48 rfl; (first | have a15 := oa3 i48 ((in_c 97 rfl)) i47 | ((first | have a15 := in_u i48 | (have a15 := i48; unfold In at a15)); (first | have a16 := in_u ((in_c 97 rfl)) | (have a16 := (in_c 97 rfl); unfold In at a16)); (first | have a17 := in_u i47 | (have a17 := i47; unfold In at a17)))); have a18 := t_add e47 i45 i17 rfl; (first | have a19 := in_u i45 | (have a19 := i45; unfold In at a19)); have a20 := (t_mulc 32 (Or.inl e45) ro_109_18 rfl).1; exact ⟨by omega, by omega⟩
        refine g_iastore 10 (gd rfl) rfl (n := 8000) rfl (in_ix i56x9 rfl) ?_
        have hI56x9 := inv_sI (q := 126) (j := z50x16.toNatClampNeg) hI50x17 rfl (in_w (-2147483648) 2147483647 (in_c 59 rfl) rfl)
        refine g_aload_n 11 (gd rfl) rfl rfl ?_
        refine g_dup 12 (gd rfl) rfl rfl ?_
        refine g_getI 15 (gd rfl) rfl rfl rfl (fun z56x12 e56x12 => ?_)
        have q56x12 : z50x16 = z56x12 := (sI_F (sF_get)).trans e56x12.symm
        subst q56x12
        refine g_iconst 1 16 (gd rfl) rfl rfl ?_
        refine g_iadd 17 (gd rfl) rfl (fun z56x16 e56x16 => ?_)
        have i56x16 := in_add 1 8000 e56x16 i56x9 (in_c 1 rfl) rfl rfl
        refine g_putI 20 (gd rfl) rfl rfl rfl rfl ?_
        have hI56x17 := inv_sF (q := 109) (j := 26) hI56x9 rfl (in_w 0 8000 i56x16 rfl)
        refine g_return (gd rfl) rfl (hp56 _ _ ?_)
        show GG _ _ _ _ _ _ _ _ [] _ _ _
        refine g_iinc 62 (gd rfl) rfl rfl (Nat.le_of_ble_eq_true rfl) (fun z59 e59 => ?_)
        have i59 := in_add 1 32 e59 i17 (in_c 1 rfl) rfl rfl
        refine g_goto 12 (gd rfl) rfl ?_
        have v12 : z56x16 = (sF (sI (sF (sI (sF (sI (sF (sI sc12 126 w12_109_26.toNatClampNeg (Int32.ofInt 110)) 109 26 z23x16) 126 z23x16.toNatClampNeg (Int32.ofInt 32)) 109 26 z29x16) 126 z29x16.toNatClampNeg z49) 109 26 z50x16) 126 z50x16.toNatClampNeg (Int32.ofInt 59)) 109 26 z56x16).2.2.1 109 26 := sF_get
        have n12 : (z56x16).toInt ≤ 4 * (z59).toInt := by (first | have a0 := oa6 i17a ro_109_19 ro_109_18 i23x9 i17 i59 | ((first | have a0 := in_u i17a | (have a0 := i17a; unfold In at a0)); (first | have a1 := in_u ro_109_19 | (have a1 := ro_109_19; unfold In at a1)); (first | have a2 := in_u ro_109_18 | (have a2 := ro_109_18; unfold In at a2)); (first | have a3 := in_u i23x9 | (have a3 := i23x9; unfold In at a3)); (first | have a4 := in_u i17 | (have a4 := i17; unfold In at a4)); (first | have a5 := in_u i59 | (have a5 := i59; unfold In at a5)))); have a6 := t_add e59 i17 (in_c 1 rfl) rfl; (first | have a7 := oa2 ((in_c 1 rfl)) i56x16 | ((first | have a7 := in_u ((in_c 1 rfl)) | (have a7 := (in_c 1 rfl); unfold In at a7)); (first | have a8 := in_u i56x16 | (have a8 := i56x16; unfold In at a8)))); have a9 := t_add e56x16 i56x9 (in_c 1 rfl) rfl; (first | have a10 := in_u i56x9 | (have a10 := i56x9; unfold In at a10)); have a11 := t_add e50x16 i50x9 (in_c 1 rfl) rfl; (first | have a12 := in_u i50x9 | (have a12 := i50x9; unfold In at a12)); have a13 := t_add e29x16 i29x9 (in_c 1 rfl) rfl; (first | have a14 := in_u i29x9 | (have a14 := i29x9; unfold In at a14)); have a15 := t_add e23x16 i23x9 (in_c 1 rfl) rfl; (first | have a16 := in_u i49 | (have a16 := i49; unfold In at a16)); have a17 := t_add e49 (in_c 97 rfl) i48 rfl; (first | have a18 := oa3 i48 ((in_c 97 rfl)) i47 | ((first | have a18 := in_u i48 | (have a18 := i48; unfold In at a18)); (first | have a19 := in_u ((in_c 97 rfl)) | (have a19 := (in_c 97 rfl); unfold In at a19)); (first | have a20 := in_u i47 | (have a20 := i47; unfold In at a20)))); have a21 := t_add e47 i45 i17 rfl; (first | have a22 := in_u i45 | (have a22 := i45; unfold In at a22)); have a23 := (t_mulc 32 (Or.inl e45) ro_109_18 rfl).1; omega
        exact gg_w (by first | exact Nat.le_add_right _ _ | exact gw2 | exact gw3 | exact gwe rfl | exact gwf rfl | exact gwg rfl | exact gwh rfl | omega) (gg_f (gf_cons rfl (gf_cons rfl gf_nil)) (ih12 (sF (sI (sF (sI (sF (sI (sF (sI sc12 126 w12_109_26.toNatClampNeg (Int32.ofInt 110)) 109 26 z23x16) 126 z23x16.toNatClampNeg (Int32.ofInt 32)) 109 26 z29x16) 126 z29x16.toNatClampNeg z49) 109 26 z50x16) 126 z50x16.toNatClampNeg (Int32.ofInt 59)) 109 26 z56x16) z59 z56x16 hI56x17 (fr_sF rfl (fr_sI rfl (fr_sF rfl (fr_sI rfl (fr_sF rfl (fr_sI rfl (fr_sF rfl (fr_sI rfl hFc12)))))))) (in_w 0 32 i59 rfl) v12 n12 (m_up mm12 (t_add e59 i17 (in_c 1 rfl) rfl) (in_w 1 1 (in_c 1 rfl) rfl))))
  refine g_enter2 (k := 308) (N := 391502) (by first | exact dq1 hd rfl | exact dq0 hd rfl | exact dq2 hd rfl | exact dq3 hd rfl | omega) rfl (Nat.le_of_ble_eq_true rfl) ?_
  refine g_aload_n 1 (gd rfl) rfl rfl ?_
  refine g_iconst 0 2 (gd rfl) rfl rfl ?_
  refine g_putI 5 (gd rfl) rfl rfl rfl rfl ?_
  have hI2 := inv_sF (q := 109) (j := 0) hI rfl (in_w 0 2 (in_c 0 rfl) rfl)
  refine g_aload_n 6 (gd rfl) rfl rfl ?_
  refine g_iconst 0 7 (gd rfl) rfl rfl ?_
  refine g_putI 10 (gd rfl) rfl rfl rfl rfl ?_
  have hI7 := inv_sF (q := 109) (j := 26) hI2 rfl (in_w 0 8000 (in_c 0 rfl) rfl)
  refine g_iconst 0 11 (gd rfl) rfl rfl ?_
  refine g_istore_n 12 (gd rfl) rfl (Nat.le_of_ble_eq_true rfl) ?_
  have v12 : (Int32.ofInt 0) = (sF (sF s 109 0 (Int32.ofInt 0)) 109 26 (Int32.ofInt 0)).2.2.1 109 26 := sF_get
  have n12 : ((Int32.ofInt 0)).toInt ≤ 4 * ((Int32.ofInt 0)).toInt := by (first | have a0 := oa4 ro_109_20 ro_109_19 ro_109_18 ((in_c 0 rfl)) | ((first | have a0 := in_u ro_109_20 | (have a0 := ro_109_20; unfold In at a0)); (first | have a1 := in_u ro_109_19 | (have a1 := ro_109_19; unfold In at a1)); (first | have a2 := in_u ro_109_18 | (have a2 := ro_109_18; unfold In at a2)); (first | have a3 := in_u ((in_c 0 rfl)) | (have a3 := (in_c 0 rfl); unfold In at a3)))); omega
  exact gg_w (by first | exact Nat.le_of_ble_eq_true rfl | omega) (gg_f (gf_cons rfl (gf_cons rfl gf_nil)) (ct12 33 (sF (sF s 109 0 (Int32.ofInt 0)) 109 26 (Int32.ofInt 0)) (Int32.ofInt 0) (Int32.ofInt 0) hI7 (fr_sF rfl (fr_sF rfl fr_rf)) (in_w 0 32 (in_c 0 rfl) rfl) v12 n12 (m_in 33 (in_w 0 32 (in_c 0 rfl) rfl) rfl)))

def fm_309 : FM := ([], [], [(109, 0)], [])
/-- GraphHouseModel.printed -/
theorem k_309 {Z : AmZ} {A : Nat → Nat} {s : GS} {ex : va_W} {d : Nat} {X : AmX} {x1 : Int32} (hd : 4 ≤ d) (hI : Inv s)  : GC Z d 309 [.ref (A 109), .int x1] (WW Z A s ++ ex) 0 0 (fun v u => ∃ t : GS, Inv t ∧ Fr fm_309 s t ∧ ∃ z : Int32, v = some (.int z) ∧ u = WW Z A t ++ ex ∧ In z (-2147483648) 2147483647) X := by
  intro post xp hP hX
  obtain ⟨u_109_26, e_109_26⟩ : ∃ w, w = s.2.2.1 109 26 := ⟨_, rfl⟩
  have ro_109_26 := inv_F hI 0 8000 rfl e_109_26
  refine g_enter2 (k := 309) (N := 900) (by first | exact dq1 hd rfl | exact dq0 hd rfl | exact dq2 hd rfl | exact dq3 hd rfl | omega) rfl (Nat.le_of_ble_eq_true rfl) ?_
  refine g_aload_n 1 (gd rfl) rfl rfl ?_
  refine g_iload_n 2 (gd rfl) rfl rfl ?_
  refine g_if_lt 5 17 (gd rfl) rfl rfl (fun c2 => ?_) (fun c2 => ?_)
  · skip
    have i2 := z_lt (-2147483648) (-1) c2 (i_rng x1) rfl
    refine g_iconst 0 18 (gd rfl) rfl rfl ?_
    refine g_callv (X := _) (As := [.int (Int32.ofInt 0)]) (r := []) (b := A 109) (q := 109) 21 (gd rfl) rfl rfl rfl rfl rfl (ww_o rfl) (Nat.le_of_ble_eq_true rfl) (mc := 0) (ms := 0) (Nat.zero_le _) (Nat.zero_le _) (P := fun v u => _) ?_ (fun e u h => h) (fun v u h => h)
    intro po18 xx18 hp18 hx18
    refine g_enter2 (k := 271) (N := 300) (by first | exact dq1 hd rfl | exact dq0 hd rfl | exact dq2 hd rfl | exact dq3 hd rfl | omega) rfl (Nat.le_of_ble_eq_true rfl) ?_
    refine g_aload_n 1 (gd rfl) rfl rfl ?_
    refine g_iload_n 2 (gd rfl) rfl rfl ?_
    refine g_iconst 1 3 (gd rfl) rfl rfl ?_
    refine g_callv (X := _) (As := [.int (Int32.ofInt 0), .int (Int32.ofInt 1)]) (r := []) (b := A 109) (q := 109) 6 (gd rfl) rfl rfl rfl rfl rfl (ww_o rfl) (Nat.le_of_ble_eq_true rfl) (mc := 0) (ms := 0) (Nat.zero_le _) (Nat.zero_le _) (P := fun v u => _) ?_ (fun e u h => h) (fun v u h => h)
    intro po18x3 xx18x3 hp18x3 hx18x3
    refine g_enter2 (k := 270) (N := 300) (by first | exact dq1 hd rfl | exact dq0 hd rfl | exact dq2 hd rfl | exact dq3 hd rfl | omega) rfl (Nat.le_of_ble_eq_true rfl) ?_
    refine g_aload_n 1 (gd rfl) rfl rfl ?_
    refine g_iload_n 2 (gd rfl) rfl rfl ?_
    refine g_if_ne 5 9 (gd rfl) rfl rfl (fun c18x3x2 => ?_) (fun c18x3x2 => ?_)
    · skip
      exact zn_ne c18x3x2 (in_c 0 rfl) rfl
    · skip
      refine g_iconst 1 6 (gd rfl) rfl rfl ?_
      refine g_goto 18 (gd rfl) rfl ?_
      refine g_putI 21 (gd rfl) rfl rfl rfl rfl ?_
      have hI18x3x18 := inv_sF (q := 109) (j := 0) hI rfl (in_w 0 2 (in_c 1 rfl) rfl)
      refine g_aload_n 22 (gd rfl) rfl rfl ?_
      refine g_getI 25 (gd rfl) rfl rfl rfl (fun z18x3x22 e18x3x22 => ?_)
      have q18x3x22 : (Int32.ofInt 1) = z18x3x22 := (sF_get).trans e18x3x22.symm
      subst q18x3x22
      refine g_if_le 28 32 (gd rfl) rfl rfl (fun c18x3x25 => ?_) (fun c18x3x25 => ?_)
      · skip
        exact zn_le c18x3x25 (in_c 1 rfl) rfl
      · skip
        refine g_iconst 1 29 (gd rfl) rfl rfl ?_
        refine g_goto 33 (gd rfl) rfl ?_
        refine g_ireturn (gd rfl) rfl (nb01 (in_w 0 1 (in_c 1 rfl) rfl)) (hp18x3 _ _ ?_)
        show GG _ _ _ _ _ _ _ _ [.int (Int32.ofInt 1)] _ _ _
        refine g_ireturn (gd rfl) rfl (nb01 (in_w 0 1 (in_c 1 rfl) rfl)) (hp18 _ _ ?_)
        show GG _ _ _ _ _ _ _ _ [.int (Int32.ofInt 1)] _ _ _
        refine g_if_eq 24 28 (gd rfl) rfl rfl (fun c21 => ?_) (fun c21 => ?_)
        · skip
          exact zn_eq c21 (in_c 1 rfl) rfl
        · skip
          refine g_iconst 0 25 (gd rfl) rfl rfl ?_
          refine g_goto 34 (gd rfl) rfl ?_
          exact g_ireturn (gd rfl) rfl rfl (hP _ _ ⟨(sF s 109 0 (Int32.ofInt 1)), hI18x3x18, (fr_sF rfl fr_rf), (Int32.ofInt 0), rfl, rfl, in_w (-2147483648) 2147483647 (in_c 0 rfl) rfl⟩)
  · skip
    have i2 := z_ge 0 2147483647 c2 (i_rng x1) rfl
    refine g_iload_n 6 (gd rfl) rfl rfl ?_
    refine g_aload_n 7 (gd rfl) rfl rfl ?_
    refine g_getI 10 (gd rfl) rfl rfl rfl (fun z7 e7 => ?_)
    have q7 : u_109_26 = z7 := (e_109_26).trans e7.symm
    subst q7
    refine g_cmp_ge 13 17 (gd rfl) rfl rfl (fun c10 => ?_) (fun c10 => ?_)
    · skip
      refine g_iconst 0 18 (gd rfl) rfl rfl ?_
      refine g_callv (X := _) (As := [.int (Int32.ofInt 0)]) (r := []) (b := A 109) (q := 109) 21 (gd rfl) rfl rfl rfl rfl rfl (ww_o rfl) (Nat.le_of_ble_eq_true rfl) (mc := 0) (ms := 0) (Nat.zero_le _) (Nat.zero_le _) (P := fun v u => _) ?_ (fun e u h => h) (fun v u h => h)
      intro po18 xx18 hp18 hx18
      refine g_enter2 (k := 271) (N := 300) (by first | exact dq1 hd rfl | exact dq0 hd rfl | exact dq2 hd rfl | exact dq3 hd rfl | omega) rfl (Nat.le_of_ble_eq_true rfl) ?_
      refine g_aload_n 1 (gd rfl) rfl rfl ?_
      refine g_iload_n 2 (gd rfl) rfl rfl ?_
      refine g_iconst 1 3 (gd rfl) rfl rfl ?_
      refine g_callv (X := _) (As := [.int (Int32.ofInt 0), .int (Int32.ofInt 1)]) (r := []) (b := A 109) (q := 109) 6 (gd rfl) rfl rfl rfl rfl rfl (ww_o rfl) (Nat.le_of_ble_eq_true rfl) (mc := 0) (ms := 0) (Nat.zero_le _) (Nat.zero_le _) (P := fun v u => _) ?_ (fun e u h => h) (fun v u h => h)
      intro po18x3 xx18x3 hp18x3 hx18x3
      refine g_enter2 (k := 270) (N := 300) (by first | exact dq1 hd rfl | exact dq0 hd rfl | exact dq2 hd rfl | exact dq3 hd rfl | omega) rfl (Nat.le_of_ble_eq_true rfl) ?_
      refine g_aload_n 1 (gd rfl) rfl rfl ?_
      refine g_iload_n 2 (gd rfl) rfl rfl ?_
      refine g_if_ne 5 9 (gd rfl) rfl rfl (fun c18x3x2 => ?_) (fun c18x3x2 => ?_)
      · skip
        exact zn_ne c18x3x2 (in_c 0 rfl) rfl
      · skip
        refine g_iconst 1 6 (gd rfl) rfl rfl ?_
        refine g_goto 18 (gd rfl) rfl ?_
        refine g_putI 21 (gd rfl) rfl rfl rfl rfl ?_
        have hI18x3x18 := inv_sF (q := 109) (j := 0) hI rfl (in_w 0 2 (in_c 1 rfl) rfl)
        refine g_aload_n 22 (gd rfl) rfl rfl ?_
        refine g_getI 25 (gd rfl) rfl rfl rfl (fun z18x3x22 e18x3x22 => ?_)
        have q18x3x22 : (Int32.ofInt 1) = z18x3x22 := (sF_get).trans e18x3x22.symm
        subst q18x3x22
        refine g_if_le 28 32 (gd rfl) rfl rfl (fun c18x3x25 => ?_) (fun c18x3x25 => ?_)
        · skip
          exact zn_le c18x3x25 (in_c 1 rfl) rfl
        · skip
          refine g_iconst 1 29 (gd rfl) rfl rfl ?_
          refine g_goto 33 (gd rfl) rfl ?_
          refine g_ireturn (gd rfl) rfl (nb01 (in_w 0 1 (in_c 1 rfl) rfl)) (hp18x3 _ _ ?_)
          show GG _ _ _ _ _ _ _ _ [.int (Int32.ofInt 1)] _ _ _
          refine g_ireturn (gd rfl) rfl (nb01 (in_w 0 1 (in_c 1 rfl) rfl)) (hp18 _ _ ?_)
          show GG _ _ _ _ _ _ _ _ [.int (Int32.ofInt 1)] _ _ _
          refine g_if_eq 24 28 (gd rfl) rfl rfl (fun c21 => ?_) (fun c21 => ?_)
          · skip
            exact zn_eq c21 (in_c 1 rfl) rfl
          · skip
            refine g_iconst 0 25 (gd rfl) rfl rfl ?_
            refine g_goto 34 (gd rfl) rfl ?_
            exact g_ireturn (gd rfl) rfl rfl (hP _ _ ⟨(sF s 109 0 (Int32.ofInt 1)), hI18x3x18, (fr_sF rfl fr_rf), (Int32.ofInt 0), rfl, rfl, in_w (-2147483648) 2147483647 (in_c 0 rfl) rfl⟩)
    · skip
      have i10 := r_lt1 0 7999 c10 i2 ro_109_26 rfl
      have i10a := r_lt2 1 8000 c10 i2 ro_109_26 rfl
      refine g_iconst 1 14 (gd rfl) rfl rfl ?_
      refine g_goto 18 (gd rfl) rfl ?_
      refine g_callv (X := _) (As := [.int (Int32.ofInt 1)]) (r := []) (b := A 109) (q := 109) 21 (gd rfl) rfl rfl rfl rfl rfl (ww_o rfl) (Nat.le_of_ble_eq_true rfl) (mc := 0) (ms := 0) (Nat.zero_le _) (Nat.zero_le _) (P := fun v u => _) ?_ (fun e u h => h) (fun v u h => h)
      intro po18 xx18 hp18 hx18
      refine g_enter2 (k := 271) (N := 300) (by first | exact dq1 hd rfl | exact dq0 hd rfl | exact dq2 hd rfl | exact dq3 hd rfl | omega) rfl (Nat.le_of_ble_eq_true rfl) ?_
      refine g_aload_n 1 (gd rfl) rfl rfl ?_
      refine g_iload_n 2 (gd rfl) rfl rfl ?_
      refine g_iconst 1 3 (gd rfl) rfl rfl ?_
      refine g_callv (X := _) (As := [.int (Int32.ofInt 1), .int (Int32.ofInt 1)]) (r := []) (b := A 109) (q := 109) 6 (gd rfl) rfl rfl rfl rfl rfl (ww_o rfl) (Nat.le_of_ble_eq_true rfl) (mc := 0) (ms := 0) (Nat.zero_le _) (Nat.zero_le _) (P := fun v u => _) ?_ (fun e u h => h) (fun v u h => h)
      intro po18x3 xx18x3 hp18x3 hx18x3
      refine g_enter2 (k := 270) (N := 300) (by first | exact dq1 hd rfl | exact dq0 hd rfl | exact dq2 hd rfl | exact dq3 hd rfl | omega) rfl (Nat.le_of_ble_eq_true rfl) ?_
      refine g_aload_n 1 (gd rfl) rfl rfl ?_
      refine g_iload_n 2 (gd rfl) rfl rfl ?_
      refine g_if_ne 5 9 (gd rfl) rfl rfl (fun c18x3x2 => ?_) (fun c18x3x2 => ?_)
      · skip
        refine g_iload_n 10 (gd rfl) rfl rfl ?_
        refine g_if_ne 13 17 (gd rfl) rfl rfl (fun c18x3x10 => ?_) (fun c18x3x10 => ?_)
        · skip
          refine g_iconst 0 18 (gd rfl) rfl rfl ?_
          refine g_putI 21 (gd rfl) rfl rfl rfl rfl ?_
          have hI18x3x18 := inv_sF (q := 109) (j := 0) hI rfl (in_w 0 2 (in_c 0 rfl) rfl)
          refine g_aload_n 22 (gd rfl) rfl rfl ?_
          refine g_getI 25 (gd rfl) rfl rfl rfl (fun z18x3x22 e18x3x22 => ?_)
          have q18x3x22 : (Int32.ofInt 0) = z18x3x22 := (sF_get).trans e18x3x22.symm
          subst q18x3x22
          refine g_if_le 28 32 (gd rfl) rfl rfl (fun c18x3x25 => ?_) (fun c18x3x25 => ?_)
          · skip
            refine g_iconst 0 33 (gd rfl) rfl rfl ?_
            refine g_ireturn (gd rfl) rfl (nb01 (in_w 0 1 (in_c 0 rfl) rfl)) (hp18x3 _ _ ?_)
            show GG _ _ _ _ _ _ _ _ [.int (Int32.ofInt 0)] _ _ _
            refine g_ireturn (gd rfl) rfl (nb01 (in_w 0 1 (in_c 0 rfl) rfl)) (hp18 _ _ ?_)
            show GG _ _ _ _ _ _ _ _ [.int (Int32.ofInt 0)] _ _ _
            refine g_if_eq 24 28 (gd rfl) rfl rfl (fun c21 => ?_) (fun c21 => ?_)
            · skip
              refine g_aload_n 29 (gd rfl) rfl rfl ?_
              refine g_getA (q2 := 126) 32 (gd rfl) rfl rfl rfl rfl ?_
              refine g_iload_n 33 (gd rfl) rfl rfl ?_
              refine g_iaload 34 (gd rfl) rfl (n := 8000) rfl (in_ix i10 rfl) (fun z33 e33 => ?_)
              exact g_ireturn (gd rfl) rfl rfl (hP _ _ ⟨(sF s 109 0 (Int32.ofInt 0)), hI18x3x18, (fr_sF rfl fr_rf), z33, rfl, rfl, in_w (-2147483648) 2147483647 (i_rng z33) rfl⟩)
            · skip
              exact zn_ne c21 (in_c 0 rfl) rfl
          · skip
            exact zn_gt c18x3x25 (in_c 0 rfl) rfl
        · skip
          exact zn_eq c18x3x10 (in_c 1 rfl) rfl
      · skip
        exact zn_eq c18x3x2 (in_c 1 rfl) rfl

def fm_310 : FM := ([129], [], [], [])
/-- GraphHouseModel.close -/
theorem k_310 {Z : AmZ} {A : Nat → Nat} {s : GS} {ex : va_W} {d : Nat} {X : AmX} {x1 : Int32} {x2 : Int32} {x3 : Int32} (hd : 1 ≤ d) (hI : Inv s) (h1 : In x1 0 1) (h2 : In x2 (-1) 159) (h3 : In x3 (-1) 31) : GC Z d 310 [.ref (A 109), .int x1, .int x2, .int x3] (WW Z A s ++ ex) 0 0 (fun v u => ∃ t : GS, Inv t ∧ Fr fm_310 s t ∧ v = none ∧ u = WW Z A t ++ ex ∧ (∀ j : Nat, ((j : Int) < (t.2.2.1 109 20).toInt ∧ (j : Int) ≠ (x3).toInt) → bt (t.1 129 j) j = true) ∧ ((x1).toInt = 0 → (x2).toInt = -1 → (x3).toInt = -1 → RCH t (t.1 129))) X := by
  intro post xp hP hX
  obtain ⟨u_109_19, e_109_19⟩ : ∃ w, w = s.2.2.1 109 19 := ⟨_, rfl⟩
  have ro_109_19 := inv_F hI 0 160 rfl e_109_19
  obtain ⟨u_109_20, e_109_20⟩ : ∃ w, w = s.2.2.1 109 20 := ⟨_, rfl⟩
  have ro_109_20 := inv_F hI 0 32 rfl e_109_20
  have ct156 : ∀ (k156 : Nat) (sc156 : GS) (y156_4 : Int32), Inv sc156 → Fr fm_310 s sc156 → (In y156_4 0 32) → (∀ j : Nat, ((j : Int) < (u_109_20).toInt ∧ (j : Int) ≠ (x3).toInt) → bt (sc156.1 129 j) j = true) → ((x1).toInt = 0 → (x2).toInt = -1 → (x3).toInt = -1 → RQ2 s (sc156.1 129) (y156_4).toNatClampNeg) → 32 - (y156_4).toInt < (k156 : Int) → GG Z (d - 1) 310 post (gx xp) (1 + k156 * 32401) 156 (fun j => xlook j [(0, .ref (A 109)), (1, .int x1), (2, .int x2), (3, .int x3), (4, .int y156_4)]) [] (WW Z A sc156 ++ ex) 0 0 := by
    intro k156
    induction k156 with
    | zero => intro sc156 y156_4 hIc156 hFc156 j156_4 g156_0 g156_1 mm156; exact m_no mm156 j156_4 rfl
    | succ k156 ih156 =>
      intro sc156 y156_4 hIc156 hFc156 j156_4 g156_0 g156_1 mm156
      refine gg_w (M := 1 + k156 * 32401 + 32401) gws ?_
      have ct168 : ∀ (k168 : Nat) (sc168 : GS) (y168_5 : Int32), Inv sc168 → Fr fm_310 s sc168 → (In y156_4 0 31) → (In y168_5 0 32) → ((y156_4).toInt < (u_109_20).toInt) → (∀ j : Nat, ((j : Int) < (u_109_20).toInt ∧ (j : Int) ≠ (x3).toInt) → bt (sc168.1 129 j) j = true) → (RQ3 (nmx s) (sc156.1 129) (sc168.1 129) (y156_4).toNatClampNeg (y168_5).toInt) → 32 - (y168_5).toInt < (k168 : Int) → GG Z (d - 1) 310 post (gx xp) (1 + k156 * 32401 + 1 + k168 * 900) 168 (fun j => xlook j [(0, .ref (A 109)), (1, .int x1), (2, .int x2), (3, .int x3), (4, .int y156_4), (5, .int y168_5)]) [] (WW Z A sc168 ++ ex) 0 0 := by
        intro k168
        induction k168 with
        | zero => intro sc168 y168_5 hIc168 hFc168 j168_4 j168_5 n168_0 g168_0 g168_1 mm168; exact m_no mm168 j168_5 rfl
        | succ k168 ih168 =>
          intro sc168 y168_5 hIc168 hFc168 j168_4 j168_5 n168_0 g168_0 g168_1 mm168
          refine gg_w (M := 1 + k156 * 32401 + 1 + k168 * 900 + 900) gws ?_
          refine g_iload 170 (gd rfl) rfl rfl ?_
          refine g_aload_n 171 (gd rfl) rfl rfl ?_
          refine g_getI 174 (gd rfl) rfl rfl rfl (fun z171 e171 => ?_)
          have q171 : u_109_20 = z171 := (fr_F e_109_20 hFc168 rfl).trans e171.symm
          subst q171
          refine g_cmp_ge 177 220 (gd rfl) rfl rfl (fun c174 => ?_) (fun c174 => ?_)
          · skip
            refine g_iinc 223 (gd rfl) rfl rfl (Nat.le_of_ble_eq_true rfl) (fun z220 e220 => ?_)
            have i220 := in_add 1 32 e220 j168_4 (in_c 1 rfl) rfl rfl
            refine g_goto 156 (gd rfl) rfl ?_
            have n156 : ∀ j : Nat, ((j : Int) < (u_109_20).toInt ∧ (j : Int) ≠ (x3).toInt) → bt (sc168.1 129 j) j = true := by first | exact g42_0 | exact g168_0
            have n156a : (x1).toInt = 0 → (x2).toInt = -1 → (x3).toInt = -1 → RQ2 s (sc168.1 129) (z220).toNatClampNeg := by exact fun qa qb qc => (by rw [show (z220).toNatClampNeg = y156_4.toNatClampNeg + 1 from (by show z220.toInt.toNat = y156_4.toInt.toNat + 1; (first | have a0 := oa8 j168_4 h3 h2 h1 ro_109_20 ro_109_19 j168_5 i220 | ((first | have a0 := in_u j168_4 | (have a0 := j168_4; unfold In at a0)); (first | have a1 := in_u h3 | (have a1 := h3; unfold In at a1)); (first | have a2 := in_u h2 | (have a2 := h2; unfold In at a2)); (first | have a3 := in_u h1 | (have a3 := h1; unfold In at a3)); (first | have a4 := in_u ro_109_20 | (have a4 := ro_109_20; unfold In at a4)); (first | have a5 := in_u ro_109_19 | (have a5 := ro_109_19; unfold In at a5)); (first | have a6 := in_u j168_5 | (have a6 := j168_5; unfold In at a6)); (first | have a7 := in_u i220 | (have a7 := i220; unfold In at a7)))); have a8 := t_add e220 j168_4 (in_c 1 rfl) rfl; (first | have a9 := in_u ((in_c 1 rfl)) | (have a9 := (in_c 1 rfl); unfold In at a9)); (first | exact zt_s (by omega) (by omega) | omega))]; exact rq2_s hI (g156_1 qa qb qc) g168_1 (by unfold nmx; rw [← e_109_20]; (first | have a0 := oa8 j168_4 h3 h2 h1 ro_109_20 ro_109_19 j168_5 i220 | ((first | have a0 := in_u j168_4 | (have a0 := j168_4; unfold In at a0)); (first | have a1 := in_u h3 | (have a1 := h3; unfold In at a1)); (first | have a2 := in_u h2 | (have a2 := h2; unfold In at a2)); (first | have a3 := in_u h1 | (have a3 := h1; unfold In at a3)); (first | have a4 := in_u ro_109_20 | (have a4 := ro_109_20; unfold In at a4)); (first | have a5 := in_u ro_109_19 | (have a5 := ro_109_19; unfold In at a5)); (first | have a6 := in_u j168_5 | (have a6 := j168_5; unfold In at a6)); (first | have a7 := in_u i220 | (have a7 := i220; unfold In at a7)))); have a8 := t_add e220 j168_4 (in_c 1 rfl) rfl; (first | have a9 := in_u ((in_c 1 rfl)) | (have a9 := (in_c 1 rfl); unfold In at a9)); omega) (by unfold nmx; rw [← e_109_20]; show ((y156_4.toInt.toNat : Nat) : Int) < _; (first | have a0 := oa8 j168_4 h3 h2 h1 ro_109_20 ro_109_19 j168_5 i220 | ((first | have a0 := in_u j168_4 | (have a0 := j168_4; unfold In at a0)); (first | have a1 := in_u h3 | (have a1 := h3; unfold In at a1)); (first | have a2 := in_u h2 | (have a2 := h2; unfold In at a2)); (first | have a3 := in_u h1 | (have a3 := h1; unfold In at a3)); (first | have a4 := in_u ro_109_20 | (have a4 := ro_109_20; unfold In at a4)); (first | have a5 := in_u ro_109_19 | (have a5 := ro_109_19; unfold In at a5)); (first | have a6 := in_u j168_5 | (have a6 := j168_5; unfold In at a6)); (first | have a7 := in_u i220 | (have a7 := i220; unfold In at a7)))); have a8 := t_add e220 j168_4 (in_c 1 rfl) rfl; (first | have a9 := in_u ((in_c 1 rfl)) | (have a9 := (in_c 1 rfl); unfold In at a9)); omega))
            exact gg_w (by first | exact Nat.le_add_right _ _ | exact gw2 | exact gw3 | exact gwe rfl | exact gwf rfl | exact gwg rfl | exact gwh rfl | omega) (gg_f (gf_cons rfl (gf_cons rfl (gf_cons rfl (gf_cons rfl (gf_cons rfl gf_nil))))) (ih156 sc168 z220 hIc168 hFc168 (in_w 0 32 i220 rfl) n156 n156a (m_up mm156 (t_add e220 j168_4 (in_c 1 rfl) rfl) (in_w 1 1 (in_c 1 rfl) rfl))))
          · skip
            have i174 := r_lt1 0 31 c174 j168_5 ro_109_20 rfl
            have i174a := r_lt2 1 32 c174 j168_5 ro_109_20 rfl
            refine g_aload_n 178 (gd rfl) rfl rfl ?_
            refine g_getA (q2 := 129) 181 (gd rfl) rfl rfl rfl rfl ?_
            refine g_iload 183 (gd rfl) rfl rfl ?_
            refine g_dup2 184 (gd rfl) rfl rfl rfl ?_
            refine g_iaload 185 (gd rfl) rfl (n := 32) rfl (in_ix i174 rfl) (fun z184 e184 => ?_)
            refine g_aload_n 186 (gd rfl) rfl rfl ?_
            refine g_getA (q2 := 129) 189 (gd rfl) rfl rfl rfl rfl ?_
            refine g_iload 191 (gd rfl) rfl rfl ?_
            refine g_iaload 192 (gd rfl) rfl (n := 32) rfl (in_ix i174 rfl) (fun z191 e191 => ?_)
            have q191 : z184 = z191 := (e184).trans e191.symm
            subst q191
            refine g_iload 194 (gd rfl) rfl rfl ?_
            refine g_ishr 195 (gd rfl) rfl (fun z194 e194 => ?_)
            refine g_iconst 1 196 (gd rfl) rfl rfl ?_
            refine g_iand 197 (gd rfl) rfl (fun z196 e196 => ?_)
            have i196 := in_and2 e196 (in_c 1 rfl) rfl
            refine g_iconst 1 198 (gd rfl) rfl rfl ?_
            refine g_cmp_ne 201 211 (gd rfl) rfl rfl (fun c198 => ?_) (fun c198 => ?_)
            · skip
              have i198 := r_ne1 0 0 c198 i196 (in_c 1 rfl) rfl
              refine g_iconst 0 212 (gd rfl) rfl rfl ?_
              refine g_ior 213 (gd rfl) rfl (fun z212 e212 => ?_)
              refine g_iastore 214 (gd rfl) rfl (n := 32) rfl (in_ix i174 rfl) ?_
              have hI213 := inv_sI (q := 129) (j := y168_5.toNatClampNeg) hIc168 rfl (in_w (-2147483648) 2147483647 (i_rng z212) rfl)
              refine g_iinc 217 (gd rfl) rfl rfl (Nat.le_of_ble_eq_true rfl) (fun z214 e214 => ?_)
              have i214 := in_add 1 32 e214 i174 (in_c 1 rfl) rfl rfl
              refine g_goto 168 (gd rfl) rfl ?_
              have n168 : (y156_4).toInt < (u_109_20).toInt := by first | exact n168_0 | ((first | have a0 := oa8 j168_4 h3 h2 h1 i174a ro_109_19 i174 i214 | ((first | have a0 := in_u j168_4 | (have a0 := j168_4; unfold In at a0)); (first | have a1 := in_u h3 | (have a1 := h3; unfold In at a1)); (first | have a2 := in_u h2 | (have a2 := h2; unfold In at a2)); (first | have a3 := in_u h1 | (have a3 := h1; unfold In at a3)); (first | have a4 := in_u i174a | (have a4 := i174a; unfold In at a4)); (first | have a5 := in_u ro_109_19 | (have a5 := ro_109_19; unfold In at a5)); (first | have a6 := in_u i174 | (have a6 := i174; unfold In at a6)); (first | have a7 := in_u i214 | (have a7 := i214; unfold In at a7)))); have a8 := t_add e214 i174 (in_c 1 rfl) rfl; (first | have a9 := in_u ((in_c 1 rfl)) | (have a9 := (in_c 1 rfl); unfold In at a9)); omega)
              have n168a : ∀ j : Nat, ((j : Int) < (u_109_20).toInt ∧ (j : Int) ≠ (x3).toInt) → bt ((sI sc168 129 y168_5.toNatClampNeg z212).1 129 j) j = true := by first | exact g156_0 | (rw [sI_q]; exact bo_up g168_0 e184 e212)
              have n168b : RQ3 (nmx s) (sc156.1 129) ((sI sc168 129 y168_5.toNatClampNeg z212).1 129) (y156_4).toNatClampNeg (z214).toInt := by rw [show (z214).toInt = y168_5.toInt + 1 from (by (first | have a0 := oa8 j168_4 h3 h2 h1 i174a ro_109_19 i174 i214 | ((first | have a0 := in_u j168_4 | (have a0 := j168_4; unfold In at a0)); (first | have a1 := in_u h3 | (have a1 := h3; unfold In at a1)); (first | have a2 := in_u h2 | (have a2 := h2; unfold In at a2)); (first | have a3 := in_u h1 | (have a3 := h1; unfold In at a3)); (first | have a4 := in_u i174a | (have a4 := i174a; unfold In at a4)); (first | have a5 := in_u ro_109_19 | (have a5 := ro_109_19; unfold In at a5)); (first | have a6 := in_u i174 | (have a6 := i174; unfold In at a6)); (first | have a7 := in_u i214 | (have a7 := i214; unfold In at a7)))); have a8 := t_add e214 i174 (in_c 1 rfl) rfl; (first | have a9 := in_u ((in_c 1 rfl)) | (have a9 := (in_c 1 rfl); unfold In at a9)); omega), sI_q]; exact rq3_s g168_1 rfl (by (first | have a0 := oa8 j168_4 h3 h2 h1 i174a ro_109_19 i174 i214 | ((first | have a0 := in_u j168_4 | (have a0 := j168_4; unfold In at a0)); (first | have a1 := in_u h3 | (have a1 := h3; unfold In at a1)); (first | have a2 := in_u h2 | (have a2 := h2; unfold In at a2)); (first | have a3 := in_u h1 | (have a3 := h1; unfold In at a3)); (first | have a4 := in_u i174a | (have a4 := i174a; unfold In at a4)); (first | have a5 := in_u ro_109_19 | (have a5 := ro_109_19; unfold In at a5)); (first | have a6 := in_u i174 | (have a6 := i174; unfold In at a6)); (first | have a7 := in_u i214 | (have a7 := i214; unfold In at a7)))); have a8 := t_add e214 i174 (in_c 1 rfl) rfl; (first | have a9 := in_u ((in_c 1 rfl)) | (have a9 := (in_c 1 rfl); unfold In at a9)); omega) (by unfold nmx; rw [← e_109_20]; (first | have a0 := oa8 j168_4 h3 h2 h1 i174a ro_109_19 i174 i214 | ((first | have a0 := in_u j168_4 | (have a0 := j168_4; unfold In at a0)); (first | have a1 := in_u h3 | (have a1 := h3; unfold In at a1)); (first | have a2 := in_u h2 | (have a2 := h2; unfold In at a2)); (first | have a3 := in_u h1 | (have a3 := h1; unfold In at a3)); (first | have a4 := in_u i174a | (have a4 := i174a; unfold In at a4)); (first | have a5 := in_u ro_109_19 | (have a5 := ro_109_19; unfold In at a5)); (first | have a6 := in_u i174 | (have a6 := i174; unfold In at a6)); (first | have a7 := in_u i214 | (have a7 := i214; unfold In at a7)))); have a8 := t_add e214 i174 (in_c 1 rfl) rfl; (first | have a9 := in_u ((in_c 1 rfl)) | (have a9 := (in_c 1 rfl); unfold In at a9)); omega) (by unfold nmx; rw [← e_109_20]; show ((y156_4.toInt.toNat : Nat) : Int) < _; (first | have a0 := oa8 j168_4 h3 h2 h1 i174a ro_109_19 i174 i214 | ((first | have a0 := in_u j168_4 | (have a0 := j168_4; unfold In at a0)); (first | have a1 := in_u h3 | (have a1 := h3; unfold In at a1)); (first | have a2 := in_u h2 | (have a2 := h2; unfold In at a2)); (first | have a3 := in_u h1 | (have a3 := h1; unfold In at a3)); (first | have a4 := in_u i174a | (have a4 := i174a; unfold In at a4)); (first | have a5 := in_u ro_109_19 | (have a5 := ro_109_19; unfold In at a5)); (first | have a6 := in_u i174 | (have a6 := i174; unfold In at a6)); (first | have a7 := in_u i214 | (have a7 := i214; unfold In at a7)))); have a8 := t_add e214 i174 (in_c 1 rfl) rfl; (first | have a9 := in_u ((in_c 1 rfl)) | (have a9 := (in_c 1 rfl); unfold In at a9)); omega) (fun w => by rw [bt_or e212, show (Int32.ofInt 0) = (0 : Int32) from rfl, bt_z, Bool.or_false, e184]; exact ⟨Or.inl, fun h => by rcases h with h | h; (exact h); (exfalso; have hb := bt_no e194 e196 j168_4 c198; rw [e184, h.1] at hb; cases hb)⟩)
              exact gg_w (by first | exact Nat.le_add_right _ _ | exact gw2 | exact gw3 | exact gwe rfl | exact gwf rfl | exact gwg rfl | exact gwh rfl | omega) (gg_f (gf_cons rfl (gf_cons rfl (gf_cons rfl (gf_cons rfl (gf_cons rfl (gf_cons rfl gf_nil)))))) (ih168 (sI sc168 129 y168_5.toNatClampNeg z212) z214 hI213 (fr_sI rfl hFc168) (in_w 0 31 j168_4 rfl) (in_w 0 32 i214 rfl) n168 n168a n168b (m_up mm168 (t_add e214 i174 (in_c 1 rfl) rfl) (in_w 1 1 (in_c 1 rfl) rfl))))
            · skip
              have i198 := r_eq1 1 1 c198 i196 (in_c 1 rfl) rfl
              refine g_aload_n 202 (gd rfl) rfl rfl ?_
              refine g_getA (q2 := 129) 205 (gd rfl) rfl rfl rfl rfl ?_
              refine g_iload 207 (gd rfl) rfl rfl ?_
              refine g_iaload 208 (gd rfl) rfl (n := 32) rfl (in_ix j168_4 rfl) (fun z207 e207 => ?_)
              refine g_goto 212 (gd rfl) rfl ?_
              refine g_ior 213 (gd rfl) rfl (fun z212 e212 => ?_)
              refine g_iastore 214 (gd rfl) rfl (n := 32) rfl (in_ix i174 rfl) ?_
              have hI213 := inv_sI (q := 129) (j := y168_5.toNatClampNeg) hIc168 rfl (in_w (-2147483648) 2147483647 (i_rng z212) rfl)
              refine g_iinc 217 (gd rfl) rfl rfl (Nat.le_of_ble_eq_true rfl) (fun z214 e214 => ?_)
              have i214 := in_add 1 32 e214 i174 (in_c 1 rfl) rfl rfl
              refine g_goto 168 (gd rfl) rfl ?_
              have n168 : (y156_4).toInt < (u_109_20).toInt := by first | exact n168_0 | ((first | have a0 := oa8 j168_4 h3 h2 h1 i174a ro_109_19 i174 i214 | ((first | have a0 := in_u j168_4 | (have a0 := j168_4; unfold In at a0)); (first | have a1 := in_u h3 | (have a1 := h3; unfold In at a1)); (first | have a2 := in_u h2 | (have a2 := h2; unfold In at a2)); (first | have a3 := in_u h1 | (have a3 := h1; unfold In at a3)); (first | have a4 := in_u i174a | (have a4 := i174a; unfold In at a4)); (first | have a5 := in_u ro_109_19 | (have a5 := ro_109_19; unfold In at a5)); (first | have a6 := in_u i174 | (have a6 := i174; unfold In at a6)); (first | have a7 := in_u i214 | (have a7 := i214; unfold In at a7)))); have a8 := t_add e214 i174 (in_c 1 rfl) rfl; (first | have a9 := in_u ((in_c 1 rfl)) | (have a9 := (in_c 1 rfl); unfold In at a9)); omega)
              have n168a : ∀ j : Nat, ((j : Int) < (u_109_20).toInt ∧ (j : Int) ≠ (x3).toInt) → bt ((sI sc168 129 y168_5.toNatClampNeg z212).1 129 j) j = true := by first | exact g156_0 | (rw [sI_q]; exact bo_up g168_0 e184 e212)
              have n168b : RQ3 (nmx s) (sc156.1 129) ((sI sc168 129 y168_5.toNatClampNeg z212).1 129) (y156_4).toNatClampNeg (z214).toInt := by rw [show (z214).toInt = y168_5.toInt + 1 from (by (first | have a0 := oa8 j168_4 h3 h2 h1 i174a ro_109_19 i174 i214 | ((first | have a0 := in_u j168_4 | (have a0 := j168_4; unfold In at a0)); (first | have a1 := in_u h3 | (have a1 := h3; unfold In at a1)); (first | have a2 := in_u h2 | (have a2 := h2; unfold In at a2)); (first | have a3 := in_u h1 | (have a3 := h1; unfold In at a3)); (first | have a4 := in_u i174a | (have a4 := i174a; unfold In at a4)); (first | have a5 := in_u ro_109_19 | (have a5 := ro_109_19; unfold In at a5)); (first | have a6 := in_u i174 | (have a6 := i174; unfold In at a6)); (first | have a7 := in_u i214 | (have a7 := i214; unfold In at a7)))); have a8 := t_add e214 i174 (in_c 1 rfl) rfl; (first | have a9 := in_u ((in_c 1 rfl)) | (have a9 := (in_c 1 rfl); unfold In at a9)); omega), sI_q]; exact rq3_s g168_1 rfl (by (first | have a0 := oa8 j168_4 h3 h2 h1 i174a ro_109_19 i174 i214 | ((first | have a0 := in_u j168_4 | (have a0 := j168_4; unfold In at a0)); (first | have a1 := in_u h3 | (have a1 := h3; unfold In at a1)); (first | have a2 := in_u h2 | (have a2 := h2; unfold In at a2)); (first | have a3 := in_u h1 | (have a3 := h1; unfold In at a3)); (first | have a4 := in_u i174a | (have a4 := i174a; unfold In at a4)); (first | have a5 := in_u ro_109_19 | (have a5 := ro_109_19; unfold In at a5)); (first | have a6 := in_u i174 | (have a6 := i174; unfold In at a6)); (first | have a7 := in_u i214 | (have a7 := i214; unfold In at a7)))); have a8 := t_add e214 i174 (in_c 1 rfl) rfl; (first | have a9 := in_u ((in_c 1 rfl)) | (have a9 := (in_c 1 rfl); unfold In at a9)); omega) (by unfold nmx; rw [← e_109_20]; (first | have a0 := oa8 j168_4 h3 h2 h1 i174a ro_109_19 i174 i214 | ((first | have a0 := in_u j168_4 | (have a0 := j168_4; unfold In at a0)); (first | have a1 := in_u h3 | (have a1 := h3; unfold In at a1)); (first | have a2 := in_u h2 | (have a2 := h2; unfold In at a2)); (first | have a3 := in_u h1 | (have a3 := h1; unfold In at a3)); (first | have a4 := in_u i174a | (have a4 := i174a; unfold In at a4)); (first | have a5 := in_u ro_109_19 | (have a5 := ro_109_19; unfold In at a5)); (first | have a6 := in_u i174 | (have a6 := i174; unfold In at a6)); (first | have a7 := in_u i214 | (have a7 := i214; unfold In at a7)))); have a8 := t_add e214 i174 (in_c 1 rfl) rfl; (first | have a9 := in_u ((in_c 1 rfl)) | (have a9 := (in_c 1 rfl); unfold In at a9)); omega) (by unfold nmx; rw [← e_109_20]; show ((y156_4.toInt.toNat : Nat) : Int) < _; (first | have a0 := oa8 j168_4 h3 h2 h1 i174a ro_109_19 i174 i214 | ((first | have a0 := in_u j168_4 | (have a0 := j168_4; unfold In at a0)); (first | have a1 := in_u h3 | (have a1 := h3; unfold In at a1)); (first | have a2 := in_u h2 | (have a2 := h2; unfold In at a2)); (first | have a3 := in_u h1 | (have a3 := h1; unfold In at a3)); (first | have a4 := in_u i174a | (have a4 := i174a; unfold In at a4)); (first | have a5 := in_u ro_109_19 | (have a5 := ro_109_19; unfold In at a5)); (first | have a6 := in_u i174 | (have a6 := i174; unfold In at a6)); (first | have a7 := in_u i214 | (have a7 := i214; unfold In at a7)))); have a8 := t_add e214 i174 (in_c 1 rfl) rfl; (first | have a9 := in_u ((in_c 1 rfl)) | (have a9 := (in_c 1 rfl); unfold In at a9)); omega) (fun w => by have hb := bt_yes e194 e196 j168_4 c198; rw [e184] at hb; rw [bt_or e212, e184, e207]; exact ⟨fun h => by rcases (Bool.or_eq_true _ _).mp h with h | h; (exact Or.inl h); (exact Or.inr ⟨hb, h⟩), fun h => by rcases h with h | h; (rw [h, Bool.true_or]); (rw [h.2, Bool.or_true])⟩)
              exact gg_w (by first | exact Nat.le_add_right _ _ | exact gw2 | exact gw3 | exact gwe rfl | exact gwf rfl | exact gwg rfl | exact gwh rfl | omega) (gg_f (gf_cons rfl (gf_cons rfl (gf_cons rfl (gf_cons rfl (gf_cons rfl (gf_cons rfl gf_nil)))))) (ih168 (sI sc168 129 y168_5.toNatClampNeg z212) z214 hI213 (fr_sI rfl hFc168) (in_w 0 31 j168_4 rfl) (in_w 0 32 i214 rfl) n168 n168a n168b (m_up mm168 (t_add e214 i174 (in_c 1 rfl) rfl) (in_w 1 1 (in_c 1 rfl) rfl))))
      refine g_iload 158 (gd rfl) rfl rfl ?_
      refine g_aload_n 159 (gd rfl) rfl rfl ?_
      refine g_getI 162 (gd rfl) rfl rfl rfl (fun z159 e159 => ?_)
      have q159 : u_109_20 = z159 := (fr_F e_109_20 hFc156 rfl).trans e159.symm
      subst q159
      refine g_cmp_ge 165 226 (gd rfl) rfl rfl (fun c162 => ?_) (fun c162 => ?_)
      · skip
        have n226 : ∀ j : Nat, ((j : Int) < (sc156.2.2.1 109 20).toInt ∧ (j : Int) ≠ (x3).toInt) → bt (sc156.1 129 j) j = true := by intro j hj; have hn := (show u_109_20 = sc156.2.2.1 109 20 from fr_F e_109_20 hFc156 rfl); rw [← hn] at hj; exact g156_0 j hj
        have n226a : (x1).toInt = 0 → (x2).toInt = -1 → (x3).toInt = -1 → RCH sc156 (sc156.1 129) := by exact fun qa qb qc => rch_cg (rch_e (g156_1 qa qb qc) (by unfold nmx; rw [← e_109_20]; show _ ≤ ((y156_4.toInt.toNat : Nat) : Int); (first | have a0 := oa6 h3 h2 h1 ro_109_20 ro_109_19 j156_4 | ((first | have a0 := in_u h3 | (have a0 := h3; unfold In at a0)); (first | have a1 := in_u h2 | (have a1 := h2; unfold In at a1)); (first | have a2 := in_u h1 | (have a2 := h1; unfold In at a2)); (first | have a3 := in_u ro_109_20 | (have a3 := ro_109_20; unfold In at a3)); (first | have a4 := in_u ro_109_19 | (have a4 := ro_109_19; unfold In at a4)); (first | have a5 := in_u j156_4 | (have a5 := j156_4; unfold In at a5)))); omega)) (hFc156.1 112 rfl) (hFc156.1 113 rfl) (hFc156.1 114 rfl) (hFc156.2.2.1 109 19 rfl) (hFc156.2.2.1 109 20 rfl)
        exact g_return (gd rfl) rfl (hP _ _ ⟨sc156, hIc156, hFc156, rfl, rfl, n226, n226a⟩)
      · skip
        have i162 := r_lt1 0 31 c162 j156_4 ro_109_20 rfl
        have i162a := r_lt2 1 32 c162 j156_4 ro_109_20 rfl
        refine g_iconst 0 166 (gd rfl) rfl rfl ?_
        refine g_istore 168 (gd rfl) rfl (Nat.le_of_ble_eq_true rfl) ?_
        have n168 : (y156_4).toInt < (u_109_20).toInt := by (first | have a0 := oa7 h3 h2 h1 i162a ro_109_19 i162 ((in_c 0 rfl)) | ((first | have a0 := in_u h3 | (have a0 := h3; unfold In at a0)); (first | have a1 := in_u h2 | (have a1 := h2; unfold In at a1)); (first | have a2 := in_u h1 | (have a2 := h1; unfold In at a2)); (first | have a3 := in_u i162a | (have a3 := i162a; unfold In at a3)); (first | have a4 := in_u ro_109_19 | (have a4 := ro_109_19; unfold In at a4)); (first | have a5 := in_u i162 | (have a5 := i162; unfold In at a5)); (first | have a6 := in_u ((in_c 0 rfl)) | (have a6 := (in_c 0 rfl); unfold In at a6)))); omega
        have n168a : ∀ j : Nat, ((j : Int) < (u_109_20).toInt ∧ (j : Int) ≠ (x3).toInt) → bt (sc156.1 129 j) j = true := by first | exact g156_0 | (rw [sI_q]; exact bo_up g168_0 e184 e212)
        have n168b : RQ3 (nmx s) (sc156.1 129) (sc156.1 129) (y156_4).toNatClampNeg ((Int32.ofInt 0)).toInt := by exact rq3_0
        exact gg_w (by first | exact Nat.le_add_right _ _ | exact gw2 | exact gw3 | exact gwe rfl | exact gwf rfl | exact gwg rfl | exact gwh rfl | omega) (gg_f (gf_cons rfl (gf_cons rfl (gf_cons rfl (gf_cons rfl (gf_cons rfl (gf_cons rfl gf_nil)))))) (ct168 33 sc156 (Int32.ofInt 0) hIc156 hFc156 (in_w 0 31 i162 rfl) (in_w 0 32 (in_c 0 rfl) rfl) n168 n168a n168b (m_in 33 (in_w 0 32 (in_c 0 rfl) rfl) rfl)))
  have ct42 : ∀ (k42 : Nat) (sc42 : GS) (y42_4 : Int32), Inv sc42 → Fr fm_310 s sc42 → (In y42_4 0 160) → (∀ j : Nat, ((j : Int) < (u_109_20).toInt ∧ (j : Int) ≠ (x3).toInt) → bt (sc42.1 129 j) j = true) → ((x1).toInt = 0 → (x2).toInt = -1 → (x3).toInt = -1 → RQ1 s (sc42.1 129) (y42_4).toNatClampNeg) → 160 - (y42_4).toInt < (k42 : Int) → GG Z (d - 1) 310 post (gx xp) (1069235 + k42 * 900) 42 (fun j => xlook j [(0, .ref (A 109)), (1, .int x1), (2, .int x2), (3, .int x3), (4, .int y42_4)]) [] (WW Z A sc42 ++ ex) 0 0 := by
    intro k42
    induction k42 with
    | zero => intro sc42 y42_4 hIc42 hFc42 j42_4 g42_0 g42_1 mm42; exact m_no mm42 j42_4 rfl
    | succ k42 ih42 =>
      intro sc42 y42_4 hIc42 hFc42 j42_4 g42_0 g42_1 mm42
      refine gg_w (M := 1069235 + k42 * 900 + 900) gws ?_
      refine g_iload 44 (gd rfl) rfl rfl ?_
      refine g_sipush 160 47 (gd rfl) rfl rfl ?_
      refine g_cmp_ge 50 153 (gd rfl) rfl rfl (fun c47 => ?_) (fun c47 => ?_)
      · skip
        have i47 := r_le2 160 160 c47 (in_c 160 rfl) j42_4 rfl
        refine g_iconst 0 154 (gd rfl) rfl rfl ?_
        refine g_istore 156 (gd rfl) rfl (Nat.le_of_ble_eq_true rfl) ?_
        have n156 : ∀ j : Nat, ((j : Int) < (u_109_20).toInt ∧ (j : Int) ≠ (x3).toInt) → bt (sc42.1 129 j) j = true := by first | exact g42_0 | exact g168_0
        have n156a : (x1).toInt = 0 → (x2).toInt = -1 → (x3).toInt = -1 → RQ2 s (sc42.1 129) ((Int32.ofInt 0)).toNatClampNeg := by exact fun qa qb qc => ⟨by have h := g42_1 qa qb qc; rw [show y42_4.toNatClampNeg = 160 from (by show y42_4.toInt.toNat = 160; (first | have a0 := oa7 h3 h2 h1 ro_109_20 ro_109_19 i47 ((in_c 0 rfl)) | ((first | have a0 := in_u h3 | (have a0 := h3; unfold In at a0)); (first | have a1 := in_u h2 | (have a1 := h2; unfold In at a1)); (first | have a2 := in_u h1 | (have a2 := h1; unfold In at a2)); (first | have a3 := in_u ro_109_20 | (have a3 := ro_109_20; unfold In at a3)); (first | have a4 := in_u ro_109_19 | (have a4 := ro_109_19; unfold In at a4)); (first | have a5 := in_u i47 | (have a5 := i47; unfold In at a5)); (first | have a6 := in_u ((in_c 0 rfl)) | (have a6 := (in_c 0 rfl); unfold In at a6)))); (first | exact zt_e (by omega) | omega))] at h; exact h, fun v u w hv => absurd hv (Nat.not_lt_zero _)⟩
        exact gg_w (by first | exact Nat.le_add_right _ _ | exact gw2 | exact gw3 | exact gwe rfl | exact gwf rfl | exact gwg rfl | exact gwh rfl | omega) (gg_f (gf_cons rfl (gf_cons rfl (gf_cons rfl (gf_cons rfl (gf_cons rfl gf_nil))))) (ct156 33 sc42 (Int32.ofInt 0) hIc42 hFc42 (in_w 0 32 (in_c 0 rfl) rfl) n156 n156a (m_in 33 (in_w 0 32 (in_c 0 rfl) rfl) rfl)))
      · skip
        have i47 := r_lt1 0 159 c47 j42_4 (in_c 160 rfl) rfl
        refine g_aload_n 51 (gd rfl) rfl rfl ?_
        refine g_getA (q2 := 113) 54 (gd rfl) rfl rfl rfl rfl ?_
        refine g_aload_n 55 (gd rfl) rfl rfl ?_
        refine g_getI 58 (gd rfl) rfl rfl rfl (fun z55 e55 => ?_)
        have q55 : u_109_19 = z55 := (fr_F e_109_19 hFc42 rfl).trans e55.symm
        subst q55
        refine g_iload 60 (gd rfl) rfl rfl ?_
        refine g_iadd 61 (gd rfl) rfl (fun z60 e60 => ?_)
        have i60 := in_add 0 319 e60 ro_109_19 i47 rfl rfl
        refine g_iaload 62 (gd rfl) rfl (n := 480) rfl (in_ix i60 rfl) (fun z61 e61 => ?_)
        have i61 := inv_I hIc42 (n := 480) (t := 0) 0 31 rfl (in_ix i60 rfl) rfl e61
        refine g_istore 64 (gd rfl) rfl (Nat.le_of_ble_eq_true rfl) ?_
        refine g_aload_n 65 (gd rfl) rfl rfl ?_
        refine g_getA (q2 := 114) 68 (gd rfl) rfl rfl rfl rfl ?_
        refine g_aload_n 69 (gd rfl) rfl rfl ?_
        refine g_getI 72 (gd rfl) rfl rfl rfl (fun z69 e69 => ?_)
        have q69 : u_109_19 = z69 := (fr_F e_109_19 hFc42 rfl).trans e69.symm
        subst q69
        refine g_iload 74 (gd rfl) rfl rfl ?_
        refine g_iadd 75 (gd rfl) rfl (fun z74 e74 => ?_)
        have i74 := in_add 0 319 e74 ro_109_19 i47 rfl rfl
        refine g_iaload 76 (gd rfl) rfl (n := 480) rfl (in_ix i74 rfl) (fun z75 e75 => ?_)
        have i75 := inv_I hIc42 (n := 480) (t := 0) 0 31 rfl (in_ix i74 rfl) rfl e75
        refine g_istore 78 (gd rfl) rfl (Nat.le_of_ble_eq_true rfl) ?_
        refine g_aload_n 79 (gd rfl) rfl rfl ?_
        refine g_getA (q2 := 112) 82 (gd rfl) rfl rfl rfl rfl ?_
        refine g_aload_n 83 (gd rfl) rfl rfl ?_
        refine g_getI 86 (gd rfl) rfl rfl rfl (fun z83 e83 => ?_)
        have q83 : u_109_19 = z83 := (fr_F e_109_19 hFc42 rfl).trans e83.symm
        subst q83
        refine g_iload 88 (gd rfl) rfl rfl ?_
        refine g_iadd 89 (gd rfl) rfl (fun z88 e88 => ?_)
        have i88 := in_add 0 319 e88 ro_109_19 i47 rfl rfl
        refine g_baload 90 (gd rfl) rfl (n := 480) rfl (in_ix i88 rfl) (fun z89 e89 => ?_)
        have i89 := inv_I hIc42 (n := 480) (t := 3) 0 1 rfl (in_ix i88 rfl) rfl e89
        refine g_if_eq 93 147 (gd rfl) rfl rfl (fun c90 => ?_) (fun c90 => ?_)
        · skip
          have i90 := z_eq 0 0 c90 i89 rfl
          refine g_iinc 150 (gd rfl) rfl rfl (Nat.le_of_ble_eq_true rfl) (fun z147 e147 => ?_)
          have i147 := in_add 1 160 e147 i47 (in_c 1 rfl) rfl rfl
          refine g_goto 42 (gd rfl) rfl ?_
          have n42 : ∀ j : Nat, ((j : Int) < (u_109_20).toInt ∧ (j : Int) ≠ (x3).toInt) → bt (sc42.1 129 j) j = true := by first | exact g42_0 | (first | exact fun j hj => g3_0 j ⟨by (first | have a0 := oa9 h3 h2 h1 ro_109_20 ro_109_19 i47 i75 i61 i147 | ((first | have a0 := in_u h3 | (have a0 := h3; unfold In at a0)); (first | have a1 := in_u h2 | (have a1 := h2; unfold In at a1)); (first | have a2 := in_u h1 | (have a2 := h1; unfold In at a2)); (first | have a3 := in_u ro_109_20 | (have a3 := ro_109_20; unfold In at a3)); (first | have a4 := in_u ro_109_19 | (have a4 := ro_109_19; unfold In at a4)); (first | have a5 := in_u i47 | (have a5 := i47; unfold In at a5)); (first | have a6 := in_u i75 | (have a6 := i75; unfold In at a6)); (first | have a7 := in_u i61 | (have a7 := i61; unfold In at a7)); (first | have a8 := in_u i147 | (have a8 := i147; unfold In at a8)))); have a9 := t_add e147 i47 (in_c 1 rfl) rfl; (first | have a10 := oa2 ((in_c 1 rfl)) i88 | ((first | have a10 := in_u ((in_c 1 rfl)) | (have a10 := (in_c 1 rfl); unfold In at a10)); (first | have a11 := in_u i88 | (have a11 := i88; unfold In at a11)))); have a12 := t_add e88 ro_109_19 i47 rfl; (first | have a13 := in_u i74 | (have a13 := i74; unfold In at a13)); have a14 := t_add e74 ro_109_19 i47 rfl; (first | have a15 := in_u i60 | (have a15 := i60; unfold In at a15)); have a16 := t_add e60 ro_109_19 i47 rfl; omega, hj.2⟩ | exact g42_0 | (rw [sI_q, sI_q]; rw [sI_q] at e132; exact bo_up (bo_up g42_0 e118 e123) e132 e145))
          have n42a : (x1).toInt = 0 → (x2).toInt = -1 → (x3).toInt = -1 → RQ1 s (sc42.1 129) (z147).toNatClampNeg := by exact fun qa qb qc => (by rw [show (z147).toNatClampNeg = y42_4.toNatClampNeg + 1 from (by show z147.toInt.toNat = y42_4.toInt.toNat + 1; (first | have a0 := oa9 h3 h2 h1 ro_109_20 ro_109_19 i47 i75 i61 i147 | ((first | have a0 := in_u h3 | (have a0 := h3; unfold In at a0)); (first | have a1 := in_u h2 | (have a1 := h2; unfold In at a1)); (first | have a2 := in_u h1 | (have a2 := h1; unfold In at a2)); (first | have a3 := in_u ro_109_20 | (have a3 := ro_109_20; unfold In at a3)); (first | have a4 := in_u ro_109_19 | (have a4 := ro_109_19; unfold In at a4)); (first | have a5 := in_u i47 | (have a5 := i47; unfold In at a5)); (first | have a6 := in_u i75 | (have a6 := i75; unfold In at a6)); (first | have a7 := in_u i61 | (have a7 := i61; unfold In at a7)); (first | have a8 := in_u i147 | (have a8 := i147; unfold In at a8)))); have a9 := t_add e147 i47 (in_c 1 rfl) rfl; (first | have a10 := oa2 ((in_c 1 rfl)) i88 | ((first | have a10 := in_u ((in_c 1 rfl)) | (have a10 := (in_c 1 rfl); unfold In at a10)); (first | have a11 := in_u i88 | (have a11 := i88; unfold In at a11)))); have a12 := t_add e88 ro_109_19 i47 rfl; (first | have a13 := in_u i74 | (have a13 := i74; unfold In at a13)); have a14 := t_add e74 ro_109_19 i47 rfl; (first | have a15 := in_u i60 | (have a15 := i60; unfold In at a15)); have a16 := t_add e60 ro_109_19 i47 rfl; (first | exact zt_s (by omega) (by omega) | omega))]; exact rq1_no (g42_1 qa qb qc) (by rw [(bs_x (x := z88) (a := y42_4) e_109_19 (by (first | have a0 := oa9 h3 h2 h1 ro_109_20 ro_109_19 i47 i75 i61 i147 | ((first | have a0 := in_u h3 | (have a0 := h3; unfold In at a0)); (first | have a1 := in_u h2 | (have a1 := h2; unfold In at a1)); (first | have a2 := in_u h1 | (have a2 := h1; unfold In at a2)); (first | have a3 := in_u ro_109_20 | (have a3 := ro_109_20; unfold In at a3)); (first | have a4 := in_u ro_109_19 | (have a4 := ro_109_19; unfold In at a4)); (first | have a5 := in_u i47 | (have a5 := i47; unfold In at a5)); (first | have a6 := in_u i75 | (have a6 := i75; unfold In at a6)); (first | have a7 := in_u i61 | (have a7 := i61; unfold In at a7)); (first | have a8 := in_u i147 | (have a8 := i147; unfold In at a8)))); have a9 := t_add e147 i47 (in_c 1 rfl) rfl; (first | have a10 := oa2 ((in_c 1 rfl)) i88 | ((first | have a10 := in_u ((in_c 1 rfl)) | (have a10 := (in_c 1 rfl); unfold In at a10)); (first | have a11 := in_u i88 | (have a11 := i88; unfold In at a11)))); have a12 := t_add e88 ro_109_19 i47 rfl; (first | have a13 := in_u i74 | (have a13 := i74; unfold In at a13)); have a14 := t_add e74 ro_109_19 i47 rfl; (first | have a15 := in_u i60 | (have a15 := i60; unfold In at a15)); have a16 := t_add e60 ro_109_19 i47 rfl; omega) (by (first | have a0 := oa9 h3 h2 h1 ro_109_20 ro_109_19 i47 i75 i61 i147 | ((first | have a0 := in_u h3 | (have a0 := h3; unfold In at a0)); (first | have a1 := in_u h2 | (have a1 := h2; unfold In at a1)); (first | have a2 := in_u h1 | (have a2 := h1; unfold In at a2)); (first | have a3 := in_u ro_109_20 | (have a3 := ro_109_20; unfold In at a3)); (first | have a4 := in_u ro_109_19 | (have a4 := ro_109_19; unfold In at a4)); (first | have a5 := in_u i47 | (have a5 := i47; unfold In at a5)); (first | have a6 := in_u i75 | (have a6 := i75; unfold In at a6)); (first | have a7 := in_u i61 | (have a7 := i61; unfold In at a7)); (first | have a8 := in_u i147 | (have a8 := i147; unfold In at a8)))); have a9 := t_add e147 i47 (in_c 1 rfl) rfl; (first | have a10 := oa2 ((in_c 1 rfl)) i88 | ((first | have a10 := in_u ((in_c 1 rfl)) | (have a10 := (in_c 1 rfl); unfold In at a10)); (first | have a11 := in_u i88 | (have a11 := i88; unfold In at a11)))); have a12 := t_add e88 ro_109_19 i47 rfl; (first | have a13 := in_u i74 | (have a13 := i74; unfold In at a13)); have a14 := t_add e74 ro_109_19 i47 rfl; (first | have a15 := in_u i60 | (have a15 := i60; unfold In at a15)); have a16 := t_add e60 ro_109_19 i47 rfl; omega) (by (first | have a0 := oa9 h3 h2 h1 ro_109_20 ro_109_19 i47 i75 i61 i147 | ((first | have a0 := in_u h3 | (have a0 := h3; unfold In at a0)); (first | have a1 := in_u h2 | (have a1 := h2; unfold In at a1)); (first | have a2 := in_u h1 | (have a2 := h1; unfold In at a2)); (first | have a3 := in_u ro_109_20 | (have a3 := ro_109_20; unfold In at a3)); (first | have a4 := in_u ro_109_19 | (have a4 := ro_109_19; unfold In at a4)); (first | have a5 := in_u i47 | (have a5 := i47; unfold In at a5)); (first | have a6 := in_u i75 | (have a6 := i75; unfold In at a6)); (first | have a7 := in_u i61 | (have a7 := i61; unfold In at a7)); (first | have a8 := in_u i147 | (have a8 := i147; unfold In at a8)))); have a9 := t_add e147 i47 (in_c 1 rfl) rfl; (first | have a10 := oa2 ((in_c 1 rfl)) i88 | ((first | have a10 := in_u ((in_c 1 rfl)) | (have a10 := (in_c 1 rfl); unfold In at a10)); (first | have a11 := in_u i88 | (have a11 := i88; unfold In at a11)))); have a12 := t_add e88 ro_109_19 i47 rfl; (first | have a13 := in_u i74 | (have a13 := i74; unfold In at a13)); have a14 := t_add e74 ro_109_19 i47 rfl; (first | have a15 := in_u i60 | (have a15 := i60; unfold In at a15)); have a16 := t_add e60 ro_109_19 i47 rfl; omega)), ← hFc42.1 112 rfl, ← e89]; exact c90))
          exact gg_w (by first | exact Nat.le_add_right _ _ | exact gw2 | exact gw3 | exact gwe rfl | exact gwf rfl | exact gwg rfl | exact gwh rfl | omega) (gg_f (gf_cons rfl (gf_cons rfl (gf_cons rfl (gf_cons rfl (gf_cons rfl gf_nil))))) (ih42 sc42 z147 hIc42 hFc42 (in_w 0 160 i147 rfl) n42 n42a (m_up mm42 (t_add e147 i47 (in_c 1 rfl) rfl) (in_w 1 1 (in_c 1 rfl) rfl))))
        · skip
          have i90 := z_ne 1 1 c90 i89 rfl
          refine g_iload 95 (gd rfl) rfl rfl ?_
          refine g_iload_n 96 (gd rfl) rfl rfl ?_
          refine g_cmp_eq 99 147 (gd rfl) rfl rfl (fun c96 => ?_) (fun c96 => ?_)
          · skip
            have i96 := r_eq2 0 159 c96 i47 h2 rfl
            refine g_iinc 150 (gd rfl) rfl rfl (Nat.le_of_ble_eq_true rfl) (fun z147 e147 => ?_)
            have i147 := in_add 1 160 e147 i47 (in_c 1 rfl) rfl rfl
            refine g_goto 42 (gd rfl) rfl ?_
            have n42 : ∀ j : Nat, ((j : Int) < (u_109_20).toInt ∧ (j : Int) ≠ (x3).toInt) → bt (sc42.1 129 j) j = true := by first | exact g42_0 | (first | exact fun j hj => g3_0 j ⟨by (first | have a0 := oa9 h3 i96 h1 ro_109_20 ro_109_19 i47 i75 i61 i147 | ((first | have a0 := in_u h3 | (have a0 := h3; unfold In at a0)); (first | have a1 := in_u i96 | (have a1 := i96; unfold In at a1)); (first | have a2 := in_u h1 | (have a2 := h1; unfold In at a2)); (first | have a3 := in_u ro_109_20 | (have a3 := ro_109_20; unfold In at a3)); (first | have a4 := in_u ro_109_19 | (have a4 := ro_109_19; unfold In at a4)); (first | have a5 := in_u i47 | (have a5 := i47; unfold In at a5)); (first | have a6 := in_u i75 | (have a6 := i75; unfold In at a6)); (first | have a7 := in_u i61 | (have a7 := i61; unfold In at a7)); (first | have a8 := in_u i147 | (have a8 := i147; unfold In at a8)))); have a9 := t_add e147 i47 (in_c 1 rfl) rfl; (first | have a10 := oa2 ((in_c 1 rfl)) i88 | ((first | have a10 := in_u ((in_c 1 rfl)) | (have a10 := (in_c 1 rfl); unfold In at a10)); (first | have a11 := in_u i88 | (have a11 := i88; unfold In at a11)))); have a12 := t_add e88 ro_109_19 i47 rfl; (first | have a13 := in_u i74 | (have a13 := i74; unfold In at a13)); have a14 := t_add e74 ro_109_19 i47 rfl; (first | have a15 := in_u i60 | (have a15 := i60; unfold In at a15)); have a16 := t_add e60 ro_109_19 i47 rfl; omega, hj.2⟩ | exact g42_0 | (rw [sI_q, sI_q]; rw [sI_q] at e132; exact bo_up (bo_up g42_0 e118 e123) e132 e145))
            have n42a : (x1).toInt = 0 → (x2).toInt = -1 → (x3).toInt = -1 → RQ1 s (sc42.1 129) (z147).toNatClampNeg := by exact fun _ qb _ => (by exfalso; have h := c96; (first | have a0 := oa9 h3 i96 h1 ro_109_20 ro_109_19 i47 i75 i61 i147 | ((first | have a0 := in_u h3 | (have a0 := h3; unfold In at a0)); (first | have a1 := in_u i96 | (have a1 := i96; unfold In at a1)); (first | have a2 := in_u h1 | (have a2 := h1; unfold In at a2)); (first | have a3 := in_u ro_109_20 | (have a3 := ro_109_20; unfold In at a3)); (first | have a4 := in_u ro_109_19 | (have a4 := ro_109_19; unfold In at a4)); (first | have a5 := in_u i47 | (have a5 := i47; unfold In at a5)); (first | have a6 := in_u i75 | (have a6 := i75; unfold In at a6)); (first | have a7 := in_u i61 | (have a7 := i61; unfold In at a7)); (first | have a8 := in_u i147 | (have a8 := i147; unfold In at a8)))); have a9 := t_add e147 i47 (in_c 1 rfl) rfl; (first | have a10 := oa2 ((in_c 1 rfl)) i88 | ((first | have a10 := in_u ((in_c 1 rfl)) | (have a10 := (in_c 1 rfl); unfold In at a10)); (first | have a11 := in_u i88 | (have a11 := i88; unfold In at a11)))); have a12 := t_add e88 ro_109_19 i47 rfl; (first | have a13 := in_u i74 | (have a13 := i74; unfold In at a13)); have a14 := t_add e74 ro_109_19 i47 rfl; (first | have a15 := in_u i60 | (have a15 := i60; unfold In at a15)); have a16 := t_add e60 ro_109_19 i47 rfl; omega)
            exact gg_w (by first | exact Nat.le_add_right _ _ | exact gw2 | exact gw3 | exact gwe rfl | exact gwf rfl | exact gwg rfl | exact gwh rfl | omega) (gg_f (gf_cons rfl (gf_cons rfl (gf_cons rfl (gf_cons rfl (gf_cons rfl gf_nil))))) (ih42 sc42 z147 hIc42 hFc42 (in_w 0 160 i147 rfl) n42 n42a (m_up mm42 (t_add e147 i47 (in_c 1 rfl) rfl) (in_w 1 1 (in_c 1 rfl) rfl))))
          · skip
            refine g_iload 101 (gd rfl) rfl rfl ?_
            refine g_iload_n 102 (gd rfl) rfl rfl ?_
            refine g_cmp_eq 105 147 (gd rfl) rfl rfl (fun c102 => ?_) (fun c102 => ?_)
            · skip
              have i102 := r_eq2 0 31 c102 i61 h3 rfl
              refine g_iinc 150 (gd rfl) rfl rfl (Nat.le_of_ble_eq_true rfl) (fun z147 e147 => ?_)
              have i147 := in_add 1 160 e147 i47 (in_c 1 rfl) rfl rfl
              refine g_goto 42 (gd rfl) rfl ?_
              have n42 : ∀ j : Nat, ((j : Int) < (u_109_20).toInt ∧ (j : Int) ≠ (x3).toInt) → bt (sc42.1 129 j) j = true := by first | exact g42_0 | (first | exact fun j hj => g3_0 j ⟨by (first | have a0 := oa9 i102 h2 h1 ro_109_20 ro_109_19 i47 i75 i61 i147 | ((first | have a0 := in_u i102 | (have a0 := i102; unfold In at a0)); (first | have a1 := in_u h2 | (have a1 := h2; unfold In at a1)); (first | have a2 := in_u h1 | (have a2 := h1; unfold In at a2)); (first | have a3 := in_u ro_109_20 | (have a3 := ro_109_20; unfold In at a3)); (first | have a4 := in_u ro_109_19 | (have a4 := ro_109_19; unfold In at a4)); (first | have a5 := in_u i47 | (have a5 := i47; unfold In at a5)); (first | have a6 := in_u i75 | (have a6 := i75; unfold In at a6)); (first | have a7 := in_u i61 | (have a7 := i61; unfold In at a7)); (first | have a8 := in_u i147 | (have a8 := i147; unfold In at a8)))); have a9 := t_add e147 i47 (in_c 1 rfl) rfl; (first | have a10 := oa2 ((in_c 1 rfl)) i88 | ((first | have a10 := in_u ((in_c 1 rfl)) | (have a10 := (in_c 1 rfl); unfold In at a10)); (first | have a11 := in_u i88 | (have a11 := i88; unfold In at a11)))); have a12 := t_add e88 ro_109_19 i47 rfl; (first | have a13 := in_u i74 | (have a13 := i74; unfold In at a13)); have a14 := t_add e74 ro_109_19 i47 rfl; (first | have a15 := in_u i60 | (have a15 := i60; unfold In at a15)); have a16 := t_add e60 ro_109_19 i47 rfl; omega, hj.2⟩ | exact g42_0 | (rw [sI_q, sI_q]; rw [sI_q] at e132; exact bo_up (bo_up g42_0 e118 e123) e132 e145))
              have n42a : (x1).toInt = 0 → (x2).toInt = -1 → (x3).toInt = -1 → RQ1 s (sc42.1 129) (z147).toNatClampNeg := by exact fun _ _ qc => (by exfalso; have h := c102; (first | have a0 := oa9 i102 h2 h1 ro_109_20 ro_109_19 i47 i75 i61 i147 | ((first | have a0 := in_u i102 | (have a0 := i102; unfold In at a0)); (first | have a1 := in_u h2 | (have a1 := h2; unfold In at a1)); (first | have a2 := in_u h1 | (have a2 := h1; unfold In at a2)); (first | have a3 := in_u ro_109_20 | (have a3 := ro_109_20; unfold In at a3)); (first | have a4 := in_u ro_109_19 | (have a4 := ro_109_19; unfold In at a4)); (first | have a5 := in_u i47 | (have a5 := i47; unfold In at a5)); (first | have a6 := in_u i75 | (have a6 := i75; unfold In at a6)); (first | have a7 := in_u i61 | (have a7 := i61; unfold In at a7)); (first | have a8 := in_u i147 | (have a8 := i147; unfold In at a8)))); have a9 := t_add e147 i47 (in_c 1 rfl) rfl; (first | have a10 := oa2 ((in_c 1 rfl)) i88 | ((first | have a10 := in_u ((in_c 1 rfl)) | (have a10 := (in_c 1 rfl); unfold In at a10)); (first | have a11 := in_u i88 | (have a11 := i88; unfold In at a11)))); have a12 := t_add e88 ro_109_19 i47 rfl; (first | have a13 := in_u i74 | (have a13 := i74; unfold In at a13)); have a14 := t_add e74 ro_109_19 i47 rfl; (first | have a15 := in_u i60 | (have a15 := i60; unfold In at a15)); have a16 := t_add e60 ro_109_19 i47 rfl; omega)
              exact gg_w (by first | exact Nat.le_add_right _ _ | exact gw2 | exact gw3 | exact gwe rfl | exact gwf rfl | exact gwg rfl | exact gwh rfl | omega) (gg_f (gf_cons rfl (gf_cons rfl (gf_cons rfl (gf_cons rfl (gf_cons rfl gf_nil))))) (ih42 sc42 z147 hIc42 hFc42 (in_w 0 160 i147 rfl) n42 n42a (m_up mm42 (t_add e147 i47 (in_c 1 rfl) rfl) (in_w 1 1 (in_c 1 rfl) rfl))))
            · skip
              refine g_iload 107 (gd rfl) rfl rfl ?_
              refine g_iload_n 108 (gd rfl) rfl rfl ?_
              refine g_cmp_eq 111 147 (gd rfl) rfl rfl (fun c108 => ?_) (fun c108 => ?_)
              · skip
                have i108 := r_eq2 0 31 c108 i75 h3 rfl
                refine g_iinc 150 (gd rfl) rfl rfl (Nat.le_of_ble_eq_true rfl) (fun z147 e147 => ?_)
                have i147 := in_add 1 160 e147 i47 (in_c 1 rfl) rfl rfl
                refine g_goto 42 (gd rfl) rfl ?_
                have n42 : ∀ j : Nat, ((j : Int) < (u_109_20).toInt ∧ (j : Int) ≠ (x3).toInt) → bt (sc42.1 129 j) j = true := by first | exact g42_0 | (first | exact fun j hj => g3_0 j ⟨by (first | have a0 := oa9 i108 h2 h1 ro_109_20 ro_109_19 i47 i75 i61 i147 | ((first | have a0 := in_u i108 | (have a0 := i108; unfold In at a0)); (first | have a1 := in_u h2 | (have a1 := h2; unfold In at a1)); (first | have a2 := in_u h1 | (have a2 := h1; unfold In at a2)); (first | have a3 := in_u ro_109_20 | (have a3 := ro_109_20; unfold In at a3)); (first | have a4 := in_u ro_109_19 | (have a4 := ro_109_19; unfold In at a4)); (first | have a5 := in_u i47 | (have a5 := i47; unfold In at a5)); (first | have a6 := in_u i75 | (have a6 := i75; unfold In at a6)); (first | have a7 := in_u i61 | (have a7 := i61; unfold In at a7)); (first | have a8 := in_u i147 | (have a8 := i147; unfold In at a8)))); have a9 := t_add e147 i47 (in_c 1 rfl) rfl; (first | have a10 := oa2 ((in_c 1 rfl)) i88 | ((first | have a10 := in_u ((in_c 1 rfl)) | (have a10 := (in_c 1 rfl); unfold In at a10)); (first | have a11 := in_u i88 | (have a11 := i88; unfold In at a11)))); have a12 := t_add e88 ro_109_19 i47 rfl; (first | have a13 := in_u i74 | (have a13 := i74; unfold In at a13)); have a14 := t_add e74 ro_109_19 i47 rfl; (first | have a15 := in_u i60 | (have a15 := i60; unfold In at a15)); have a16 := t_add e60 ro_109_19 i47 rfl; omega, hj.2⟩ | exact g42_0 | (rw [sI_q, sI_q]; rw [sI_q] at e132; exact bo_up (bo_up g42_0 e118 e123) e132 e145))
                have n42a : (x1).toInt = 0 → (x2).toInt = -1 → (x3).toInt = -1 → RQ1 s (sc42.1 129) (z147).toNatClampNeg := by exact fun _ _ qc => (by exfalso; have h := c108; (first | have a0 := oa9 i108 h2 h1 ro_109_20 ro_109_19 i47 i75 i61 i147 | ((first | have a0 := in_u i108 | (have a0 := i108; unfold In at a0)); (first | have a1 := in_u h2 | (have a1 := h2; unfold In at a1)); (first | have a2 := in_u h1 | (have a2 := h1; unfold In at a2)); (first | have a3 := in_u ro_109_20 | (have a3 := ro_109_20; unfold In at a3)); (first | have a4 := in_u ro_109_19 | (have a4 := ro_109_19; unfold In at a4)); (first | have a5 := in_u i47 | (have a5 := i47; unfold In at a5)); (first | have a6 := in_u i75 | (have a6 := i75; unfold In at a6)); (first | have a7 := in_u i61 | (have a7 := i61; unfold In at a7)); (first | have a8 := in_u i147 | (have a8 := i147; unfold In at a8)))); have a9 := t_add e147 i47 (in_c 1 rfl) rfl; (first | have a10 := oa2 ((in_c 1 rfl)) i88 | ((first | have a10 := in_u ((in_c 1 rfl)) | (have a10 := (in_c 1 rfl); unfold In at a10)); (first | have a11 := in_u i88 | (have a11 := i88; unfold In at a11)))); have a12 := t_add e88 ro_109_19 i47 rfl; (first | have a13 := in_u i74 | (have a13 := i74; unfold In at a13)); have a14 := t_add e74 ro_109_19 i47 rfl; (first | have a15 := in_u i60 | (have a15 := i60; unfold In at a15)); have a16 := t_add e60 ro_109_19 i47 rfl; omega)
                exact gg_w (by first | exact Nat.le_add_right _ _ | exact gw2 | exact gw3 | exact gwe rfl | exact gwf rfl | exact gwg rfl | exact gwh rfl | omega) (gg_f (gf_cons rfl (gf_cons rfl (gf_cons rfl (gf_cons rfl (gf_cons rfl gf_nil))))) (ih42 sc42 z147 hIc42 hFc42 (in_w 0 160 i147 rfl) n42 n42a (m_up mm42 (t_add e147 i47 (in_c 1 rfl) rfl) (in_w 1 1 (in_c 1 rfl) rfl))))
              · skip
                refine g_aload_n 112 (gd rfl) rfl rfl ?_
                refine g_getA (q2 := 129) 115 (gd rfl) rfl rfl rfl rfl ?_
                refine g_iload 117 (gd rfl) rfl rfl ?_
                refine g_dup2 118 (gd rfl) rfl rfl rfl ?_
                refine g_iaload 119 (gd rfl) rfl (n := 32) rfl (in_ix i61 rfl) (fun z118 e118 => ?_)
                refine g_iconst 1 120 (gd rfl) rfl rfl ?_
                refine g_iload 122 (gd rfl) rfl rfl ?_
                refine g_ishl 123 (gd rfl) rfl (fun z122 e122 => ?_)
                refine g_ior 124 (gd rfl) rfl (fun z123 e123 => ?_)
                refine g_iastore 125 (gd rfl) rfl (n := 32) rfl (in_ix i61 rfl) ?_
                have hI124 := inv_sI (q := 129) (j := z61.toNatClampNeg) hIc42 rfl (in_w (-2147483648) 2147483647 (i_rng z123) rfl)
                refine g_aload_n 126 (gd rfl) rfl rfl ?_
                refine g_getA (q2 := 129) 129 (gd rfl) rfl rfl rfl rfl ?_
                refine g_iload 131 (gd rfl) rfl rfl ?_
                refine g_dup2 132 (gd rfl) rfl rfl rfl ?_
                refine g_iaload 133 (gd rfl) rfl (n := 32) rfl (in_ix i75 rfl) (fun z132 e132 => ?_)
                refine g_iload_n 134 (gd rfl) rfl rfl ?_
                refine g_if_eq 137 144 (gd rfl) rfl rfl (fun c134 => ?_) (fun c134 => ?_)
                · skip
                  have i134 := z_eq 0 0 c134 h1 rfl
                  refine g_iconst 0 145 (gd rfl) rfl rfl ?_
                  refine g_ior 146 (gd rfl) rfl (fun z145 e145 => ?_)
                  refine g_iastore 147 (gd rfl) rfl (n := 32) rfl (in_ix i75 rfl) ?_
                  have hI146 := inv_sI (q := 129) (j := z75.toNatClampNeg) hI124 rfl (in_w (-2147483648) 2147483647 (i_rng z145) rfl)
                  refine g_iinc 150 (gd rfl) rfl rfl (Nat.le_of_ble_eq_true rfl) (fun z147 e147 => ?_)
                  have i147 := in_add 1 160 e147 i47 (in_c 1 rfl) rfl rfl
                  refine g_goto 42 (gd rfl) rfl ?_
                  have n42 : ∀ j : Nat, ((j : Int) < (u_109_20).toInt ∧ (j : Int) ≠ (x3).toInt) → bt ((sI (sI sc42 129 z61.toNatClampNeg z123) 129 z75.toNatClampNeg z145).1 129 j) j = true := by first | exact fun j hj => g3_0 j ⟨by (first | have a0 := oa9 h3 h2 i134 ro_109_20 ro_109_19 i47 i75 i61 i147 | ((first | have a0 := in_u h3 | (have a0 := h3; unfold In at a0)); (first | have a1 := in_u h2 | (have a1 := h2; unfold In at a1)); (first | have a2 := in_u i134 | (have a2 := i134; unfold In at a2)); (first | have a3 := in_u ro_109_20 | (have a3 := ro_109_20; unfold In at a3)); (first | have a4 := in_u ro_109_19 | (have a4 := ro_109_19; unfold In at a4)); (first | have a5 := in_u i47 | (have a5 := i47; unfold In at a5)); (first | have a6 := in_u i75 | (have a6 := i75; unfold In at a6)); (first | have a7 := in_u i61 | (have a7 := i61; unfold In at a7)); (first | have a8 := in_u i147 | (have a8 := i147; unfold In at a8)))); have a9 := t_add e147 i47 (in_c 1 rfl) rfl; (first | have a10 := oa2 ((in_c 1 rfl)) i88 | ((first | have a10 := in_u ((in_c 1 rfl)) | (have a10 := (in_c 1 rfl); unfold In at a10)); (first | have a11 := in_u i88 | (have a11 := i88; unfold In at a11)))); have a12 := t_add e88 ro_109_19 i47 rfl; (first | have a13 := in_u i74 | (have a13 := i74; unfold In at a13)); have a14 := t_add e74 ro_109_19 i47 rfl; (first | have a15 := in_u i60 | (have a15 := i60; unfold In at a15)); have a16 := t_add e60 ro_109_19 i47 rfl; omega, hj.2⟩ | exact g42_0 | (rw [sI_q, sI_q]; rw [sI_q] at e132; exact bo_up (bo_up g42_0 e118 e123) e132 e145)
                  have n42a : (x1).toInt = 0 → (x2).toInt = -1 → (x3).toInt = -1 → RQ1 s ((sI (sI sc42 129 z61.toNatClampNeg z123) 129 z75.toNatClampNeg z145).1 129) (z147).toNatClampNeg := by exact fun qa qb qc => (by rw [show (z147).toNatClampNeg = y42_4.toNatClampNeg + 1 from (by show z147.toInt.toNat = y42_4.toInt.toNat + 1; (first | have a0 := oa9 h3 h2 i134 ro_109_20 ro_109_19 i47 i75 i61 i147 | ((first | have a0 := in_u h3 | (have a0 := h3; unfold In at a0)); (first | have a1 := in_u h2 | (have a1 := h2; unfold In at a1)); (first | have a2 := in_u i134 | (have a2 := i134; unfold In at a2)); (first | have a3 := in_u ro_109_20 | (have a3 := ro_109_20; unfold In at a3)); (first | have a4 := in_u ro_109_19 | (have a4 := ro_109_19; unfold In at a4)); (first | have a5 := in_u i47 | (have a5 := i47; unfold In at a5)); (first | have a6 := in_u i75 | (have a6 := i75; unfold In at a6)); (first | have a7 := in_u i61 | (have a7 := i61; unfold In at a7)); (first | have a8 := in_u i147 | (have a8 := i147; unfold In at a8)))); have a9 := t_add e147 i47 (in_c 1 rfl) rfl; (first | have a10 := oa2 ((in_c 1 rfl)) i88 | ((first | have a10 := in_u ((in_c 1 rfl)) | (have a10 := (in_c 1 rfl); unfold In at a10)); (first | have a11 := in_u i88 | (have a11 := i88; unfold In at a11)))); have a12 := t_add e88 ro_109_19 i47 rfl; (first | have a13 := in_u i74 | (have a13 := i74; unfold In at a13)); have a14 := t_add e74 ro_109_19 i47 rfl; (first | have a15 := in_u i60 | (have a15 := i60; unfold In at a15)); have a16 := t_add e60 ro_109_19 i47 rfl; (first | exact zt_s (by omega) (by omega) | omega)), sI_q, sI_q]; exact rq1_st (g42_1 qa qb qc) (by show y42_4.toInt.toNat < 160; (first | have a0 := oa9 h3 h2 i134 ro_109_20 ro_109_19 i47 i75 i61 i147 | ((first | have a0 := in_u h3 | (have a0 := h3; unfold In at a0)); (first | have a1 := in_u h2 | (have a1 := h2; unfold In at a1)); (first | have a2 := in_u i134 | (have a2 := i134; unfold In at a2)); (first | have a3 := in_u ro_109_20 | (have a3 := ro_109_20; unfold In at a3)); (first | have a4 := in_u ro_109_19 | (have a4 := ro_109_19; unfold In at a4)); (first | have a5 := in_u i47 | (have a5 := i47; unfold In at a5)); (first | have a6 := in_u i75 | (have a6 := i75; unfold In at a6)); (first | have a7 := in_u i61 | (have a7 := i61; unfold In at a7)); (first | have a8 := in_u i147 | (have a8 := i147; unfold In at a8)))); have a9 := t_add e147 i47 (in_c 1 rfl) rfl; (first | have a10 := oa2 ((in_c 1 rfl)) i88 | ((first | have a10 := in_u ((in_c 1 rfl)) | (have a10 := (in_c 1 rfl); unfold In at a10)); (first | have a11 := in_u i88 | (have a11 := i88; unfold In at a11)))); have a12 := t_add e88 ro_109_19 i47 rfl; (first | have a13 := in_u i74 | (have a13 := i74; unfold In at a13)); have a14 := t_add e74 ro_109_19 i47 rfl; (first | have a15 := in_u i60 | (have a15 := i60; unfold In at a15)); have a16 := t_add e60 ro_109_19 i47 rfl; (first | exact zt_l (by decide) (by omega) | omega)) (by rw [(bs_x (x := z88) (a := y42_4) e_109_19 (by (first | have a0 := oa9 h3 h2 i134 ro_109_20 ro_109_19 i47 i75 i61 i147 | ((first | have a0 := in_u h3 | (have a0 := h3; unfold In at a0)); (first | have a1 := in_u h2 | (have a1 := h2; unfold In at a1)); (first | have a2 := in_u i134 | (have a2 := i134; unfold In at a2)); (first | have a3 := in_u ro_109_20 | (have a3 := ro_109_20; unfold In at a3)); (first | have a4 := in_u ro_109_19 | (have a4 := ro_109_19; unfold In at a4)); (first | have a5 := in_u i47 | (have a5 := i47; unfold In at a5)); (first | have a6 := in_u i75 | (have a6 := i75; unfold In at a6)); (first | have a7 := in_u i61 | (have a7 := i61; unfold In at a7)); (first | have a8 := in_u i147 | (have a8 := i147; unfold In at a8)))); have a9 := t_add e147 i47 (in_c 1 rfl) rfl; (first | have a10 := oa2 ((in_c 1 rfl)) i88 | ((first | have a10 := in_u ((in_c 1 rfl)) | (have a10 := (in_c 1 rfl); unfold In at a10)); (first | have a11 := in_u i88 | (have a11 := i88; unfold In at a11)))); have a12 := t_add e88 ro_109_19 i47 rfl; (first | have a13 := in_u i74 | (have a13 := i74; unfold In at a13)); have a14 := t_add e74 ro_109_19 i47 rfl; (first | have a15 := in_u i60 | (have a15 := i60; unfold In at a15)); have a16 := t_add e60 ro_109_19 i47 rfl; omega) (by (first | have a0 := oa9 h3 h2 i134 ro_109_20 ro_109_19 i47 i75 i61 i147 | ((first | have a0 := in_u h3 | (have a0 := h3; unfold In at a0)); (first | have a1 := in_u h2 | (have a1 := h2; unfold In at a1)); (first | have a2 := in_u i134 | (have a2 := i134; unfold In at a2)); (first | have a3 := in_u ro_109_20 | (have a3 := ro_109_20; unfold In at a3)); (first | have a4 := in_u ro_109_19 | (have a4 := ro_109_19; unfold In at a4)); (first | have a5 := in_u i47 | (have a5 := i47; unfold In at a5)); (first | have a6 := in_u i75 | (have a6 := i75; unfold In at a6)); (first | have a7 := in_u i61 | (have a7 := i61; unfold In at a7)); (first | have a8 := in_u i147 | (have a8 := i147; unfold In at a8)))); have a9 := t_add e147 i47 (in_c 1 rfl) rfl; (first | have a10 := oa2 ((in_c 1 rfl)) i88 | ((first | have a10 := in_u ((in_c 1 rfl)) | (have a10 := (in_c 1 rfl); unfold In at a10)); (first | have a11 := in_u i88 | (have a11 := i88; unfold In at a11)))); have a12 := t_add e88 ro_109_19 i47 rfl; (first | have a13 := in_u i74 | (have a13 := i74; unfold In at a13)); have a14 := t_add e74 ro_109_19 i47 rfl; (first | have a15 := in_u i60 | (have a15 := i60; unfold In at a15)); have a16 := t_add e60 ro_109_19 i47 rfl; omega) (by (first | have a0 := oa9 h3 h2 i134 ro_109_20 ro_109_19 i47 i75 i61 i147 | ((first | have a0 := in_u h3 | (have a0 := h3; unfold In at a0)); (first | have a1 := in_u h2 | (have a1 := h2; unfold In at a1)); (first | have a2 := in_u i134 | (have a2 := i134; unfold In at a2)); (first | have a3 := in_u ro_109_20 | (have a3 := ro_109_20; unfold In at a3)); (first | have a4 := in_u ro_109_19 | (have a4 := ro_109_19; unfold In at a4)); (first | have a5 := in_u i47 | (have a5 := i47; unfold In at a5)); (first | have a6 := in_u i75 | (have a6 := i75; unfold In at a6)); (first | have a7 := in_u i61 | (have a7 := i61; unfold In at a7)); (first | have a8 := in_u i147 | (have a8 := i147; unfold In at a8)))); have a9 := t_add e147 i47 (in_c 1 rfl) rfl; (first | have a10 := oa2 ((in_c 1 rfl)) i88 | ((first | have a10 := in_u ((in_c 1 rfl)) | (have a10 := (in_c 1 rfl); unfold In at a10)); (first | have a11 := in_u i88 | (have a11 := i88; unfold In at a11)))); have a12 := t_add e88 ro_109_19 i47 rfl; (first | have a13 := in_u i74 | (have a13 := i74; unfold In at a13)); have a14 := t_add e74 ro_109_19 i47 rfl; (first | have a15 := in_u i60 | (have a15 := i60; unfold In at a15)); have a16 := t_add e60 ro_109_19 i47 rfl; omega)), ← hFc42.1 112 rfl, ← e89]; exact c90) (by rw [(bs_x (x := z60) (a := y42_4) e_109_19 (by (first | have a0 := oa9 h3 h2 i134 ro_109_20 ro_109_19 i47 i75 i61 i147 | ((first | have a0 := in_u h3 | (have a0 := h3; unfold In at a0)); (first | have a1 := in_u h2 | (have a1 := h2; unfold In at a1)); (first | have a2 := in_u i134 | (have a2 := i134; unfold In at a2)); (first | have a3 := in_u ro_109_20 | (have a3 := ro_109_20; unfold In at a3)); (first | have a4 := in_u ro_109_19 | (have a4 := ro_109_19; unfold In at a4)); (first | have a5 := in_u i47 | (have a5 := i47; unfold In at a5)); (first | have a6 := in_u i75 | (have a6 := i75; unfold In at a6)); (first | have a7 := in_u i61 | (have a7 := i61; unfold In at a7)); (first | have a8 := in_u i147 | (have a8 := i147; unfold In at a8)))); have a9 := t_add e147 i47 (in_c 1 rfl) rfl; (first | have a10 := oa2 ((in_c 1 rfl)) i88 | ((first | have a10 := in_u ((in_c 1 rfl)) | (have a10 := (in_c 1 rfl); unfold In at a10)); (first | have a11 := in_u i88 | (have a11 := i88; unfold In at a11)))); have a12 := t_add e88 ro_109_19 i47 rfl; (first | have a13 := in_u i74 | (have a13 := i74; unfold In at a13)); have a14 := t_add e74 ro_109_19 i47 rfl; (first | have a15 := in_u i60 | (have a15 := i60; unfold In at a15)); have a16 := t_add e60 ro_109_19 i47 rfl; omega) (by (first | have a0 := oa9 h3 h2 i134 ro_109_20 ro_109_19 i47 i75 i61 i147 | ((first | have a0 := in_u h3 | (have a0 := h3; unfold In at a0)); (first | have a1 := in_u h2 | (have a1 := h2; unfold In at a1)); (first | have a2 := in_u i134 | (have a2 := i134; unfold In at a2)); (first | have a3 := in_u ro_109_20 | (have a3 := ro_109_20; unfold In at a3)); (first | have a4 := in_u ro_109_19 | (have a4 := ro_109_19; unfold In at a4)); (first | have a5 := in_u i47 | (have a5 := i47; unfold In at a5)); (first | have a6 := in_u i75 | (have a6 := i75; unfold In at a6)); (first | have a7 := in_u i61 | (have a7 := i61; unfold In at a7)); (first | have a8 := in_u i147 | (have a8 := i147; unfold In at a8)))); have a9 := t_add e147 i47 (in_c 1 rfl) rfl; (first | have a10 := oa2 ((in_c 1 rfl)) i88 | ((first | have a10 := in_u ((in_c 1 rfl)) | (have a10 := (in_c 1 rfl); unfold In at a10)); (first | have a11 := in_u i88 | (have a11 := i88; unfold In at a11)))); have a12 := t_add e88 ro_109_19 i47 rfl; (first | have a13 := in_u i74 | (have a13 := i74; unfold In at a13)); have a14 := t_add e74 ro_109_19 i47 rfl; (first | have a15 := in_u i60 | (have a15 := i60; unfold In at a15)); have a16 := t_add e60 ro_109_19 i47 rfl; omega) (by (first | have a0 := oa9 h3 h2 i134 ro_109_20 ro_109_19 i47 i75 i61 i147 | ((first | have a0 := in_u h3 | (have a0 := h3; unfold In at a0)); (first | have a1 := in_u h2 | (have a1 := h2; unfold In at a1)); (first | have a2 := in_u i134 | (have a2 := i134; unfold In at a2)); (first | have a3 := in_u ro_109_20 | (have a3 := ro_109_20; unfold In at a3)); (first | have a4 := in_u ro_109_19 | (have a4 := ro_109_19; unfold In at a4)); (first | have a5 := in_u i47 | (have a5 := i47; unfold In at a5)); (first | have a6 := in_u i75 | (have a6 := i75; unfold In at a6)); (first | have a7 := in_u i61 | (have a7 := i61; unfold In at a7)); (first | have a8 := in_u i147 | (have a8 := i147; unfold In at a8)))); have a9 := t_add e147 i47 (in_c 1 rfl) rfl; (first | have a10 := oa2 ((in_c 1 rfl)) i88 | ((first | have a10 := in_u ((in_c 1 rfl)) | (have a10 := (in_c 1 rfl); unfold In at a10)); (first | have a11 := in_u i88 | (have a11 := i88; unfold In at a11)))); have a12 := t_add e88 ro_109_19 i47 rfl; (first | have a13 := in_u i74 | (have a13 := i74; unfold In at a13)); have a14 := t_add e74 ro_109_19 i47 rfl; (first | have a15 := in_u i60 | (have a15 := i60; unfold In at a15)); have a16 := t_add e60 ro_109_19 i47 rfl; omega)), ← hFc42.1 113 rfl]; exact e61) (by rw [(bs_x (x := z74) (a := y42_4) e_109_19 (by (first | have a0 := oa9 h3 h2 i134 ro_109_20 ro_109_19 i47 i75 i61 i147 | ((first | have a0 := in_u h3 | (have a0 := h3; unfold In at a0)); (first | have a1 := in_u h2 | (have a1 := h2; unfold In at a1)); (first | have a2 := in_u i134 | (have a2 := i134; unfold In at a2)); (first | have a3 := in_u ro_109_20 | (have a3 := ro_109_20; unfold In at a3)); (first | have a4 := in_u ro_109_19 | (have a4 := ro_109_19; unfold In at a4)); (first | have a5 := in_u i47 | (have a5 := i47; unfold In at a5)); (first | have a6 := in_u i75 | (have a6 := i75; unfold In at a6)); (first | have a7 := in_u i61 | (have a7 := i61; unfold In at a7)); (first | have a8 := in_u i147 | (have a8 := i147; unfold In at a8)))); have a9 := t_add e147 i47 (in_c 1 rfl) rfl; (first | have a10 := oa2 ((in_c 1 rfl)) i88 | ((first | have a10 := in_u ((in_c 1 rfl)) | (have a10 := (in_c 1 rfl); unfold In at a10)); (first | have a11 := in_u i88 | (have a11 := i88; unfold In at a11)))); have a12 := t_add e88 ro_109_19 i47 rfl; (first | have a13 := in_u i74 | (have a13 := i74; unfold In at a13)); have a14 := t_add e74 ro_109_19 i47 rfl; (first | have a15 := in_u i60 | (have a15 := i60; unfold In at a15)); have a16 := t_add e60 ro_109_19 i47 rfl; omega) (by (first | have a0 := oa9 h3 h2 i134 ro_109_20 ro_109_19 i47 i75 i61 i147 | ((first | have a0 := in_u h3 | (have a0 := h3; unfold In at a0)); (first | have a1 := in_u h2 | (have a1 := h2; unfold In at a1)); (first | have a2 := in_u i134 | (have a2 := i134; unfold In at a2)); (first | have a3 := in_u ro_109_20 | (have a3 := ro_109_20; unfold In at a3)); (first | have a4 := in_u ro_109_19 | (have a4 := ro_109_19; unfold In at a4)); (first | have a5 := in_u i47 | (have a5 := i47; unfold In at a5)); (first | have a6 := in_u i75 | (have a6 := i75; unfold In at a6)); (first | have a7 := in_u i61 | (have a7 := i61; unfold In at a7)); (first | have a8 := in_u i147 | (have a8 := i147; unfold In at a8)))); have a9 := t_add e147 i47 (in_c 1 rfl) rfl; (first | have a10 := oa2 ((in_c 1 rfl)) i88 | ((first | have a10 := in_u ((in_c 1 rfl)) | (have a10 := (in_c 1 rfl); unfold In at a10)); (first | have a11 := in_u i88 | (have a11 := i88; unfold In at a11)))); have a12 := t_add e88 ro_109_19 i47 rfl; (first | have a13 := in_u i74 | (have a13 := i74; unfold In at a13)); have a14 := t_add e74 ro_109_19 i47 rfl; (first | have a15 := in_u i60 | (have a15 := i60; unfold In at a15)); have a16 := t_add e60 ro_109_19 i47 rfl; omega) (by (first | have a0 := oa9 h3 h2 i134 ro_109_20 ro_109_19 i47 i75 i61 i147 | ((first | have a0 := in_u h3 | (have a0 := h3; unfold In at a0)); (first | have a1 := in_u h2 | (have a1 := h2; unfold In at a1)); (first | have a2 := in_u i134 | (have a2 := i134; unfold In at a2)); (first | have a3 := in_u ro_109_20 | (have a3 := ro_109_20; unfold In at a3)); (first | have a4 := in_u ro_109_19 | (have a4 := ro_109_19; unfold In at a4)); (first | have a5 := in_u i47 | (have a5 := i47; unfold In at a5)); (first | have a6 := in_u i75 | (have a6 := i75; unfold In at a6)); (first | have a7 := in_u i61 | (have a7 := i61; unfold In at a7)); (first | have a8 := in_u i147 | (have a8 := i147; unfold In at a8)))); have a9 := t_add e147 i47 (in_c 1 rfl) rfl; (first | have a10 := oa2 ((in_c 1 rfl)) i88 | ((first | have a10 := in_u ((in_c 1 rfl)) | (have a10 := (in_c 1 rfl); unfold In at a10)); (first | have a11 := in_u i88 | (have a11 := i88; unfold In at a11)))); have a12 := t_add e88 ro_109_19 i47 rfl; (first | have a13 := in_u i74 | (have a13 := i74; unfold In at a13)); have a14 := t_add e74 ro_109_19 i47 rfl; (first | have a15 := in_u i60 | (have a15 := i60; unfold In at a15)); have a16 := t_add e60 ro_109_19 i47 rfl; omega)), ← hFc42.1 114 rfl]; exact e75) i75 e118 e122 e123 (by rw [e132, sI_q]) e145)
                  exact gg_w (by first | exact Nat.le_add_right _ _ | exact gw2 | exact gw3 | exact gwe rfl | exact gwf rfl | exact gwg rfl | exact gwh rfl | omega) (gg_f (gf_cons rfl (gf_cons rfl (gf_cons rfl (gf_cons rfl (gf_cons rfl gf_nil))))) (ih42 (sI (sI sc42 129 z61.toNatClampNeg z123) 129 z75.toNatClampNeg z145) z147 hI146 (fr_sI rfl (fr_sI rfl hFc42)) (in_w 0 160 i147 rfl) n42 n42a (m_up mm42 (t_add e147 i47 (in_c 1 rfl) rfl) (in_w 1 1 (in_c 1 rfl) rfl))))
                · skip
                  have i134 := z_ne 1 1 c134 h1 rfl
                  refine g_iconst 1 138 (gd rfl) rfl rfl ?_
                  refine g_iload 140 (gd rfl) rfl rfl ?_
                  refine g_ishl 141 (gd rfl) rfl (fun z140 e140 => ?_)
                  refine g_goto 145 (gd rfl) rfl ?_
                  refine g_ior 146 (gd rfl) rfl (fun z145 e145 => ?_)
                  refine g_iastore 147 (gd rfl) rfl (n := 32) rfl (in_ix i75 rfl) ?_
                  have hI146 := inv_sI (q := 129) (j := z75.toNatClampNeg) hI124 rfl (in_w (-2147483648) 2147483647 (i_rng z145) rfl)
                  refine g_iinc 150 (gd rfl) rfl rfl (Nat.le_of_ble_eq_true rfl) (fun z147 e147 => ?_)
                  have i147 := in_add 1 160 e147 i47 (in_c 1 rfl) rfl rfl
                  refine g_goto 42 (gd rfl) rfl ?_
                  have n42 : ∀ j : Nat, ((j : Int) < (u_109_20).toInt ∧ (j : Int) ≠ (x3).toInt) → bt ((sI (sI sc42 129 z61.toNatClampNeg z123) 129 z75.toNatClampNeg z145).1 129 j) j = true := by first | exact fun j hj => g3_0 j ⟨by (first | have a0 := oa9 h3 h2 i134 ro_109_20 ro_109_19 i47 i75 i61 i147 | ((first | have a0 := in_u h3 | (have a0 := h3; unfold In at a0)); (first | have a1 := in_u h2 | (have a1 := h2; unfold In at a1)); (first | have a2 := in_u i134 | (have a2 := i134; unfold In at a2)); (first | have a3 := in_u ro_109_20 | (have a3 := ro_109_20; unfold In at a3)); (first | have a4 := in_u ro_109_19 | (have a4 := ro_109_19; unfold In at a4)); (first | have a5 := in_u i47 | (have a5 := i47; unfold In at a5)); (first | have a6 := in_u i75 | (have a6 := i75; unfold In at a6)); (first | have a7 := in_u i61 | (have a7 := i61; unfold In at a7)); (first | have a8 := in_u i147 | (have a8 := i147; unfold In at a8)))); have a9 := t_add e147 i47 (in_c 1 rfl) rfl; (first | have a10 := oa2 ((in_c 1 rfl)) i88 | ((first | have a10 := in_u ((in_c 1 rfl)) | (have a10 := (in_c 1 rfl); unfold In at a10)); (first | have a11 := in_u i88 | (have a11 := i88; unfold In at a11)))); have a12 := t_add e88 ro_109_19 i47 rfl; (first | have a13 := in_u i74 | (have a13 := i74; unfold In at a13)); have a14 := t_add e74 ro_109_19 i47 rfl; (first | have a15 := in_u i60 | (have a15 := i60; unfold In at a15)); have a16 := t_add e60 ro_109_19 i47 rfl; omega, hj.2⟩ | exact g42_0 | (rw [sI_q, sI_q]; rw [sI_q] at e132; exact bo_up (bo_up g42_0 e118 e123) e132 e145)
                  have n42a : (x1).toInt = 0 → (x2).toInt = -1 → (x3).toInt = -1 → RQ1 s ((sI (sI sc42 129 z61.toNatClampNeg z123) 129 z75.toNatClampNeg z145).1 129) (z147).toNatClampNeg := by exact fun qa _ _ => absurd qa c134
                  exact gg_w (by first | exact Nat.le_add_right _ _ | exact gw2 | exact gw3 | exact gwe rfl | exact gwf rfl | exact gwg rfl | exact gwh rfl | omega) (gg_f (gf_cons rfl (gf_cons rfl (gf_cons rfl (gf_cons rfl (gf_cons rfl gf_nil))))) (ih42 (sI (sI sc42 129 z61.toNatClampNeg z123) 129 z75.toNatClampNeg z145) z147 hI146 (fr_sI rfl (fr_sI rfl hFc42)) (in_w 0 160 i147 rfl) n42 n42a (m_up mm42 (t_add e147 i47 (in_c 1 rfl) rfl) (in_w 1 1 (in_c 1 rfl) rfl))))
  have ct3 : ∀ (k3 : Nat) (sc3 : GS) (y3_4 : Int32), Inv sc3 → Fr fm_310 s sc3 → (In y3_4 0 32) → (∀ j : Nat, ((j : Int) < (y3_4).toInt ∧ (j : Int) ≠ (x3).toInt) → bt (sc3.1 129 j) j = true) → (∀ j w : Nat, (j : Int) < (y3_4).toInt → bt (sc3.1 129 j) w = true → j = w) → 32 - (y3_4).toInt < (k3 : Int) → GG Z (d - 1) 310 post (gx xp) (1214136 + k3 * 900) 3 (fun j => xlook j [(0, .ref (A 109)), (1, .int x1), (2, .int x2), (3, .int x3), (4, .int y3_4)]) [] (WW Z A sc3 ++ ex) 0 0 := by
    intro k3
    induction k3 with
    | zero => intro sc3 y3_4 hIc3 hFc3 j3_4 g3_0 g3_1 mm3; exact m_no mm3 j3_4 rfl
    | succ k3 ih3 =>
      intro sc3 y3_4 hIc3 hFc3 j3_4 g3_0 g3_1 mm3
      refine gg_w (M := 1214136 + k3 * 900 + 900) gws ?_
      refine g_iload 5 (gd rfl) rfl rfl ?_
      refine g_aload_n 6 (gd rfl) rfl rfl ?_
      refine g_getI 9 (gd rfl) rfl rfl rfl (fun z6 e6 => ?_)
      have q6 : u_109_20 = z6 := (fr_F e_109_20 hFc3 rfl).trans e6.symm
      subst q6
      refine g_cmp_ge 12 39 (gd rfl) rfl rfl (fun c9 => ?_) (fun c9 => ?_)
      · skip
        refine g_iconst 0 40 (gd rfl) rfl rfl ?_
        refine g_istore 42 (gd rfl) rfl (Nat.le_of_ble_eq_true rfl) ?_
        have n42 : ∀ j : Nat, ((j : Int) < (u_109_20).toInt ∧ (j : Int) ≠ (x3).toInt) → bt (sc3.1 129 j) j = true := by first | exact fun j hj => g3_0 j ⟨by (first | have a0 := oa7 h3 h2 h1 ro_109_20 ro_109_19 j3_4 ((in_c 0 rfl)) | ((first | have a0 := in_u h3 | (have a0 := h3; unfold In at a0)); (first | have a1 := in_u h2 | (have a1 := h2; unfold In at a1)); (first | have a2 := in_u h1 | (have a2 := h1; unfold In at a2)); (first | have a3 := in_u ro_109_20 | (have a3 := ro_109_20; unfold In at a3)); (first | have a4 := in_u ro_109_19 | (have a4 := ro_109_19; unfold In at a4)); (first | have a5 := in_u j3_4 | (have a5 := j3_4; unfold In at a5)); (first | have a6 := in_u ((in_c 0 rfl)) | (have a6 := (in_c 0 rfl); unfold In at a6)))); omega, hj.2⟩ | exact g42_0 | (rw [sI_q, sI_q]; rw [sI_q] at e132; exact bo_up (bo_up g42_0 e118 e123) e132 e145)
        have n42a : (x1).toInt = 0 → (x2).toInt = -1 → (x3).toInt = -1 → RQ1 s (sc3.1 129) ((Int32.ofInt 0)).toNatClampNeg := by exact fun _ _ _ => rq1_0 (fun u w hu hb => g3_1 u w (by unfold nmx at hu; rw [← e_109_20] at hu; (first | have a0 := oa7 h3 h2 h1 ro_109_20 ro_109_19 j3_4 ((in_c 0 rfl)) | ((first | have a0 := in_u h3 | (have a0 := h3; unfold In at a0)); (first | have a1 := in_u h2 | (have a1 := h2; unfold In at a1)); (first | have a2 := in_u h1 | (have a2 := h1; unfold In at a2)); (first | have a3 := in_u ro_109_20 | (have a3 := ro_109_20; unfold In at a3)); (first | have a4 := in_u ro_109_19 | (have a4 := ro_109_19; unfold In at a4)); (first | have a5 := in_u j3_4 | (have a5 := j3_4; unfold In at a5)); (first | have a6 := in_u ((in_c 0 rfl)) | (have a6 := (in_c 0 rfl); unfold In at a6)))); omega) hb)
        exact gg_w (by first | exact Nat.le_add_right _ _ | exact gw2 | exact gw3 | exact gwe rfl | exact gwf rfl | exact gwg rfl | exact gwh rfl | omega) (gg_f (gf_cons rfl (gf_cons rfl (gf_cons rfl (gf_cons rfl (gf_cons rfl gf_nil))))) (ct42 161 sc3 (Int32.ofInt 0) hIc3 hFc3 (in_w 0 160 (in_c 0 rfl) rfl) n42 n42a (m_in 161 (in_w 0 160 (in_c 0 rfl) rfl) rfl)))
      · skip
        have i9 := r_lt1 0 31 c9 j3_4 ro_109_20 rfl
        have i9a := r_lt2 1 32 c9 j3_4 ro_109_20 rfl
        refine g_aload_n 13 (gd rfl) rfl rfl ?_
        refine g_getA (q2 := 129) 16 (gd rfl) rfl rfl rfl rfl ?_
        refine g_iload 18 (gd rfl) rfl rfl ?_
        refine g_iload 20 (gd rfl) rfl rfl ?_
        refine g_iload_n 21 (gd rfl) rfl rfl ?_
        refine g_cmp_ne 24 28 (gd rfl) rfl rfl (fun c21 => ?_) (fun c21 => ?_)
        · skip
          refine g_iconst 1 29 (gd rfl) rfl rfl ?_
          refine g_iload 31 (gd rfl) rfl rfl ?_
          refine g_ishl 32 (gd rfl) rfl (fun z31 e31 => ?_)
          refine g_iastore 33 (gd rfl) rfl (n := 32) rfl (in_ix i9 rfl) ?_
          have hI32 := inv_sI (q := 129) (j := y3_4.toNatClampNeg) hIc3 rfl (in_w (-2147483648) 2147483647 (i_rng z31) rfl)
          refine g_iinc 36 (gd rfl) rfl rfl (Nat.le_of_ble_eq_true rfl) (fun z33 e33 => ?_)
          have i33 := in_add 1 32 e33 i9 (in_c 1 rfl) rfl rfl
          refine g_goto 3 (gd rfl) rfl ?_
          have n3 : ∀ j : Nat, ((j : Int) < (z33).toInt ∧ (j : Int) ≠ (x3).toInt) → bt ((sI sc3 129 y3_4.toNatClampNeg z31).1 129 j) j = true := by first | (intro j hj; exfalso; have h0 : (Int32.ofInt 0).toInt = 0 := rfl; omega) | (rw [sI_q]; refine pt_up (P := fun j v => bt v j = true) (fun hD => ?_) (fun j hne hD => g3_0 j ⟨by have e4 : y3_4.toNatClampNeg = y3_4.toInt.toNat := rfl; (first | have a0 := oa7 h3 h2 h1 i9a ro_109_19 i9 i33 | ((first | have a0 := in_u h3 | (have a0 := h3; unfold In at a0)); (first | have a1 := in_u h2 | (have a1 := h2; unfold In at a1)); (first | have a2 := in_u h1 | (have a2 := h1; unfold In at a2)); (first | have a3 := in_u i9a | (have a3 := i9a; unfold In at a3)); (first | have a4 := in_u ro_109_19 | (have a4 := ro_109_19; unfold In at a4)); (first | have a5 := in_u i9 | (have a5 := i9; unfold In at a5)); (first | have a6 := in_u i33 | (have a6 := i33; unfold In at a6)))); have a7 := t_add e33 i9 (in_c 1 rfl) rfl; (first | have a8 := in_u ((in_c 1 rfl)) | (have a8 := (in_c 1 rfl); unfold In at a8)); omega, hD.2⟩); first | (rw [bt_one e31 i9]; simp) | (exfalso; apply hD.2; have e4 : y3_4.toNatClampNeg = y3_4.toInt.toNat := rfl; (first | have a0 := oa7 h3 h2 h1 i9a ro_109_19 i9 i33 | ((first | have a0 := in_u h3 | (have a0 := h3; unfold In at a0)); (first | have a1 := in_u h2 | (have a1 := h2; unfold In at a1)); (first | have a2 := in_u h1 | (have a2 := h1; unfold In at a2)); (first | have a3 := in_u i9a | (have a3 := i9a; unfold In at a3)); (first | have a4 := in_u ro_109_19 | (have a4 := ro_109_19; unfold In at a4)); (first | have a5 := in_u i9 | (have a5 := i9; unfold In at a5)); (first | have a6 := in_u i33 | (have a6 := i33; unfold In at a6)))); have a7 := t_add e33 i9 (in_c 1 rfl) rfl; (first | have a8 := in_u ((in_c 1 rfl)) | (have a8 := (in_c 1 rfl); unfold In at a8)); omega))
          have n3a : ∀ j w : Nat, (j : Int) < (z33).toInt → bt ((sI sc3 129 y3_4.toNatClampNeg z31).1 129 j) w = true → j = w := by (intro j w hj hb; rw [sI_q] at hb; have e4 : y3_4.toNatClampNeg = y3_4.toInt.toNat := rfl; by_cases c : j = y3_4.toNatClampNeg; (rw [c, up_e, bt_one e31 i9] at hb; rw [c]; exact (of_decide_eq_true hb).symm); (rw [up_n c] at hb; exact g3_1 j w (by (first | have a0 := oa7 h3 h2 h1 i9a ro_109_19 i9 i33 | ((first | have a0 := in_u h3 | (have a0 := h3; unfold In at a0)); (first | have a1 := in_u h2 | (have a1 := h2; unfold In at a1)); (first | have a2 := in_u h1 | (have a2 := h1; unfold In at a2)); (first | have a3 := in_u i9a | (have a3 := i9a; unfold In at a3)); (first | have a4 := in_u ro_109_19 | (have a4 := ro_109_19; unfold In at a4)); (first | have a5 := in_u i9 | (have a5 := i9; unfold In at a5)); (first | have a6 := in_u i33 | (have a6 := i33; unfold In at a6)))); have a7 := t_add e33 i9 (in_c 1 rfl) rfl; (first | have a8 := in_u ((in_c 1 rfl)) | (have a8 := (in_c 1 rfl); unfold In at a8)); omega) hb))
          exact gg_w (by first | exact Nat.le_add_right _ _ | exact gw2 | exact gw3 | exact gwe rfl | exact gwf rfl | exact gwg rfl | exact gwh rfl | omega) (gg_f (gf_cons rfl (gf_cons rfl (gf_cons rfl (gf_cons rfl (gf_cons rfl gf_nil))))) (ih3 (sI sc3 129 y3_4.toNatClampNeg z31) z33 hI32 (fr_sI rfl hFc3) (in_w 0 32 i33 rfl) n3 n3a (m_up mm3 (t_add e33 i9 (in_c 1 rfl) rfl) (in_w 1 1 (in_c 1 rfl) rfl))))
        · skip
          have i21 := r_eq2 0 31 c21 i9 h3 rfl
          refine g_iconst 0 25 (gd rfl) rfl rfl ?_
          refine g_goto 32 (gd rfl) rfl ?_
          refine g_iastore 33 (gd rfl) rfl (n := 32) rfl (in_ix i9 rfl) ?_
          have hI32 := inv_sI (q := 129) (j := y3_4.toNatClampNeg) hIc3 rfl (in_w (-2147483648) 2147483647 (in_c 0 rfl) rfl)
          refine g_iinc 36 (gd rfl) rfl rfl (Nat.le_of_ble_eq_true rfl) (fun z33 e33 => ?_)
          have i33 := in_add 1 32 e33 i9 (in_c 1 rfl) rfl rfl
          refine g_goto 3 (gd rfl) rfl ?_
          have n3 : ∀ j : Nat, ((j : Int) < (z33).toInt ∧ (j : Int) ≠ (x3).toInt) → bt ((sI sc3 129 y3_4.toNatClampNeg (Int32.ofInt 0)).1 129 j) j = true := by first | (intro j hj; exfalso; have h0 : (Int32.ofInt 0).toInt = 0 := rfl; omega) | (rw [sI_q]; refine pt_up (P := fun j v => bt v j = true) (fun hD => ?_) (fun j hne hD => g3_0 j ⟨by have e4 : y3_4.toNatClampNeg = y3_4.toInt.toNat := rfl; (first | have a0 := oa7 i21 h2 h1 i9a ro_109_19 i9 i33 | ((first | have a0 := in_u i21 | (have a0 := i21; unfold In at a0)); (first | have a1 := in_u h2 | (have a1 := h2; unfold In at a1)); (first | have a2 := in_u h1 | (have a2 := h1; unfold In at a2)); (first | have a3 := in_u i9a | (have a3 := i9a; unfold In at a3)); (first | have a4 := in_u ro_109_19 | (have a4 := ro_109_19; unfold In at a4)); (first | have a5 := in_u i9 | (have a5 := i9; unfold In at a5)); (first | have a6 := in_u i33 | (have a6 := i33; unfold In at a6)))); have a7 := t_add e33 i9 (in_c 1 rfl) rfl; (first | have a8 := in_u ((in_c 1 rfl)) | (have a8 := (in_c 1 rfl); unfold In at a8)); omega, hD.2⟩); first | (rw [bt_one e31 i9]; simp) | (exfalso; apply hD.2; have e4 : y3_4.toNatClampNeg = y3_4.toInt.toNat := rfl; (first | have a0 := oa7 i21 h2 h1 i9a ro_109_19 i9 i33 | ((first | have a0 := in_u i21 | (have a0 := i21; unfold In at a0)); (first | have a1 := in_u h2 | (have a1 := h2; unfold In at a1)); (first | have a2 := in_u h1 | (have a2 := h1; unfold In at a2)); (first | have a3 := in_u i9a | (have a3 := i9a; unfold In at a3)); (first | have a4 := in_u ro_109_19 | (have a4 := ro_109_19; unfold In at a4)); (first | have a5 := in_u i9 | (have a5 := i9; unfold In at a5)); (first | have a6 := in_u i33 | (have a6 := i33; unfold In at a6)))); have a7 := t_add e33 i9 (in_c 1 rfl) rfl; (first | have a8 := in_u ((in_c 1 rfl)) | (have a8 := (in_c 1 rfl); unfold In at a8)); omega))
          have n3a : ∀ j w : Nat, (j : Int) < (z33).toInt → bt ((sI sc3 129 y3_4.toNatClampNeg (Int32.ofInt 0)).1 129 j) w = true → j = w := by (intro j w hj hb; rw [sI_q] at hb; have e4 : y3_4.toNatClampNeg = y3_4.toInt.toNat := rfl; by_cases c : j = y3_4.toNatClampNeg; (rw [c, up_e, show (Int32.ofInt 0) = (0 : Int32) from rfl, bt_z] at hb; cases hb); (rw [up_n c] at hb; exact g3_1 j w (by (first | have a0 := oa7 i21 h2 h1 i9a ro_109_19 i9 i33 | ((first | have a0 := in_u i21 | (have a0 := i21; unfold In at a0)); (first | have a1 := in_u h2 | (have a1 := h2; unfold In at a1)); (first | have a2 := in_u h1 | (have a2 := h1; unfold In at a2)); (first | have a3 := in_u i9a | (have a3 := i9a; unfold In at a3)); (first | have a4 := in_u ro_109_19 | (have a4 := ro_109_19; unfold In at a4)); (first | have a5 := in_u i9 | (have a5 := i9; unfold In at a5)); (first | have a6 := in_u i33 | (have a6 := i33; unfold In at a6)))); have a7 := t_add e33 i9 (in_c 1 rfl) rfl; (first | have a8 := in_u ((in_c 1 rfl)) | (have a8 := (in_c 1 rfl); unfold In at a8)); omega) hb))
          exact gg_w (by first | exact Nat.le_add_right _ _ | exact gw2 | exact gw3 | exact gwe rfl | exact gwf rfl | exact gwg rfl | exact gwh rfl | omega) (gg_f (gf_cons rfl (gf_cons rfl (gf_cons rfl (gf_cons rfl (gf_cons rfl gf_nil))))) (ih3 (sI sc3 129 y3_4.toNatClampNeg (Int32.ofInt 0)) z33 hI32 (fr_sI rfl hFc3) (in_w 0 32 i33 rfl) n3 n3a (m_up mm3 (t_add e33 i9 (in_c 1 rfl) rfl) (in_w 1 1 (in_c 1 rfl) rfl))))
  refine g_enter2 (k := 310) (N := 1244736) (by first | exact dq1 hd rfl | exact dq0 hd rfl | exact dq2 hd rfl | exact dq3 hd rfl | omega) rfl (Nat.le_of_ble_eq_true rfl) ?_
  refine g_iconst 0 1 (gd rfl) rfl rfl ?_
  refine g_istore 3 (gd rfl) rfl (Nat.le_of_ble_eq_true rfl) ?_
  have n3 : ∀ j : Nat, ((j : Int) < ((Int32.ofInt 0)).toInt ∧ (j : Int) ≠ (x3).toInt) → bt (s.1 129 j) j = true := by first | (intro j hj; exfalso; have h0 : (Int32.ofInt 0).toInt = 0 := rfl; omega) | (rw [sI_q]; refine pt_up (P := fun j v => bt v j = true) (fun hD => ?_) (fun j hne hD => g3_0 j ⟨by have e4 : y3_4.toNatClampNeg = y3_4.toInt.toNat := rfl; (first | have a0 := oa6 ro_109_20 ro_109_19 h3 h2 h1 ((in_c 0 rfl)) | ((first | have a0 := in_u ro_109_20 | (have a0 := ro_109_20; unfold In at a0)); (first | have a1 := in_u ro_109_19 | (have a1 := ro_109_19; unfold In at a1)); (first | have a2 := in_u h3 | (have a2 := h3; unfold In at a2)); (first | have a3 := in_u h2 | (have a3 := h2; unfold In at a3)); (first | have a4 := in_u h1 | (have a4 := h1; unfold In at a4)); (first | have a5 := in_u ((in_c 0 rfl)) | (have a5 := (in_c 0 rfl); unfold In at a5)))); omega, hD.2⟩); first | (rw [bt_one e31 i9]; simp) | (exfalso; apply hD.2; have e4 : y3_4.toNatClampNeg = y3_4.toInt.toNat := rfl; (first | have a0 := oa6 ro_109_20 ro_109_19 h3 h2 h1 ((in_c 0 rfl)) | ((first | have a0 := in_u ro_109_20 | (have a0 := ro_109_20; unfold In at a0)); (first | have a1 := in_u ro_109_19 | (have a1 := ro_109_19; unfold In at a1)); (first | have a2 := in_u h3 | (have a2 := h3; unfold In at a2)); (first | have a3 := in_u h2 | (have a3 := h2; unfold In at a3)); (first | have a4 := in_u h1 | (have a4 := h1; unfold In at a4)); (first | have a5 := in_u ((in_c 0 rfl)) | (have a5 := (in_c 0 rfl); unfold In at a5)))); omega))
  have n3a : ∀ j w : Nat, (j : Int) < ((Int32.ofInt 0)).toInt → bt (s.1 129 j) w = true → j = w := by (intro j w hj hb; exfalso; have h0 : (Int32.ofInt 0).toInt = 0 := rfl; omega)
  exact gg_w (by first | exact Nat.le_of_ble_eq_true rfl | omega) (gg_f (gf_cons rfl (gf_cons rfl (gf_cons rfl (gf_cons rfl (gf_cons rfl gf_nil))))) (ct3 33 s (Int32.ofInt 0) hI fr_rf (in_w 0 32 (in_c 0 rfl) rfl) n3 n3a (m_in 33 (in_w 0 32 (in_c 0 rfl) rfl) rfl)))

def fm_313 : FM := ([131], [], [], [])
/-- GraphHouseModel.fewest -/
theorem k_313 {Z : AmZ} {A : Nat → Nat} {s : GS} {ex : va_W} {d : Nat} {X : AmX} {x1 : Int32} {x2 : Int32} (hd : 3 ≤ d) (hI : Inv s) (h1 : In x1 0 31) (q_0 : FWP s (x1).toNatClampNeg (x2)) : GC Z d 313 [.ref (A 109), .int x1, .int x2] (WW Z A s ++ ex) 0 0 (fun v u => ∃ t : GS, Inv t ∧ Fr fm_313 s t ∧ v = none ∧ u = WW Z A t ++ ex ∧ (WFN t (x1).toNatClampNeg (x2))) X := by
  intro post xp hP hX
  obtain ⟨u_109_19, e_109_19⟩ : ∃ w, w = s.2.2.1 109 19 := ⟨_, rfl⟩
  have ro_109_19 := inv_F hI 0 160 rfl e_109_19
  obtain ⟨u_109_20, e_109_20⟩ : ∃ w, w = s.2.2.1 109 20 := ⟨_, rfl⟩
  have ro_109_20 := inv_F hI 0 32 rfl e_109_20
  have ct36 : ∀ (k36 : Nat) (sc36 : GS) (y36_3 : Int32), Inv sc36 → Fr fm_313 s sc36 → (In y36_3 0 32) → (FQ s (x1).toNatClampNeg (x2) (sc36.1 131) (y36_3).toNatClampNeg) → 32 - (y36_3).toInt < (k36 : Int) → GG Z (d - 1) 313 post (gx xp) (1 + k36 * 363601) 36 (fun j => xlook j [(0, .ref (A 109)), (1, .int x1), (2, .int x2), (3, .int y36_3)]) [] (WW Z A sc36 ++ ex) 0 0 := by
    intro k36
    induction k36 with
    | zero => intro sc36 y36_3 hIc36 hFc36 j36_3 g36_0 mm36; exact m_no mm36 j36_3 rfl
    | succ k36 ih36 =>
      intro sc36 y36_3 hIc36 hFc36 j36_3 g36_0 mm36
      refine gg_w (M := 1 + k36 * 363601 + 363601) gws ?_
      have ct50 : ∀ (k50 : Nat) (sc50 : GS) (y50_4 : Int32), Inv sc50 → Fr fm_313 s sc50 → (In y36_3 0 31) → (In y50_4 0 400) → ((u_109_19).toInt ≤ (y50_4).toInt) → ((y50_4).toInt ≤ (u_109_19).toInt + 160) → (FQI s (x1).toNatClampNeg (x2) (sc50.1 131) (y36_3).toNatClampNeg ((y50_4).toInt - u_109_19.toInt).toNat) → 400 - (y50_4).toInt < (k50 : Int) → GG Z (d - 1) 313 post (gx xp) (1 + k36 * 363601 + 1 + k50 * 900) 50 (fun j => xlook j [(0, .ref (A 109)), (1, .int x1), (2, .int x2), (3, .int y36_3), (4, .int y50_4)]) [] (WW Z A sc50 ++ ex) 0 0 := by
        intro k50
        induction k50 with
        | zero => intro sc50 y50_4 hIc50 hFc50 j50_3 j50_4 n50_0 n50_1 g50_0 mm50; exact m_no mm50 j50_4 rfl
        | succ k50 ih50 =>
          intro sc50 y50_4 hIc50 hFc50 j50_3 j50_4 n50_0 n50_1 g50_0 mm50
          refine gg_w (M := 1 + k36 * 363601 + 1 + k50 * 900 + 900) gws ?_
          refine g_iload 52 (gd rfl) rfl rfl ?_
          refine g_aload_n 53 (gd rfl) rfl rfl ?_
          refine g_getI 56 (gd rfl) rfl rfl rfl (fun z53 e53 => ?_)
          have q53 : u_109_19 = z53 := (fr_F e_109_19 hFc50 rfl).trans e53.symm
          subst q53
          refine g_sipush 160 59 (gd rfl) rfl rfl ?_
          refine g_iadd 60 (gd rfl) rfl (fun z59 e59 => ?_)
          have i59 := in_add 160 320 e59 ro_109_19 (in_c 160 rfl) rfl rfl
          refine g_cmp_ge 63 225 (gd rfl) rfl rfl (fun c60 => ?_) (fun c60 => ?_)
          · skip
            have i60 := r_le2 160 400 c60 i59 j50_4 rfl
            refine g_iinc 228 (gd rfl) rfl rfl (Nat.le_of_ble_eq_true rfl) (fun z225 e225 => ?_)
            have i225 := in_add 1 32 e225 j50_3 (in_c 1 rfl) rfl rfl
            refine g_goto 36 (gd rfl) rfl ?_
            have n36 : FQ s (x1).toNatClampNeg (x2) (sc50.1 131) (z225).toNatClampNeg := by rw [show (z225).toNatClampNeg = y36_3.toNatClampNeg + 1 from (by show z225.toInt.toNat = y36_3.toInt.toNat + 1; (first | have a0 := oa6 j50_3 h1 ro_109_20 ro_109_19 i60 i225 | ((first | have a0 := in_u j50_3 | (have a0 := j50_3; unfold In at a0)); (first | have a1 := in_u h1 | (have a1 := h1; unfold In at a1)); (first | have a2 := in_u ro_109_20 | (have a2 := ro_109_20; unfold In at a2)); (first | have a3 := in_u ro_109_19 | (have a3 := ro_109_19; unfold In at a3)); (first | have a4 := in_u i60 | (have a4 := i60; unfold In at a4)); (first | have a5 := in_u i225 | (have a5 := i225; unfold In at a5)))); have a6 := t_add e225 j50_3 (in_c 1 rfl) rfl; (first | have a7 := oa2 ((in_c 1 rfl)) i59 | ((first | have a7 := in_u ((in_c 1 rfl)) | (have a7 := (in_c 1 rfl); unfold In at a7)); (first | have a8 := in_u i59 | (have a8 := i59; unfold In at a8)))); have a9 := t_add e59 ro_109_19 (in_c 160 rfl) rfl; (first | have a10 := in_u ((in_c 160 rfl)) | (have a10 := (in_c 160 rfl); unfold In at a10)); (first | exact zt_s (by omega) (by omega) | omega))]; exact fq_r (by have h := g50_0; rw [show ((y50_4).toInt - u_109_19.toInt).toNat = 160 from (by (first | have a0 := oa6 j50_3 h1 ro_109_20 ro_109_19 i60 i225 | ((first | have a0 := in_u j50_3 | (have a0 := j50_3; unfold In at a0)); (first | have a1 := in_u h1 | (have a1 := h1; unfold In at a1)); (first | have a2 := in_u ro_109_20 | (have a2 := ro_109_20; unfold In at a2)); (first | have a3 := in_u ro_109_19 | (have a3 := ro_109_19; unfold In at a3)); (first | have a4 := in_u i60 | (have a4 := i60; unfold In at a4)); (first | have a5 := in_u i225 | (have a5 := i225; unfold In at a5)))); have a6 := t_add e225 j50_3 (in_c 1 rfl) rfl; (first | have a7 := oa2 ((in_c 1 rfl)) i59 | ((first | have a7 := in_u ((in_c 1 rfl)) | (have a7 := (in_c 1 rfl); unfold In at a7)); (first | have a8 := in_u i59 | (have a8 := i59; unfold In at a8)))); have a9 := t_add e59 ro_109_19 (in_c 160 rfl) rfl; (first | have a10 := in_u ((in_c 160 rfl)) | (have a10 := (in_c 160 rfl); unfold In at a10)); omega)] at h; exact h)
            exact gg_w (by first | exact Nat.le_add_right _ _ | exact gw2 | exact gw3 | exact gwe rfl | exact gwf rfl | exact gwg rfl | exact gwh rfl | omega) (gg_f (gf_cons rfl (gf_cons rfl (gf_cons rfl (gf_cons rfl gf_nil)))) (ih36 sc50 z225 hIc50 hFc50 (in_w 0 32 i225 rfl) n36 (m_up mm36 (t_add e225 j50_3 (in_c 1 rfl) rfl) (in_w 1 1 (in_c 1 rfl) rfl))))
          · skip
            have i60 := r_lt1 0 319 c60 j50_4 i59 rfl
            refine g_aload_n 64 (gd rfl) rfl rfl ?_
            refine g_getA (q2 := 112) 67 (gd rfl) rfl rfl rfl rfl ?_
            refine g_iload 69 (gd rfl) rfl rfl ?_
            refine g_baload 70 (gd rfl) rfl (n := 480) rfl (in_ix i60 rfl) (fun z69 e69 => ?_)
            have i69 := inv_I hIc50 (n := 480) (t := 3) 0 1 rfl (in_ix i60 rfl) rfl e69
            refine g_if_eq 73 219 (gd rfl) rfl rfl (fun c70 => ?_) (fun c70 => ?_)
            · skip
              have i70 := z_eq 0 0 c70 i69 rfl
              refine g_iinc 222 (gd rfl) rfl rfl (Nat.le_of_ble_eq_true rfl) (fun z219 e219 => ?_)
              have i219 := in_add 1 320 e219 i60 (in_c 1 rfl) rfl rfl
              refine g_goto 50 (gd rfl) rfl ?_
              have n50 : (u_109_19).toInt ≤ (z219).toInt := by (first | have a0 := oa6 j50_3 h1 ro_109_20 ro_109_19 i60 i219 | ((first | have a0 := in_u j50_3 | (have a0 := j50_3; unfold In at a0)); (first | have a1 := in_u h1 | (have a1 := h1; unfold In at a1)); (first | have a2 := in_u ro_109_20 | (have a2 := ro_109_20; unfold In at a2)); (first | have a3 := in_u ro_109_19 | (have a3 := ro_109_19; unfold In at a3)); (first | have a4 := in_u i60 | (have a4 := i60; unfold In at a4)); (first | have a5 := in_u i219 | (have a5 := i219; unfold In at a5)))); have a6 := t_add e219 i60 (in_c 1 rfl) rfl; (first | have a7 := oa2 ((in_c 1 rfl)) i59 | ((first | have a7 := in_u ((in_c 1 rfl)) | (have a7 := (in_c 1 rfl); unfold In at a7)); (first | have a8 := in_u i59 | (have a8 := i59; unfold In at a8)))); have a9 := t_add e59 ro_109_19 (in_c 160 rfl) rfl; (first | have a10 := in_u ((in_c 160 rfl)) | (have a10 := (in_c 160 rfl); unfold In at a10)); omega
              have n50a : (z219).toInt ≤ (u_109_19).toInt + 160 := by (first | have a0 := oa6 j50_3 h1 ro_109_20 ro_109_19 i60 i219 | ((first | have a0 := in_u j50_3 | (have a0 := j50_3; unfold In at a0)); (first | have a1 := in_u h1 | (have a1 := h1; unfold In at a1)); (first | have a2 := in_u ro_109_20 | (have a2 := ro_109_20; unfold In at a2)); (first | have a3 := in_u ro_109_19 | (have a3 := ro_109_19; unfold In at a3)); (first | have a4 := in_u i60 | (have a4 := i60; unfold In at a4)); (first | have a5 := in_u i219 | (have a5 := i219; unfold In at a5)))); have a6 := t_add e219 i60 (in_c 1 rfl) rfl; (first | have a7 := oa2 ((in_c 1 rfl)) i59 | ((first | have a7 := in_u ((in_c 1 rfl)) | (have a7 := (in_c 1 rfl); unfold In at a7)); (first | have a8 := in_u i59 | (have a8 := i59; unfold In at a8)))); have a9 := t_add e59 ro_109_19 (in_c 160 rfl) rfl; (first | have a10 := in_u ((in_c 160 rfl)) | (have a10 := (in_c 160 rfl); unfold In at a10)); omega
              have n50b : FQI s (x1).toNatClampNeg (x2) (sc50.1 131) (y36_3).toNatClampNeg ((z219).toInt - u_109_19.toInt).toNat := by rw [show ((z219).toInt - u_109_19.toInt).toNat = ((y50_4).toInt - u_109_19.toInt).toNat + 1 from (by (first | have a0 := oa6 j50_3 h1 ro_109_20 ro_109_19 i60 i219 | ((first | have a0 := in_u j50_3 | (have a0 := j50_3; unfold In at a0)); (first | have a1 := in_u h1 | (have a1 := h1; unfold In at a1)); (first | have a2 := in_u ro_109_20 | (have a2 := ro_109_20; unfold In at a2)); (first | have a3 := in_u ro_109_19 | (have a3 := ro_109_19; unfold In at a3)); (first | have a4 := in_u i60 | (have a4 := i60; unfold In at a4)); (first | have a5 := in_u i219 | (have a5 := i219; unfold In at a5)))); have a6 := t_add e219 i60 (in_c 1 rfl) rfl; (first | have a7 := oa2 ((in_c 1 rfl)) i59 | ((first | have a7 := in_u ((in_c 1 rfl)) | (have a7 := (in_c 1 rfl); unfold In at a7)); (first | have a8 := in_u i59 | (have a8 := i59; unfold In at a8)))); have a9 := t_add e59 ro_109_19 (in_c 160 rfl) rfl; (first | have a10 := in_u ((in_c 160 rfl)) | (have a10 := (in_c 160 rfl); unfold In at a10)); omega)]; exact fqi_no g50_0 (fun t1 t2 t3 t4 t5 => by exfalso; rw [(ix_k (y := y50_4) e_109_19 (by (first | have a0 := oa6 j50_3 h1 ro_109_20 ro_109_19 i60 i219 | ((first | have a0 := in_u j50_3 | (have a0 := j50_3; unfold In at a0)); (first | have a1 := in_u h1 | (have a1 := h1; unfold In at a1)); (first | have a2 := in_u ro_109_20 | (have a2 := ro_109_20; unfold In at a2)); (first | have a3 := in_u ro_109_19 | (have a3 := ro_109_19; unfold In at a3)); (first | have a4 := in_u i60 | (have a4 := i60; unfold In at a4)); (first | have a5 := in_u i219 | (have a5 := i219; unfold In at a5)))); have a6 := t_add e219 i60 (in_c 1 rfl) rfl; (first | have a7 := oa2 ((in_c 1 rfl)) i59 | ((first | have a7 := in_u ((in_c 1 rfl)) | (have a7 := (in_c 1 rfl); unfold In at a7)); (first | have a8 := in_u i59 | (have a8 := i59; unfold In at a8)))); have a9 := t_add e59 ro_109_19 (in_c 160 rfl) rfl; (first | have a10 := in_u ((in_c 160 rfl)) | (have a10 := (in_c 160 rfl); unfold In at a10)); omega) (by (first | have a0 := oa6 j50_3 h1 ro_109_20 ro_109_19 i60 i219 | ((first | have a0 := in_u j50_3 | (have a0 := j50_3; unfold In at a0)); (first | have a1 := in_u h1 | (have a1 := h1; unfold In at a1)); (first | have a2 := in_u ro_109_20 | (have a2 := ro_109_20; unfold In at a2)); (first | have a3 := in_u ro_109_19 | (have a3 := ro_109_19; unfold In at a3)); (first | have a4 := in_u i60 | (have a4 := i60; unfold In at a4)); (first | have a5 := in_u i219 | (have a5 := i219; unfold In at a5)))); have a6 := t_add e219 i60 (in_c 1 rfl) rfl; (first | have a7 := oa2 ((in_c 1 rfl)) i59 | ((first | have a7 := in_u ((in_c 1 rfl)) | (have a7 := (in_c 1 rfl); unfold In at a7)); (first | have a8 := in_u i59 | (have a8 := i59; unfold In at a8)))); have a9 := t_add e59 ro_109_19 (in_c 160 rfl) rfl; (first | have a10 := in_u ((in_c 160 rfl)) | (have a10 := (in_c 160 rfl); unfold In at a10)); omega)), ← hFc50.1 112 rfl, ← e69] at t1; exact t1 c70)
              exact gg_w (by first | exact Nat.le_add_right _ _ | exact gw2 | exact gw3 | exact gwe rfl | exact gwf rfl | exact gwg rfl | exact gwh rfl | omega) (gg_f (gf_cons rfl (gf_cons rfl (gf_cons rfl (gf_cons rfl (gf_cons rfl gf_nil))))) (ih50 sc50 z219 hIc50 hFc50 (in_w 0 31 j50_3 rfl) (in_w 0 400 i219 rfl) n50 n50a n50b (m_up mm50 (t_add e219 i60 (in_c 1 rfl) rfl) (in_w 1 1 (in_c 1 rfl) rfl))))
            · skip
              have i70 := z_ne 1 1 c70 i69 rfl
              refine g_iload_n 74 (gd rfl) rfl rfl ?_
              refine g_aload_n 75 (gd rfl) rfl rfl ?_
              refine g_getA (q2 := 113) 78 (gd rfl) rfl rfl rfl rfl ?_
              refine g_iload 80 (gd rfl) rfl rfl ?_
              refine g_iaload 81 (gd rfl) rfl (n := 480) rfl (in_ix i60 rfl) (fun z80 e80 => ?_)
              have i80 := inv_I hIc50 (n := 480) (t := 0) 0 31 rfl (in_ix i60 rfl) rfl e80
              refine g_calls (As := [.int x2, .int z80]) (r := []) 84 (gd rfl) rfl rfl rfl rfl rfl (Nat.le_of_ble_eq_true rfl) (mc := 0) (ms := 0) (Nat.zero_le _) (Nat.zero_le _) (P := fun v u => _) ?_ (fun v u h => h)
              intro po81 xx81 hp81 hx81
              refine g_enter2 (k := 311) (N := 300) (by first | exact dq1 hd rfl | exact dq0 hd rfl | exact dq2 hd rfl | exact dq3 hd rfl | omega) rfl (Nat.le_of_ble_eq_true rfl) ?_
              refine g_iload_n 1 (gd rfl) rfl rfl ?_
              refine g_iload_n 2 (gd rfl) rfl rfl ?_
              refine g_ishr 3 (gd rfl) rfl (fun z81x2 e81x2 => ?_)
              refine g_iconst 1 4 (gd rfl) rfl rfl ?_
              refine g_iand 5 (gd rfl) rfl (fun z81x4 e81x4 => ?_)
              have i81x4 := in_and2 e81x4 (in_c 1 rfl) rfl
              refine g_iconst 1 6 (gd rfl) rfl rfl ?_
              refine g_cmp_ne 9 13 (gd rfl) rfl rfl (fun c81x6 => ?_) (fun c81x6 => ?_)
              · skip
                have i81x6 := r_ne1 0 0 c81x6 i81x4 (in_c 1 rfl) rfl
                refine g_iconst 0 14 (gd rfl) rfl rfl ?_
                refine g_ireturn (gd rfl) rfl (nb01 (in_w 0 1 (in_c 0 rfl) rfl)) (hp81 _ _ ?_)
                show GG _ _ _ _ _ _ _ _ [.int (Int32.ofInt 0)] _ _ _
                refine g_if_eq 87 219 (gd rfl) rfl rfl (fun c84 => ?_) (fun c84 => ?_)
                · skip
                  refine g_iinc 222 (gd rfl) rfl rfl (Nat.le_of_ble_eq_true rfl) (fun z219 e219 => ?_)
                  have i219 := in_add 1 320 e219 i60 (in_c 1 rfl) rfl rfl
                  refine g_goto 50 (gd rfl) rfl ?_
                  have n50 : (u_109_19).toInt ≤ (z219).toInt := by (first | have a0 := oa6 j50_3 h1 ro_109_20 ro_109_19 i60 i219 | ((first | have a0 := in_u j50_3 | (have a0 := j50_3; unfold In at a0)); (first | have a1 := in_u h1 | (have a1 := h1; unfold In at a1)); (first | have a2 := in_u ro_109_20 | (have a2 := ro_109_20; unfold In at a2)); (first | have a3 := in_u ro_109_19 | (have a3 := ro_109_19; unfold In at a3)); (first | have a4 := in_u i60 | (have a4 := i60; unfold In at a4)); (first | have a5 := in_u i219 | (have a5 := i219; unfold In at a5)))); have a6 := t_add e219 i60 (in_c 1 rfl) rfl; (first | have a7 := oa2 ((in_c 1 rfl)) i59 | ((first | have a7 := in_u ((in_c 1 rfl)) | (have a7 := (in_c 1 rfl); unfold In at a7)); (first | have a8 := in_u i59 | (have a8 := i59; unfold In at a8)))); have a9 := t_add e59 ro_109_19 (in_c 160 rfl) rfl; (first | have a10 := in_u ((in_c 160 rfl)) | (have a10 := (in_c 160 rfl); unfold In at a10)); omega
                  have n50a : (z219).toInt ≤ (u_109_19).toInt + 160 := by (first | have a0 := oa6 j50_3 h1 ro_109_20 ro_109_19 i60 i219 | ((first | have a0 := in_u j50_3 | (have a0 := j50_3; unfold In at a0)); (first | have a1 := in_u h1 | (have a1 := h1; unfold In at a1)); (first | have a2 := in_u ro_109_20 | (have a2 := ro_109_20; unfold In at a2)); (first | have a3 := in_u ro_109_19 | (have a3 := ro_109_19; unfold In at a3)); (first | have a4 := in_u i60 | (have a4 := i60; unfold In at a4)); (first | have a5 := in_u i219 | (have a5 := i219; unfold In at a5)))); have a6 := t_add e219 i60 (in_c 1 rfl) rfl; (first | have a7 := oa2 ((in_c 1 rfl)) i59 | ((first | have a7 := in_u ((in_c 1 rfl)) | (have a7 := (in_c 1 rfl); unfold In at a7)); (first | have a8 := in_u i59 | (have a8 := i59; unfold In at a8)))); have a9 := t_add e59 ro_109_19 (in_c 160 rfl) rfl; (first | have a10 := in_u ((in_c 160 rfl)) | (have a10 := (in_c 160 rfl); unfold In at a10)); omega
                  have n50b : FQI s (x1).toNatClampNeg (x2) (sc50.1 131) (y36_3).toNatClampNeg ((z219).toInt - u_109_19.toInt).toNat := by rw [show ((z219).toInt - u_109_19.toInt).toNat = ((y50_4).toInt - u_109_19.toInt).toNat + 1 from (by (first | have a0 := oa6 j50_3 h1 ro_109_20 ro_109_19 i60 i219 | ((first | have a0 := in_u j50_3 | (have a0 := j50_3; unfold In at a0)); (first | have a1 := in_u h1 | (have a1 := h1; unfold In at a1)); (first | have a2 := in_u ro_109_20 | (have a2 := ro_109_20; unfold In at a2)); (first | have a3 := in_u ro_109_19 | (have a3 := ro_109_19; unfold In at a3)); (first | have a4 := in_u i60 | (have a4 := i60; unfold In at a4)); (first | have a5 := in_u i219 | (have a5 := i219; unfold In at a5)))); have a6 := t_add e219 i60 (in_c 1 rfl) rfl; (first | have a7 := oa2 ((in_c 1 rfl)) i59 | ((first | have a7 := in_u ((in_c 1 rfl)) | (have a7 := (in_c 1 rfl); unfold In at a7)); (first | have a8 := in_u i59 | (have a8 := i59; unfold In at a8)))); have a9 := t_add e59 ro_109_19 (in_c 160 rfl) rfl; (first | have a10 := in_u ((in_c 160 rfl)) | (have a10 := (in_c 160 rfl); unfold In at a10)); omega)]; exact fqi_no g50_0 (fun t1 t2 t3 t4 t5 => by exfalso; have hb := bt_no e81x2 e81x4 i80 c81x6; rw [(ix_k (y := y50_4) e_109_19 (by (first | have a0 := oa6 j50_3 h1 ro_109_20 ro_109_19 i60 i219 | ((first | have a0 := in_u j50_3 | (have a0 := j50_3; unfold In at a0)); (first | have a1 := in_u h1 | (have a1 := h1; unfold In at a1)); (first | have a2 := in_u ro_109_20 | (have a2 := ro_109_20; unfold In at a2)); (first | have a3 := in_u ro_109_19 | (have a3 := ro_109_19; unfold In at a3)); (first | have a4 := in_u i60 | (have a4 := i60; unfold In at a4)); (first | have a5 := in_u i219 | (have a5 := i219; unfold In at a5)))); have a6 := t_add e219 i60 (in_c 1 rfl) rfl; (first | have a7 := oa2 ((in_c 1 rfl)) i59 | ((first | have a7 := in_u ((in_c 1 rfl)) | (have a7 := (in_c 1 rfl); unfold In at a7)); (first | have a8 := in_u i59 | (have a8 := i59; unfold In at a8)))); have a9 := t_add e59 ro_109_19 (in_c 160 rfl) rfl; (first | have a10 := in_u ((in_c 160 rfl)) | (have a10 := (in_c 160 rfl); unfold In at a10)); omega) (by (first | have a0 := oa6 j50_3 h1 ro_109_20 ro_109_19 i60 i219 | ((first | have a0 := in_u j50_3 | (have a0 := j50_3; unfold In at a0)); (first | have a1 := in_u h1 | (have a1 := h1; unfold In at a1)); (first | have a2 := in_u ro_109_20 | (have a2 := ro_109_20; unfold In at a2)); (first | have a3 := in_u ro_109_19 | (have a3 := ro_109_19; unfold In at a3)); (first | have a4 := in_u i60 | (have a4 := i60; unfold In at a4)); (first | have a5 := in_u i219 | (have a5 := i219; unfold In at a5)))); have a6 := t_add e219 i60 (in_c 1 rfl) rfl; (first | have a7 := oa2 ((in_c 1 rfl)) i59 | ((first | have a7 := in_u ((in_c 1 rfl)) | (have a7 := (in_c 1 rfl); unfold In at a7)); (first | have a8 := in_u i59 | (have a8 := i59; unfold In at a8)))); have a9 := t_add e59 ro_109_19 (in_c 160 rfl) rfl; (first | have a10 := in_u ((in_c 160 rfl)) | (have a10 := (in_c 160 rfl); unfold In at a10)); omega)), ← hFc50.1 113 rfl, ← e80, hb] at t2; cases t2)
                  exact gg_w (by first | exact Nat.le_add_right _ _ | exact gw2 | exact gw3 | exact gwe rfl | exact gwf rfl | exact gwg rfl | exact gwh rfl | omega) (gg_f (gf_cons rfl (gf_cons rfl (gf_cons rfl (gf_cons rfl (gf_cons rfl gf_nil))))) (ih50 sc50 z219 hIc50 hFc50 (in_w 0 31 j50_3 rfl) (in_w 0 400 i219 rfl) n50 n50a n50b (m_up mm50 (t_add e219 i60 (in_c 1 rfl) rfl) (in_w 1 1 (in_c 1 rfl) rfl))))
                · skip
                  exact zn_ne c84 (in_c 0 rfl) rfl
              · skip
                have i81x6 := r_eq1 1 1 c81x6 i81x4 (in_c 1 rfl) rfl
                refine g_iconst 1 10 (gd rfl) rfl rfl ?_
                refine g_goto 14 (gd rfl) rfl ?_
                refine g_ireturn (gd rfl) rfl (nb01 (in_w 0 1 (in_c 1 rfl) rfl)) (hp81 _ _ ?_)
                show GG _ _ _ _ _ _ _ _ [.int (Int32.ofInt 1)] _ _ _
                refine g_if_eq 87 219 (gd rfl) rfl rfl (fun c84 => ?_) (fun c84 => ?_)
                · skip
                  exact zn_eq c84 (in_c 1 rfl) rfl
                · skip
                  refine g_iload_n 88 (gd rfl) rfl rfl ?_
                  refine g_aload_n 89 (gd rfl) rfl rfl ?_
                  refine g_getA (q2 := 114) 92 (gd rfl) rfl rfl rfl rfl ?_
                  refine g_iload 94 (gd rfl) rfl rfl ?_
                  refine g_iaload 95 (gd rfl) rfl (n := 480) rfl (in_ix i60 rfl) (fun z94 e94 => ?_)
                  have i94 := inv_I hIc50 (n := 480) (t := 0) 0 31 rfl (in_ix i60 rfl) rfl e94
                  refine g_calls (As := [.int x2, .int z94]) (r := []) 98 (gd rfl) rfl rfl rfl rfl rfl (Nat.le_of_ble_eq_true rfl) (mc := 0) (ms := 0) (Nat.zero_le _) (Nat.zero_le _) (P := fun v u => _) ?_ (fun v u h => h)
                  intro po95 xx95 hp95 hx95
                  refine g_enter2 (k := 311) (N := 300) (by first | exact dq1 hd rfl | exact dq0 hd rfl | exact dq2 hd rfl | exact dq3 hd rfl | omega) rfl (Nat.le_of_ble_eq_true rfl) ?_
                  refine g_iload_n 1 (gd rfl) rfl rfl ?_
                  refine g_iload_n 2 (gd rfl) rfl rfl ?_
                  refine g_ishr 3 (gd rfl) rfl (fun z95x2 e95x2 => ?_)
                  refine g_iconst 1 4 (gd rfl) rfl rfl ?_
                  refine g_iand 5 (gd rfl) rfl (fun z95x4 e95x4 => ?_)
                  have i95x4 := in_and2 e95x4 (in_c 1 rfl) rfl
                  refine g_iconst 1 6 (gd rfl) rfl rfl ?_
                  refine g_cmp_ne 9 13 (gd rfl) rfl rfl (fun c95x6 => ?_) (fun c95x6 => ?_)
                  · skip
                    have i95x6 := r_ne1 0 0 c95x6 i95x4 (in_c 1 rfl) rfl
                    refine g_iconst 0 14 (gd rfl) rfl rfl ?_
                    refine g_ireturn (gd rfl) rfl (nb01 (in_w 0 1 (in_c 0 rfl) rfl)) (hp95 _ _ ?_)
                    show GG _ _ _ _ _ _ _ _ [.int (Int32.ofInt 0)] _ _ _
                    refine g_if_eq 101 219 (gd rfl) rfl rfl (fun c98 => ?_) (fun c98 => ?_)
                    · skip
                      refine g_iinc 222 (gd rfl) rfl rfl (Nat.le_of_ble_eq_true rfl) (fun z219 e219 => ?_)
                      have i219 := in_add 1 320 e219 i60 (in_c 1 rfl) rfl rfl
                      refine g_goto 50 (gd rfl) rfl ?_
                      have n50 : (u_109_19).toInt ≤ (z219).toInt := by (first | have a0 := oa6 j50_3 h1 ro_109_20 ro_109_19 i60 i219 | ((first | have a0 := in_u j50_3 | (have a0 := j50_3; unfold In at a0)); (first | have a1 := in_u h1 | (have a1 := h1; unfold In at a1)); (first | have a2 := in_u ro_109_20 | (have a2 := ro_109_20; unfold In at a2)); (first | have a3 := in_u ro_109_19 | (have a3 := ro_109_19; unfold In at a3)); (first | have a4 := in_u i60 | (have a4 := i60; unfold In at a4)); (first | have a5 := in_u i219 | (have a5 := i219; unfold In at a5)))); have a6 := t_add e219 i60 (in_c 1 rfl) rfl; (first | have a7 := oa2 ((in_c 1 rfl)) i59 | ((first | have a7 := in_u ((in_c 1 rfl)) | (have a7 := (in_c 1 rfl); unfold In at a7)); (first | have a8 := in_u i59 | (have a8 := i59; unfold In at a8)))); have a9 := t_add e59 ro_109_19 (in_c 160 rfl) rfl; (first | have a10 := in_u ((in_c 160 rfl)) | (have a10 := (in_c 160 rfl); unfold In at a10)); omega
                      have n50a : (z219).toInt ≤ (u_109_19).toInt + 160 := by (first | have a0 := oa6 j50_3 h1 ro_109_20 ro_109_19 i60 i219 | ((first | have a0 := in_u j50_3 | (have a0 := j50_3; unfold In at a0)); (first | have a1 := in_u h1 | (have a1 := h1; unfold In at a1)); (first | have a2 := in_u ro_109_20 | (have a2 := ro_109_20; unfold In at a2)); (first | have a3 := in_u ro_109_19 | (have a3 := ro_109_19; unfold In at a3)); (first | have a4 := in_u i60 | (have a4 := i60; unfold In at a4)); (first | have a5 := in_u i219 | (have a5 := i219; unfold In at a5)))); have a6 := t_add e219 i60 (in_c 1 rfl) rfl; (first | have a7 := oa2 ((in_c 1 rfl)) i59 | ((first | have a7 := in_u ((in_c 1 rfl)) | (have a7 := (in_c 1 rfl); unfold In at a7)); (first | have a8 := in_u i59 | (have a8 := i59; unfold In at a8)))); have a9 := t_add e59 ro_109_19 (in_c 160 rfl) rfl; (first | have a10 := in_u ((in_c 160 rfl)) | (have a10 := (in_c 160 rfl); unfold In at a10)); omega
                      have n50b : FQI s (x1).toNatClampNeg (x2) (sc50.1 131) (y36_3).toNatClampNeg ((z219).toInt - u_109_19.toInt).toNat := by rw [show ((z219).toInt - u_109_19.toInt).toNat = ((y50_4).toInt - u_109_19.toInt).toNat + 1 from (by (first | have a0 := oa6 j50_3 h1 ro_109_20 ro_109_19 i60 i219 | ((first | have a0 := in_u j50_3 | (have a0 := j50_3; unfold In at a0)); (first | have a1 := in_u h1 | (have a1 := h1; unfold In at a1)); (first | have a2 := in_u ro_109_20 | (have a2 := ro_109_20; unfold In at a2)); (first | have a3 := in_u ro_109_19 | (have a3 := ro_109_19; unfold In at a3)); (first | have a4 := in_u i60 | (have a4 := i60; unfold In at a4)); (first | have a5 := in_u i219 | (have a5 := i219; unfold In at a5)))); have a6 := t_add e219 i60 (in_c 1 rfl) rfl; (first | have a7 := oa2 ((in_c 1 rfl)) i59 | ((first | have a7 := in_u ((in_c 1 rfl)) | (have a7 := (in_c 1 rfl); unfold In at a7)); (first | have a8 := in_u i59 | (have a8 := i59; unfold In at a8)))); have a9 := t_add e59 ro_109_19 (in_c 160 rfl) rfl; (first | have a10 := in_u ((in_c 160 rfl)) | (have a10 := (in_c 160 rfl); unfold In at a10)); omega)]; exact fqi_no g50_0 (fun t1 t2 t3 t4 t5 => by exfalso; have hb := bt_no e95x2 e95x4 i94 c95x6; rw [(ix_k (y := y50_4) e_109_19 (by (first | have a0 := oa6 j50_3 h1 ro_109_20 ro_109_19 i60 i219 | ((first | have a0 := in_u j50_3 | (have a0 := j50_3; unfold In at a0)); (first | have a1 := in_u h1 | (have a1 := h1; unfold In at a1)); (first | have a2 := in_u ro_109_20 | (have a2 := ro_109_20; unfold In at a2)); (first | have a3 := in_u ro_109_19 | (have a3 := ro_109_19; unfold In at a3)); (first | have a4 := in_u i60 | (have a4 := i60; unfold In at a4)); (first | have a5 := in_u i219 | (have a5 := i219; unfold In at a5)))); have a6 := t_add e219 i60 (in_c 1 rfl) rfl; (first | have a7 := oa2 ((in_c 1 rfl)) i59 | ((first | have a7 := in_u ((in_c 1 rfl)) | (have a7 := (in_c 1 rfl); unfold In at a7)); (first | have a8 := in_u i59 | (have a8 := i59; unfold In at a8)))); have a9 := t_add e59 ro_109_19 (in_c 160 rfl) rfl; (first | have a10 := in_u ((in_c 160 rfl)) | (have a10 := (in_c 160 rfl); unfold In at a10)); omega) (by (first | have a0 := oa6 j50_3 h1 ro_109_20 ro_109_19 i60 i219 | ((first | have a0 := in_u j50_3 | (have a0 := j50_3; unfold In at a0)); (first | have a1 := in_u h1 | (have a1 := h1; unfold In at a1)); (first | have a2 := in_u ro_109_20 | (have a2 := ro_109_20; unfold In at a2)); (first | have a3 := in_u ro_109_19 | (have a3 := ro_109_19; unfold In at a3)); (first | have a4 := in_u i60 | (have a4 := i60; unfold In at a4)); (first | have a5 := in_u i219 | (have a5 := i219; unfold In at a5)))); have a6 := t_add e219 i60 (in_c 1 rfl) rfl; (first | have a7 := oa2 ((in_c 1 rfl)) i59 | ((first | have a7 := in_u ((in_c 1 rfl)) | (have a7 := (in_c 1 rfl); unfold In at a7)); (first | have a8 := in_u i59 | (have a8 := i59; unfold In at a8)))); have a9 := t_add e59 ro_109_19 (in_c 160 rfl) rfl; (first | have a10 := in_u ((in_c 160 rfl)) | (have a10 := (in_c 160 rfl); unfold In at a10)); omega)), ← hFc50.1 114 rfl, ← e94, hb] at t3; cases t3)
                      exact gg_w (by first | exact Nat.le_add_right _ _ | exact gw2 | exact gw3 | exact gwe rfl | exact gwf rfl | exact gwg rfl | exact gwh rfl | omega) (gg_f (gf_cons rfl (gf_cons rfl (gf_cons rfl (gf_cons rfl (gf_cons rfl gf_nil))))) (ih50 sc50 z219 hIc50 hFc50 (in_w 0 31 j50_3 rfl) (in_w 0 400 i219 rfl) n50 n50a n50b (m_up mm50 (t_add e219 i60 (in_c 1 rfl) rfl) (in_w 1 1 (in_c 1 rfl) rfl))))
                    · skip
                      exact zn_ne c98 (in_c 0 rfl) rfl
                  · skip
                    have i95x6 := r_eq1 1 1 c95x6 i95x4 (in_c 1 rfl) rfl
                    refine g_iconst 1 10 (gd rfl) rfl rfl ?_
                    refine g_goto 14 (gd rfl) rfl ?_
                    refine g_ireturn (gd rfl) rfl (nb01 (in_w 0 1 (in_c 1 rfl) rfl)) (hp95 _ _ ?_)
                    show GG _ _ _ _ _ _ _ _ [.int (Int32.ofInt 1)] _ _ _
                    refine g_if_eq 101 219 (gd rfl) rfl rfl (fun c98 => ?_) (fun c98 => ?_)
                    · skip
                      exact zn_eq c98 (in_c 1 rfl) rfl
                    · skip
                      refine g_aload_n 102 (gd rfl) rfl rfl ?_
                      refine g_getA (q2 := 130) 105 (gd rfl) rfl rfl rfl rfl ?_
                      refine g_aload_n 106 (gd rfl) rfl rfl ?_
                      refine g_getA (q2 := 114) 109 (gd rfl) rfl rfl rfl rfl ?_
                      refine g_iload 111 (gd rfl) rfl rfl ?_
                      refine g_iaload 112 (gd rfl) rfl (n := 480) rfl (in_ix i60 rfl) (fun z111 e111 => ?_)
                      have q111 : z94 = z111 := (e94).trans e111.symm
                      subst q111
                      refine g_laload 113 (gd rfl) rfl (n := 32) rfl (in_ix i94 rfl) (fun z112 e112 => ?_)
                      refine g_ldc2_w 9000000000000000 116 (gd rfl) rfl rfl ?_
                      refine g_lcmp 117 (gd rfl) rfl (fun z116 e116 => ?_)
                      have i116 := lc_in e116
                      refine g_if_ge 120 219 (gd rfl) rfl rfl (fun c117 => ?_) (fun c117 => ?_)
                      · skip
                        have i117 := z_ge 0 1 c117 i116 rfl
                        have c117a := lc_ge e116 c117
                        have i117a := lr_le2 9000000000000000 9223372036854775807 c117a (l_c 9000000000000000 rfl) (l_rng z112) rfl
                        refine g_iinc 222 (gd rfl) rfl rfl (Nat.le_of_ble_eq_true rfl) (fun z219 e219 => ?_)
                        have i219 := in_add 1 320 e219 i60 (in_c 1 rfl) rfl rfl
                        refine g_goto 50 (gd rfl) rfl ?_
                        have n50 : (u_109_19).toInt ≤ (z219).toInt := by (first | have a0 := oa6 j50_3 h1 ro_109_20 ro_109_19 i60 i219 | ((first | have a0 := in_u j50_3 | (have a0 := j50_3; unfold In at a0)); (first | have a1 := in_u h1 | (have a1 := h1; unfold In at a1)); (first | have a2 := in_u ro_109_20 | (have a2 := ro_109_20; unfold In at a2)); (first | have a3 := in_u ro_109_19 | (have a3 := ro_109_19; unfold In at a3)); (first | have a4 := in_u i60 | (have a4 := i60; unfold In at a4)); (first | have a5 := in_u i219 | (have a5 := i219; unfold In at a5)))); have a6 := t_add e219 i60 (in_c 1 rfl) rfl; (first | have a7 := oa2 ((in_c 1 rfl)) i59 | ((first | have a7 := in_u ((in_c 1 rfl)) | (have a7 := (in_c 1 rfl); unfold In at a7)); (first | have a8 := in_u i59 | (have a8 := i59; unfold In at a8)))); have a9 := t_add e59 ro_109_19 (in_c 160 rfl) rfl; (first | have a10 := in_u ((in_c 160 rfl)) | (have a10 := (in_c 160 rfl); unfold In at a10)); omega
                        have n50a : (z219).toInt ≤ (u_109_19).toInt + 160 := by (first | have a0 := oa6 j50_3 h1 ro_109_20 ro_109_19 i60 i219 | ((first | have a0 := in_u j50_3 | (have a0 := j50_3; unfold In at a0)); (first | have a1 := in_u h1 | (have a1 := h1; unfold In at a1)); (first | have a2 := in_u ro_109_20 | (have a2 := ro_109_20; unfold In at a2)); (first | have a3 := in_u ro_109_19 | (have a3 := ro_109_19; unfold In at a3)); (first | have a4 := in_u i60 | (have a4 := i60; unfold In at a4)); (first | have a5 := in_u i219 | (have a5 := i219; unfold In at a5)))); have a6 := t_add e219 i60 (in_c 1 rfl) rfl; (first | have a7 := oa2 ((in_c 1 rfl)) i59 | ((first | have a7 := in_u ((in_c 1 rfl)) | (have a7 := (in_c 1 rfl); unfold In at a7)); (first | have a8 := in_u i59 | (have a8 := i59; unfold In at a8)))); have a9 := t_add e59 ro_109_19 (in_c 160 rfl) rfl; (first | have a10 := in_u ((in_c 160 rfl)) | (have a10 := (in_c 160 rfl); unfold In at a10)); omega
                        have n50b : FQI s (x1).toNatClampNeg (x2) (sc50.1 131) (y36_3).toNatClampNeg ((z219).toInt - u_109_19.toInt).toNat := by rw [show ((z219).toInt - u_109_19.toInt).toNat = ((y50_4).toInt - u_109_19.toInt).toNat + 1 from (by (first | have a0 := oa6 j50_3 h1 ro_109_20 ro_109_19 i60 i219 | ((first | have a0 := in_u j50_3 | (have a0 := j50_3; unfold In at a0)); (first | have a1 := in_u h1 | (have a1 := h1; unfold In at a1)); (first | have a2 := in_u ro_109_20 | (have a2 := ro_109_20; unfold In at a2)); (first | have a3 := in_u ro_109_19 | (have a3 := ro_109_19; unfold In at a3)); (first | have a4 := in_u i60 | (have a4 := i60; unfold In at a4)); (first | have a5 := in_u i219 | (have a5 := i219; unfold In at a5)))); have a6 := t_add e219 i60 (in_c 1 rfl) rfl; (first | have a7 := oa2 ((in_c 1 rfl)) i59 | ((first | have a7 := in_u ((in_c 1 rfl)) | (have a7 := (in_c 1 rfl); unfold In at a7)); (first | have a8 := in_u i59 | (have a8 := i59; unfold In at a8)))); have a9 := t_add e59 ro_109_19 (in_c 160 rfl) rfl; (first | have a10 := in_u ((in_c 160 rfl)) | (have a10 := (in_c 160 rfl); unfold In at a10)); omega)]; exact fqi_no g50_0 (fun t1 t2 t3 t4 t5 => by exfalso; rw [(ix_k (y := y50_4) e_109_19 (by (first | have a0 := oa6 j50_3 h1 ro_109_20 ro_109_19 i60 i219 | ((first | have a0 := in_u j50_3 | (have a0 := j50_3; unfold In at a0)); (first | have a1 := in_u h1 | (have a1 := h1; unfold In at a1)); (first | have a2 := in_u ro_109_20 | (have a2 := ro_109_20; unfold In at a2)); (first | have a3 := in_u ro_109_19 | (have a3 := ro_109_19; unfold In at a3)); (first | have a4 := in_u i60 | (have a4 := i60; unfold In at a4)); (first | have a5 := in_u i219 | (have a5 := i219; unfold In at a5)))); have a6 := t_add e219 i60 (in_c 1 rfl) rfl; (first | have a7 := oa2 ((in_c 1 rfl)) i59 | ((first | have a7 := in_u ((in_c 1 rfl)) | (have a7 := (in_c 1 rfl); unfold In at a7)); (first | have a8 := in_u i59 | (have a8 := i59; unfold In at a8)))); have a9 := t_add e59 ro_109_19 (in_c 160 rfl) rfl; (first | have a10 := in_u ((in_c 160 rfl)) | (have a10 := (in_c 160 rfl); unfold In at a10)); omega) (by (first | have a0 := oa6 j50_3 h1 ro_109_20 ro_109_19 i60 i219 | ((first | have a0 := in_u j50_3 | (have a0 := j50_3; unfold In at a0)); (first | have a1 := in_u h1 | (have a1 := h1; unfold In at a1)); (first | have a2 := in_u ro_109_20 | (have a2 := ro_109_20; unfold In at a2)); (first | have a3 := in_u ro_109_19 | (have a3 := ro_109_19; unfold In at a3)); (first | have a4 := in_u i60 | (have a4 := i60; unfold In at a4)); (first | have a5 := in_u i219 | (have a5 := i219; unfold In at a5)))); have a6 := t_add e219 i60 (in_c 1 rfl) rfl; (first | have a7 := oa2 ((in_c 1 rfl)) i59 | ((first | have a7 := in_u ((in_c 1 rfl)) | (have a7 := (in_c 1 rfl); unfold In at a7)); (first | have a8 := in_u i59 | (have a8 := i59; unfold In at a8)))); have a9 := t_add e59 ro_109_19 (in_c 160 rfl) rfl; (first | have a10 := in_u ((in_c 160 rfl)) | (have a10 := (in_c 160 rfl); unfold In at a10)); omega)), ← hFc50.1 114 rfl, ← e94, ← hFc50.2.1 130 rfl, ← e112] at t4; have h := i117a.1; omega)
                        exact gg_w (by first | exact Nat.le_add_right _ _ | exact gw2 | exact gw3 | exact gwe rfl | exact gwf rfl | exact gwg rfl | exact gwh rfl | omega) (gg_f (gf_cons rfl (gf_cons rfl (gf_cons rfl (gf_cons rfl (gf_cons rfl gf_nil))))) (ih50 sc50 z219 hIc50 hFc50 (in_w 0 31 j50_3 rfl) (in_w 0 400 i219 rfl) n50 n50a n50b (m_up mm50 (t_add e219 i60 (in_c 1 rfl) rfl) (in_w 1 1 (in_c 1 rfl) rfl))))
                      · skip
                        have i117 := z_lt (-1) (-1) c117 i116 rfl
                        have c117a := lc_lt e116 c117
                        have i117a := lr_lt1 (-9223372036854775808) 8999999999999999 c117a (l_rng z112) (l_c 9000000000000000 rfl) rfl
                        refine g_aload_n 121 (gd rfl) rfl rfl ?_
                        refine g_getA (q2 := 130) 124 (gd rfl) rfl rfl rfl rfl ?_
                        refine g_aload_n 125 (gd rfl) rfl rfl ?_
                        refine g_getA (q2 := 113) 128 (gd rfl) rfl rfl rfl rfl ?_
                        refine g_iload 130 (gd rfl) rfl rfl ?_
                        refine g_iaload 131 (gd rfl) rfl (n := 480) rfl (in_ix i60 rfl) (fun z130 e130 => ?_)
                        have q130 : z80 = z130 := (e80).trans e130.symm
                        subst q130
                        refine g_laload 132 (gd rfl) rfl (n := 32) rfl (in_ix i80 rfl) (fun z131 e131 => ?_)
                        refine g_aload_n 133 (gd rfl) rfl rfl ?_
                        refine g_getA (q2 := 130) 136 (gd rfl) rfl rfl rfl rfl ?_
                        refine g_aload_n 137 (gd rfl) rfl rfl ?_
                        refine g_getA (q2 := 114) 140 (gd rfl) rfl rfl rfl rfl ?_
                        refine g_iload 142 (gd rfl) rfl rfl ?_
                        refine g_iaload 143 (gd rfl) rfl (n := 480) rfl (in_ix i60 rfl) (fun z142 e142 => ?_)
                        have q142 : z94 = z142 := (e94).trans e142.symm
                        subst q142
                        refine g_laload 144 (gd rfl) rfl (n := 32) rfl (in_ix i94 rfl) (fun z143 e143 => ?_)
                        refine g_aload_n 145 (gd rfl) rfl rfl ?_
                        refine g_getA (q2 := 115) 148 (gd rfl) rfl rfl rfl rfl ?_
                        refine g_iload 150 (gd rfl) rfl rfl ?_
                        refine g_iaload 151 (gd rfl) rfl (n := 480) rfl (in_ix i60 rfl) (fun z150 e150 => ?_)
                        have i150 := inv_I hIc50 (n := 480) (t := 0) (-1000000) 1000000 rfl (in_ix i60 rfl) rfl e150
                        refine g_i2l 152 (gd rfl) rfl (fun z151 e151 => ?_)
                        have i151 := l_i e151 i150
                        refine g_ladd 153 (gd rfl) rfl (fun z152 e152 => ?_)
                        refine g_lcmp 154 (gd rfl) rfl (fun z153 e153 => ?_)
                        have i153 := lc_in e153
                        refine g_if_ne 157 219 (gd rfl) rfl rfl (fun c154 => ?_) (fun c154 => ?_)
                        · skip
                          have c154a := lc_ne e153 c154
                          refine g_iinc 222 (gd rfl) rfl rfl (Nat.le_of_ble_eq_true rfl) (fun z219 e219 => ?_)
                          have i219 := in_add 1 320 e219 i60 (in_c 1 rfl) rfl rfl
                          refine g_goto 50 (gd rfl) rfl ?_
                          have n50 : (u_109_19).toInt ≤ (z219).toInt := by (first | have a0 := oa6 j50_3 h1 ro_109_20 ro_109_19 i60 i219 | ((first | have a0 := in_u j50_3 | (have a0 := j50_3; unfold In at a0)); (first | have a1 := in_u h1 | (have a1 := h1; unfold In at a1)); (first | have a2 := in_u ro_109_20 | (have a2 := ro_109_20; unfold In at a2)); (first | have a3 := in_u ro_109_19 | (have a3 := ro_109_19; unfold In at a3)); (first | have a4 := in_u i60 | (have a4 := i60; unfold In at a4)); (first | have a5 := in_u i219 | (have a5 := i219; unfold In at a5)))); have a6 := t_add e219 i60 (in_c 1 rfl) rfl; (first | have a7 := in_u ((in_c 1 rfl)) | (have a7 := (in_c 1 rfl); unfold In at a7)); have a8 := tx_i2l e151; (first | have a9 := oa2 i150 i59 | ((first | have a9 := in_u i150 | (have a9 := i150; unfold In at a9)); (first | have a10 := in_u i59 | (have a10 := i59; unfold In at a10)))); have a11 := t_add e59 ro_109_19 (in_c 160 rfl) rfl; (first | have a12 := in_u ((in_c 160 rfl)) | (have a12 := (in_c 160 rfl); unfold In at a12)); omega
                          have n50a : (z219).toInt ≤ (u_109_19).toInt + 160 := by (first | have a0 := oa6 j50_3 h1 ro_109_20 ro_109_19 i60 i219 | ((first | have a0 := in_u j50_3 | (have a0 := j50_3; unfold In at a0)); (first | have a1 := in_u h1 | (have a1 := h1; unfold In at a1)); (first | have a2 := in_u ro_109_20 | (have a2 := ro_109_20; unfold In at a2)); (first | have a3 := in_u ro_109_19 | (have a3 := ro_109_19; unfold In at a3)); (first | have a4 := in_u i60 | (have a4 := i60; unfold In at a4)); (first | have a5 := in_u i219 | (have a5 := i219; unfold In at a5)))); have a6 := t_add e219 i60 (in_c 1 rfl) rfl; (first | have a7 := in_u ((in_c 1 rfl)) | (have a7 := (in_c 1 rfl); unfold In at a7)); have a8 := tx_i2l e151; (first | have a9 := oa2 i150 i59 | ((first | have a9 := in_u i150 | (have a9 := i150; unfold In at a9)); (first | have a10 := in_u i59 | (have a10 := i59; unfold In at a10)))); have a11 := t_add e59 ro_109_19 (in_c 160 rfl) rfl; (first | have a12 := in_u ((in_c 160 rfl)) | (have a12 := (in_c 160 rfl); unfold In at a12)); omega
                          have n50b : FQI s (x1).toNatClampNeg (x2) (sc50.1 131) (y36_3).toNatClampNeg ((z219).toInt - u_109_19.toInt).toNat := by rw [show ((z219).toInt - u_109_19.toInt).toNat = ((y50_4).toInt - u_109_19.toInt).toNat + 1 from (by (first | have a0 := oa6 j50_3 h1 ro_109_20 ro_109_19 i60 i219 | ((first | have a0 := in_u j50_3 | (have a0 := j50_3; unfold In at a0)); (first | have a1 := in_u h1 | (have a1 := h1; unfold In at a1)); (first | have a2 := in_u ro_109_20 | (have a2 := ro_109_20; unfold In at a2)); (first | have a3 := in_u ro_109_19 | (have a3 := ro_109_19; unfold In at a3)); (first | have a4 := in_u i60 | (have a4 := i60; unfold In at a4)); (first | have a5 := in_u i219 | (have a5 := i219; unfold In at a5)))); have a6 := t_add e219 i60 (in_c 1 rfl) rfl; (first | have a7 := in_u ((in_c 1 rfl)) | (have a7 := (in_c 1 rfl); unfold In at a7)); have a8 := tx_i2l e151; (first | have a9 := oa2 i150 i59 | ((first | have a9 := in_u i150 | (have a9 := i150; unfold In at a9)); (first | have a10 := in_u i59 | (have a10 := i59; unfold In at a10)))); have a11 := t_add e59 ro_109_19 (in_c 160 rfl) rfl; (first | have a12 := in_u ((in_c 160 rfl)) | (have a12 := (in_c 160 rfl); unfold In at a12)); omega)]; exact fqi_no g50_0 (fun t1 t2 t3 t4 t5 => by exfalso; have hbd := (q_0.2.1 z94.toNatClampNeg (bt_yes e95x2 e95x4 i94 c95x6)).2.2; rw [← hFc50.2.1 130 rfl, ← e143] at hbd; have hz152 : z152.toInt = z143.toInt + z150.toInt := (by have hw := i150; unfold In at hw; rw [ladd_t e152 (by rw [tx_i2l e151]; omega) (by rw [tx_i2l e151]; omega), tx_i2l e151]); rw [(ix_k (y := y50_4) e_109_19 (by (first | have a0 := oa6 j50_3 h1 ro_109_20 ro_109_19 i60 i219 | ((first | have a0 := in_u j50_3 | (have a0 := j50_3; unfold In at a0)); (first | have a1 := in_u h1 | (have a1 := h1; unfold In at a1)); (first | have a2 := in_u ro_109_20 | (have a2 := ro_109_20; unfold In at a2)); (first | have a3 := in_u ro_109_19 | (have a3 := ro_109_19; unfold In at a3)); (first | have a4 := in_u i60 | (have a4 := i60; unfold In at a4)); (first | have a5 := in_u i219 | (have a5 := i219; unfold In at a5)))); have a6 := t_add e219 i60 (in_c 1 rfl) rfl; (first | have a7 := in_u ((in_c 1 rfl)) | (have a7 := (in_c 1 rfl); unfold In at a7)); have a8 := tx_i2l e151; (first | have a9 := oa2 i150 i59 | ((first | have a9 := in_u i150 | (have a9 := i150; unfold In at a9)); (first | have a10 := in_u i59 | (have a10 := i59; unfold In at a10)))); have a11 := t_add e59 ro_109_19 (in_c 160 rfl) rfl; (first | have a12 := in_u ((in_c 160 rfl)) | (have a12 := (in_c 160 rfl); unfold In at a12)); omega) (by (first | have a0 := oa6 j50_3 h1 ro_109_20 ro_109_19 i60 i219 | ((first | have a0 := in_u j50_3 | (have a0 := j50_3; unfold In at a0)); (first | have a1 := in_u h1 | (have a1 := h1; unfold In at a1)); (first | have a2 := in_u ro_109_20 | (have a2 := ro_109_20; unfold In at a2)); (first | have a3 := in_u ro_109_19 | (have a3 := ro_109_19; unfold In at a3)); (first | have a4 := in_u i60 | (have a4 := i60; unfold In at a4)); (first | have a5 := in_u i219 | (have a5 := i219; unfold In at a5)))); have a6 := t_add e219 i60 (in_c 1 rfl) rfl; (first | have a7 := in_u ((in_c 1 rfl)) | (have a7 := (in_c 1 rfl); unfold In at a7)); have a8 := tx_i2l e151; (first | have a9 := oa2 i150 i59 | ((first | have a9 := in_u i150 | (have a9 := i150; unfold In at a9)); (first | have a10 := in_u i59 | (have a10 := i59; unfold In at a10)))); have a11 := t_add e59 ro_109_19 (in_c 160 rfl) rfl; (first | have a12 := in_u ((in_c 160 rfl)) | (have a12 := (in_c 160 rfl); unfold In at a12)); omega)), ← hFc50.1 113 rfl, ← e80, ← hFc50.1 114 rfl, ← e94, ← hFc50.1 115 rfl, ← e150, ← hFc50.2.1 130 rfl] at t5; rw [← e131, ← e143] at t5; have h := c154a; omega)
                          exact gg_w (by first | exact Nat.le_add_right _ _ | exact gw2 | exact gw3 | exact gwe rfl | exact gwf rfl | exact gwg rfl | exact gwh rfl | omega) (gg_f (gf_cons rfl (gf_cons rfl (gf_cons rfl (gf_cons rfl (gf_cons rfl gf_nil))))) (ih50 sc50 z219 hIc50 hFc50 (in_w 0 31 j50_3 rfl) (in_w 0 400 i219 rfl) n50 n50a n50b (m_up mm50 (t_add e219 i60 (in_c 1 rfl) rfl) (in_w 1 1 (in_c 1 rfl) rfl))))
                        · skip
                          have i154 := z_eq 0 0 c154 i153 rfl
                          have c154a := lc_eq e153 c154
                          refine g_aload_n 158 (gd rfl) rfl rfl ?_
                          refine g_getA (q2 := 131) 161 (gd rfl) rfl rfl rfl rfl ?_
                          refine g_aload_n 162 (gd rfl) rfl rfl ?_
                          refine g_getA (q2 := 114) 165 (gd rfl) rfl rfl rfl rfl ?_
                          refine g_iload 167 (gd rfl) rfl rfl ?_
                          refine g_iaload 168 (gd rfl) rfl (n := 480) rfl (in_ix i60 rfl) (fun z167 e167 => ?_)
                          have q167 : z94 = z167 := (e94).trans e167.symm
                          subst q167
                          refine g_iaload 169 (gd rfl) rfl (n := 32) rfl (in_ix i94 rfl) (fun z168 e168 => ?_)
                          refine g_iconst 1 170 (gd rfl) rfl rfl ?_
                          refine g_iadd 171 (gd rfl) rfl (fun z170 e170 => ?_)
                          refine g_istore 173 (gd rfl) rfl (Nat.le_of_ble_eq_true rfl) ?_
                          refine g_aload_n 174 (gd rfl) rfl rfl ?_
                          refine g_getA (q2 := 131) 177 (gd rfl) rfl rfl rfl rfl ?_
                          refine g_aload_n 178 (gd rfl) rfl rfl ?_
                          refine g_getA (q2 := 113) 181 (gd rfl) rfl rfl rfl rfl ?_
                          refine g_iload 183 (gd rfl) rfl rfl ?_
                          refine g_iaload 184 (gd rfl) rfl (n := 480) rfl (in_ix i60 rfl) (fun z183 e183 => ?_)
                          have q183 : z80 = z183 := (e80).trans e183.symm
                          subst q183
                          refine g_iload 186 (gd rfl) rfl rfl ?_
                          refine g_aload_n 187 (gd rfl) rfl rfl ?_
                          refine g_getA (q2 := 131) 190 (gd rfl) rfl rfl rfl rfl ?_
                          refine g_aload_n 191 (gd rfl) rfl rfl ?_
                          refine g_getA (q2 := 113) 194 (gd rfl) rfl rfl rfl rfl ?_
                          refine g_iload 196 (gd rfl) rfl rfl ?_
                          refine g_iaload 197 (gd rfl) rfl (n := 480) rfl (in_ix i60 rfl) (fun z196 e196 => ?_)
                          have q196 : z80 = z196 := (e80).trans e196.symm
                          subst q196
                          refine g_iaload 198 (gd rfl) rfl (n := 32) rfl (in_ix i80 rfl) (fun z197 e197 => ?_)
                          refine g_cmp_ge 201 206 (gd rfl) rfl rfl (fun c198 => ?_) (fun c198 => ?_)
                          · skip
                            refine g_aload_n 207 (gd rfl) rfl rfl ?_
                            refine g_getA (q2 := 131) 210 (gd rfl) rfl rfl rfl rfl ?_
                            refine g_aload_n 211 (gd rfl) rfl rfl ?_
                            refine g_getA (q2 := 113) 214 (gd rfl) rfl rfl rfl rfl ?_
                            refine g_iload 216 (gd rfl) rfl rfl ?_
                            refine g_iaload 217 (gd rfl) rfl (n := 480) rfl (in_ix i60 rfl) (fun z216 e216 => ?_)
                            have q216 : z80 = z216 := (e80).trans e216.symm
                            subst q216
                            refine g_iaload 218 (gd rfl) rfl (n := 32) rfl (in_ix i80 rfl) (fun z217 e217 => ?_)
                            have q217 : z197 = z217 := (e197).trans e217.symm
                            subst q217
                            refine g_iastore 219 (gd rfl) rfl (n := 32) rfl (in_ix i80 rfl) ?_
                            have hI218 := inv_sI (q := 131) (j := z80.toNatClampNeg) hIc50 rfl (in_w (-2147483648) 2147483647 (i_rng z197) rfl)
                            refine g_iinc 222 (gd rfl) rfl rfl (Nat.le_of_ble_eq_true rfl) (fun z219 e219 => ?_)
                            have i219 := in_add 1 320 e219 i60 (in_c 1 rfl) rfl rfl
                            refine g_goto 50 (gd rfl) rfl ?_
                            have n50 : (u_109_19).toInt ≤ (z219).toInt := by (first | have a0 := oa6 j50_3 h1 ro_109_20 ro_109_19 i60 i219 | ((first | have a0 := in_u j50_3 | (have a0 := j50_3; unfold In at a0)); (first | have a1 := in_u h1 | (have a1 := h1; unfold In at a1)); (first | have a2 := in_u ro_109_20 | (have a2 := ro_109_20; unfold In at a2)); (first | have a3 := in_u ro_109_19 | (have a3 := ro_109_19; unfold In at a3)); (first | have a4 := in_u i60 | (have a4 := i60; unfold In at a4)); (first | have a5 := in_u i219 | (have a5 := i219; unfold In at a5)))); have a6 := t_add e219 i60 (in_c 1 rfl) rfl; (first | have a7 := in_u ((in_c 1 rfl)) | (have a7 := (in_c 1 rfl); unfold In at a7)); have a8 := tx_i2l e151; (first | have a9 := oa2 i150 i59 | ((first | have a9 := in_u i150 | (have a9 := i150; unfold In at a9)); (first | have a10 := in_u i59 | (have a10 := i59; unfold In at a10)))); have a11 := t_add e59 ro_109_19 (in_c 160 rfl) rfl; (first | have a12 := in_u ((in_c 160 rfl)) | (have a12 := (in_c 160 rfl); unfold In at a12)); omega
                            have n50a : (z219).toInt ≤ (u_109_19).toInt + 160 := by (first | have a0 := oa6 j50_3 h1 ro_109_20 ro_109_19 i60 i219 | ((first | have a0 := in_u j50_3 | (have a0 := j50_3; unfold In at a0)); (first | have a1 := in_u h1 | (have a1 := h1; unfold In at a1)); (first | have a2 := in_u ro_109_20 | (have a2 := ro_109_20; unfold In at a2)); (first | have a3 := in_u ro_109_19 | (have a3 := ro_109_19; unfold In at a3)); (first | have a4 := in_u i60 | (have a4 := i60; unfold In at a4)); (first | have a5 := in_u i219 | (have a5 := i219; unfold In at a5)))); have a6 := t_add e219 i60 (in_c 1 rfl) rfl; (first | have a7 := in_u ((in_c 1 rfl)) | (have a7 := (in_c 1 rfl); unfold In at a7)); have a8 := tx_i2l e151; (first | have a9 := oa2 i150 i59 | ((first | have a9 := in_u i150 | (have a9 := i150; unfold In at a9)); (first | have a10 := in_u i59 | (have a10 := i59; unfold In at a10)))); have a11 := t_add e59 ro_109_19 (in_c 160 rfl) rfl; (first | have a12 := in_u ((in_c 160 rfl)) | (have a12 := (in_c 160 rfl); unfold In at a12)); omega
                            have n50b : FQI s (x1).toNatClampNeg (x2) ((sI sc50 131 z80.toNatClampNeg z197).1 131) (y36_3).toNatClampNeg ((z219).toInt - u_109_19.toInt).toNat := by have hn94 : z94.toInt < nmx s := (by have hk := q_0.2.1 z94.toNatClampNeg (bt_yes e95x2 e95x4 i94 c95x6); have hk1 := hk.1; have r94 := i94; unfold In at r94; have e94n : z94.toNatClampNeg = z94.toInt.toNat := rfl; omega); have hbd := (q_0.2.1 z94.toNatClampNeg (bt_yes e95x2 e95x4 i94 c95x6)).2.2; rw [← hFc50.2.1 130 rfl, ← e143] at hbd; have hz152 : z152.toInt = z143.toInt + z150.toInt := (by have hw := i150; unfold In at hw; rw [ladd_t e152 (by rw [tx_i2l e151]; omega) (by rw [tx_i2l e151]; omega), tx_i2l e151]); have hfq := g50_0.1.1 z94.toNatClampNeg (nat_jn i94 hn94).1 (nat_jn i94 hn94).2; rw [← e168] at hfq; rw [show ((z219).toInt - u_109_19.toInt).toNat = ((y50_4).toInt - u_109_19.toInt).toNat + 1 from (by (first | have a0 := oa6 j50_3 h1 ro_109_20 ro_109_19 i60 i219 | ((first | have a0 := in_u j50_3 | (have a0 := j50_3; unfold In at a0)); (first | have a1 := in_u h1 | (have a1 := h1; unfold In at a1)); (first | have a2 := in_u ro_109_20 | (have a2 := ro_109_20; unfold In at a2)); (first | have a3 := in_u ro_109_19 | (have a3 := ro_109_19; unfold In at a3)); (first | have a4 := in_u i60 | (have a4 := i60; unfold In at a4)); (first | have a5 := in_u i219 | (have a5 := i219; unfold In at a5)))); have a6 := t_add e219 i60 (in_c 1 rfl) rfl; (first | have a7 := in_u ((in_c 1 rfl)) | (have a7 := (in_c 1 rfl); unfold In at a7)); have a8 := tx_i2l e151; (first | have a9 := oa2 i150 i59 | ((first | have a9 := in_u i150 | (have a9 := i150; unfold In at a9)); (first | have a10 := in_u i59 | (have a10 := i59; unfold In at a10)))); have a11 := t_add e59 ro_109_19 (in_c 160 rfl) rfl; (first | have a12 := in_u ((in_c 160 rfl)) | (have a12 := (in_c 160 rfl); unfold In at a12)); omega), sI_q]; exact fqi_st hI g50_0 (by (first | have a0 := oa6 j50_3 h1 ro_109_20 ro_109_19 i60 i219 | ((first | have a0 := in_u j50_3 | (have a0 := j50_3; unfold In at a0)); (first | have a1 := in_u h1 | (have a1 := h1; unfold In at a1)); (first | have a2 := in_u ro_109_20 | (have a2 := ro_109_20; unfold In at a2)); (first | have a3 := in_u ro_109_19 | (have a3 := ro_109_19; unfold In at a3)); (first | have a4 := in_u i60 | (have a4 := i60; unfold In at a4)); (first | have a5 := in_u i219 | (have a5 := i219; unfold In at a5)))); have a6 := t_add e219 i60 (in_c 1 rfl) rfl; (first | have a7 := in_u ((in_c 1 rfl)) | (have a7 := (in_c 1 rfl); unfold In at a7)); have a8 := tx_i2l e151; (first | have a9 := oa2 i150 i59 | ((first | have a9 := in_u i150 | (have a9 := i150; unfold In at a9)); (first | have a10 := in_u i59 | (have a10 := i59; unfold In at a10)))); have a11 := t_add e59 ro_109_19 (in_c 160 rfl) rfl; (first | have a12 := in_u ((in_c 160 rfl)) | (have a12 := (in_c 160 rfl); unfold In at a12)); omega) (by rw [(ix_k (y := y50_4) e_109_19 (by (first | have a0 := oa6 j50_3 h1 ro_109_20 ro_109_19 i60 i219 | ((first | have a0 := in_u j50_3 | (have a0 := j50_3; unfold In at a0)); (first | have a1 := in_u h1 | (have a1 := h1; unfold In at a1)); (first | have a2 := in_u ro_109_20 | (have a2 := ro_109_20; unfold In at a2)); (first | have a3 := in_u ro_109_19 | (have a3 := ro_109_19; unfold In at a3)); (first | have a4 := in_u i60 | (have a4 := i60; unfold In at a4)); (first | have a5 := in_u i219 | (have a5 := i219; unfold In at a5)))); have a6 := t_add e219 i60 (in_c 1 rfl) rfl; (first | have a7 := in_u ((in_c 1 rfl)) | (have a7 := (in_c 1 rfl); unfold In at a7)); have a8 := tx_i2l e151; (first | have a9 := oa2 i150 i59 | ((first | have a9 := in_u i150 | (have a9 := i150; unfold In at a9)); (first | have a10 := in_u i59 | (have a10 := i59; unfold In at a10)))); have a11 := t_add e59 ro_109_19 (in_c 160 rfl) rfl; (first | have a12 := in_u ((in_c 160 rfl)) | (have a12 := (in_c 160 rfl); unfold In at a12)); omega) (by (first | have a0 := oa6 j50_3 h1 ro_109_20 ro_109_19 i60 i219 | ((first | have a0 := in_u j50_3 | (have a0 := j50_3; unfold In at a0)); (first | have a1 := in_u h1 | (have a1 := h1; unfold In at a1)); (first | have a2 := in_u ro_109_20 | (have a2 := ro_109_20; unfold In at a2)); (first | have a3 := in_u ro_109_19 | (have a3 := ro_109_19; unfold In at a3)); (first | have a4 := in_u i60 | (have a4 := i60; unfold In at a4)); (first | have a5 := in_u i219 | (have a5 := i219; unfold In at a5)))); have a6 := t_add e219 i60 (in_c 1 rfl) rfl; (first | have a7 := in_u ((in_c 1 rfl)) | (have a7 := (in_c 1 rfl); unfold In at a7)); have a8 := tx_i2l e151; (first | have a9 := oa2 i150 i59 | ((first | have a9 := in_u i150 | (have a9 := i150; unfold In at a9)); (first | have a10 := in_u i59 | (have a10 := i59; unfold In at a10)))); have a11 := t_add e59 ro_109_19 (in_c 160 rfl) rfl; (first | have a12 := in_u ((in_c 160 rfl)) | (have a12 := (in_c 160 rfl); unfold In at a12)); omega)), ← hFc50.1 112 rfl, ← e69]; exact c70) (by rw [(ix_k (y := y50_4) e_109_19 (by (first | have a0 := oa6 j50_3 h1 ro_109_20 ro_109_19 i60 i219 | ((first | have a0 := in_u j50_3 | (have a0 := j50_3; unfold In at a0)); (first | have a1 := in_u h1 | (have a1 := h1; unfold In at a1)); (first | have a2 := in_u ro_109_20 | (have a2 := ro_109_20; unfold In at a2)); (first | have a3 := in_u ro_109_19 | (have a3 := ro_109_19; unfold In at a3)); (first | have a4 := in_u i60 | (have a4 := i60; unfold In at a4)); (first | have a5 := in_u i219 | (have a5 := i219; unfold In at a5)))); have a6 := t_add e219 i60 (in_c 1 rfl) rfl; (first | have a7 := in_u ((in_c 1 rfl)) | (have a7 := (in_c 1 rfl); unfold In at a7)); have a8 := tx_i2l e151; (first | have a9 := oa2 i150 i59 | ((first | have a9 := in_u i150 | (have a9 := i150; unfold In at a9)); (first | have a10 := in_u i59 | (have a10 := i59; unfold In at a10)))); have a11 := t_add e59 ro_109_19 (in_c 160 rfl) rfl; (first | have a12 := in_u ((in_c 160 rfl)) | (have a12 := (in_c 160 rfl); unfold In at a12)); omega) (by (first | have a0 := oa6 j50_3 h1 ro_109_20 ro_109_19 i60 i219 | ((first | have a0 := in_u j50_3 | (have a0 := j50_3; unfold In at a0)); (first | have a1 := in_u h1 | (have a1 := h1; unfold In at a1)); (first | have a2 := in_u ro_109_20 | (have a2 := ro_109_20; unfold In at a2)); (first | have a3 := in_u ro_109_19 | (have a3 := ro_109_19; unfold In at a3)); (first | have a4 := in_u i60 | (have a4 := i60; unfold In at a4)); (first | have a5 := in_u i219 | (have a5 := i219; unfold In at a5)))); have a6 := t_add e219 i60 (in_c 1 rfl) rfl; (first | have a7 := in_u ((in_c 1 rfl)) | (have a7 := (in_c 1 rfl); unfold In at a7)); have a8 := tx_i2l e151; (first | have a9 := oa2 i150 i59 | ((first | have a9 := in_u i150 | (have a9 := i150; unfold In at a9)); (first | have a10 := in_u i59 | (have a10 := i59; unfold In at a10)))); have a11 := t_add e59 ro_109_19 (in_c 160 rfl) rfl; (first | have a12 := in_u ((in_c 160 rfl)) | (have a12 := (in_c 160 rfl); unfold In at a12)); omega)), ← hFc50.1 113 rfl]; exact e80) (by rw [(ix_k (y := y50_4) e_109_19 (by (first | have a0 := oa6 j50_3 h1 ro_109_20 ro_109_19 i60 i219 | ((first | have a0 := in_u j50_3 | (have a0 := j50_3; unfold In at a0)); (first | have a1 := in_u h1 | (have a1 := h1; unfold In at a1)); (first | have a2 := in_u ro_109_20 | (have a2 := ro_109_20; unfold In at a2)); (first | have a3 := in_u ro_109_19 | (have a3 := ro_109_19; unfold In at a3)); (first | have a4 := in_u i60 | (have a4 := i60; unfold In at a4)); (first | have a5 := in_u i219 | (have a5 := i219; unfold In at a5)))); have a6 := t_add e219 i60 (in_c 1 rfl) rfl; (first | have a7 := in_u ((in_c 1 rfl)) | (have a7 := (in_c 1 rfl); unfold In at a7)); have a8 := tx_i2l e151; (first | have a9 := oa2 i150 i59 | ((first | have a9 := in_u i150 | (have a9 := i150; unfold In at a9)); (first | have a10 := in_u i59 | (have a10 := i59; unfold In at a10)))); have a11 := t_add e59 ro_109_19 (in_c 160 rfl) rfl; (first | have a12 := in_u ((in_c 160 rfl)) | (have a12 := (in_c 160 rfl); unfold In at a12)); omega) (by (first | have a0 := oa6 j50_3 h1 ro_109_20 ro_109_19 i60 i219 | ((first | have a0 := in_u j50_3 | (have a0 := j50_3; unfold In at a0)); (first | have a1 := in_u h1 | (have a1 := h1; unfold In at a1)); (first | have a2 := in_u ro_109_20 | (have a2 := ro_109_20; unfold In at a2)); (first | have a3 := in_u ro_109_19 | (have a3 := ro_109_19; unfold In at a3)); (first | have a4 := in_u i60 | (have a4 := i60; unfold In at a4)); (first | have a5 := in_u i219 | (have a5 := i219; unfold In at a5)))); have a6 := t_add e219 i60 (in_c 1 rfl) rfl; (first | have a7 := in_u ((in_c 1 rfl)) | (have a7 := (in_c 1 rfl); unfold In at a7)); have a8 := tx_i2l e151; (first | have a9 := oa2 i150 i59 | ((first | have a9 := in_u i150 | (have a9 := i150; unfold In at a9)); (first | have a10 := in_u i59 | (have a10 := i59; unfold In at a10)))); have a11 := t_add e59 ro_109_19 (in_c 160 rfl) rfl; (first | have a12 := in_u ((in_c 160 rfl)) | (have a12 := (in_c 160 rfl); unfold In at a12)); omega)), ← hFc50.1 114 rfl]; exact e94) (bt_yes e81x2 e81x4 i80 c81x6) (bt_yes e95x2 e95x4 i94 c95x6) (by rw [← hFc50.2.1 130 rfl, ← e112]; have h := i117a.2; omega) (by rw [← hFc50.2.1 130 rfl, ← e131, ← e143, (ix_k (y := y50_4) e_109_19 (by (first | have a0 := oa6 j50_3 h1 ro_109_20 ro_109_19 i60 i219 | ((first | have a0 := in_u j50_3 | (have a0 := j50_3; unfold In at a0)); (first | have a1 := in_u h1 | (have a1 := h1; unfold In at a1)); (first | have a2 := in_u ro_109_20 | (have a2 := ro_109_20; unfold In at a2)); (first | have a3 := in_u ro_109_19 | (have a3 := ro_109_19; unfold In at a3)); (first | have a4 := in_u i60 | (have a4 := i60; unfold In at a4)); (first | have a5 := in_u i219 | (have a5 := i219; unfold In at a5)))); have a6 := t_add e219 i60 (in_c 1 rfl) rfl; (first | have a7 := in_u ((in_c 1 rfl)) | (have a7 := (in_c 1 rfl); unfold In at a7)); have a8 := tx_i2l e151; (first | have a9 := oa2 i150 i59 | ((first | have a9 := in_u i150 | (have a9 := i150; unfold In at a9)); (first | have a10 := in_u i59 | (have a10 := i59; unfold In at a10)))); have a11 := t_add e59 ro_109_19 (in_c 160 rfl) rfl; (first | have a12 := in_u ((in_c 160 rfl)) | (have a12 := (in_c 160 rfl); unfold In at a12)); omega) (by (first | have a0 := oa6 j50_3 h1 ro_109_20 ro_109_19 i60 i219 | ((first | have a0 := in_u j50_3 | (have a0 := j50_3; unfold In at a0)); (first | have a1 := in_u h1 | (have a1 := h1; unfold In at a1)); (first | have a2 := in_u ro_109_20 | (have a2 := ro_109_20; unfold In at a2)); (first | have a3 := in_u ro_109_19 | (have a3 := ro_109_19; unfold In at a3)); (first | have a4 := in_u i60 | (have a4 := i60; unfold In at a4)); (first | have a5 := in_u i219 | (have a5 := i219; unfold In at a5)))); have a6 := t_add e219 i60 (in_c 1 rfl) rfl; (first | have a7 := in_u ((in_c 1 rfl)) | (have a7 := (in_c 1 rfl); unfold In at a7)); have a8 := tx_i2l e151; (first | have a9 := oa2 i150 i59 | ((first | have a9 := in_u i150 | (have a9 := i150; unfold In at a9)); (first | have a10 := in_u i59 | (have a10 := i59; unfold In at a10)))); have a11 := t_add e59 ro_109_19 (in_c 160 rfl) rfl; (first | have a12 := in_u ((in_c 160 rfl)) | (have a12 := (in_c 160 rfl); unfold In at a12)); omega)), ← hFc50.1 115 rfl, ← e150]; have h := c154a; omega) (by rw [← e168]; exact t_add (a := 0) (b := 1000) e170 ⟨hfq.1, hfq.2⟩ (in_c 1 rfl) rfl) (Or.inr ⟨by rw [← e197]; have h := c198; omega, e197⟩)
                            exact gg_w (by first | exact Nat.le_add_right _ _ | exact gw2 | exact gw3 | exact gwe rfl | exact gwf rfl | exact gwg rfl | exact gwh rfl | omega) (gg_f (gf_cons rfl (gf_cons rfl (gf_cons rfl (gf_cons rfl (gf_cons rfl gf_nil))))) (ih50 (sI sc50 131 z80.toNatClampNeg z197) z219 hI218 (fr_sI rfl hFc50) (in_w 0 31 j50_3 rfl) (in_w 0 400 i219 rfl) n50 n50a n50b (m_up mm50 (t_add e219 i60 (in_c 1 rfl) rfl) (in_w 1 1 (in_c 1 rfl) rfl))))
                          · skip
                            have i198 := r_lt1 (-2147483648) 2147483646 c198 (i_rng z170) (i_rng z197) rfl
                            have i198a := r_lt2 (-2147483647) 2147483647 c198 (i_rng z170) (i_rng z197) rfl
                            refine g_iload 203 (gd rfl) rfl rfl ?_
                            refine g_goto 218 (gd rfl) rfl ?_
                            refine g_iastore 219 (gd rfl) rfl (n := 32) rfl (in_ix i80 rfl) ?_
                            have hI218 := inv_sI (q := 131) (j := z80.toNatClampNeg) hIc50 rfl (in_w (-2147483648) 2147483647 i198 rfl)
                            refine g_iinc 222 (gd rfl) rfl rfl (Nat.le_of_ble_eq_true rfl) (fun z219 e219 => ?_)
                            have i219 := in_add 1 320 e219 i60 (in_c 1 rfl) rfl rfl
                            refine g_goto 50 (gd rfl) rfl ?_
                            have n50 : (u_109_19).toInt ≤ (z219).toInt := by (first | have a0 := oa7 j50_3 h1 ro_109_20 ro_109_19 i60 i198 i219 | ((first | have a0 := in_u j50_3 | (have a0 := j50_3; unfold In at a0)); (first | have a1 := in_u h1 | (have a1 := h1; unfold In at a1)); (first | have a2 := in_u ro_109_20 | (have a2 := ro_109_20; unfold In at a2)); (first | have a3 := in_u ro_109_19 | (have a3 := ro_109_19; unfold In at a3)); (first | have a4 := in_u i60 | (have a4 := i60; unfold In at a4)); (first | have a5 := in_u i198 | (have a5 := i198; unfold In at a5)); (first | have a6 := in_u i219 | (have a6 := i219; unfold In at a6)))); have a7 := t_add e219 i60 (in_c 1 rfl) rfl; (first | have a8 := in_u ((in_c 1 rfl)) | (have a8 := (in_c 1 rfl); unfold In at a8)); have a9 := tx_i2l e151; (first | have a10 := oa2 i150 i59 | ((first | have a10 := in_u i150 | (have a10 := i150; unfold In at a10)); (first | have a11 := in_u i59 | (have a11 := i59; unfold In at a11)))); have a12 := t_add e59 ro_109_19 (in_c 160 rfl) rfl; (first | have a13 := in_u ((in_c 160 rfl)) | (have a13 := (in_c 160 rfl); unfold In at a13)); omega
                            have n50a : (z219).toInt ≤ (u_109_19).toInt + 160 := by (first | have a0 := oa7 j50_3 h1 ro_109_20 ro_109_19 i60 i198 i219 | ((first | have a0 := in_u j50_3 | (have a0 := j50_3; unfold In at a0)); (first | have a1 := in_u h1 | (have a1 := h1; unfold In at a1)); (first | have a2 := in_u ro_109_20 | (have a2 := ro_109_20; unfold In at a2)); (first | have a3 := in_u ro_109_19 | (have a3 := ro_109_19; unfold In at a3)); (first | have a4 := in_u i60 | (have a4 := i60; unfold In at a4)); (first | have a5 := in_u i198 | (have a5 := i198; unfold In at a5)); (first | have a6 := in_u i219 | (have a6 := i219; unfold In at a6)))); have a7 := t_add e219 i60 (in_c 1 rfl) rfl; (first | have a8 := in_u ((in_c 1 rfl)) | (have a8 := (in_c 1 rfl); unfold In at a8)); have a9 := tx_i2l e151; (first | have a10 := oa2 i150 i59 | ((first | have a10 := in_u i150 | (have a10 := i150; unfold In at a10)); (first | have a11 := in_u i59 | (have a11 := i59; unfold In at a11)))); have a12 := t_add e59 ro_109_19 (in_c 160 rfl) rfl; (first | have a13 := in_u ((in_c 160 rfl)) | (have a13 := (in_c 160 rfl); unfold In at a13)); omega
                            have n50b : FQI s (x1).toNatClampNeg (x2) ((sI sc50 131 z80.toNatClampNeg z170).1 131) (y36_3).toNatClampNeg ((z219).toInt - u_109_19.toInt).toNat := by have hn94 : z94.toInt < nmx s := (by have hk := q_0.2.1 z94.toNatClampNeg (bt_yes e95x2 e95x4 i94 c95x6); have hk1 := hk.1; have r94 := i94; unfold In at r94; have e94n : z94.toNatClampNeg = z94.toInt.toNat := rfl; omega); have hbd := (q_0.2.1 z94.toNatClampNeg (bt_yes e95x2 e95x4 i94 c95x6)).2.2; rw [← hFc50.2.1 130 rfl, ← e143] at hbd; have hz152 : z152.toInt = z143.toInt + z150.toInt := (by have hw := i150; unfold In at hw; rw [ladd_t e152 (by rw [tx_i2l e151]; omega) (by rw [tx_i2l e151]; omega), tx_i2l e151]); have hfq := g50_0.1.1 z94.toNatClampNeg (nat_jn i94 hn94).1 (nat_jn i94 hn94).2; rw [← e168] at hfq; rw [show ((z219).toInt - u_109_19.toInt).toNat = ((y50_4).toInt - u_109_19.toInt).toNat + 1 from (by (first | have a0 := oa7 j50_3 h1 ro_109_20 ro_109_19 i60 i198 i219 | ((first | have a0 := in_u j50_3 | (have a0 := j50_3; unfold In at a0)); (first | have a1 := in_u h1 | (have a1 := h1; unfold In at a1)); (first | have a2 := in_u ro_109_20 | (have a2 := ro_109_20; unfold In at a2)); (first | have a3 := in_u ro_109_19 | (have a3 := ro_109_19; unfold In at a3)); (first | have a4 := in_u i60 | (have a4 := i60; unfold In at a4)); (first | have a5 := in_u i198 | (have a5 := i198; unfold In at a5)); (first | have a6 := in_u i219 | (have a6 := i219; unfold In at a6)))); have a7 := t_add e219 i60 (in_c 1 rfl) rfl; (first | have a8 := in_u ((in_c 1 rfl)) | (have a8 := (in_c 1 rfl); unfold In at a8)); have a9 := tx_i2l e151; (first | have a10 := oa2 i150 i59 | ((first | have a10 := in_u i150 | (have a10 := i150; unfold In at a10)); (first | have a11 := in_u i59 | (have a11 := i59; unfold In at a11)))); have a12 := t_add e59 ro_109_19 (in_c 160 rfl) rfl; (first | have a13 := in_u ((in_c 160 rfl)) | (have a13 := (in_c 160 rfl); unfold In at a13)); omega), sI_q]; exact fqi_st hI g50_0 (by (first | have a0 := oa7 j50_3 h1 ro_109_20 ro_109_19 i60 i198 i219 | ((first | have a0 := in_u j50_3 | (have a0 := j50_3; unfold In at a0)); (first | have a1 := in_u h1 | (have a1 := h1; unfold In at a1)); (first | have a2 := in_u ro_109_20 | (have a2 := ro_109_20; unfold In at a2)); (first | have a3 := in_u ro_109_19 | (have a3 := ro_109_19; unfold In at a3)); (first | have a4 := in_u i60 | (have a4 := i60; unfold In at a4)); (first | have a5 := in_u i198 | (have a5 := i198; unfold In at a5)); (first | have a6 := in_u i219 | (have a6 := i219; unfold In at a6)))); have a7 := t_add e219 i60 (in_c 1 rfl) rfl; (first | have a8 := in_u ((in_c 1 rfl)) | (have a8 := (in_c 1 rfl); unfold In at a8)); have a9 := tx_i2l e151; (first | have a10 := oa2 i150 i59 | ((first | have a10 := in_u i150 | (have a10 := i150; unfold In at a10)); (first | have a11 := in_u i59 | (have a11 := i59; unfold In at a11)))); have a12 := t_add e59 ro_109_19 (in_c 160 rfl) rfl; (first | have a13 := in_u ((in_c 160 rfl)) | (have a13 := (in_c 160 rfl); unfold In at a13)); omega) (by rw [(ix_k (y := y50_4) e_109_19 (by (first | have a0 := oa7 j50_3 h1 ro_109_20 ro_109_19 i60 i198 i219 | ((first | have a0 := in_u j50_3 | (have a0 := j50_3; unfold In at a0)); (first | have a1 := in_u h1 | (have a1 := h1; unfold In at a1)); (first | have a2 := in_u ro_109_20 | (have a2 := ro_109_20; unfold In at a2)); (first | have a3 := in_u ro_109_19 | (have a3 := ro_109_19; unfold In at a3)); (first | have a4 := in_u i60 | (have a4 := i60; unfold In at a4)); (first | have a5 := in_u i198 | (have a5 := i198; unfold In at a5)); (first | have a6 := in_u i219 | (have a6 := i219; unfold In at a6)))); have a7 := t_add e219 i60 (in_c 1 rfl) rfl; (first | have a8 := in_u ((in_c 1 rfl)) | (have a8 := (in_c 1 rfl); unfold In at a8)); have a9 := tx_i2l e151; (first | have a10 := oa2 i150 i59 | ((first | have a10 := in_u i150 | (have a10 := i150; unfold In at a10)); (first | have a11 := in_u i59 | (have a11 := i59; unfold In at a11)))); have a12 := t_add e59 ro_109_19 (in_c 160 rfl) rfl; (first | have a13 := in_u ((in_c 160 rfl)) | (have a13 := (in_c 160 rfl); unfold In at a13)); omega) (by (first | have a0 := oa7 j50_3 h1 ro_109_20 ro_109_19 i60 i198 i219 | ((first | have a0 := in_u j50_3 | (have a0 := j50_3; unfold In at a0)); (first | have a1 := in_u h1 | (have a1 := h1; unfold In at a1)); (first | have a2 := in_u ro_109_20 | (have a2 := ro_109_20; unfold In at a2)); (first | have a3 := in_u ro_109_19 | (have a3 := ro_109_19; unfold In at a3)); (first | have a4 := in_u i60 | (have a4 := i60; unfold In at a4)); (first | have a5 := in_u i198 | (have a5 := i198; unfold In at a5)); (first | have a6 := in_u i219 | (have a6 := i219; unfold In at a6)))); have a7 := t_add e219 i60 (in_c 1 rfl) rfl; (first | have a8 := in_u ((in_c 1 rfl)) | (have a8 := (in_c 1 rfl); unfold In at a8)); have a9 := tx_i2l e151; (first | have a10 := oa2 i150 i59 | ((first | have a10 := in_u i150 | (have a10 := i150; unfold In at a10)); (first | have a11 := in_u i59 | (have a11 := i59; unfold In at a11)))); have a12 := t_add e59 ro_109_19 (in_c 160 rfl) rfl; (first | have a13 := in_u ((in_c 160 rfl)) | (have a13 := (in_c 160 rfl); unfold In at a13)); omega)), ← hFc50.1 112 rfl, ← e69]; exact c70) (by rw [(ix_k (y := y50_4) e_109_19 (by (first | have a0 := oa7 j50_3 h1 ro_109_20 ro_109_19 i60 i198 i219 | ((first | have a0 := in_u j50_3 | (have a0 := j50_3; unfold In at a0)); (first | have a1 := in_u h1 | (have a1 := h1; unfold In at a1)); (first | have a2 := in_u ro_109_20 | (have a2 := ro_109_20; unfold In at a2)); (first | have a3 := in_u ro_109_19 | (have a3 := ro_109_19; unfold In at a3)); (first | have a4 := in_u i60 | (have a4 := i60; unfold In at a4)); (first | have a5 := in_u i198 | (have a5 := i198; unfold In at a5)); (first | have a6 := in_u i219 | (have a6 := i219; unfold In at a6)))); have a7 := t_add e219 i60 (in_c 1 rfl) rfl; (first | have a8 := in_u ((in_c 1 rfl)) | (have a8 := (in_c 1 rfl); unfold In at a8)); have a9 := tx_i2l e151; (first | have a10 := oa2 i150 i59 | ((first | have a10 := in_u i150 | (have a10 := i150; unfold In at a10)); (first | have a11 := in_u i59 | (have a11 := i59; unfold In at a11)))); have a12 := t_add e59 ro_109_19 (in_c 160 rfl) rfl; (first | have a13 := in_u ((in_c 160 rfl)) | (have a13 := (in_c 160 rfl); unfold In at a13)); omega) (by (first | have a0 := oa7 j50_3 h1 ro_109_20 ro_109_19 i60 i198 i219 | ((first | have a0 := in_u j50_3 | (have a0 := j50_3; unfold In at a0)); (first | have a1 := in_u h1 | (have a1 := h1; unfold In at a1)); (first | have a2 := in_u ro_109_20 | (have a2 := ro_109_20; unfold In at a2)); (first | have a3 := in_u ro_109_19 | (have a3 := ro_109_19; unfold In at a3)); (first | have a4 := in_u i60 | (have a4 := i60; unfold In at a4)); (first | have a5 := in_u i198 | (have a5 := i198; unfold In at a5)); (first | have a6 := in_u i219 | (have a6 := i219; unfold In at a6)))); have a7 := t_add e219 i60 (in_c 1 rfl) rfl; (first | have a8 := in_u ((in_c 1 rfl)) | (have a8 := (in_c 1 rfl); unfold In at a8)); have a9 := tx_i2l e151; (first | have a10 := oa2 i150 i59 | ((first | have a10 := in_u i150 | (have a10 := i150; unfold In at a10)); (first | have a11 := in_u i59 | (have a11 := i59; unfold In at a11)))); have a12 := t_add e59 ro_109_19 (in_c 160 rfl) rfl; (first | have a13 := in_u ((in_c 160 rfl)) | (have a13 := (in_c 160 rfl); unfold In at a13)); omega)), ← hFc50.1 113 rfl]; exact e80) (by rw [(ix_k (y := y50_4) e_109_19 (by (first | have a0 := oa7 j50_3 h1 ro_109_20 ro_109_19 i60 i198 i219 | ((first | have a0 := in_u j50_3 | (have a0 := j50_3; unfold In at a0)); (first | have a1 := in_u h1 | (have a1 := h1; unfold In at a1)); (first | have a2 := in_u ro_109_20 | (have a2 := ro_109_20; unfold In at a2)); (first | have a3 := in_u ro_109_19 | (have a3 := ro_109_19; unfold In at a3)); (first | have a4 := in_u i60 | (have a4 := i60; unfold In at a4)); (first | have a5 := in_u i198 | (have a5 := i198; unfold In at a5)); (first | have a6 := in_u i219 | (have a6 := i219; unfold In at a6)))); have a7 := t_add e219 i60 (in_c 1 rfl) rfl; (first | have a8 := in_u ((in_c 1 rfl)) | (have a8 := (in_c 1 rfl); unfold In at a8)); have a9 := tx_i2l e151; (first | have a10 := oa2 i150 i59 | ((first | have a10 := in_u i150 | (have a10 := i150; unfold In at a10)); (first | have a11 := in_u i59 | (have a11 := i59; unfold In at a11)))); have a12 := t_add e59 ro_109_19 (in_c 160 rfl) rfl; (first | have a13 := in_u ((in_c 160 rfl)) | (have a13 := (in_c 160 rfl); unfold In at a13)); omega) (by (first | have a0 := oa7 j50_3 h1 ro_109_20 ro_109_19 i60 i198 i219 | ((first | have a0 := in_u j50_3 | (have a0 := j50_3; unfold In at a0)); (first | have a1 := in_u h1 | (have a1 := h1; unfold In at a1)); (first | have a2 := in_u ro_109_20 | (have a2 := ro_109_20; unfold In at a2)); (first | have a3 := in_u ro_109_19 | (have a3 := ro_109_19; unfold In at a3)); (first | have a4 := in_u i60 | (have a4 := i60; unfold In at a4)); (first | have a5 := in_u i198 | (have a5 := i198; unfold In at a5)); (first | have a6 := in_u i219 | (have a6 := i219; unfold In at a6)))); have a7 := t_add e219 i60 (in_c 1 rfl) rfl; (first | have a8 := in_u ((in_c 1 rfl)) | (have a8 := (in_c 1 rfl); unfold In at a8)); have a9 := tx_i2l e151; (first | have a10 := oa2 i150 i59 | ((first | have a10 := in_u i150 | (have a10 := i150; unfold In at a10)); (first | have a11 := in_u i59 | (have a11 := i59; unfold In at a11)))); have a12 := t_add e59 ro_109_19 (in_c 160 rfl) rfl; (first | have a13 := in_u ((in_c 160 rfl)) | (have a13 := (in_c 160 rfl); unfold In at a13)); omega)), ← hFc50.1 114 rfl]; exact e94) (bt_yes e81x2 e81x4 i80 c81x6) (bt_yes e95x2 e95x4 i94 c95x6) (by rw [← hFc50.2.1 130 rfl, ← e112]; have h := i117a.2; omega) (by rw [← hFc50.2.1 130 rfl, ← e131, ← e143, (ix_k (y := y50_4) e_109_19 (by (first | have a0 := oa7 j50_3 h1 ro_109_20 ro_109_19 i60 i198 i219 | ((first | have a0 := in_u j50_3 | (have a0 := j50_3; unfold In at a0)); (first | have a1 := in_u h1 | (have a1 := h1; unfold In at a1)); (first | have a2 := in_u ro_109_20 | (have a2 := ro_109_20; unfold In at a2)); (first | have a3 := in_u ro_109_19 | (have a3 := ro_109_19; unfold In at a3)); (first | have a4 := in_u i60 | (have a4 := i60; unfold In at a4)); (first | have a5 := in_u i198 | (have a5 := i198; unfold In at a5)); (first | have a6 := in_u i219 | (have a6 := i219; unfold In at a6)))); have a7 := t_add e219 i60 (in_c 1 rfl) rfl; (first | have a8 := in_u ((in_c 1 rfl)) | (have a8 := (in_c 1 rfl); unfold In at a8)); have a9 := tx_i2l e151; (first | have a10 := oa2 i150 i59 | ((first | have a10 := in_u i150 | (have a10 := i150; unfold In at a10)); (first | have a11 := in_u i59 | (have a11 := i59; unfold In at a11)))); have a12 := t_add e59 ro_109_19 (in_c 160 rfl) rfl; (first | have a13 := in_u ((in_c 160 rfl)) | (have a13 := (in_c 160 rfl); unfold In at a13)); omega) (by (first | have a0 := oa7 j50_3 h1 ro_109_20 ro_109_19 i60 i198 i219 | ((first | have a0 := in_u j50_3 | (have a0 := j50_3; unfold In at a0)); (first | have a1 := in_u h1 | (have a1 := h1; unfold In at a1)); (first | have a2 := in_u ro_109_20 | (have a2 := ro_109_20; unfold In at a2)); (first | have a3 := in_u ro_109_19 | (have a3 := ro_109_19; unfold In at a3)); (first | have a4 := in_u i60 | (have a4 := i60; unfold In at a4)); (first | have a5 := in_u i198 | (have a5 := i198; unfold In at a5)); (first | have a6 := in_u i219 | (have a6 := i219; unfold In at a6)))); have a7 := t_add e219 i60 (in_c 1 rfl) rfl; (first | have a8 := in_u ((in_c 1 rfl)) | (have a8 := (in_c 1 rfl); unfold In at a8)); have a9 := tx_i2l e151; (first | have a10 := oa2 i150 i59 | ((first | have a10 := in_u i150 | (have a10 := i150; unfold In at a10)); (first | have a11 := in_u i59 | (have a11 := i59; unfold In at a11)))); have a12 := t_add e59 ro_109_19 (in_c 160 rfl) rfl; (first | have a13 := in_u ((in_c 160 rfl)) | (have a13 := (in_c 160 rfl); unfold In at a13)); omega)), ← hFc50.1 115 rfl, ← e150]; have h := c154a; omega) (by rw [← e168]; exact t_add (a := 0) (b := 1000) e170 ⟨hfq.1, hfq.2⟩ (in_c 1 rfl) rfl) (Or.inl ⟨by rw [← e197]; have h := c198; omega, rfl⟩)
                            exact gg_w (by first | exact Nat.le_add_right _ _ | exact gw2 | exact gw3 | exact gwe rfl | exact gwf rfl | exact gwg rfl | exact gwh rfl | omega) (gg_f (gf_cons rfl (gf_cons rfl (gf_cons rfl (gf_cons rfl (gf_cons rfl gf_nil))))) (ih50 (sI sc50 131 z80.toNatClampNeg z170) z219 hI218 (fr_sI rfl hFc50) (in_w 0 31 j50_3 rfl) (in_w 0 400 i219 rfl) n50 n50a n50b (m_up mm50 (t_add e219 i60 (in_c 1 rfl) rfl) (in_w 1 1 (in_c 1 rfl) rfl))))
      refine g_iload_n 37 (gd rfl) rfl rfl ?_
      refine g_aload_n 38 (gd rfl) rfl rfl ?_
      refine g_getI 41 (gd rfl) rfl rfl rfl (fun z38 e38 => ?_)
      have q38 : u_109_20 = z38 := (fr_F e_109_20 hFc36 rfl).trans e38.symm
      subst q38
      refine g_cmp_ge 44 231 (gd rfl) rfl rfl (fun c41 => ?_) (fun c41 => ?_)
      · skip
        have n231 : WFN sc36 (x1).toNatClampNeg (x2) := by exact wfn_i (by unfold nmx; rw [← e_109_20]; (first | have a0 := oa4 h1 ro_109_20 ro_109_19 j36_3 | ((first | have a0 := in_u h1 | (have a0 := h1; unfold In at a0)); (first | have a1 := in_u ro_109_20 | (have a1 := ro_109_20; unfold In at a1)); (first | have a2 := in_u ro_109_19 | (have a2 := ro_109_19; unfold In at a2)); (first | have a3 := in_u j36_3 | (have a3 := j36_3; unfold In at a3)))); omega) (hFc36.1 112 rfl) (hFc36.1 113 rfl) (hFc36.1 114 rfl) (hFc36.1 115 rfl) (hFc36.2.1 130 rfl) (hFc36.2.2.1 109 19 rfl) (hFc36.2.2.1 109 20 rfl) q_0 g36_0 (by unfold nmx; rw [← e_109_20]; show _ ≤ ((y36_3.toInt.toNat : Nat) : Int); (first | have a0 := oa4 h1 ro_109_20 ro_109_19 j36_3 | ((first | have a0 := in_u h1 | (have a0 := h1; unfold In at a0)); (first | have a1 := in_u ro_109_20 | (have a1 := ro_109_20; unfold In at a1)); (first | have a2 := in_u ro_109_19 | (have a2 := ro_109_19; unfold In at a2)); (first | have a3 := in_u j36_3 | (have a3 := j36_3; unfold In at a3)))); omega)
        exact g_return (gd rfl) rfl (hP _ _ ⟨sc36, hIc36, hFc36, rfl, rfl, n231⟩)
      · skip
        have i41 := r_lt1 0 31 c41 j36_3 ro_109_20 rfl
        have i41a := r_lt2 1 32 c41 j36_3 ro_109_20 rfl
        refine g_aload_n 45 (gd rfl) rfl rfl ?_
        refine g_getI 48 (gd rfl) rfl rfl rfl (fun z45 e45 => ?_)
        have q45 : u_109_19 = z45 := (fr_F e_109_19 hFc36 rfl).trans e45.symm
        subst q45
        refine g_istore 50 (gd rfl) rfl (Nat.le_of_ble_eq_true rfl) ?_
        have n50 : (u_109_19).toInt ≤ (u_109_19).toInt := by exact Int.le_refl _
        have n50a : (u_109_19).toInt ≤ (u_109_19).toInt + 160 := by (first | have a0 := oa4 h1 i41a ro_109_19 i41 | ((first | have a0 := in_u h1 | (have a0 := h1; unfold In at a0)); (first | have a1 := in_u i41a | (have a1 := i41a; unfold In at a1)); (first | have a2 := in_u ro_109_19 | (have a2 := ro_109_19; unfold In at a2)); (first | have a3 := in_u i41 | (have a3 := i41; unfold In at a3)))); omega
        have n50b : FQI s (x1).toNatClampNeg (x2) (sc36.1 131) (y36_3).toNatClampNeg ((u_109_19).toInt - u_109_19.toInt).toNat := by rw [show (u_109_19.toInt - u_109_19.toInt).toNat = 0 from (by omega)]; exact fqi_0 g36_0
        exact gg_w (by first | exact Nat.le_add_right _ _ | exact gw2 | exact gw3 | exact gwe rfl | exact gwf rfl | exact gwg rfl | exact gwh rfl | omega) (gg_f (gf_cons rfl (gf_cons rfl (gf_cons rfl (gf_cons rfl (gf_cons rfl gf_nil))))) (ct50 401 sc36 u_109_19 hIc36 hFc36 (in_w 0 31 i41 rfl) (in_w 0 400 ro_109_19 rfl) n50 n50a n50b (m_in 401 (in_w 0 400 ro_109_19 rfl) rfl)))
  have ct2 : ∀ (k2 : Nat) (sc2 : GS) (y2_3 : Int32), Inv sc2 → Fr fm_313 s sc2 → (In y2_3 0 32) → (∀ k : Nat, (k : Int) < (y2_3).toInt → (sc2.1 131 k).toInt = if k = (x1).toNatClampNeg then 0 else 1000) → 32 - (y2_3).toInt < (k2 : Int) → GG Z (d - 1) 313 post (gx xp) (11998835 + k2 * 900) 2 (fun j => xlook j [(0, .ref (A 109)), (1, .int x1), (2, .int x2), (3, .int y2_3)]) [] (WW Z A sc2 ++ ex) 0 0 := by
    intro k2
    induction k2 with
    | zero => intro sc2 y2_3 hIc2 hFc2 j2_3 g2_0 mm2; exact m_no mm2 j2_3 rfl
    | succ k2 ih2 =>
      intro sc2 y2_3 hIc2 hFc2 j2_3 g2_0 mm2
      refine gg_w (M := 11998835 + k2 * 900 + 900) gws ?_
      refine g_iload_n 3 (gd rfl) rfl rfl ?_
      refine g_aload_n 4 (gd rfl) rfl rfl ?_
      refine g_getI 7 (gd rfl) rfl rfl rfl (fun z4 e4 => ?_)
      have q4 : u_109_20 = z4 := (fr_F e_109_20 hFc2 rfl).trans e4.symm
      subst q4
      refine g_cmp_ge 10 34 (gd rfl) rfl rfl (fun c7 => ?_) (fun c7 => ?_)
      · skip
        refine g_iconst 0 35 (gd rfl) rfl rfl ?_
        refine g_istore_n 36 (gd rfl) rfl (Nat.le_of_ble_eq_true rfl) ?_
        have n36 : FQ s (x1).toNatClampNeg (x2) (sc2.1 131) ((Int32.ofInt 0)).toNatClampNeg := by exact fq_0 (fun v hv => g2_0 v (by unfold nmx at hv; rw [← e_109_20] at hv; (first | have a0 := oa5 h1 ro_109_20 ro_109_19 j2_3 ((in_c 0 rfl)) | ((first | have a0 := in_u h1 | (have a0 := h1; unfold In at a0)); (first | have a1 := in_u ro_109_20 | (have a1 := ro_109_20; unfold In at a1)); (first | have a2 := in_u ro_109_19 | (have a2 := ro_109_19; unfold In at a2)); (first | have a3 := in_u j2_3 | (have a3 := j2_3; unfold In at a3)); (first | have a4 := in_u ((in_c 0 rfl)) | (have a4 := (in_c 0 rfl); unfold In at a4)))); omega))
        exact gg_w (by first | exact Nat.le_add_right _ _ | exact gw2 | exact gw3 | exact gwe rfl | exact gwf rfl | exact gwg rfl | exact gwh rfl | omega) (gg_f (gf_cons rfl (gf_cons rfl (gf_cons rfl (gf_cons rfl gf_nil)))) (ct36 33 sc2 (Int32.ofInt 0) hIc2 hFc2 (in_w 0 32 (in_c 0 rfl) rfl) n36 (m_in 33 (in_w 0 32 (in_c 0 rfl) rfl) rfl)))
      · skip
        have i7 := r_lt1 0 31 c7 j2_3 ro_109_20 rfl
        have i7a := r_lt2 1 32 c7 j2_3 ro_109_20 rfl
        refine g_aload_n 11 (gd rfl) rfl rfl ?_
        refine g_getA (q2 := 131) 14 (gd rfl) rfl rfl rfl rfl ?_
        refine g_iload_n 15 (gd rfl) rfl rfl ?_
        refine g_iload_n 16 (gd rfl) rfl rfl ?_
        refine g_iload_n 17 (gd rfl) rfl rfl ?_
        refine g_cmp_ne 20 24 (gd rfl) rfl rfl (fun c17 => ?_) (fun c17 => ?_)
        · skip
          refine g_sipush 1000 27 (gd rfl) rfl rfl ?_
          refine g_iastore 28 (gd rfl) rfl (n := 32) rfl (in_ix i7 rfl) ?_
          have hI27 := inv_sI (q := 131) (j := y2_3.toNatClampNeg) hIc2 rfl (in_w (-2147483648) 2147483647 (in_c 1000 rfl) rfl)
          refine g_iinc 31 (gd rfl) rfl rfl (Nat.le_of_ble_eq_true rfl) (fun z28 e28 => ?_)
          have i28 := in_add 1 32 e28 i7 (in_c 1 rfl) rfl rfl
          refine g_goto 2 (gd rfl) rfl ?_
          have n2 : ∀ k : Nat, (k : Int) < (z28).toInt → ((sI sc2 131 y2_3.toNatClampNeg (Int32.ofInt 1000)).1 131 k).toInt = if k = (x1).toNatClampNeg then 0 else 1000 := by (intro k hk; have e3 : y2_3.toNatClampNeg = y2_3.toInt.toNat := rfl; have e1 : x1.toNatClampNeg = x1.toInt.toNat := rfl; have hc := c17; rw [sI_q]; by_cases c : k = y2_3.toNatClampNeg; (rw [c, up_e]; first | (rw [if_neg (by (first | have a0 := oa5 h1 i7a ro_109_19 i7 i28 | ((first | have a0 := in_u h1 | (have a0 := h1; unfold In at a0)); (first | have a1 := in_u i7a | (have a1 := i7a; unfold In at a1)); (first | have a2 := in_u ro_109_19 | (have a2 := ro_109_19; unfold In at a2)); (first | have a3 := in_u i7 | (have a3 := i7; unfold In at a3)); (first | have a4 := in_u i28 | (have a4 := i28; unfold In at a4)))); have a5 := t_add e28 i7 (in_c 1 rfl) rfl; (first | have a6 := in_u ((in_c 1 rfl)) | (have a6 := (in_c 1 rfl); unfold In at a6)); omega)]; rfl) | (rw [if_pos (by (first | have a0 := oa5 h1 i7a ro_109_19 i7 i28 | ((first | have a0 := in_u h1 | (have a0 := h1; unfold In at a0)); (first | have a1 := in_u i7a | (have a1 := i7a; unfold In at a1)); (first | have a2 := in_u ro_109_19 | (have a2 := ro_109_19; unfold In at a2)); (first | have a3 := in_u i7 | (have a3 := i7; unfold In at a3)); (first | have a4 := in_u i28 | (have a4 := i28; unfold In at a4)))); have a5 := t_add e28 i7 (in_c 1 rfl) rfl; (first | have a6 := in_u ((in_c 1 rfl)) | (have a6 := (in_c 1 rfl); unfold In at a6)); omega)]; rfl)); (rw [up_n c]; exact g2_0 k (by (first | have a0 := oa5 h1 i7a ro_109_19 i7 i28 | ((first | have a0 := in_u h1 | (have a0 := h1; unfold In at a0)); (first | have a1 := in_u i7a | (have a1 := i7a; unfold In at a1)); (first | have a2 := in_u ro_109_19 | (have a2 := ro_109_19; unfold In at a2)); (first | have a3 := in_u i7 | (have a3 := i7; unfold In at a3)); (first | have a4 := in_u i28 | (have a4 := i28; unfold In at a4)))); have a5 := t_add e28 i7 (in_c 1 rfl) rfl; (first | have a6 := in_u ((in_c 1 rfl)) | (have a6 := (in_c 1 rfl); unfold In at a6)); omega)))
          exact gg_w (by first | exact Nat.le_add_right _ _ | exact gw2 | exact gw3 | exact gwe rfl | exact gwf rfl | exact gwg rfl | exact gwh rfl | omega) (gg_f (gf_cons rfl (gf_cons rfl (gf_cons rfl (gf_cons rfl gf_nil)))) (ih2 (sI sc2 131 y2_3.toNatClampNeg (Int32.ofInt 1000)) z28 hI27 (fr_sI rfl hFc2) (in_w 0 32 i28 rfl) n2 (m_up mm2 (t_add e28 i7 (in_c 1 rfl) rfl) (in_w 1 1 (in_c 1 rfl) rfl))))
        · skip
          refine g_iconst 0 21 (gd rfl) rfl rfl ?_
          refine g_goto 27 (gd rfl) rfl ?_
          refine g_iastore 28 (gd rfl) rfl (n := 32) rfl (in_ix i7 rfl) ?_
          have hI27 := inv_sI (q := 131) (j := y2_3.toNatClampNeg) hIc2 rfl (in_w (-2147483648) 2147483647 (in_c 0 rfl) rfl)
          refine g_iinc 31 (gd rfl) rfl rfl (Nat.le_of_ble_eq_true rfl) (fun z28 e28 => ?_)
          have i28 := in_add 1 32 e28 i7 (in_c 1 rfl) rfl rfl
          refine g_goto 2 (gd rfl) rfl ?_
          have n2 : ∀ k : Nat, (k : Int) < (z28).toInt → ((sI sc2 131 y2_3.toNatClampNeg (Int32.ofInt 0)).1 131 k).toInt = if k = (x1).toNatClampNeg then 0 else 1000 := by (intro k hk; have e3 : y2_3.toNatClampNeg = y2_3.toInt.toNat := rfl; have e1 : x1.toNatClampNeg = x1.toInt.toNat := rfl; have hc := c17; rw [sI_q]; by_cases c : k = y2_3.toNatClampNeg; (rw [c, up_e]; first | (rw [if_neg (by (first | have a0 := oa5 h1 i7a ro_109_19 i7 i28 | ((first | have a0 := in_u h1 | (have a0 := h1; unfold In at a0)); (first | have a1 := in_u i7a | (have a1 := i7a; unfold In at a1)); (first | have a2 := in_u ro_109_19 | (have a2 := ro_109_19; unfold In at a2)); (first | have a3 := in_u i7 | (have a3 := i7; unfold In at a3)); (first | have a4 := in_u i28 | (have a4 := i28; unfold In at a4)))); have a5 := t_add e28 i7 (in_c 1 rfl) rfl; (first | have a6 := in_u ((in_c 1 rfl)) | (have a6 := (in_c 1 rfl); unfold In at a6)); omega)]; rfl) | (rw [if_pos (by (first | have a0 := oa5 h1 i7a ro_109_19 i7 i28 | ((first | have a0 := in_u h1 | (have a0 := h1; unfold In at a0)); (first | have a1 := in_u i7a | (have a1 := i7a; unfold In at a1)); (first | have a2 := in_u ro_109_19 | (have a2 := ro_109_19; unfold In at a2)); (first | have a3 := in_u i7 | (have a3 := i7; unfold In at a3)); (first | have a4 := in_u i28 | (have a4 := i28; unfold In at a4)))); have a5 := t_add e28 i7 (in_c 1 rfl) rfl; (first | have a6 := in_u ((in_c 1 rfl)) | (have a6 := (in_c 1 rfl); unfold In at a6)); omega)]; rfl)); (rw [up_n c]; exact g2_0 k (by (first | have a0 := oa5 h1 i7a ro_109_19 i7 i28 | ((first | have a0 := in_u h1 | (have a0 := h1; unfold In at a0)); (first | have a1 := in_u i7a | (have a1 := i7a; unfold In at a1)); (first | have a2 := in_u ro_109_19 | (have a2 := ro_109_19; unfold In at a2)); (first | have a3 := in_u i7 | (have a3 := i7; unfold In at a3)); (first | have a4 := in_u i28 | (have a4 := i28; unfold In at a4)))); have a5 := t_add e28 i7 (in_c 1 rfl) rfl; (first | have a6 := in_u ((in_c 1 rfl)) | (have a6 := (in_c 1 rfl); unfold In at a6)); omega)))
          exact gg_w (by first | exact Nat.le_add_right _ _ | exact gw2 | exact gw3 | exact gwe rfl | exact gwf rfl | exact gwg rfl | exact gwh rfl | omega) (gg_f (gf_cons rfl (gf_cons rfl (gf_cons rfl (gf_cons rfl gf_nil)))) (ih2 (sI sc2 131 y2_3.toNatClampNeg (Int32.ofInt 0)) z28 hI27 (fr_sI rfl hFc2) (in_w 0 32 i28 rfl) n2 (m_up mm2 (t_add e28 i7 (in_c 1 rfl) rfl) (in_w 1 1 (in_c 1 rfl) rfl))))
  refine g_enter2 (k := 313) (N := 12029435) (by first | exact dq1 hd rfl | exact dq0 hd rfl | exact dq2 hd rfl | exact dq3 hd rfl | omega) rfl (Nat.le_of_ble_eq_true rfl) ?_
  refine g_iconst 0 1 (gd rfl) rfl rfl ?_
  refine g_istore_n 2 (gd rfl) rfl (Nat.le_of_ble_eq_true rfl) ?_
  have n2 : ∀ k : Nat, (k : Int) < ((Int32.ofInt 0)).toInt → (s.1 131 k).toInt = if k = (x1).toNatClampNeg then 0 else 1000 := by (intro k hk; exfalso; have h0 : (Int32.ofInt 0).toInt = 0 := rfl; omega)
  exact gg_w (by first | exact Nat.le_of_ble_eq_true rfl | omega) (gg_f (gf_cons rfl (gf_cons rfl (gf_cons rfl (gf_cons rfl gf_nil)))) (ct2 33 s (Int32.ofInt 0) hI fr_rf (in_w 0 32 (in_c 0 rfl) rfl) n2 (m_in 33 (in_w 0 32 (in_c 0 rfl) rfl) rfl)))

def fm_314 : FM := ([129], [], [], [])
/-- GraphHouseModel.between -/
theorem k_314 {Z : AmZ} {A : Nat → Nat} {s : GS} {ex : va_W} {d : Nat} {X : AmX} {x1 : Int32} {x2 : Int32} (hd : 3 ≤ d) (hI : Inv s) (h1 : In x1 0 31) (h2 : In x2 0 31) (q_0 : (x1).toInt < nmx s ∧ (x2).toInt < nmx s) : GC Z d 314 [.ref (A 109), .int x1, .int x2] (WW Z A s ++ ex) 0 0 (fun v u => ∃ t : GS, Inv t ∧ Fr fm_314 s t ∧ ∃ z : Int32, v = some (.int z) ∧ u = WW Z A t ++ ex ∧ In z (-2147483648) 2147483647 ∧ ((z).toInt ≠ 0 → BTS t (x2).toNatClampNeg (z) ∧ bt (z) (x1).toNatClampNeg = true)) X := by
  intro post xp hP hX
  obtain ⟨u_109_20, e_109_20⟩ : ∃ w, w = s.2.2.1 109 20 := ⟨_, rfl⟩
  have ro_109_20 := inv_F hI 0 32 rfl e_109_20
  have ct12 : ∀ (k12 : Nat) (sc12 : GS) (y12_3 : Int32) (y12_4 : Int32), Inv sc12 → Fr fm_314 s sc12 → (In y12_4 0 32) → ((y12_4).toInt ≤ (u_109_20).toInt) → (∀ j : Nat, (j : Int) < nmx sc12 → bt (sc12.1 129 j) j = true) → (RCH sc12 (sc12.1 129)) → (∀ v : Nat, (bt (y12_3) v = true ↔ ((v : Int) < (y12_4).toInt ∧ bt (sc12.1 129 (x1).toNatClampNeg) v = true ∧ bt (sc12.1 129 v) (x2).toNatClampNeg = true))) → 32 - (y12_4).toInt < (k12 : Int) → GG Z (d - 1) 314 post (gx xp) (1 + k12 * 900) 12 (fun j => xlook j [(0, .ref (A 109)), (1, .int x1), (2, .int x2), (3, .int y12_3), (4, .int y12_4)]) [] (WW Z A sc12 ++ ex) 0 0 := by
    intro k12
    induction k12 with
    | zero => intro sc12 y12_3 y12_4 hIc12 hFc12 j12_4 n12_0 g12_0 g12_1 g12_2 mm12; exact m_no mm12 j12_4 rfl
    | succ k12 ih12 =>
      intro sc12 y12_3 y12_4 hIc12 hFc12 j12_4 n12_0 g12_0 g12_1 g12_2 mm12
      refine gg_w (M := 1 + k12 * 900 + 900) gws ?_
      refine g_iload 14 (gd rfl) rfl rfl ?_
      refine g_aload_n 15 (gd rfl) rfl rfl ?_
      refine g_getI 18 (gd rfl) rfl rfl rfl (fun z15 e15 => ?_)
      have q15 : u_109_20 = z15 := (fr_F e_109_20 hFc12 rfl).trans e15.symm
      subst q15
      refine g_cmp_ge 21 66 (gd rfl) rfl rfl (fun c18 => ?_) (fun c18 => ?_)
      · skip
        refine g_iload_n 67 (gd rfl) rfl rfl ?_
        have n67 : (y12_3).toInt ≠ 0 → BTS sc12 (x2).toNatClampNeg (y12_3) ∧ bt (y12_3) (x1).toNatClampNeg = true := by intro hz; have en : nmx sc12 = nmx s := (by unfold nmx; rw [hFc12.2.2.1 109 20 rfl]); exact bts_i hIc12 (by rw [en]; show ((x1.toInt.toNat : Nat) : Int) < _; have h := q_0.1; (first | have a0 := oa4 h2 h1 ro_109_20 j12_4 | ((first | have a0 := in_u h2 | (have a0 := h2; unfold In at a0)); (first | have a1 := in_u h1 | (have a1 := h1; unfold In at a1)); (first | have a2 := in_u ro_109_20 | (have a2 := ro_109_20; unfold In at a2)); (first | have a3 := in_u j12_4 | (have a3 := j12_4; unfold In at a3)))); omega) (by rw [en]; show ((x2.toInt.toNat : Nat) : Int) < _; have h := q_0.2; (first | have a0 := oa4 h2 h1 ro_109_20 j12_4 | ((first | have a0 := in_u h2 | (have a0 := h2; unfold In at a0)); (first | have a1 := in_u h1 | (have a1 := h1; unfold In at a1)); (first | have a2 := in_u ro_109_20 | (have a2 := ro_109_20; unfold In at a2)); (first | have a3 := in_u j12_4 | (have a3 := j12_4; unfold In at a3)))); omega) g12_0 g12_1 (fun v => by rw [g12_2 v, show y12_4.toInt = nmx sc12 from (by rw [en]; unfold nmx; rw [← e_109_20]; (first | have a0 := oa4 h2 h1 ro_109_20 j12_4 | ((first | have a0 := in_u h2 | (have a0 := h2; unfold In at a0)); (first | have a1 := in_u h1 | (have a1 := h1; unfold In at a1)); (first | have a2 := in_u ro_109_20 | (have a2 := ro_109_20; unfold In at a2)); (first | have a3 := in_u j12_4 | (have a3 := j12_4; unfold In at a3)))); omega)]) hz
        exact g_ireturn (gd rfl) rfl rfl (hP _ _ ⟨sc12, hIc12, hFc12, y12_3, rfl, rfl, in_w (-2147483648) 2147483647 (i_rng y12_3) rfl, n67⟩)
      · skip
        have i18 := r_lt1 0 31 c18 j12_4 ro_109_20 rfl
        have i18a := r_lt2 1 32 c18 j12_4 ro_109_20 rfl
        refine g_iload_n 22 (gd rfl) rfl rfl ?_
        refine g_aload_n 23 (gd rfl) rfl rfl ?_
        refine g_getA (q2 := 129) 26 (gd rfl) rfl rfl rfl rfl ?_
        refine g_iload_n 27 (gd rfl) rfl rfl ?_
        refine g_iaload 28 (gd rfl) rfl (n := 32) rfl (in_ix h1 rfl) (fun z27 e27 => ?_)
        refine g_iload 30 (gd rfl) rfl rfl ?_
        refine g_calls (As := [.int z27, .int y12_4]) (r := [.int y12_3]) 33 (gd rfl) rfl rfl rfl rfl rfl (Nat.le_of_ble_eq_true rfl) (mc := 0) (ms := 0) (Nat.zero_le _) (Nat.zero_le _) (P := fun v u => _) ?_ (fun v u h => h)
        intro po30 xx30 hp30 hx30
        refine g_enter2 (k := 311) (N := 300) (by first | exact dq1 hd rfl | exact dq0 hd rfl | exact dq2 hd rfl | exact dq3 hd rfl | omega) rfl (Nat.le_of_ble_eq_true rfl) ?_
        refine g_iload_n 1 (gd rfl) rfl rfl ?_
        refine g_iload_n 2 (gd rfl) rfl rfl ?_
        refine g_ishr 3 (gd rfl) rfl (fun z30x2 e30x2 => ?_)
        refine g_iconst 1 4 (gd rfl) rfl rfl ?_
        refine g_iand 5 (gd rfl) rfl (fun z30x4 e30x4 => ?_)
        have i30x4 := in_and2 e30x4 (in_c 1 rfl) rfl
        refine g_iconst 1 6 (gd rfl) rfl rfl ?_
        refine g_cmp_ne 9 13 (gd rfl) rfl rfl (fun c30x6 => ?_) (fun c30x6 => ?_)
        · skip
          have i30x6 := r_ne1 0 0 c30x6 i30x4 (in_c 1 rfl) rfl
          refine g_iconst 0 14 (gd rfl) rfl rfl ?_
          refine g_ireturn (gd rfl) rfl (nb01 (in_w 0 1 (in_c 0 rfl) rfl)) (hp30 _ _ ?_)
          show GG _ _ _ _ _ _ _ _ [.int (Int32.ofInt 0), .int y12_3] _ _ _
          refine g_if_eq 36 57 (gd rfl) rfl rfl (fun c33 => ?_) (fun c33 => ?_)
          · skip
            refine g_iconst 0 58 (gd rfl) rfl rfl ?_
            refine g_ior 59 (gd rfl) rfl (fun z58 e58 => ?_)
            refine g_istore_n 60 (gd rfl) rfl (Nat.le_of_ble_eq_true rfl) ?_
            refine g_iinc 63 (gd rfl) rfl rfl (Nat.le_of_ble_eq_true rfl) (fun z60 e60 => ?_)
            have i60 := in_add 1 32 e60 i18 (in_c 1 rfl) rfl rfl
            refine g_goto 12 (gd rfl) rfl ?_
            have n12 : (z60).toInt ≤ (u_109_20).toInt := by (first | have a0 := oa5 h2 h1 i18a i18 i60 | ((first | have a0 := in_u h2 | (have a0 := h2; unfold In at a0)); (first | have a1 := in_u h1 | (have a1 := h1; unfold In at a1)); (first | have a2 := in_u i18a | (have a2 := i18a; unfold In at a2)); (first | have a3 := in_u i18 | (have a3 := i18; unfold In at a3)); (first | have a4 := in_u i60 | (have a4 := i60; unfold In at a4)))); have a5 := t_add e60 i18 (in_c 1 rfl) rfl; (first | have a6 := in_u ((in_c 1 rfl)) | (have a6 := (in_c 1 rfl); unfold In at a6)); omega
            have n12a : ∀ j : Nat, (j : Int) < nmx sc12 → bt (sc12.1 129 j) j = true := by first | exact g12_0 | (first | exact g12_0 | exact fun j hj => p4 j ⟨hj, by have h0 : (Int32.ofInt (-1)).toInt = -1 := rfl; rw [h0]; omega⟩)
            have n12b : RCH sc12 (sc12.1 129) := by first | exact g12_1 | exact p4a rfl rfl rfl
            have n12c : ∀ v : Nat, (bt (z58) v = true ↔ ((v : Int) < (z60).toInt ∧ bt (sc12.1 129 (x1).toNatClampNeg) v = true ∧ bt (sc12.1 129 v) (x2).toNatClampNeg = true)) := by exact bset_no g12_2 (by (first | have a0 := oa5 h2 h1 i18a i18 i60 | ((first | have a0 := in_u h2 | (have a0 := h2; unfold In at a0)); (first | have a1 := in_u h1 | (have a1 := h1; unfold In at a1)); (first | have a2 := in_u i18a | (have a2 := i18a; unfold In at a2)); (first | have a3 := in_u i18 | (have a3 := i18; unfold In at a3)); (first | have a4 := in_u i60 | (have a4 := i60; unfold In at a4)))); have a5 := t_add e60 i18 (in_c 1 rfl) rfl; (first | have a6 := in_u ((in_c 1 rfl)) | (have a6 := (in_c 1 rfl); unfold In at a6)); omega) (by (first | have a0 := oa5 h2 h1 i18a i18 i60 | ((first | have a0 := in_u h2 | (have a0 := h2; unfold In at a0)); (first | have a1 := in_u h1 | (have a1 := h1; unfold In at a1)); (first | have a2 := in_u i18a | (have a2 := i18a; unfold In at a2)); (first | have a3 := in_u i18 | (have a3 := i18; unfold In at a3)); (first | have a4 := in_u i60 | (have a4 := i60; unfold In at a4)))); have a5 := t_add e60 i18 (in_c 1 rfl) rfl; (first | have a6 := in_u ((in_c 1 rfl)) | (have a6 := (in_c 1 rfl); unfold In at a6)); omega) (fun h => by have hb := bt_no e30x2 e30x4 i18 c30x6; rw [e27, h.1] at hb; cases hb) e58
            exact gg_w (by first | exact Nat.le_add_right _ _ | exact gw2 | exact gw3 | exact gwe rfl | exact gwf rfl | exact gwg rfl | exact gwh rfl | omega) (gg_f (gf_cons rfl (gf_cons rfl (gf_cons rfl (gf_cons rfl (gf_cons rfl gf_nil))))) (ih12 sc12 z58 z60 hIc12 hFc12 (in_w 0 32 i60 rfl) n12 n12a n12b n12c (m_up mm12 (t_add e60 i18 (in_c 1 rfl) rfl) (in_w 1 1 (in_c 1 rfl) rfl))))
          · skip
            exact zn_ne c33 (in_c 0 rfl) rfl
        · skip
          have i30x6 := r_eq1 1 1 c30x6 i30x4 (in_c 1 rfl) rfl
          refine g_iconst 1 10 (gd rfl) rfl rfl ?_
          refine g_goto 14 (gd rfl) rfl ?_
          refine g_ireturn (gd rfl) rfl (nb01 (in_w 0 1 (in_c 1 rfl) rfl)) (hp30 _ _ ?_)
          show GG _ _ _ _ _ _ _ _ [.int (Int32.ofInt 1), .int y12_3] _ _ _
          refine g_if_eq 36 57 (gd rfl) rfl rfl (fun c33 => ?_) (fun c33 => ?_)
          · skip
            exact zn_eq c33 (in_c 1 rfl) rfl
          · skip
            refine g_aload_n 37 (gd rfl) rfl rfl ?_
            refine g_getA (q2 := 129) 40 (gd rfl) rfl rfl rfl rfl ?_
            refine g_iload 42 (gd rfl) rfl rfl ?_
            refine g_iaload 43 (gd rfl) rfl (n := 32) rfl (in_ix i18 rfl) (fun z42 e42 => ?_)
            refine g_iload_n 44 (gd rfl) rfl rfl ?_
            refine g_calls (As := [.int z42, .int x2]) (r := [.int y12_3]) 47 (gd rfl) rfl rfl rfl rfl rfl (Nat.le_of_ble_eq_true rfl) (mc := 0) (ms := 0) (Nat.zero_le _) (Nat.zero_le _) (P := fun v u => _) ?_ (fun v u h => h)
            intro po44 xx44 hp44 hx44
            refine g_enter2 (k := 311) (N := 300) (by first | exact dq1 hd rfl | exact dq0 hd rfl | exact dq2 hd rfl | exact dq3 hd rfl | omega) rfl (Nat.le_of_ble_eq_true rfl) ?_
            refine g_iload_n 1 (gd rfl) rfl rfl ?_
            refine g_iload_n 2 (gd rfl) rfl rfl ?_
            refine g_ishr 3 (gd rfl) rfl (fun z44x2 e44x2 => ?_)
            refine g_iconst 1 4 (gd rfl) rfl rfl ?_
            refine g_iand 5 (gd rfl) rfl (fun z44x4 e44x4 => ?_)
            have i44x4 := in_and2 e44x4 (in_c 1 rfl) rfl
            refine g_iconst 1 6 (gd rfl) rfl rfl ?_
            refine g_cmp_ne 9 13 (gd rfl) rfl rfl (fun c44x6 => ?_) (fun c44x6 => ?_)
            · skip
              have i44x6 := r_ne1 0 0 c44x6 i44x4 (in_c 1 rfl) rfl
              refine g_iconst 0 14 (gd rfl) rfl rfl ?_
              refine g_ireturn (gd rfl) rfl (nb01 (in_w 0 1 (in_c 0 rfl) rfl)) (hp44 _ _ ?_)
              show GG _ _ _ _ _ _ _ _ [.int (Int32.ofInt 0), .int y12_3] _ _ _
              refine g_if_eq 50 57 (gd rfl) rfl rfl (fun c47 => ?_) (fun c47 => ?_)
              · skip
                refine g_iconst 0 58 (gd rfl) rfl rfl ?_
                refine g_ior 59 (gd rfl) rfl (fun z58 e58 => ?_)
                refine g_istore_n 60 (gd rfl) rfl (Nat.le_of_ble_eq_true rfl) ?_
                refine g_iinc 63 (gd rfl) rfl rfl (Nat.le_of_ble_eq_true rfl) (fun z60 e60 => ?_)
                have i60 := in_add 1 32 e60 i18 (in_c 1 rfl) rfl rfl
                refine g_goto 12 (gd rfl) rfl ?_
                have n12 : (z60).toInt ≤ (u_109_20).toInt := by (first | have a0 := oa5 h2 h1 i18a i18 i60 | ((first | have a0 := in_u h2 | (have a0 := h2; unfold In at a0)); (first | have a1 := in_u h1 | (have a1 := h1; unfold In at a1)); (first | have a2 := in_u i18a | (have a2 := i18a; unfold In at a2)); (first | have a3 := in_u i18 | (have a3 := i18; unfold In at a3)); (first | have a4 := in_u i60 | (have a4 := i60; unfold In at a4)))); have a5 := t_add e60 i18 (in_c 1 rfl) rfl; (first | have a6 := in_u ((in_c 1 rfl)) | (have a6 := (in_c 1 rfl); unfold In at a6)); omega
                have n12a : ∀ j : Nat, (j : Int) < nmx sc12 → bt (sc12.1 129 j) j = true := by first | exact g12_0 | (first | exact g12_0 | exact fun j hj => p4 j ⟨hj, by have h0 : (Int32.ofInt (-1)).toInt = -1 := rfl; rw [h0]; omega⟩)
                have n12b : RCH sc12 (sc12.1 129) := by first | exact g12_1 | exact p4a rfl rfl rfl
                have n12c : ∀ v : Nat, (bt (z58) v = true ↔ ((v : Int) < (z60).toInt ∧ bt (sc12.1 129 (x1).toNatClampNeg) v = true ∧ bt (sc12.1 129 v) (x2).toNatClampNeg = true)) := by exact bset_no g12_2 (by (first | have a0 := oa5 h2 h1 i18a i18 i60 | ((first | have a0 := in_u h2 | (have a0 := h2; unfold In at a0)); (first | have a1 := in_u h1 | (have a1 := h1; unfold In at a1)); (first | have a2 := in_u i18a | (have a2 := i18a; unfold In at a2)); (first | have a3 := in_u i18 | (have a3 := i18; unfold In at a3)); (first | have a4 := in_u i60 | (have a4 := i60; unfold In at a4)))); have a5 := t_add e60 i18 (in_c 1 rfl) rfl; (first | have a6 := in_u ((in_c 1 rfl)) | (have a6 := (in_c 1 rfl); unfold In at a6)); omega) (by (first | have a0 := oa5 h2 h1 i18a i18 i60 | ((first | have a0 := in_u h2 | (have a0 := h2; unfold In at a0)); (first | have a1 := in_u h1 | (have a1 := h1; unfold In at a1)); (first | have a2 := in_u i18a | (have a2 := i18a; unfold In at a2)); (first | have a3 := in_u i18 | (have a3 := i18; unfold In at a3)); (first | have a4 := in_u i60 | (have a4 := i60; unfold In at a4)))); have a5 := t_add e60 i18 (in_c 1 rfl) rfl; (first | have a6 := in_u ((in_c 1 rfl)) | (have a6 := (in_c 1 rfl); unfold In at a6)); omega) (fun h => by have hb := bt_no e44x2 e44x4 h2 c44x6; rw [e42, h.2] at hb; cases hb) e58
                exact gg_w (by first | exact Nat.le_add_right _ _ | exact gw2 | exact gw3 | exact gwe rfl | exact gwf rfl | exact gwg rfl | exact gwh rfl | omega) (gg_f (gf_cons rfl (gf_cons rfl (gf_cons rfl (gf_cons rfl (gf_cons rfl gf_nil))))) (ih12 sc12 z58 z60 hIc12 hFc12 (in_w 0 32 i60 rfl) n12 n12a n12b n12c (m_up mm12 (t_add e60 i18 (in_c 1 rfl) rfl) (in_w 1 1 (in_c 1 rfl) rfl))))
              · skip
                exact zn_ne c47 (in_c 0 rfl) rfl
            · skip
              have i44x6 := r_eq1 1 1 c44x6 i44x4 (in_c 1 rfl) rfl
              refine g_iconst 1 10 (gd rfl) rfl rfl ?_
              refine g_goto 14 (gd rfl) rfl ?_
              refine g_ireturn (gd rfl) rfl (nb01 (in_w 0 1 (in_c 1 rfl) rfl)) (hp44 _ _ ?_)
              show GG _ _ _ _ _ _ _ _ [.int (Int32.ofInt 1), .int y12_3] _ _ _
              refine g_if_eq 50 57 (gd rfl) rfl rfl (fun c47 => ?_) (fun c47 => ?_)
              · skip
                exact zn_eq c47 (in_c 1 rfl) rfl
              · skip
                refine g_iconst 1 51 (gd rfl) rfl rfl ?_
                refine g_iload 53 (gd rfl) rfl rfl ?_
                refine g_ishl 54 (gd rfl) rfl (fun z53 e53 => ?_)
                refine g_goto 58 (gd rfl) rfl ?_
                refine g_ior 59 (gd rfl) rfl (fun z58 e58 => ?_)
                refine g_istore_n 60 (gd rfl) rfl (Nat.le_of_ble_eq_true rfl) ?_
                refine g_iinc 63 (gd rfl) rfl rfl (Nat.le_of_ble_eq_true rfl) (fun z60 e60 => ?_)
                have i60 := in_add 1 32 e60 i18 (in_c 1 rfl) rfl rfl
                refine g_goto 12 (gd rfl) rfl ?_
                have n12 : (z60).toInt ≤ (u_109_20).toInt := by (first | have a0 := oa5 h2 h1 i18a i18 i60 | ((first | have a0 := in_u h2 | (have a0 := h2; unfold In at a0)); (first | have a1 := in_u h1 | (have a1 := h1; unfold In at a1)); (first | have a2 := in_u i18a | (have a2 := i18a; unfold In at a2)); (first | have a3 := in_u i18 | (have a3 := i18; unfold In at a3)); (first | have a4 := in_u i60 | (have a4 := i60; unfold In at a4)))); have a5 := t_add e60 i18 (in_c 1 rfl) rfl; (first | have a6 := in_u ((in_c 1 rfl)) | (have a6 := (in_c 1 rfl); unfold In at a6)); omega
                have n12a : ∀ j : Nat, (j : Int) < nmx sc12 → bt (sc12.1 129 j) j = true := by first | exact g12_0 | (first | exact g12_0 | exact fun j hj => p4 j ⟨hj, by have h0 : (Int32.ofInt (-1)).toInt = -1 := rfl; rw [h0]; omega⟩)
                have n12b : RCH sc12 (sc12.1 129) := by first | exact g12_1 | exact p4a rfl rfl rfl
                have n12c : ∀ v : Nat, (bt (z58) v = true ↔ ((v : Int) < (z60).toInt ∧ bt (sc12.1 129 (x1).toNatClampNeg) v = true ∧ bt (sc12.1 129 v) (x2).toNatClampNeg = true)) := by exact bset_yes g12_2 (by (first | have a0 := oa5 h2 h1 i18a i18 i60 | ((first | have a0 := in_u h2 | (have a0 := h2; unfold In at a0)); (first | have a1 := in_u h1 | (have a1 := h1; unfold In at a1)); (first | have a2 := in_u i18a | (have a2 := i18a; unfold In at a2)); (first | have a3 := in_u i18 | (have a3 := i18; unfold In at a3)); (first | have a4 := in_u i60 | (have a4 := i60; unfold In at a4)))); have a5 := t_add e60 i18 (in_c 1 rfl) rfl; (first | have a6 := in_u ((in_c 1 rfl)) | (have a6 := (in_c 1 rfl); unfold In at a6)); omega) i18 (by rw [← e27]; exact bt_yes e30x2 e30x4 i18 c30x6) (by rw [← e42]; exact bt_yes e44x2 e44x4 h2 c44x6) e53 e58
                exact gg_w (by first | exact Nat.le_add_right _ _ | exact gw2 | exact gw3 | exact gwe rfl | exact gwf rfl | exact gwg rfl | exact gwh rfl | omega) (gg_f (gf_cons rfl (gf_cons rfl (gf_cons rfl (gf_cons rfl (gf_cons rfl gf_nil))))) (ih12 sc12 z58 z60 hIc12 hFc12 (in_w 0 32 i60 rfl) n12 n12a n12b n12c (m_up mm12 (t_add e60 i18 (in_c 1 rfl) rfl) (in_w 1 1 (in_c 1 rfl) rfl))))
  refine g_enter2 (k := 314) (N := 30601) (by first | exact dq1 hd rfl | exact dq0 hd rfl | exact dq2 hd rfl | exact dq3 hd rfl | omega) rfl (Nat.le_of_ble_eq_true rfl) ?_
  refine g_aload_n 1 (gd rfl) rfl rfl ?_
  refine g_iconst 0 2 (gd rfl) rfl rfl ?_
  refine g_iconst (-1) 3 (gd rfl) rfl rfl ?_
  refine g_iconst (-1) 4 (gd rfl) rfl rfl ?_
  refine g_callv (X := _) (As := [.int (Int32.ofInt 0), .int (Int32.ofInt (-1)), .int (Int32.ofInt (-1))]) (r := []) (b := A 109) (q := 109) 7 (gd rfl) rfl rfl rfl rfl rfl (ww_o rfl) (Nat.le_of_ble_eq_true rfl) (Nat.zero_le _) (Nat.zero_le _) (k_310 (by first | exact dq1 hd rfl | exact dq0 hd rfl | exact dq2 hd rfl | exact dq3 hd rfl | omega) hI (in_w 0 1 (in_c 0 rfl) rfl) (in_w (-1) 159 (in_c (-1) rfl) rfl) (in_w (-1) 31 (in_c (-1) rfl) rfl)) (fun e u h => h) (fun v u h => ?_)
  obtain ⟨s4, hI4, hF4, rfl, rfl, p4, p4a⟩ := h
  show GG _ _ _ _ _ _ _ _ [] _ _ _
  refine g_iconst 0 8 (gd rfl) rfl rfl ?_
  refine g_istore_n 9 (gd rfl) rfl (Nat.le_of_ble_eq_true rfl) ?_
  refine g_iconst 0 10 (gd rfl) rfl rfl ?_
  refine g_istore 12 (gd rfl) rfl (Nat.le_of_ble_eq_true rfl) ?_
  have n12 : ((Int32.ofInt 0)).toInt ≤ (u_109_20).toInt := by (first | have a0 := oa4 ro_109_20 h2 h1 ((in_c 0 rfl)) | ((first | have a0 := in_u ro_109_20 | (have a0 := ro_109_20; unfold In at a0)); (first | have a1 := in_u h2 | (have a1 := h2; unfold In at a1)); (first | have a2 := in_u h1 | (have a2 := h1; unfold In at a2)); (first | have a3 := in_u ((in_c 0 rfl)) | (have a3 := (in_c 0 rfl); unfold In at a3)))); omega
  have n12a : ∀ j : Nat, (j : Int) < nmx s4 → bt (s4.1 129 j) j = true := by first | exact g12_0 | exact fun j hj => p4 j ⟨hj, by have h0 : (Int32.ofInt (-1)).toInt = -1 := rfl; rw [h0]; omega⟩
  have n12b : RCH s4 (s4.1 129) := by first | exact g12_1 | exact p4a rfl rfl rfl
  have n12c : ∀ v : Nat, (bt ((Int32.ofInt 0)) v = true ↔ ((v : Int) < ((Int32.ofInt 0)).toInt ∧ bt (s4.1 129 (x1).toNatClampNeg) v = true ∧ bt (s4.1 129 v) (x2).toNatClampNeg = true)) := by (intro v; rw [show (Int32.ofInt 0) = (0 : Int32) from rfl, bt_z]; exact ⟨fun h => (by cases h), fun h => by exfalso; have h1 := h.1; have h0 : (0 : Int32).toInt = 0 := rfl; omega⟩)
  exact gg_w (by first | exact Nat.le_of_ble_eq_true rfl | omega) (gg_f (gf_cons rfl (gf_cons rfl (gf_cons rfl (gf_cons rfl (gf_cons rfl gf_nil))))) (ct12 33 s4 (Int32.ofInt 0) (Int32.ofInt 0) hI4 (fr_tr rfl fr_rf hF4) (in_w 0 32 (in_c 0 rfl) rfl) n12 n12a n12b n12c (m_in 33 (in_w 0 32 (in_c 0 rfl) rfl) rfl)))

def fm_317 : FM := ([133], [], [(109, 0)], [])
/-- GraphHouseModel.width -/
theorem k_317 {Z : AmZ} {A : Nat → Nat} {s : GS} {ex : va_W} {d : Nat} {X : AmX} {x1 : Int32} {x2 : Int32} (hd : 4 ≤ d) (hI : Inv s)  : GC Z d 317 [.ref (A 109), .int x1, .int x2] (WW Z A s ++ ex) 0 0 (fun v u => ∃ t : GS, Inv t ∧ Fr fm_317 s t ∧ ∃ z : Int32, v = some (.int z) ∧ u = WW Z A t ++ ex ∧ In z (-2147483648) 2147483647) X := by
  intro post xp hP hX
  obtain ⟨u_109_19, e_109_19⟩ : ∃ w, w = s.2.2.1 109 19 := ⟨_, rfl⟩
  have ro_109_19 := inv_F hI 0 160 rfl e_109_19
  obtain ⟨u_109_20, e_109_20⟩ : ∃ w, w = s.2.2.1 109 20 := ⟨_, rfl⟩
  have ro_109_20 := inv_F hI 0 32 rfl e_109_20
  have ct66 : ∀ (k66 : Nat) (sc66 : GS) (y66_3 : Int32), Inv sc66 → Fr fm_317 s sc66 → (In x1 0 31) → (In x2 0 31) → (In y66_3 0 32) → 32 - (y66_3).toInt < (k66 : Int) → GG Z (d - 1) 317 post (gx xp) (1 + k66 * 725803) 66 (fun j => xlook j [(0, .ref (A 109)), (1, .int x1), (2, .int x2), (3, .int y66_3)]) [] (WW Z A sc66 ++ ex) 0 0 := by
    intro k66
    induction k66 with
    | zero => intro sc66 y66_3 hIc66 hFc66 j66_1 j66_2 j66_3 mm66; exact m_no mm66 j66_3 rfl
    | succ k66 ih66 =>
      intro sc66 y66_3 hIc66 hFc66 j66_1 j66_2 j66_3 mm66
      refine gg_w (M := 1 + k66 * 725803 + 725803) gws ?_
      have ct80 : ∀ (k80 : Nat) (sc80 : GS) (y80_4 : Int32), Inv sc80 → Fr fm_317 s sc80 → (In y66_3 0 31) → (In y80_4 0 400) → 400 - (y80_4).toInt < (k80 : Int) → GG Z (d - 1) 317 post (gx xp) (1 + k66 * 725803 + 1 + k80 * 1801) 80 (fun j => xlook j [(0, .ref (A 109)), (1, .int x1), (2, .int x2), (3, .int y66_3), (4, .int y80_4)]) [] (WW Z A sc80 ++ ex) 0 0 := by
        intro k80
        induction k80 with
        | zero => intro sc80 y80_4 hIc80 hFc80 j80_3 j80_4 mm80; exact m_no mm80 j80_4 rfl
        | succ k80 ih80 =>
          intro sc80 y80_4 hIc80 hFc80 j80_3 j80_4 mm80
          refine gg_w (M := 1 + k66 * 725803 + 1 + k80 * 1801 + 1801) gws ?_
          have ct210 : ∀ (sc210 : GS) , Inv sc210 → Fr fm_317 s sc210 → (In y80_4 0 319) → GG Z (d - 1) 317 post (gx xp) (1 + k66 * 725803 + 1 + k80 * 1801 + 901) 210 (fun j => xlook j [(0, .ref (A 109)), (1, .int x1), (2, .int x2), (3, .int y66_3), (4, .int y80_4)]) [] (WW Z A sc210 ++ ex) 0 0 := by
            intro sc210  hIc210 hFc210 j210_4
            refine g_iinc 213 (gd rfl) rfl rfl (Nat.le_of_ble_eq_true rfl) (fun z210 e210 => ?_)
            have i210 := in_add 1 320 e210 j210_4 (in_c 1 rfl) rfl rfl
            refine g_goto 80 (gd rfl) rfl ?_
            exact gg_w (by first | exact Nat.le_add_right _ _ | exact gw2 | exact gw3 | exact gwe rfl | exact gwf rfl | exact gwg rfl | exact gwh rfl | omega) (gg_f (gf_cons rfl (gf_cons rfl (gf_cons rfl (gf_cons rfl (gf_cons rfl gf_nil))))) (ih80 sc210 z210 hIc210 hFc210 (in_w 0 31 j80_3 rfl) (in_w 0 400 i210 rfl) (m_up mm80 (t_add e210 j210_4 (in_c 1 rfl) rfl) (in_w 1 1 (in_c 1 rfl) rfl))))
          refine g_iload 82 (gd rfl) rfl rfl ?_
          refine g_aload_n 83 (gd rfl) rfl rfl ?_
          refine g_getI 86 (gd rfl) rfl rfl rfl (fun z83 e83 => ?_)
          have q83 : u_109_19 = z83 := (fr_F e_109_19 hFc80 rfl).trans e83.symm
          subst q83
          refine g_sipush 160 89 (gd rfl) rfl rfl ?_
          refine g_iadd 90 (gd rfl) rfl (fun z89 e89 => ?_)
          have i89 := in_add 160 320 e89 ro_109_19 (in_c 160 rfl) rfl rfl
          refine g_cmp_ge 93 216 (gd rfl) rfl rfl (fun c90 => ?_) (fun c90 => ?_)
          · skip
            have i90 := r_le2 160 400 c90 i89 j80_4 rfl
            refine g_iinc 219 (gd rfl) rfl rfl (Nat.le_of_ble_eq_true rfl) (fun z216 e216 => ?_)
            have i216 := in_add 1 32 e216 j80_3 (in_c 1 rfl) rfl rfl
            refine g_goto 66 (gd rfl) rfl ?_
            exact gg_w (by first | exact Nat.le_add_right _ _ | exact gw2 | exact gw3 | exact gwe rfl | exact gwf rfl | exact gwg rfl | exact gwh rfl | omega) (gg_f (gf_cons rfl (gf_cons rfl (gf_cons rfl (gf_cons rfl gf_nil)))) (ih66 sc80 z216 hIc80 hFc80 (in_w 0 31 j66_1 rfl) (in_w 0 31 j66_2 rfl) (in_w 0 32 i216 rfl) (m_up mm66 (t_add e216 j80_3 (in_c 1 rfl) rfl) (in_w 1 1 (in_c 1 rfl) rfl))))
          · skip
            have i90 := r_lt1 0 319 c90 j80_4 i89 rfl
            refine g_aload_n 94 (gd rfl) rfl rfl ?_
            refine g_getA (q2 := 112) 97 (gd rfl) rfl rfl rfl rfl ?_
            refine g_iload 99 (gd rfl) rfl rfl ?_
            refine g_baload 100 (gd rfl) rfl (n := 480) rfl (in_ix i90 rfl) (fun z99 e99 => ?_)
            have i99 := inv_I hIc80 (n := 480) (t := 3) 0 1 rfl (in_ix i90 rfl) rfl e99
            refine g_if_eq 103 210 (gd rfl) rfl rfl (fun c100 => ?_) (fun c100 => ?_)
            · skip
              have i100 := z_eq 0 0 c100 i99 rfl
              exact gg_w (by first | exact Nat.le_add_right _ _ | exact gw2 | exact gw3 | exact gwe rfl | exact gwf rfl | exact gwg rfl | exact gwh rfl | omega) (gg_f (gf_cons rfl (gf_cons rfl (gf_cons rfl (gf_cons rfl (gf_cons rfl gf_nil))))) (ct210 sc80  hIc80 hFc80 (in_w 0 319 i90 rfl)))
            · skip
              have i100 := z_ne 1 1 c100 i99 rfl
              refine g_aload_n 104 (gd rfl) rfl rfl ?_
              refine g_getA (q2 := 133) 107 (gd rfl) rfl rfl rfl rfl ?_
              refine g_aload_n 108 (gd rfl) rfl rfl ?_
              refine g_getA (q2 := 113) 111 (gd rfl) rfl rfl rfl rfl ?_
              refine g_iload 113 (gd rfl) rfl rfl ?_
              refine g_iaload 114 (gd rfl) rfl (n := 480) rfl (in_ix i90 rfl) (fun z113 e113 => ?_)
              have i113 := inv_I hIc80 (n := 480) (t := 0) 0 31 rfl (in_ix i90 rfl) rfl e113
              refine g_iaload 115 (gd rfl) rfl (n := 32) rfl (in_ix i113 rfl) (fun z114 e114 => ?_)
              refine g_if_lt 118 210 (gd rfl) rfl rfl (fun c115 => ?_) (fun c115 => ?_)
              · skip
                have i115 := z_lt (-2147483648) (-1) c115 (i_rng z114) rfl
                exact gg_w (by first | exact Nat.le_add_right _ _ | exact gw2 | exact gw3 | exact gwe rfl | exact gwf rfl | exact gwg rfl | exact gwh rfl | omega) (gg_f (gf_cons rfl (gf_cons rfl (gf_cons rfl (gf_cons rfl (gf_cons rfl gf_nil))))) (ct210 sc80  hIc80 hFc80 (in_w 0 319 i90 rfl)))
              · skip
                have i115 := z_ge 0 2147483647 c115 (i_rng z114) rfl
                refine g_aload_n 119 (gd rfl) rfl rfl ?_
                refine g_getA (q2 := 116) 122 (gd rfl) rfl rfl rfl rfl ?_
                refine g_iload 124 (gd rfl) rfl rfl ?_
                refine g_iaload 125 (gd rfl) rfl (n := 480) rfl (in_ix i90 rfl) (fun z124 e124 => ?_)
                have i124 := inv_I hIc80 (n := 480) (t := 0) 0 1000000 rfl (in_ix i90 rfl) rfl e124
                refine g_aload_n 126 (gd rfl) rfl rfl ?_
                refine g_getA (q2 := 133) 129 (gd rfl) rfl rfl rfl rfl ?_
                refine g_aload_n 130 (gd rfl) rfl rfl ?_
                refine g_getA (q2 := 113) 133 (gd rfl) rfl rfl rfl rfl ?_
                refine g_iload 135 (gd rfl) rfl rfl ?_
                refine g_iaload 136 (gd rfl) rfl (n := 480) rfl (in_ix i90 rfl) (fun z135 e135 => ?_)
                have q135 : z113 = z135 := (e113).trans e135.symm
                subst q135
                refine g_iaload 137 (gd rfl) rfl (n := 32) rfl (in_ix i113 rfl) (fun z136 e136 => ?_)
                have q136 : z114 = z136 := (e114).trans e136.symm
                subst q136
                refine g_cmp_ge 140 150 (gd rfl) rfl rfl (fun c137 => ?_) (fun c137 => ?_)
                · skip
                  have i137 := r_le1 0 1000000 c137 i115 i124 rfl
                  refine g_aload_n 151 (gd rfl) rfl rfl ?_
                  refine g_getA (q2 := 133) 154 (gd rfl) rfl rfl rfl rfl ?_
                  refine g_aload_n 155 (gd rfl) rfl rfl ?_
                  refine g_getA (q2 := 113) 158 (gd rfl) rfl rfl rfl rfl ?_
                  refine g_iload 160 (gd rfl) rfl rfl ?_
                  refine g_iaload 161 (gd rfl) rfl (n := 480) rfl (in_ix i90 rfl) (fun z160 e160 => ?_)
                  have q160 : z113 = z160 := (e113).trans e160.symm
                  subst q160
                  refine g_iaload 162 (gd rfl) rfl (n := 32) rfl (in_ix i113 rfl) (fun z161 e161 => ?_)
                  have q161 : z114 = z161 := (e114).trans e161.symm
                  subst q161
                  refine g_istore 164 (gd rfl) rfl (Nat.le_of_ble_eq_true rfl) ?_
                  refine g_aload_n 165 (gd rfl) rfl rfl ?_
                  refine g_getA (q2 := 133) 168 (gd rfl) rfl rfl rfl rfl ?_
                  refine g_aload_n 169 (gd rfl) rfl rfl ?_
                  refine g_getA (q2 := 114) 172 (gd rfl) rfl rfl rfl rfl ?_
                  refine g_iload 174 (gd rfl) rfl rfl ?_
                  refine g_iaload 175 (gd rfl) rfl (n := 480) rfl (in_ix i90 rfl) (fun z174 e174 => ?_)
                  have i174 := inv_I hIc80 (n := 480) (t := 0) 0 31 rfl (in_ix i90 rfl) rfl e174
                  refine g_iload 177 (gd rfl) rfl rfl ?_
                  refine g_aload_n 178 (gd rfl) rfl rfl ?_
                  refine g_getA (q2 := 133) 181 (gd rfl) rfl rfl rfl rfl ?_
                  refine g_aload_n 182 (gd rfl) rfl rfl ?_
                  refine g_getA (q2 := 114) 185 (gd rfl) rfl rfl rfl rfl ?_
                  refine g_iload 187 (gd rfl) rfl rfl ?_
                  refine g_iaload 188 (gd rfl) rfl (n := 480) rfl (in_ix i90 rfl) (fun z187 e187 => ?_)
                  have q187 : z174 = z187 := (e174).trans e187.symm
                  subst q187
                  refine g_iaload 189 (gd rfl) rfl (n := 32) rfl (in_ix i174 rfl) (fun z188 e188 => ?_)
                  refine g_cmp_le 192 197 (gd rfl) rfl rfl (fun c189 => ?_) (fun c189 => ?_)
                  · skip
                    have i189 := r_le2 0 2147483647 c189 i137 (i_rng z188) rfl
                    refine g_aload_n 198 (gd rfl) rfl rfl ?_
                    refine g_getA (q2 := 133) 201 (gd rfl) rfl rfl rfl rfl ?_
                    refine g_aload_n 202 (gd rfl) rfl rfl ?_
                    refine g_getA (q2 := 114) 205 (gd rfl) rfl rfl rfl rfl ?_
                    refine g_iload 207 (gd rfl) rfl rfl ?_
                    refine g_iaload 208 (gd rfl) rfl (n := 480) rfl (in_ix i90 rfl) (fun z207 e207 => ?_)
                    have q207 : z174 = z207 := (e174).trans e207.symm
                    subst q207
                    refine g_iaload 209 (gd rfl) rfl (n := 32) rfl (in_ix i174 rfl) (fun z208 e208 => ?_)
                    have q208 : z188 = z208 := (e188).trans e208.symm
                    subst q208
                    refine g_iastore 210 (gd rfl) rfl (n := 32) rfl (in_ix i174 rfl) ?_
                    have hI209 := inv_sI (q := 133) (j := z174.toNatClampNeg) hIc80 rfl (in_w (-2147483648) 2147483647 i189 rfl)
                    exact gg_w (by first | exact Nat.le_add_right _ _ | exact gw2 | exact gw3 | exact gwe rfl | exact gwf rfl | exact gwg rfl | exact gwh rfl | omega) (gg_f (gf_cons rfl (gf_cons rfl (gf_cons rfl (gf_cons rfl (gf_cons rfl gf_nil))))) (ct210 (sI sc80 133 z174.toNatClampNeg z188)  hI209 (fr_sI rfl hFc80) (in_w 0 319 i90 rfl)))
                  · skip
                    have i189 := r_lt1 (-2147483648) 999999 c189 (i_rng z188) i137 rfl
                    refine g_iload 194 (gd rfl) rfl rfl ?_
                    refine g_goto 209 (gd rfl) rfl ?_
                    refine g_iastore 210 (gd rfl) rfl (n := 32) rfl (in_ix i174 rfl) ?_
                    have hI209 := inv_sI (q := 133) (j := z174.toNatClampNeg) hIc80 rfl (in_w (-2147483648) 2147483647 i137 rfl)
                    exact gg_w (by first | exact Nat.le_add_right _ _ | exact gw2 | exact gw3 | exact gwe rfl | exact gwf rfl | exact gwg rfl | exact gwh rfl | omega) (gg_f (gf_cons rfl (gf_cons rfl (gf_cons rfl (gf_cons rfl (gf_cons rfl gf_nil))))) (ct210 (sI sc80 133 z174.toNatClampNeg z114)  hI209 (fr_sI rfl hFc80) (in_w 0 319 i90 rfl)))
                · skip
                  have i137 := r_lt2 1 2147483647 c137 i124 i115 rfl
                  refine g_aload_n 141 (gd rfl) rfl rfl ?_
                  refine g_getA (q2 := 116) 144 (gd rfl) rfl rfl rfl rfl ?_
                  refine g_iload 146 (gd rfl) rfl rfl ?_
                  refine g_iaload 147 (gd rfl) rfl (n := 480) rfl (in_ix i90 rfl) (fun z146 e146 => ?_)
                  have q146 : z124 = z146 := (e124).trans e146.symm
                  subst q146
                  refine g_goto 162 (gd rfl) rfl ?_
                  refine g_istore 164 (gd rfl) rfl (Nat.le_of_ble_eq_true rfl) ?_
                  refine g_aload_n 165 (gd rfl) rfl rfl ?_
                  refine g_getA (q2 := 133) 168 (gd rfl) rfl rfl rfl rfl ?_
                  refine g_aload_n 169 (gd rfl) rfl rfl ?_
                  refine g_getA (q2 := 114) 172 (gd rfl) rfl rfl rfl rfl ?_
                  refine g_iload 174 (gd rfl) rfl rfl ?_
                  refine g_iaload 175 (gd rfl) rfl (n := 480) rfl (in_ix i90 rfl) (fun z174 e174 => ?_)
                  have i174 := inv_I hIc80 (n := 480) (t := 0) 0 31 rfl (in_ix i90 rfl) rfl e174
                  refine g_iload 177 (gd rfl) rfl rfl ?_
                  refine g_aload_n 178 (gd rfl) rfl rfl ?_
                  refine g_getA (q2 := 133) 181 (gd rfl) rfl rfl rfl rfl ?_
                  refine g_aload_n 182 (gd rfl) rfl rfl ?_
                  refine g_getA (q2 := 114) 185 (gd rfl) rfl rfl rfl rfl ?_
                  refine g_iload 187 (gd rfl) rfl rfl ?_
                  refine g_iaload 188 (gd rfl) rfl (n := 480) rfl (in_ix i90 rfl) (fun z187 e187 => ?_)
                  have q187 : z174 = z187 := (e174).trans e187.symm
                  subst q187
                  refine g_iaload 189 (gd rfl) rfl (n := 32) rfl (in_ix i174 rfl) (fun z188 e188 => ?_)
                  refine g_cmp_le 192 197 (gd rfl) rfl rfl (fun c189 => ?_) (fun c189 => ?_)
                  · skip
                    have i189 := r_le2 0 2147483647 c189 i124 (i_rng z188) rfl
                    refine g_aload_n 198 (gd rfl) rfl rfl ?_
                    refine g_getA (q2 := 133) 201 (gd rfl) rfl rfl rfl rfl ?_
                    refine g_aload_n 202 (gd rfl) rfl rfl ?_
                    refine g_getA (q2 := 114) 205 (gd rfl) rfl rfl rfl rfl ?_
                    refine g_iload 207 (gd rfl) rfl rfl ?_
                    refine g_iaload 208 (gd rfl) rfl (n := 480) rfl (in_ix i90 rfl) (fun z207 e207 => ?_)
                    have q207 : z174 = z207 := (e174).trans e207.symm
                    subst q207
                    refine g_iaload 209 (gd rfl) rfl (n := 32) rfl (in_ix i174 rfl) (fun z208 e208 => ?_)
                    have q208 : z188 = z208 := (e188).trans e208.symm
                    subst q208
                    refine g_iastore 210 (gd rfl) rfl (n := 32) rfl (in_ix i174 rfl) ?_
                    have hI209 := inv_sI (q := 133) (j := z174.toNatClampNeg) hIc80 rfl (in_w (-2147483648) 2147483647 i189 rfl)
                    exact gg_w (by first | exact Nat.le_add_right _ _ | exact gw2 | exact gw3 | exact gwe rfl | exact gwf rfl | exact gwg rfl | exact gwh rfl | omega) (gg_f (gf_cons rfl (gf_cons rfl (gf_cons rfl (gf_cons rfl (gf_cons rfl gf_nil))))) (ct210 (sI sc80 133 z174.toNatClampNeg z188)  hI209 (fr_sI rfl hFc80) (in_w 0 319 i90 rfl)))
                  · skip
                    have i189 := r_lt1 (-2147483648) 999999 c189 (i_rng z188) i124 rfl
                    refine g_iload 194 (gd rfl) rfl rfl ?_
                    refine g_goto 209 (gd rfl) rfl ?_
                    refine g_iastore 210 (gd rfl) rfl (n := 32) rfl (in_ix i174 rfl) ?_
                    have hI209 := inv_sI (q := 133) (j := z174.toNatClampNeg) hIc80 rfl (in_w (-2147483648) 2147483647 i124 rfl)
                    exact gg_w (by first | exact Nat.le_add_right _ _ | exact gw2 | exact gw3 | exact gwe rfl | exact gwf rfl | exact gwg rfl | exact gwh rfl | omega) (gg_f (gf_cons rfl (gf_cons rfl (gf_cons rfl (gf_cons rfl (gf_cons rfl gf_nil))))) (ct210 (sI sc80 133 z174.toNatClampNeg z124)  hI209 (fr_sI rfl hFc80) (in_w 0 319 i90 rfl)))
      refine g_iload_n 67 (gd rfl) rfl rfl ?_
      refine g_aload_n 68 (gd rfl) rfl rfl ?_
      refine g_getI 71 (gd rfl) rfl rfl rfl (fun z68 e68 => ?_)
      have q68 : u_109_20 = z68 := (fr_F e_109_20 hFc66 rfl).trans e68.symm
      subst q68
      refine g_cmp_ge 74 222 (gd rfl) rfl rfl (fun c71 => ?_) (fun c71 => ?_)
      · skip
        refine g_aload_n 223 (gd rfl) rfl rfl ?_
        refine g_getA (q2 := 133) 226 (gd rfl) rfl rfl rfl rfl ?_
        refine g_iload_n 227 (gd rfl) rfl rfl ?_
        refine g_iaload 228 (gd rfl) rfl (n := 32) rfl (in_ix j66_2 rfl) (fun z227 e227 => ?_)
        exact g_ireturn (gd rfl) rfl rfl (hP _ _ ⟨sc66, hIc66, hFc66, z227, rfl, rfl, in_w (-2147483648) 2147483647 (i_rng z227) rfl⟩)
      · skip
        have i71 := r_lt1 0 31 c71 j66_3 ro_109_20 rfl
        have i71a := r_lt2 1 32 c71 j66_3 ro_109_20 rfl
        refine g_aload_n 75 (gd rfl) rfl rfl ?_
        refine g_getI 78 (gd rfl) rfl rfl rfl (fun z75 e75 => ?_)
        have q75 : u_109_19 = z75 := (fr_F e_109_19 hFc66 rfl).trans e75.symm
        subst q75
        refine g_istore 80 (gd rfl) rfl (Nat.le_of_ble_eq_true rfl) ?_
        exact gg_w (by first | exact Nat.le_add_right _ _ | exact gw2 | exact gw3 | exact gwe rfl | exact gwf rfl | exact gwg rfl | exact gwh rfl | omega) (gg_f (gf_cons rfl (gf_cons rfl (gf_cons rfl (gf_cons rfl (gf_cons rfl gf_nil))))) (ct80 401 sc66 u_109_19 hIc66 hFc66 (in_w 0 31 i71 rfl) (in_w 0 400 ro_109_19 rfl) (m_in 401 (in_w 0 400 ro_109_19 rfl) rfl)))
  have ct32 : ∀ (k32 : Nat) (sc32 : GS) (y32_3 : Int32), Inv sc32 → Fr fm_317 s sc32 → (In x1 0 31) → (In x2 0 31) → (In y32_3 0 32) → 32 - (y32_3).toInt < (k32 : Int) → GG Z (d - 1) 317 post (gx xp) (23951501 + k32 * 900) 32 (fun j => xlook j [(0, .ref (A 109)), (1, .int x1), (2, .int x2), (3, .int y32_3)]) [] (WW Z A sc32 ++ ex) 0 0 := by
    intro k32
    induction k32 with
    | zero => intro sc32 y32_3 hIc32 hFc32 j32_1 j32_2 j32_3 mm32; exact m_no mm32 j32_3 rfl
    | succ k32 ih32 =>
      intro sc32 y32_3 hIc32 hFc32 j32_1 j32_2 j32_3 mm32
      refine gg_w (M := 23951501 + k32 * 900 + 900) gws ?_
      refine g_iload_n 33 (gd rfl) rfl rfl ?_
      refine g_aload_n 34 (gd rfl) rfl rfl ?_
      refine g_getI 37 (gd rfl) rfl rfl rfl (fun z34 e34 => ?_)
      have q34 : u_109_20 = z34 := (fr_F e_109_20 hFc32 rfl).trans e34.symm
      subst q34
      refine g_cmp_ge 40 64 (gd rfl) rfl rfl (fun c37 => ?_) (fun c37 => ?_)
      · skip
        refine g_iconst 0 65 (gd rfl) rfl rfl ?_
        refine g_istore_n 66 (gd rfl) rfl (Nat.le_of_ble_eq_true rfl) ?_
        exact gg_w (by first | exact Nat.le_add_right _ _ | exact gw2 | exact gw3 | exact gwe rfl | exact gwf rfl | exact gwg rfl | exact gwh rfl | omega) (gg_f (gf_cons rfl (gf_cons rfl (gf_cons rfl (gf_cons rfl gf_nil)))) (ct66 33 sc32 (Int32.ofInt 0) hIc32 hFc32 (in_w 0 31 j32_1 rfl) (in_w 0 31 j32_2 rfl) (in_w 0 32 (in_c 0 rfl) rfl) (m_in 33 (in_w 0 32 (in_c 0 rfl) rfl) rfl)))
      · skip
        have i37 := r_lt1 0 31 c37 j32_3 ro_109_20 rfl
        have i37a := r_lt2 1 32 c37 j32_3 ro_109_20 rfl
        refine g_aload_n 41 (gd rfl) rfl rfl ?_
        refine g_getA (q2 := 133) 44 (gd rfl) rfl rfl rfl rfl ?_
        refine g_iload_n 45 (gd rfl) rfl rfl ?_
        refine g_iload_n 46 (gd rfl) rfl rfl ?_
        refine g_iload_n 47 (gd rfl) rfl rfl ?_
        refine g_cmp_ne 50 56 (gd rfl) rfl rfl (fun c47 => ?_) (fun c47 => ?_)
        · skip
          refine g_iconst (-1) 57 (gd rfl) rfl rfl ?_
          refine g_iastore 58 (gd rfl) rfl (n := 32) rfl (in_ix i37 rfl) ?_
          have hI57 := inv_sI (q := 133) (j := y32_3.toNatClampNeg) hIc32 rfl (in_w (-2147483648) 2147483647 (in_c (-1) rfl) rfl)
          refine g_iinc 61 (gd rfl) rfl rfl (Nat.le_of_ble_eq_true rfl) (fun z58 e58 => ?_)
          have i58 := in_add 1 32 e58 i37 (in_c 1 rfl) rfl rfl
          refine g_goto 32 (gd rfl) rfl ?_
          exact gg_w (by first | exact Nat.le_add_right _ _ | exact gw2 | exact gw3 | exact gwe rfl | exact gwf rfl | exact gwg rfl | exact gwh rfl | omega) (gg_f (gf_cons rfl (gf_cons rfl (gf_cons rfl (gf_cons rfl gf_nil)))) (ih32 (sI sc32 133 y32_3.toNatClampNeg (Int32.ofInt (-1))) z58 hI57 (fr_sI rfl hFc32) (in_w 0 31 j32_1 rfl) (in_w 0 31 j32_2 rfl) (in_w 0 32 i58 rfl) (m_up mm32 (t_add e58 i37 (in_c 1 rfl) rfl) (in_w 1 1 (in_c 1 rfl) rfl))))
        · skip
          refine g_ldc_w 1000001 53 (gd rfl) rfl rfl ?_
          refine g_goto 57 (gd rfl) rfl ?_
          refine g_iastore 58 (gd rfl) rfl (n := 32) rfl (in_ix i37 rfl) ?_
          have hI57 := inv_sI (q := 133) (j := y32_3.toNatClampNeg) hIc32 rfl (in_w (-2147483648) 2147483647 (in_c 1000001 rfl) rfl)
          refine g_iinc 61 (gd rfl) rfl rfl (Nat.le_of_ble_eq_true rfl) (fun z58 e58 => ?_)
          have i58 := in_add 1 32 e58 i37 (in_c 1 rfl) rfl rfl
          refine g_goto 32 (gd rfl) rfl ?_
          exact gg_w (by first | exact Nat.le_add_right _ _ | exact gw2 | exact gw3 | exact gwe rfl | exact gwf rfl | exact gwg rfl | exact gwh rfl | omega) (gg_f (gf_cons rfl (gf_cons rfl (gf_cons rfl (gf_cons rfl gf_nil)))) (ih32 (sI sc32 133 y32_3.toNatClampNeg (Int32.ofInt 1000001)) z58 hI57 (fr_sI rfl hFc32) (in_w 0 31 j32_1 rfl) (in_w 0 31 j32_2 rfl) (in_w 0 32 i58 rfl) (m_up mm32 (t_add e58 i37 (in_c 1 rfl) rfl) (in_w 1 1 (in_c 1 rfl) rfl))))
  refine g_enter2 (k := 317) (N := 23982101) (by first | exact dq1 hd rfl | exact dq0 hd rfl | exact dq2 hd rfl | exact dq3 hd rfl | omega) rfl (Nat.le_of_ble_eq_true rfl) ?_
  refine g_aload_n 1 (gd rfl) rfl rfl ?_
  refine g_aload_n 2 (gd rfl) rfl rfl ?_
  refine g_iload_n 3 (gd rfl) rfl rfl ?_
  refine g_callv (X := _) (As := [.int x1]) (r := [.ref (A 109)]) (b := A 109) (q := 109) 6 (gd rfl) rfl rfl rfl rfl rfl (ww_o rfl) (Nat.le_of_ble_eq_true rfl) (mc := 0) (ms := 0) (Nat.zero_le _) (Nat.zero_le _) (P := fun v u => _) ?_ (fun e u h => h) (fun v u h => h)
  intro po3 xx3 hp3 hx3
  refine g_enter2 (k := 272) (N := 300) (by first | exact dq1 hd rfl | exact dq0 hd rfl | exact dq2 hd rfl | exact dq3 hd rfl | omega) rfl (Nat.le_of_ble_eq_true rfl) ?_
  refine g_iload_n 1 (gd rfl) rfl rfl ?_
  refine g_if_lt 4 16 (gd rfl) rfl rfl (fun c3x1 => ?_) (fun c3x1 => ?_)
  · skip
    have i3x1 := z_lt (-2147483648) (-1) c3x1 (i_rng x1) rfl
    refine g_iconst 0 17 (gd rfl) rfl rfl ?_
    refine g_ireturn (gd rfl) rfl (nb01 (in_w 0 1 (in_c 0 rfl) rfl)) (hp3 _ _ ?_)
    show GG _ _ _ _ _ _ _ _ [.int (Int32.ofInt 0), .ref (A 109)] _ _ _
    refine g_if_eq 9 21 (gd rfl) rfl rfl (fun c6 => ?_) (fun c6 => ?_)
    · skip
      refine g_iconst 0 22 (gd rfl) rfl rfl ?_
      refine g_callv (X := _) (As := [.int (Int32.ofInt 0)]) (r := []) (b := A 109) (q := 109) 25 (gd rfl) rfl rfl rfl rfl rfl (ww_o rfl) (Nat.le_of_ble_eq_true rfl) (mc := 0) (ms := 0) (Nat.zero_le _) (Nat.zero_le _) (P := fun v u => _) ?_ (fun e u h => h) (fun v u h => h)
      intro po22 xx22 hp22 hx22
      refine g_enter2 (k := 271) (N := 300) (by first | exact dq1 hd rfl | exact dq0 hd rfl | exact dq2 hd rfl | exact dq3 hd rfl | omega) rfl (Nat.le_of_ble_eq_true rfl) ?_
      refine g_aload_n 1 (gd rfl) rfl rfl ?_
      refine g_iload_n 2 (gd rfl) rfl rfl ?_
      refine g_iconst 1 3 (gd rfl) rfl rfl ?_
      refine g_callv (X := _) (As := [.int (Int32.ofInt 0), .int (Int32.ofInt 1)]) (r := []) (b := A 109) (q := 109) 6 (gd rfl) rfl rfl rfl rfl rfl (ww_o rfl) (Nat.le_of_ble_eq_true rfl) (mc := 0) (ms := 0) (Nat.zero_le _) (Nat.zero_le _) (P := fun v u => _) ?_ (fun e u h => h) (fun v u h => h)
      intro po22x3 xx22x3 hp22x3 hx22x3
      refine g_enter2 (k := 270) (N := 300) (by first | exact dq1 hd rfl | exact dq0 hd rfl | exact dq2 hd rfl | exact dq3 hd rfl | omega) rfl (Nat.le_of_ble_eq_true rfl) ?_
      refine g_aload_n 1 (gd rfl) rfl rfl ?_
      refine g_iload_n 2 (gd rfl) rfl rfl ?_
      refine g_if_ne 5 9 (gd rfl) rfl rfl (fun c22x3x2 => ?_) (fun c22x3x2 => ?_)
      · skip
        exact zn_ne c22x3x2 (in_c 0 rfl) rfl
      · skip
        refine g_iconst 1 6 (gd rfl) rfl rfl ?_
        refine g_goto 18 (gd rfl) rfl ?_
        refine g_putI 21 (gd rfl) rfl rfl rfl rfl ?_
        have hI22x3x18 := inv_sF (q := 109) (j := 0) hI rfl (in_w 0 2 (in_c 1 rfl) rfl)
        refine g_aload_n 22 (gd rfl) rfl rfl ?_
        refine g_getI 25 (gd rfl) rfl rfl rfl (fun z22x3x22 e22x3x22 => ?_)
        have q22x3x22 : (Int32.ofInt 1) = z22x3x22 := (sF_get).trans e22x3x22.symm
        subst q22x3x22
        refine g_if_le 28 32 (gd rfl) rfl rfl (fun c22x3x25 => ?_) (fun c22x3x25 => ?_)
        · skip
          exact zn_le c22x3x25 (in_c 1 rfl) rfl
        · skip
          refine g_iconst 1 29 (gd rfl) rfl rfl ?_
          refine g_goto 33 (gd rfl) rfl ?_
          refine g_ireturn (gd rfl) rfl (nb01 (in_w 0 1 (in_c 1 rfl) rfl)) (hp22x3 _ _ ?_)
          show GG _ _ _ _ _ _ _ _ [.int (Int32.ofInt 1)] _ _ _
          refine g_ireturn (gd rfl) rfl (nb01 (in_w 0 1 (in_c 1 rfl) rfl)) (hp22 _ _ ?_)
          show GG _ _ _ _ _ _ _ _ [.int (Int32.ofInt 1)] _ _ _
          refine g_if_eq 28 30 (gd rfl) rfl rfl (fun c25 => ?_) (fun c25 => ?_)
          · skip
            exact zn_eq c25 (in_c 1 rfl) rfl
          · skip
            refine g_iconst 0 29 (gd rfl) rfl rfl ?_
            exact g_ireturn (gd rfl) rfl rfl (hP _ _ ⟨(sF s 109 0 (Int32.ofInt 1)), hI22x3x18, (fr_sF rfl fr_rf), (Int32.ofInt 0), rfl, rfl, in_w (-2147483648) 2147483647 (in_c 0 rfl) rfl⟩)
    · skip
      exact zn_ne c6 (in_c 0 rfl) rfl
  · skip
    have i3x1 := z_ge 0 2147483647 c3x1 (i_rng x1) rfl
    refine g_iload_n 5 (gd rfl) rfl rfl ?_
    refine g_aload_n 6 (gd rfl) rfl rfl ?_
    refine g_getI 9 (gd rfl) rfl rfl rfl (fun z3x6 e3x6 => ?_)
    have q3x6 : u_109_20 = z3x6 := (e_109_20).trans e3x6.symm
    subst q3x6
    refine g_cmp_ge 12 16 (gd rfl) rfl rfl (fun c3x9 => ?_) (fun c3x9 => ?_)
    · skip
      refine g_iconst 0 17 (gd rfl) rfl rfl ?_
      refine g_ireturn (gd rfl) rfl (nb01 (in_w 0 1 (in_c 0 rfl) rfl)) (hp3 _ _ ?_)
      show GG _ _ _ _ _ _ _ _ [.int (Int32.ofInt 0), .ref (A 109)] _ _ _
      refine g_if_eq 9 21 (gd rfl) rfl rfl (fun c6 => ?_) (fun c6 => ?_)
      · skip
        refine g_iconst 0 22 (gd rfl) rfl rfl ?_
        refine g_callv (X := _) (As := [.int (Int32.ofInt 0)]) (r := []) (b := A 109) (q := 109) 25 (gd rfl) rfl rfl rfl rfl rfl (ww_o rfl) (Nat.le_of_ble_eq_true rfl) (mc := 0) (ms := 0) (Nat.zero_le _) (Nat.zero_le _) (P := fun v u => _) ?_ (fun e u h => h) (fun v u h => h)
        intro po22 xx22 hp22 hx22
        refine g_enter2 (k := 271) (N := 300) (by first | exact dq1 hd rfl | exact dq0 hd rfl | exact dq2 hd rfl | exact dq3 hd rfl | omega) rfl (Nat.le_of_ble_eq_true rfl) ?_
        refine g_aload_n 1 (gd rfl) rfl rfl ?_
        refine g_iload_n 2 (gd rfl) rfl rfl ?_
        refine g_iconst 1 3 (gd rfl) rfl rfl ?_
        refine g_callv (X := _) (As := [.int (Int32.ofInt 0), .int (Int32.ofInt 1)]) (r := []) (b := A 109) (q := 109) 6 (gd rfl) rfl rfl rfl rfl rfl (ww_o rfl) (Nat.le_of_ble_eq_true rfl) (mc := 0) (ms := 0) (Nat.zero_le _) (Nat.zero_le _) (P := fun v u => _) ?_ (fun e u h => h) (fun v u h => h)
        intro po22x3 xx22x3 hp22x3 hx22x3
        refine g_enter2 (k := 270) (N := 300) (by first | exact dq1 hd rfl | exact dq0 hd rfl | exact dq2 hd rfl | exact dq3 hd rfl | omega) rfl (Nat.le_of_ble_eq_true rfl) ?_
        refine g_aload_n 1 (gd rfl) rfl rfl ?_
        refine g_iload_n 2 (gd rfl) rfl rfl ?_
        refine g_if_ne 5 9 (gd rfl) rfl rfl (fun c22x3x2 => ?_) (fun c22x3x2 => ?_)
        · skip
          exact zn_ne c22x3x2 (in_c 0 rfl) rfl
        · skip
          refine g_iconst 1 6 (gd rfl) rfl rfl ?_
          refine g_goto 18 (gd rfl) rfl ?_
          refine g_putI 21 (gd rfl) rfl rfl rfl rfl ?_
          have hI22x3x18 := inv_sF (q := 109) (j := 0) hI rfl (in_w 0 2 (in_c 1 rfl) rfl)
          refine g_aload_n 22 (gd rfl) rfl rfl ?_
          refine g_getI 25 (gd rfl) rfl rfl rfl (fun z22x3x22 e22x3x22 => ?_)
          have q22x3x22 : (Int32.ofInt 1) = z22x3x22 := (sF_get).trans e22x3x22.symm
          subst q22x3x22
          refine g_if_le 28 32 (gd rfl) rfl rfl (fun c22x3x25 => ?_) (fun c22x3x25 => ?_)
          · skip
            exact zn_le c22x3x25 (in_c 1 rfl) rfl
          · skip
            refine g_iconst 1 29 (gd rfl) rfl rfl ?_
            refine g_goto 33 (gd rfl) rfl ?_
            refine g_ireturn (gd rfl) rfl (nb01 (in_w 0 1 (in_c 1 rfl) rfl)) (hp22x3 _ _ ?_)
            show GG _ _ _ _ _ _ _ _ [.int (Int32.ofInt 1)] _ _ _
            refine g_ireturn (gd rfl) rfl (nb01 (in_w 0 1 (in_c 1 rfl) rfl)) (hp22 _ _ ?_)
            show GG _ _ _ _ _ _ _ _ [.int (Int32.ofInt 1)] _ _ _
            refine g_if_eq 28 30 (gd rfl) rfl rfl (fun c25 => ?_) (fun c25 => ?_)
            · skip
              exact zn_eq c25 (in_c 1 rfl) rfl
            · skip
              refine g_iconst 0 29 (gd rfl) rfl rfl ?_
              exact g_ireturn (gd rfl) rfl rfl (hP _ _ ⟨(sF s 109 0 (Int32.ofInt 1)), hI22x3x18, (fr_sF rfl fr_rf), (Int32.ofInt 0), rfl, rfl, in_w (-2147483648) 2147483647 (in_c 0 rfl) rfl⟩)
      · skip
        exact zn_ne c6 (in_c 0 rfl) rfl
    · skip
      have i3x9 := r_lt1 0 31 c3x9 i3x1 ro_109_20 rfl
      have i3x9a := r_lt2 1 32 c3x9 i3x1 ro_109_20 rfl
      refine g_iconst 1 13 (gd rfl) rfl rfl ?_
      refine g_goto 17 (gd rfl) rfl ?_
      refine g_ireturn (gd rfl) rfl (nb01 (in_w 0 1 (in_c 1 rfl) rfl)) (hp3 _ _ ?_)
      show GG _ _ _ _ _ _ _ _ [.int (Int32.ofInt 1), .ref (A 109)] _ _ _
      refine g_if_eq 9 21 (gd rfl) rfl rfl (fun c6 => ?_) (fun c6 => ?_)
      · skip
        exact zn_eq c6 (in_c 1 rfl) rfl
      · skip
        refine g_aload_n 10 (gd rfl) rfl rfl ?_
        refine g_iload_n 11 (gd rfl) rfl rfl ?_
        refine g_callv (X := _) (As := [.int x2]) (r := [.ref (A 109)]) (b := A 109) (q := 109) 14 (gd rfl) rfl rfl rfl rfl rfl (ww_o rfl) (Nat.le_of_ble_eq_true rfl) (mc := 0) (ms := 0) (Nat.zero_le _) (Nat.zero_le _) (P := fun v u => _) ?_ (fun e u h => h) (fun v u h => h)
        intro po11 xx11 hp11 hx11
        refine g_enter2 (k := 272) (N := 300) (by first | exact dq1 hd rfl | exact dq0 hd rfl | exact dq2 hd rfl | exact dq3 hd rfl | omega) rfl (Nat.le_of_ble_eq_true rfl) ?_
        refine g_iload_n 1 (gd rfl) rfl rfl ?_
        refine g_if_lt 4 16 (gd rfl) rfl rfl (fun c11x1 => ?_) (fun c11x1 => ?_)
        · skip
          have i11x1 := z_lt (-2147483648) (-1) c11x1 (i_rng x2) rfl
          refine g_iconst 0 17 (gd rfl) rfl rfl ?_
          refine g_ireturn (gd rfl) rfl (nb01 (in_w 0 1 (in_c 0 rfl) rfl)) (hp11 _ _ ?_)
          show GG _ _ _ _ _ _ _ _ [.int (Int32.ofInt 0), .ref (A 109)] _ _ _
          refine g_if_eq 17 21 (gd rfl) rfl rfl (fun c14 => ?_) (fun c14 => ?_)
          · skip
            refine g_iconst 0 22 (gd rfl) rfl rfl ?_
            refine g_callv (X := _) (As := [.int (Int32.ofInt 0)]) (r := []) (b := A 109) (q := 109) 25 (gd rfl) rfl rfl rfl rfl rfl (ww_o rfl) (Nat.le_of_ble_eq_true rfl) (mc := 0) (ms := 0) (Nat.zero_le _) (Nat.zero_le _) (P := fun v u => _) ?_ (fun e u h => h) (fun v u h => h)
            intro po22 xx22 hp22 hx22
            refine g_enter2 (k := 271) (N := 300) (by first | exact dq1 hd rfl | exact dq0 hd rfl | exact dq2 hd rfl | exact dq3 hd rfl | omega) rfl (Nat.le_of_ble_eq_true rfl) ?_
            refine g_aload_n 1 (gd rfl) rfl rfl ?_
            refine g_iload_n 2 (gd rfl) rfl rfl ?_
            refine g_iconst 1 3 (gd rfl) rfl rfl ?_
            refine g_callv (X := _) (As := [.int (Int32.ofInt 0), .int (Int32.ofInt 1)]) (r := []) (b := A 109) (q := 109) 6 (gd rfl) rfl rfl rfl rfl rfl (ww_o rfl) (Nat.le_of_ble_eq_true rfl) (mc := 0) (ms := 0) (Nat.zero_le _) (Nat.zero_le _) (P := fun v u => _) ?_ (fun e u h => h) (fun v u h => h)
            intro po22x3 xx22x3 hp22x3 hx22x3
            refine g_enter2 (k := 270) (N := 300) (by first | exact dq1 hd rfl | exact dq0 hd rfl | exact dq2 hd rfl | exact dq3 hd rfl | omega) rfl (Nat.le_of_ble_eq_true rfl) ?_
            refine g_aload_n 1 (gd rfl) rfl rfl ?_
            refine g_iload_n 2 (gd rfl) rfl rfl ?_
            refine g_if_ne 5 9 (gd rfl) rfl rfl (fun c22x3x2 => ?_) (fun c22x3x2 => ?_)
            · skip
              exact zn_ne c22x3x2 (in_c 0 rfl) rfl
            · skip
              refine g_iconst 1 6 (gd rfl) rfl rfl ?_
              refine g_goto 18 (gd rfl) rfl ?_
              refine g_putI 21 (gd rfl) rfl rfl rfl rfl ?_
              have hI22x3x18 := inv_sF (q := 109) (j := 0) hI rfl (in_w 0 2 (in_c 1 rfl) rfl)
              refine g_aload_n 22 (gd rfl) rfl rfl ?_
              refine g_getI 25 (gd rfl) rfl rfl rfl (fun z22x3x22 e22x3x22 => ?_)
              have q22x3x22 : (Int32.ofInt 1) = z22x3x22 := (sF_get).trans e22x3x22.symm
              subst q22x3x22
              refine g_if_le 28 32 (gd rfl) rfl rfl (fun c22x3x25 => ?_) (fun c22x3x25 => ?_)
              · skip
                exact zn_le c22x3x25 (in_c 1 rfl) rfl
              · skip
                refine g_iconst 1 29 (gd rfl) rfl rfl ?_
                refine g_goto 33 (gd rfl) rfl ?_
                refine g_ireturn (gd rfl) rfl (nb01 (in_w 0 1 (in_c 1 rfl) rfl)) (hp22x3 _ _ ?_)
                show GG _ _ _ _ _ _ _ _ [.int (Int32.ofInt 1)] _ _ _
                refine g_ireturn (gd rfl) rfl (nb01 (in_w 0 1 (in_c 1 rfl) rfl)) (hp22 _ _ ?_)
                show GG _ _ _ _ _ _ _ _ [.int (Int32.ofInt 1)] _ _ _
                refine g_if_eq 28 30 (gd rfl) rfl rfl (fun c25 => ?_) (fun c25 => ?_)
                · skip
                  exact zn_eq c25 (in_c 1 rfl) rfl
                · skip
                  refine g_iconst 0 29 (gd rfl) rfl rfl ?_
                  exact g_ireturn (gd rfl) rfl rfl (hP _ _ ⟨(sF s 109 0 (Int32.ofInt 1)), hI22x3x18, (fr_sF rfl fr_rf), (Int32.ofInt 0), rfl, rfl, in_w (-2147483648) 2147483647 (in_c 0 rfl) rfl⟩)
          · skip
            exact zn_ne c14 (in_c 0 rfl) rfl
        · skip
          have i11x1 := z_ge 0 2147483647 c11x1 (i_rng x2) rfl
          refine g_iload_n 5 (gd rfl) rfl rfl ?_
          refine g_aload_n 6 (gd rfl) rfl rfl ?_
          refine g_getI 9 (gd rfl) rfl rfl rfl (fun z11x6 e11x6 => ?_)
          have q11x6 : u_109_20 = z11x6 := (e_109_20).trans e11x6.symm
          subst q11x6
          refine g_cmp_ge 12 16 (gd rfl) rfl rfl (fun c11x9 => ?_) (fun c11x9 => ?_)
          · skip
            have i11x9 := r_le2 1 2147483647 c11x9 i3x9a i11x1 rfl
            refine g_iconst 0 17 (gd rfl) rfl rfl ?_
            refine g_ireturn (gd rfl) rfl (nb01 (in_w 0 1 (in_c 0 rfl) rfl)) (hp11 _ _ ?_)
            show GG _ _ _ _ _ _ _ _ [.int (Int32.ofInt 0), .ref (A 109)] _ _ _
            refine g_if_eq 17 21 (gd rfl) rfl rfl (fun c14 => ?_) (fun c14 => ?_)
            · skip
              refine g_iconst 0 22 (gd rfl) rfl rfl ?_
              refine g_callv (X := _) (As := [.int (Int32.ofInt 0)]) (r := []) (b := A 109) (q := 109) 25 (gd rfl) rfl rfl rfl rfl rfl (ww_o rfl) (Nat.le_of_ble_eq_true rfl) (mc := 0) (ms := 0) (Nat.zero_le _) (Nat.zero_le _) (P := fun v u => _) ?_ (fun e u h => h) (fun v u h => h)
              intro po22 xx22 hp22 hx22
              refine g_enter2 (k := 271) (N := 300) (by first | exact dq1 hd rfl | exact dq0 hd rfl | exact dq2 hd rfl | exact dq3 hd rfl | omega) rfl (Nat.le_of_ble_eq_true rfl) ?_
              refine g_aload_n 1 (gd rfl) rfl rfl ?_
              refine g_iload_n 2 (gd rfl) rfl rfl ?_
              refine g_iconst 1 3 (gd rfl) rfl rfl ?_
              refine g_callv (X := _) (As := [.int (Int32.ofInt 0), .int (Int32.ofInt 1)]) (r := []) (b := A 109) (q := 109) 6 (gd rfl) rfl rfl rfl rfl rfl (ww_o rfl) (Nat.le_of_ble_eq_true rfl) (mc := 0) (ms := 0) (Nat.zero_le _) (Nat.zero_le _) (P := fun v u => _) ?_ (fun e u h => h) (fun v u h => h)
              intro po22x3 xx22x3 hp22x3 hx22x3
              refine g_enter2 (k := 270) (N := 300) (by first | exact dq1 hd rfl | exact dq0 hd rfl | exact dq2 hd rfl | exact dq3 hd rfl | omega) rfl (Nat.le_of_ble_eq_true rfl) ?_
              refine g_aload_n 1 (gd rfl) rfl rfl ?_
              refine g_iload_n 2 (gd rfl) rfl rfl ?_
              refine g_if_ne 5 9 (gd rfl) rfl rfl (fun c22x3x2 => ?_) (fun c22x3x2 => ?_)
              · skip
                exact zn_ne c22x3x2 (in_c 0 rfl) rfl
              · skip
                refine g_iconst 1 6 (gd rfl) rfl rfl ?_
                refine g_goto 18 (gd rfl) rfl ?_
                refine g_putI 21 (gd rfl) rfl rfl rfl rfl ?_
                have hI22x3x18 := inv_sF (q := 109) (j := 0) hI rfl (in_w 0 2 (in_c 1 rfl) rfl)
                refine g_aload_n 22 (gd rfl) rfl rfl ?_
                refine g_getI 25 (gd rfl) rfl rfl rfl (fun z22x3x22 e22x3x22 => ?_)
                have q22x3x22 : (Int32.ofInt 1) = z22x3x22 := (sF_get).trans e22x3x22.symm
                subst q22x3x22
                refine g_if_le 28 32 (gd rfl) rfl rfl (fun c22x3x25 => ?_) (fun c22x3x25 => ?_)
                · skip
                  exact zn_le c22x3x25 (in_c 1 rfl) rfl
                · skip
                  refine g_iconst 1 29 (gd rfl) rfl rfl ?_
                  refine g_goto 33 (gd rfl) rfl ?_
                  refine g_ireturn (gd rfl) rfl (nb01 (in_w 0 1 (in_c 1 rfl) rfl)) (hp22x3 _ _ ?_)
                  show GG _ _ _ _ _ _ _ _ [.int (Int32.ofInt 1)] _ _ _
                  refine g_ireturn (gd rfl) rfl (nb01 (in_w 0 1 (in_c 1 rfl) rfl)) (hp22 _ _ ?_)
                  show GG _ _ _ _ _ _ _ _ [.int (Int32.ofInt 1)] _ _ _
                  refine g_if_eq 28 30 (gd rfl) rfl rfl (fun c25 => ?_) (fun c25 => ?_)
                  · skip
                    exact zn_eq c25 (in_c 1 rfl) rfl
                  · skip
                    refine g_iconst 0 29 (gd rfl) rfl rfl ?_
                    exact g_ireturn (gd rfl) rfl rfl (hP _ _ ⟨(sF s 109 0 (Int32.ofInt 1)), hI22x3x18, (fr_sF rfl fr_rf), (Int32.ofInt 0), rfl, rfl, in_w (-2147483648) 2147483647 (in_c 0 rfl) rfl⟩)
            · skip
              exact zn_ne c14 (in_c 0 rfl) rfl
          · skip
            have i11x9 := r_lt1 0 31 c11x9 i11x1 i3x9a rfl
            refine g_iconst 1 13 (gd rfl) rfl rfl ?_
            refine g_goto 17 (gd rfl) rfl ?_
            refine g_ireturn (gd rfl) rfl (nb01 (in_w 0 1 (in_c 1 rfl) rfl)) (hp11 _ _ ?_)
            show GG _ _ _ _ _ _ _ _ [.int (Int32.ofInt 1), .ref (A 109)] _ _ _
            refine g_if_eq 17 21 (gd rfl) rfl rfl (fun c14 => ?_) (fun c14 => ?_)
            · skip
              exact zn_eq c14 (in_c 1 rfl) rfl
            · skip
              refine g_iconst 1 18 (gd rfl) rfl rfl ?_
              refine g_goto 22 (gd rfl) rfl ?_
              refine g_callv (X := _) (As := [.int (Int32.ofInt 1)]) (r := []) (b := A 109) (q := 109) 25 (gd rfl) rfl rfl rfl rfl rfl (ww_o rfl) (Nat.le_of_ble_eq_true rfl) (mc := 0) (ms := 0) (Nat.zero_le _) (Nat.zero_le _) (P := fun v u => _) ?_ (fun e u h => h) (fun v u h => h)
              intro po22 xx22 hp22 hx22
              refine g_enter2 (k := 271) (N := 300) (by first | exact dq1 hd rfl | exact dq0 hd rfl | exact dq2 hd rfl | exact dq3 hd rfl | omega) rfl (Nat.le_of_ble_eq_true rfl) ?_
              refine g_aload_n 1 (gd rfl) rfl rfl ?_
              refine g_iload_n 2 (gd rfl) rfl rfl ?_
              refine g_iconst 1 3 (gd rfl) rfl rfl ?_
              refine g_callv (X := _) (As := [.int (Int32.ofInt 1), .int (Int32.ofInt 1)]) (r := []) (b := A 109) (q := 109) 6 (gd rfl) rfl rfl rfl rfl rfl (ww_o rfl) (Nat.le_of_ble_eq_true rfl) (mc := 0) (ms := 0) (Nat.zero_le _) (Nat.zero_le _) (P := fun v u => _) ?_ (fun e u h => h) (fun v u h => h)
              intro po22x3 xx22x3 hp22x3 hx22x3
              refine g_enter2 (k := 270) (N := 300) (by first | exact dq1 hd rfl | exact dq0 hd rfl | exact dq2 hd rfl | exact dq3 hd rfl | omega) rfl (Nat.le_of_ble_eq_true rfl) ?_
              refine g_aload_n 1 (gd rfl) rfl rfl ?_
              refine g_iload_n 2 (gd rfl) rfl rfl ?_
              refine g_if_ne 5 9 (gd rfl) rfl rfl (fun c22x3x2 => ?_) (fun c22x3x2 => ?_)
              · skip
                refine g_iload_n 10 (gd rfl) rfl rfl ?_
                refine g_if_ne 13 17 (gd rfl) rfl rfl (fun c22x3x10 => ?_) (fun c22x3x10 => ?_)
                · skip
                  refine g_iconst 0 18 (gd rfl) rfl rfl ?_
                  refine g_putI 21 (gd rfl) rfl rfl rfl rfl ?_
                  have hI22x3x18 := inv_sF (q := 109) (j := 0) hI rfl (in_w 0 2 (in_c 0 rfl) rfl)
                  refine g_aload_n 22 (gd rfl) rfl rfl ?_
                  refine g_getI 25 (gd rfl) rfl rfl rfl (fun z22x3x22 e22x3x22 => ?_)
                  have q22x3x22 : (Int32.ofInt 0) = z22x3x22 := (sF_get).trans e22x3x22.symm
                  subst q22x3x22
                  refine g_if_le 28 32 (gd rfl) rfl rfl (fun c22x3x25 => ?_) (fun c22x3x25 => ?_)
                  · skip
                    refine g_iconst 0 33 (gd rfl) rfl rfl ?_
                    refine g_ireturn (gd rfl) rfl (nb01 (in_w 0 1 (in_c 0 rfl) rfl)) (hp22x3 _ _ ?_)
                    show GG _ _ _ _ _ _ _ _ [.int (Int32.ofInt 0)] _ _ _
                    refine g_ireturn (gd rfl) rfl (nb01 (in_w 0 1 (in_c 0 rfl) rfl)) (hp22 _ _ ?_)
                    show GG _ _ _ _ _ _ _ _ [.int (Int32.ofInt 0)] _ _ _
                    refine g_if_eq 28 30 (gd rfl) rfl rfl (fun c25 => ?_) (fun c25 => ?_)
                    · skip
                      refine g_iconst 0 31 (gd rfl) rfl rfl ?_
                      refine g_istore_n 32 (gd rfl) rfl (Nat.le_of_ble_eq_true rfl) ?_
                      exact gg_w (by first | exact Nat.le_of_ble_eq_true rfl | omega) (gg_f (gf_cons rfl (gf_cons rfl (gf_cons rfl (gf_cons rfl gf_nil)))) (ct32 33 (sF s 109 0 (Int32.ofInt 0)) (Int32.ofInt 0) hI22x3x18 (fr_sF rfl fr_rf) (in_w 0 31 i3x9 rfl) (in_w 0 31 i11x9 rfl) (in_w 0 32 (in_c 0 rfl) rfl) (m_in 33 (in_w 0 32 (in_c 0 rfl) rfl) rfl)))
                    · skip
                      exact zn_ne c25 (in_c 0 rfl) rfl
                  · skip
                    exact zn_gt c22x3x25 (in_c 0 rfl) rfl
                · skip
                  exact zn_eq c22x3x10 (in_c 1 rfl) rfl
              · skip
                exact zn_eq c22x3x2 (in_c 1 rfl) rfl
end
section
/-! methods, by vc.py -/
def fm_318 : FM := ([134], [135], [(109, 40)], [])
/-- GraphHouseModel.addShort -/
theorem k_318 {Z : AmZ} {A : Nat → Nat} {s : GS} {ex : va_W} {d : Nat} {X : AmX} {x1 : Int32} {x2 : Int32} {x3 : Int32} {x4 : Int32} {x5 : Int32} (hd : 1 ≤ d) (hI : Inv s) (h1 : In x1 1 4) (h2 : In x2 0 159) (h3 : In x3 0 159) (h4 : In x4 0 159) (h5 : In x5 0 159) : GC Z d 318 [.ref (A 109), .int x1, .int x2, .int x3, .int x4, .int x5] (WW Z A s ++ ex) 0 0 (fun v u => ∃ t : GS, Inv t ∧ Fr fm_318 s t ∧ v = none ∧ u = WW Z A t ++ ex) X := by
  intro post xp hP hX
  obtain ⟨u_109_19, e_109_19⟩ : ∃ w, w = s.2.2.1 109 19 := ⟨_, rfl⟩
  have ro_109_19 := inv_F hI 0 160 rfl e_109_19
  have ct74 : ∀ (k74 : Nat) (sc74 : GS) (y74_6 : Int32) (y74_7 : Int64) (y74_9 : Int32) (w74_109_40 : Int32), Inv sc74 → Fr fm_318 s sc74 → (In y74_6 0 10000) → (In y74_9 1 5) → (w74_109_40 = sc74.2.2.1 109 40) → ((w74_109_40).toInt ≤ 2000) → 5 - (y74_9).toInt < (k74 : Int) → GG Z (d - 1) 318 post (gx xp) (1 + k74 * 900) 74 (fun j => xlook j [(0, .ref (A 109)), (1, .int x1), (2, .int x2), (3, .int x3), (4, .int x4), (5, .int x5), (6, .int y74_6), (7, .long y74_7), (9, .int y74_9)]) [] (WW Z A sc74 ++ ex) 0 0 := by
    intro k74
    induction k74 with
    | zero => intro sc74 y74_6 y74_7 y74_9 w74_109_40 hIc74 hFc74 j74_6 j74_9 v74_109_40 n74_0 mm74; exact m_no mm74 j74_9 rfl
    | succ k74 ih74 =>
      intro sc74 y74_6 y74_7 y74_9 w74_109_40 hIc74 hFc74 j74_6 j74_9 v74_109_40 n74_0 mm74
      refine gg_w (M := 1 + k74 * 900 + 900) gws ?_
      refine g_iload 76 (gd rfl) rfl rfl ?_
      refine g_iload_n 77 (gd rfl) rfl rfl ?_
      refine g_cmp_gt 80 112 (gd rfl) rfl rfl (fun c77 => ?_) (fun c77 => ?_)
      · skip
        have i77 := r_lt2 2 5 c77 h1 j74_9 rfl
        refine g_aload_n 113 (gd rfl) rfl rfl ?_
        refine g_getA (q2 := 135) 116 (gd rfl) rfl rfl rfl rfl ?_
        refine g_aload_n 117 (gd rfl) rfl rfl ?_
        refine g_getI 120 (gd rfl) rfl rfl rfl (fun z117 e117 => ?_)
        have q117 : w74_109_40 = z117 := (v74_109_40).trans e117.symm
        subst q117
        refine g_lload 122 (gd rfl) rfl rfl ?_
        have i122 : In w74_109_40 0 2000 := by (first | have a0 := oa9 h5 h4 h3 h2 h1 ro_109_19 ((inv_F hIc74 0 2001 rfl v74_109_40)) i77 j74_6 | ((first | have a0 := in_u h5 | (have a0 := h5; unfold In at a0)); (first | have a1 := in_u h4 | (have a1 := h4; unfold In at a1)); (first | have a2 := in_u h3 | (have a2 := h3; unfold In at a2)); (first | have a3 := in_u h2 | (have a3 := h2; unfold In at a3)); (first | have a4 := in_u h1 | (have a4 := h1; unfold In at a4)); (first | have a5 := in_u ro_109_19 | (have a5 := ro_109_19; unfold In at a5)); (first | have a6 := in_u ((inv_F hIc74 0 2001 rfl v74_109_40)) | (have a6 := (inv_F hIc74 0 2001 rfl v74_109_40); unfold In at a6)); (first | have a7 := in_u i77 | (have a7 := i77; unfold In at a7)); (first | have a8 := in_u j74_6 | (have a8 := j74_6; unfold In at a8)))); exact ⟨by omega, by omega⟩
        refine g_lastore 123 (gd rfl) rfl (n := 2001) rfl (in_ix i122 rfl) ?_
        have hI122 := inv_sL (q := 135) (j := w74_109_40.toNatClampNeg) (x := y74_7) hIc74 rfl (l_rng y74_7)
        refine g_aload_n 124 (gd rfl) rfl rfl ?_
        refine g_dup 125 (gd rfl) rfl rfl ?_
        refine g_getI 128 (gd rfl) rfl rfl rfl (fun z125 e125 => ?_)
        have q125 : w74_109_40 = z125 := (sL_F (v74_109_40)).trans e125.symm
        subst q125
        refine g_iconst 1 129 (gd rfl) rfl rfl ?_
        refine g_iadd 130 (gd rfl) rfl (fun z129 e129 => ?_)
        have i129 := in_add 1 2001 e129 i122 (in_c 1 rfl) rfl rfl
        refine g_putI 133 (gd rfl) rfl rfl rfl rfl ?_
        have hI130 := inv_sF (q := 109) (j := 40) hI122 rfl (in_w 0 2001 i129 rfl)
        exact g_return (gd rfl) rfl (hP _ _ ⟨(sF (sL sc74 135 w74_109_40.toNatClampNeg y74_7) 109 40 z129), hI130, (fr_sF rfl (fr_sL rfl hFc74)), rfl, rfl⟩)
      · skip
        have i77 := r_le1 1 4 c77 j74_9 h1 rfl
        refine g_lload 82 (gd rfl) rfl rfl ?_
        refine g_aload_n 83 (gd rfl) rfl rfl ?_
        refine g_getA (q2 := 115) 86 (gd rfl) rfl rfl rfl rfl ?_
        refine g_aload_n 87 (gd rfl) rfl rfl ?_
        refine g_getI 90 (gd rfl) rfl rfl rfl (fun z87 e87 => ?_)
        have q87 : u_109_19 = z87 := (fr_F e_109_19 hFc74 rfl).trans e87.symm
        subst q87
        refine g_aload_n 91 (gd rfl) rfl rfl ?_
        refine g_getA (q2 := 134) 94 (gd rfl) rfl rfl rfl rfl ?_
        refine g_iload 96 (gd rfl) rfl rfl ?_
        refine g_iload 98 (gd rfl) rfl rfl ?_
        refine g_iadd 99 (gd rfl) rfl (fun z98 e98 => ?_)
        have i98 := in_add 1 10004 e98 j74_6 i77 rfl rfl
        refine g_iaload 100 (gd rfl) rfl (n := 10005) rfl (in_ix i98 rfl) (fun z99 e99 => ?_)
        have i99 := inv_I hIc74 (n := 10005) (t := 0) 0 159 rfl (in_ix i98 rfl) rfl e99
        refine g_iadd 101 (gd rfl) rfl (fun z100 e100 => ?_)
        have i100 := in_add 0 319 e100 ro_109_19 i99 rfl rfl
        refine g_iaload 102 (gd rfl) rfl (n := 480) rfl (in_ix i100 rfl) (fun z101 e101 => ?_)
        have i101 := inv_I hIc74 (n := 480) (t := 0) (-1000000) 1000000 rfl (in_ix i100 rfl) rfl e101
        refine g_i2l 103 (gd rfl) rfl (fun z102 e102 => ?_)
        have i102 := l_i e102 i101
        refine g_ladd 104 (gd rfl) rfl (fun z103 e103 => ?_)
        refine g_lstore 106 (gd rfl) rfl (Nat.le_of_ble_eq_true rfl) ?_
        refine g_iinc 109 (gd rfl) rfl rfl (Nat.le_of_ble_eq_true rfl) (fun z106 e106 => ?_)
        have i106 := in_add 2 5 e106 i77 (in_c 1 rfl) rfl rfl
        refine g_goto 74 (gd rfl) rfl ?_
        have n74 : (w74_109_40).toInt ≤ 2000 := by first | exact n74_0 | ((first | have a0 := oa10 h5 h4 h3 h2 h1 ro_109_19 ((inv_F hIc74 0 2001 rfl v74_109_40)) i77 j74_6 i106 | ((first | have a0 := in_u h5 | (have a0 := h5; unfold In at a0)); (first | have a1 := in_u h4 | (have a1 := h4; unfold In at a1)); (first | have a2 := in_u h3 | (have a2 := h3; unfold In at a2)); (first | have a3 := in_u h2 | (have a3 := h2; unfold In at a3)); (first | have a4 := in_u h1 | (have a4 := h1; unfold In at a4)); (first | have a5 := in_u ro_109_19 | (have a5 := ro_109_19; unfold In at a5)); (first | have a6 := in_u ((inv_F hIc74 0 2001 rfl v74_109_40)) | (have a6 := (inv_F hIc74 0 2001 rfl v74_109_40); unfold In at a6)); (first | have a7 := in_u i77 | (have a7 := i77; unfold In at a7)); (first | have a8 := in_u j74_6 | (have a8 := j74_6; unfold In at a8)); (first | have a9 := in_u i106 | (have a9 := i106; unfold In at a9)))); have a10 := t_add e106 i77 (in_c 1 rfl) rfl; (first | have a11 := in_u ((in_c 1 rfl)) | (have a11 := (in_c 1 rfl); unfold In at a11)); have a12 := tx_i2l e102; (first | have a13 := oa2 i101 i100 | ((first | have a13 := in_u i101 | (have a13 := i101; unfold In at a13)); (first | have a14 := in_u i100 | (have a14 := i100; unfold In at a14)))); have a15 := t_add e100 ro_109_19 i99 rfl; (first | have a16 := oa2 i99 i98 | ((first | have a16 := in_u i99 | (have a16 := i99; unfold In at a16)); (first | have a17 := in_u i98 | (have a17 := i98; unfold In at a17)))); have a18 := t_add e98 j74_6 i77 rfl; omega)
        exact gg_w (by first | exact Nat.le_add_right _ _ | exact gw2 | exact gw3 | exact gwe rfl | exact gwf rfl | exact gwg rfl | exact gwh rfl | omega) (gg_f (gf_cons rfl (gf_cons rfl (gf_cons rfl (gf_cons rfl (gf_cons rfl (gf_cons rfl (gf_cons rfl (gf_cons rfl (gf_cons rfl gf_nil))))))))) (ih74 sc74 y74_6 z103 z106 w74_109_40 hIc74 hFc74 (in_w 0 10000 j74_6 rfl) (in_w 1 5 i106 rfl) v74_109_40 n74 (m_up mm74 (t_add e106 i77 (in_c 1 rfl) rfl) (in_w 1 1 (in_c 1 rfl) rfl))))
  refine g_enter2 (k := 318) (N := 5401) (by first | exact dq1 hd rfl | exact dq0 hd rfl | exact dq2 hd rfl | exact dq3 hd rfl | omega) rfl (Nat.le_of_ble_eq_true rfl) ?_
  refine g_aload_n 1 (gd rfl) rfl rfl ?_
  refine g_getI 4 (gd rfl) rfl rfl rfl (fun z1 e1 => ?_)
  have i1 := inv_F hI 0 2001 rfl e1
  refine g_sipush 2000 7 (gd rfl) rfl rfl ?_
  refine g_cmp_gt 10 133 (gd rfl) rfl rfl (fun c7 => ?_) (fun c7 => ?_)
  · skip
    have i7 := r_lt2 2001 2001 c7 (in_c 2000 rfl) i1 rfl
    exact g_return (gd rfl) rfl (hP _ _ ⟨s, hI, fr_rf, rfl, rfl⟩)
  · skip
    have i7 := r_le1 0 2000 c7 i1 (in_c 2000 rfl) rfl
    refine g_iconst 5 11 (gd rfl) rfl rfl ?_
    refine g_aload_n 12 (gd rfl) rfl rfl ?_
    refine g_getI 15 (gd rfl) rfl rfl rfl (fun z12 e12 => ?_)
    have q12 : z1 = z12 := (e1).trans e12.symm
    subst q12
    refine g_imul 16 (gd rfl) rfl (fun z15 e15 => ?_)
    have i15 := in_mulc 5 0 10000 (Or.inl e15) i7 rfl rfl
    refine g_istore 18 (gd rfl) rfl (Nat.le_of_ble_eq_true rfl) ?_
    refine g_aload_n 19 (gd rfl) rfl rfl ?_
    refine g_getA (q2 := 134) 22 (gd rfl) rfl rfl rfl rfl ?_
    refine g_iload 24 (gd rfl) rfl rfl ?_
    refine g_iload_n 25 (gd rfl) rfl rfl ?_
    refine g_iastore 26 (gd rfl) rfl (n := 10005) rfl (in_ix i15 rfl) ?_
    have hI25 : Inv (sI s 134 z15.toNatClampNeg x1) := by exact inv_sS hI (in_w 0 159 h1 rfl) (fun _ => by (first | have a0 := oa7 ro_109_19 h5 h4 h3 h2 h1 i15 | ((first | have a0 := in_u ro_109_19 | (have a0 := ro_109_19; unfold In at a0)); (first | have a1 := in_u h5 | (have a1 := h5; unfold In at a1)); (first | have a2 := in_u h4 | (have a2 := h4; unfold In at a2)); (first | have a3 := in_u h3 | (have a3 := h3; unfold In at a3)); (first | have a4 := in_u h2 | (have a4 := h2; unfold In at a4)); (first | have a5 := in_u h1 | (have a5 := h1; unfold In at a5)); (first | have a6 := in_u i15 | (have a6 := i15; unfold In at a6)))); have a7 := (t_mulc 5 (Or.inl e15) i7 rfl).1; (first | have a8 := in_u i7 | (have a8 := i7; unfold In at a8)); omega)
    refine g_aload_n 27 (gd rfl) rfl rfl ?_
    refine g_getA (q2 := 134) 30 (gd rfl) rfl rfl rfl rfl ?_
    refine g_iload 32 (gd rfl) rfl rfl ?_
    refine g_iconst 1 33 (gd rfl) rfl rfl ?_
    refine g_iadd 34 (gd rfl) rfl (fun z33 e33 => ?_)
    have i33 := in_add 1 10001 e33 i15 (in_c 1 rfl) rfl rfl
    refine g_iload_n 35 (gd rfl) rfl rfl ?_
    refine g_iastore 36 (gd rfl) rfl (n := 10005) rfl (in_ix i33 rfl) ?_
    have hI35 : Inv (sI (sI s 134 z15.toNatClampNeg x1) 134 z33.toNatClampNeg x2) := by exact inv_sS hI25 (in_w 0 159 h2 rfl) (fun h5 => by exfalso; revert h5; show (z33.toInt.toNat) % 5 = 0 → False; intro h5; (first | have a0 := in_u ro_109_19 | (have a0 := ro_109_19; unfold In at a0)); have a1 := h5; unfold In at a1; (first | have a2 := oa5 h4 h3 h2 h1 i15 | ((first | have a2 := in_u h4 | (have a2 := h4; unfold In at a2)); (first | have a3 := in_u h3 | (have a3 := h3; unfold In at a3)); (first | have a4 := in_u h2 | (have a4 := h2; unfold In at a4)); (first | have a5 := in_u h1 | (have a5 := h1; unfold In at a5)); (first | have a6 := in_u i15 | (have a6 := i15; unfold In at a6)))); have a7 := (t_mulc 5 (Or.inl e15) i7 rfl).1; (first | have a8 := oa2 i7 i33 | ((first | have a8 := in_u i7 | (have a8 := i7; unfold In at a8)); (first | have a9 := in_u i33 | (have a9 := i33; unfold In at a9)))); have a10 := t_add e33 i15 (in_c 1 rfl) rfl; (first | have a11 := in_u ((in_c 1 rfl)) | (have a11 := (in_c 1 rfl); unfold In at a11)); omega)
    refine g_aload_n 37 (gd rfl) rfl rfl ?_
    refine g_getA (q2 := 134) 40 (gd rfl) rfl rfl rfl rfl ?_
    refine g_iload 42 (gd rfl) rfl rfl ?_
    refine g_iconst 2 43 (gd rfl) rfl rfl ?_
    refine g_iadd 44 (gd rfl) rfl (fun z43 e43 => ?_)
    have i43 := in_add 2 10002 e43 i15 (in_c 2 rfl) rfl rfl
    refine g_iload_n 45 (gd rfl) rfl rfl ?_
    refine g_iastore 46 (gd rfl) rfl (n := 10005) rfl (in_ix i43 rfl) ?_
    have hI45 : Inv (sI (sI (sI s 134 z15.toNatClampNeg x1) 134 z33.toNatClampNeg x2) 134 z43.toNatClampNeg x3) := by exact inv_sS hI35 (in_w 0 159 h3 rfl) (fun h5 => by exfalso; revert h5; show (z43.toInt.toNat) % 5 = 0 → False; intro h5; (first | have a0 := in_u ro_109_19 | (have a0 := ro_109_19; unfold In at a0)); have a1 := h5; unfold In at a1; (first | have a2 := oa5 h4 h3 h2 h1 i15 | ((first | have a2 := in_u h4 | (have a2 := h4; unfold In at a2)); (first | have a3 := in_u h3 | (have a3 := h3; unfold In at a3)); (first | have a4 := in_u h2 | (have a4 := h2; unfold In at a4)); (first | have a5 := in_u h1 | (have a5 := h1; unfold In at a5)); (first | have a6 := in_u i15 | (have a6 := i15; unfold In at a6)))); have a7 := (t_mulc 5 (Or.inl e15) i7 rfl).1; (first | have a8 := oa2 i7 i43 | ((first | have a8 := in_u i7 | (have a8 := i7; unfold In at a8)); (first | have a9 := in_u i43 | (have a9 := i43; unfold In at a9)))); have a10 := t_add e43 i15 (in_c 2 rfl) rfl; (first | have a11 := oa2 ((in_c 2 rfl)) i33 | ((first | have a11 := in_u ((in_c 2 rfl)) | (have a11 := (in_c 2 rfl); unfold In at a11)); (first | have a12 := in_u i33 | (have a12 := i33; unfold In at a12)))); have a13 := t_add e33 i15 (in_c 1 rfl) rfl; (first | have a14 := in_u ((in_c 1 rfl)) | (have a14 := (in_c 1 rfl); unfold In at a14)); omega)
    refine g_aload_n 47 (gd rfl) rfl rfl ?_
    refine g_getA (q2 := 134) 50 (gd rfl) rfl rfl rfl rfl ?_
    refine g_iload 52 (gd rfl) rfl rfl ?_
    refine g_iconst 3 53 (gd rfl) rfl rfl ?_
    refine g_iadd 54 (gd rfl) rfl (fun z53 e53 => ?_)
    have i53 := in_add 3 10003 e53 i15 (in_c 3 rfl) rfl rfl
    refine g_iload 56 (gd rfl) rfl rfl ?_
    refine g_iastore 57 (gd rfl) rfl (n := 10005) rfl (in_ix i53 rfl) ?_
    have hI56 : Inv (sI (sI (sI (sI s 134 z15.toNatClampNeg x1) 134 z33.toNatClampNeg x2) 134 z43.toNatClampNeg x3) 134 z53.toNatClampNeg x4) := by exact inv_sS hI45 (in_w 0 159 h4 rfl) (fun h5 => by exfalso; revert h5; show (z53.toInt.toNat) % 5 = 0 → False; intro h5; (first | have a0 := in_u ro_109_19 | (have a0 := ro_109_19; unfold In at a0)); have a1 := h5; unfold In at a1; (first | have a2 := oa5 h4 h3 h2 h1 i15 | ((first | have a2 := in_u h4 | (have a2 := h4; unfold In at a2)); (first | have a3 := in_u h3 | (have a3 := h3; unfold In at a3)); (first | have a4 := in_u h2 | (have a4 := h2; unfold In at a4)); (first | have a5 := in_u h1 | (have a5 := h1; unfold In at a5)); (first | have a6 := in_u i15 | (have a6 := i15; unfold In at a6)))); have a7 := (t_mulc 5 (Or.inl e15) i7 rfl).1; (first | have a8 := oa2 i7 i53 | ((first | have a8 := in_u i7 | (have a8 := i7; unfold In at a8)); (first | have a9 := in_u i53 | (have a9 := i53; unfold In at a9)))); have a10 := t_add e53 i15 (in_c 3 rfl) rfl; (first | have a11 := oa2 ((in_c 3 rfl)) i43 | ((first | have a11 := in_u ((in_c 3 rfl)) | (have a11 := (in_c 3 rfl); unfold In at a11)); (first | have a12 := in_u i43 | (have a12 := i43; unfold In at a12)))); have a13 := t_add e43 i15 (in_c 2 rfl) rfl; (first | have a14 := oa2 ((in_c 2 rfl)) i33 | ((first | have a14 := in_u ((in_c 2 rfl)) | (have a14 := (in_c 2 rfl); unfold In at a14)); (first | have a15 := in_u i33 | (have a15 := i33; unfold In at a15)))); have a16 := t_add e33 i15 (in_c 1 rfl) rfl; (first | have a17 := in_u ((in_c 1 rfl)) | (have a17 := (in_c 1 rfl); unfold In at a17)); omega)
    refine g_aload_n 58 (gd rfl) rfl rfl ?_
    refine g_getA (q2 := 134) 61 (gd rfl) rfl rfl rfl rfl ?_
    refine g_iload 63 (gd rfl) rfl rfl ?_
    refine g_iconst 4 64 (gd rfl) rfl rfl ?_
    refine g_iadd 65 (gd rfl) rfl (fun z64 e64 => ?_)
    have i64 := in_add 4 10004 e64 i15 (in_c 4 rfl) rfl rfl
    refine g_iload 67 (gd rfl) rfl rfl ?_
    refine g_iastore 68 (gd rfl) rfl (n := 10005) rfl (in_ix i64 rfl) ?_
    have hI67 : Inv (sI (sI (sI (sI (sI s 134 z15.toNatClampNeg x1) 134 z33.toNatClampNeg x2) 134 z43.toNatClampNeg x3) 134 z53.toNatClampNeg x4) 134 z64.toNatClampNeg x5) := by exact inv_sS hI56 (in_w 0 159 h5 rfl) (fun h5 => by exfalso; revert h5; show (z64.toInt.toNat) % 5 = 0 → False; intro h5; (first | have a0 := in_u ro_109_19 | (have a0 := ro_109_19; unfold In at a0)); have a1 := h5; unfold In at a1; (first | have a2 := oa5 h4 h3 h2 h1 i15 | ((first | have a2 := in_u h4 | (have a2 := h4; unfold In at a2)); (first | have a3 := in_u h3 | (have a3 := h3; unfold In at a3)); (first | have a4 := in_u h2 | (have a4 := h2; unfold In at a4)); (first | have a5 := in_u h1 | (have a5 := h1; unfold In at a5)); (first | have a6 := in_u i15 | (have a6 := i15; unfold In at a6)))); have a7 := (t_mulc 5 (Or.inl e15) i7 rfl).1; (first | have a8 := oa2 i7 i64 | ((first | have a8 := in_u i7 | (have a8 := i7; unfold In at a8)); (first | have a9 := in_u i64 | (have a9 := i64; unfold In at a9)))); have a10 := t_add e64 i15 (in_c 4 rfl) rfl; (first | have a11 := oa2 ((in_c 4 rfl)) i53 | ((first | have a11 := in_u ((in_c 4 rfl)) | (have a11 := (in_c 4 rfl); unfold In at a11)); (first | have a12 := in_u i53 | (have a12 := i53; unfold In at a12)))); have a13 := t_add e53 i15 (in_c 3 rfl) rfl; (first | have a14 := oa2 ((in_c 3 rfl)) i43 | ((first | have a14 := in_u ((in_c 3 rfl)) | (have a14 := (in_c 3 rfl); unfold In at a14)); (first | have a15 := in_u i43 | (have a15 := i43; unfold In at a15)))); have a16 := t_add e43 i15 (in_c 2 rfl) rfl; (first | have a17 := oa2 ((in_c 2 rfl)) i33 | ((first | have a17 := in_u ((in_c 2 rfl)) | (have a17 := (in_c 2 rfl); unfold In at a17)); (first | have a18 := in_u i33 | (have a18 := i33; unfold In at a18)))); have a19 := t_add e33 i15 (in_c 1 rfl) rfl; (first | have a20 := in_u ((in_c 1 rfl)) | (have a20 := (in_c 1 rfl); unfold In at a20)); omega)
    refine g_lconst 0 69 (gd rfl) rfl rfl ?_
    refine g_lstore 71 (gd rfl) rfl (Nat.le_of_ble_eq_true rfl) ?_
    refine g_iconst 1 72 (gd rfl) rfl rfl ?_
    refine g_istore 74 (gd rfl) rfl (Nat.le_of_ble_eq_true rfl) ?_
    have v74 : z1 = (sI (sI (sI (sI (sI s 134 z15.toNatClampNeg x1) 134 z33.toNatClampNeg x2) 134 z43.toNatClampNeg x3) 134 z53.toNatClampNeg x4) 134 z64.toNatClampNeg x5).2.2.1 109 40 := sI_F (sI_F (sI_F (sI_F (sI_F (e1)))))
    have n74 : (z1).toInt ≤ 2000 := by (first | have a0 := oa8 ro_109_19 h5 h4 h3 h2 h1 ((in_c 1 rfl)) i15 | ((first | have a0 := in_u ro_109_19 | (have a0 := ro_109_19; unfold In at a0)); (first | have a1 := in_u h5 | (have a1 := h5; unfold In at a1)); (first | have a2 := in_u h4 | (have a2 := h4; unfold In at a2)); (first | have a3 := in_u h3 | (have a3 := h3; unfold In at a3)); (first | have a4 := in_u h2 | (have a4 := h2; unfold In at a4)); (first | have a5 := in_u h1 | (have a5 := h1; unfold In at a5)); (first | have a6 := in_u ((in_c 1 rfl)) | (have a6 := (in_c 1 rfl); unfold In at a6)); (first | have a7 := in_u i15 | (have a7 := i15; unfold In at a7)))); have a8 := (t_mulc 5 (Or.inl e15) i7 rfl).1; (first | have a9 := oa2 i7 i64 | ((first | have a9 := in_u i7 | (have a9 := i7; unfold In at a9)); (first | have a10 := in_u i64 | (have a10 := i64; unfold In at a10)))); have a11 := t_add e64 i15 (in_c 4 rfl) rfl; (first | have a12 := oa2 ((in_c 4 rfl)) i53 | ((first | have a12 := in_u ((in_c 4 rfl)) | (have a12 := (in_c 4 rfl); unfold In at a12)); (first | have a13 := in_u i53 | (have a13 := i53; unfold In at a13)))); have a14 := t_add e53 i15 (in_c 3 rfl) rfl; (first | have a15 := oa2 ((in_c 3 rfl)) i43 | ((first | have a15 := in_u ((in_c 3 rfl)) | (have a15 := (in_c 3 rfl); unfold In at a15)); (first | have a16 := in_u i43 | (have a16 := i43; unfold In at a16)))); have a17 := t_add e43 i15 (in_c 2 rfl) rfl; (first | have a18 := oa2 ((in_c 2 rfl)) i33 | ((first | have a18 := in_u ((in_c 2 rfl)) | (have a18 := (in_c 2 rfl); unfold In at a18)); (first | have a19 := in_u i33 | (have a19 := i33; unfold In at a19)))); have a20 := t_add e33 i15 (in_c 1 rfl) rfl; omega
    exact gg_w (by first | exact Nat.le_of_ble_eq_true rfl | omega) (gg_f (gf_cons rfl (gf_cons rfl (gf_cons rfl (gf_cons rfl (gf_cons rfl (gf_cons rfl (gf_cons rfl (gf_cons rfl (gf_cons rfl gf_nil))))))))) (ct74 5 (sI (sI (sI (sI (sI s 134 z15.toNatClampNeg x1) 134 z33.toNatClampNeg x2) 134 z43.toNatClampNeg x3) 134 z53.toNatClampNeg x4) 134 z64.toNatClampNeg x5) z15 (Int64.ofInt 0) (Int32.ofInt 1) z1 hI67 (fr_sI rfl (fr_sI rfl (fr_sI rfl (fr_sI rfl (fr_sI rfl fr_rf))))) (in_w 0 10000 i15 rfl) (in_w 1 5 (in_c 1 rfl) rfl) v74 n74 (m_in 5 (in_w 1 5 (in_c 1 rfl) rfl) rfl)))

def fm_322 : FM := ([134], [135], [(109, 40)], [])
/-- GraphHouseModel.third -/
theorem k_322 {Z : AmZ} {A : Nat → Nat} {s : GS} {ex : va_W} {d : Nat} {X : AmX} {x1 : Int32} {x2 : Int32} {x3 : Int32} {x4 : Int32} {x5 : Int32} (hd : 4 ≤ d) (hI : Inv s) (h1 : In x1 0 159) (h2 : In x2 0 159) (h3 : In x3 0 31) (h5 : In x5 0 31) : GC Z d 322 [.ref (A 109), .int x1, .int x2, .int x3, .int x4, .int x5] (WW Z A s ++ ex) 0 0 (fun v u => ∃ t : GS, Inv t ∧ Fr fm_322 s t ∧ v = none ∧ u = WW Z A t ++ ex) X := by
  intro post xp hP hX
  obtain ⟨u_109_19, e_109_19⟩ : ∃ w, w = s.2.2.1 109 19 := ⟨_, rfl⟩
  have ro_109_19 := inv_F hI 0 160 rfl e_109_19
  have ct3 : ∀ (k3 : Nat) (sc3 : GS) (y3_6 : Int32), Inv sc3 → Fr fm_322 s sc3 → (In y3_6 0 160) → 160 - (y3_6).toInt < (k3 : Int) → GG Z (d - 1) 322 post (gx xp) (1 + k3 * 147601) 3 (fun j => xlook j [(0, .ref (A 109)), (1, .int x1), (2, .int x2), (3, .int x3), (4, .int x4), (5, .int x5), (6, .int y3_6)]) [] (WW Z A sc3 ++ ex) 0 0 := by
    intro k3
    induction k3 with
    | zero => intro sc3 y3_6 hIc3 hFc3 j3_6 mm3; exact m_no mm3 j3_6 rfl
    | succ k3 ih3 =>
      intro sc3 y3_6 hIc3 hFc3 j3_6 mm3
      refine gg_w (M := 1 + k3 * 147601 + 147601) gws ?_
      have ct70 : ∀ (k70 : Nat) (sc70 : GS) (y70_7 : Int32) (y70_8 : Int32), Inv sc70 → Fr fm_322 s sc70 → (In y3_6 0 159) → (In y70_7 0 31) → (In y70_8 0 160) → 160 - (y70_8).toInt < (k70 : Int) → GG Z (d - 1) 322 post (gx xp) (1 + k3 * 147601 + 1 + k70 * 900) 70 (fun j => xlook j [(0, .ref (A 109)), (1, .int x1), (2, .int x2), (3, .int x3), (4, .int x4), (5, .int x5), (6, .int y3_6), (7, .int y70_7), (8, .int y70_8)]) [] (WW Z A sc70 ++ ex) 0 0 := by
        intro k70
        induction k70 with
        | zero => intro sc70 y70_7 y70_8 hIc70 hFc70 j70_6 j70_7 j70_8 mm70; exact m_no mm70 j70_8 rfl
        | succ k70 ih70 =>
          intro sc70 y70_7 y70_8 hIc70 hFc70 j70_6 j70_7 j70_8 mm70
          refine gg_w (M := 1 + k3 * 147601 + 1 + k70 * 900 + 900) gws ?_
          refine g_iload 72 (gd rfl) rfl rfl ?_
          refine g_sipush 160 75 (gd rfl) rfl rfl ?_
          refine g_cmp_ge 78 144 (gd rfl) rfl rfl (fun c75 => ?_) (fun c75 => ?_)
          · skip
            have i75 := r_le2 160 160 c75 (in_c 160 rfl) j70_8 rfl
            refine g_iinc 147 (gd rfl) rfl rfl (Nat.le_of_ble_eq_true rfl) (fun z144 e144 => ?_)
            have i144 := in_add 1 160 e144 j70_6 (in_c 1 rfl) rfl rfl
            refine g_goto 3 (gd rfl) rfl ?_
            exact gg_w (by first | exact Nat.le_add_right _ _ | exact gw2 | exact gw3 | exact gwe rfl | exact gwf rfl | exact gwg rfl | exact gwh rfl | omega) (gg_f (gf_cons rfl (gf_cons rfl (gf_cons rfl (gf_cons rfl (gf_cons rfl (gf_cons rfl (gf_cons rfl gf_nil))))))) (ih3 sc70 z144 hIc70 hFc70 (in_w 0 160 i144 rfl) (m_up mm3 (t_add e144 j70_6 (in_c 1 rfl) rfl) (in_w 1 1 (in_c 1 rfl) rfl))))
          · skip
            have i75 := r_lt1 0 159 c75 j70_8 (in_c 160 rfl) rfl
            refine g_aload_n 79 (gd rfl) rfl rfl ?_
            refine g_getA (q2 := 112) 82 (gd rfl) rfl rfl rfl rfl ?_
            refine g_aload_n 83 (gd rfl) rfl rfl ?_
            refine g_getI 86 (gd rfl) rfl rfl rfl (fun z83 e83 => ?_)
            have q83 : u_109_19 = z83 := (fr_F e_109_19 hFc70 rfl).trans e83.symm
            subst q83
            refine g_iload 88 (gd rfl) rfl rfl ?_
            refine g_iadd 89 (gd rfl) rfl (fun z88 e88 => ?_)
            have i88 := in_add 0 319 e88 ro_109_19 i75 rfl rfl
            refine g_baload 90 (gd rfl) rfl (n := 480) rfl (in_ix i88 rfl) (fun z89 e89 => ?_)
            have i89 := inv_I hIc70 (n := 480) (t := 3) 0 1 rfl (in_ix i88 rfl) rfl e89
            refine g_if_eq 93 138 (gd rfl) rfl rfl (fun c90 => ?_) (fun c90 => ?_)
            · skip
              have i90 := z_eq 0 0 c90 i89 rfl
              refine g_iinc 141 (gd rfl) rfl rfl (Nat.le_of_ble_eq_true rfl) (fun z138 e138 => ?_)
              have i138 := in_add 1 160 e138 i75 (in_c 1 rfl) rfl rfl
              refine g_goto 70 (gd rfl) rfl ?_
              exact gg_w (by first | exact Nat.le_add_right _ _ | exact gw2 | exact gw3 | exact gwe rfl | exact gwf rfl | exact gwg rfl | exact gwh rfl | omega) (gg_f (gf_cons rfl (gf_cons rfl (gf_cons rfl (gf_cons rfl (gf_cons rfl (gf_cons rfl (gf_cons rfl (gf_cons rfl (gf_cons rfl gf_nil))))))))) (ih70 sc70 y70_7 z138 hIc70 hFc70 (in_w 0 159 j70_6 rfl) (in_w 0 31 j70_7 rfl) (in_w 0 160 i138 rfl) (m_up mm70 (t_add e138 i75 (in_c 1 rfl) rfl) (in_w 1 1 (in_c 1 rfl) rfl))))
            · skip
              have i90 := z_ne 1 1 c90 i89 rfl
              refine g_aload_n 94 (gd rfl) rfl rfl ?_
              refine g_getA (q2 := 113) 97 (gd rfl) rfl rfl rfl rfl ?_
              refine g_aload_n 98 (gd rfl) rfl rfl ?_
              refine g_getI 101 (gd rfl) rfl rfl rfl (fun z98 e98 => ?_)
              have q98 : u_109_19 = z98 := (fr_F e_109_19 hFc70 rfl).trans e98.symm
              subst q98
              refine g_iload 103 (gd rfl) rfl rfl ?_
              refine g_iadd 104 (gd rfl) rfl (fun z103 e103 => ?_)
              have i103 := in_add 0 319 e103 ro_109_19 i75 rfl rfl
              refine g_iaload 105 (gd rfl) rfl (n := 480) rfl (in_ix i103 rfl) (fun z104 e104 => ?_)
              have i104 := inv_I hIc70 (n := 480) (t := 0) 0 31 rfl (in_ix i103 rfl) rfl e104
              refine g_iload 107 (gd rfl) rfl rfl ?_
              refine g_cmp_ne 110 138 (gd rfl) rfl rfl (fun c107 => ?_) (fun c107 => ?_)
              · skip
                refine g_iinc 141 (gd rfl) rfl rfl (Nat.le_of_ble_eq_true rfl) (fun z138 e138 => ?_)
                have i138 := in_add 1 160 e138 i75 (in_c 1 rfl) rfl rfl
                refine g_goto 70 (gd rfl) rfl ?_
                exact gg_w (by first | exact Nat.le_add_right _ _ | exact gw2 | exact gw3 | exact gwe rfl | exact gwf rfl | exact gwg rfl | exact gwh rfl | omega) (gg_f (gf_cons rfl (gf_cons rfl (gf_cons rfl (gf_cons rfl (gf_cons rfl (gf_cons rfl (gf_cons rfl (gf_cons rfl (gf_cons rfl gf_nil))))))))) (ih70 sc70 y70_7 z138 hIc70 hFc70 (in_w 0 159 j70_6 rfl) (in_w 0 31 j70_7 rfl) (in_w 0 160 i138 rfl) (m_up mm70 (t_add e138 i75 (in_c 1 rfl) rfl) (in_w 1 1 (in_c 1 rfl) rfl))))
              · skip
                refine g_aload_n 111 (gd rfl) rfl rfl ?_
                refine g_getA (q2 := 114) 114 (gd rfl) rfl rfl rfl rfl ?_
                refine g_aload_n 115 (gd rfl) rfl rfl ?_
                refine g_getI 118 (gd rfl) rfl rfl rfl (fun z115 e115 => ?_)
                have q115 : u_109_19 = z115 := (fr_F e_109_19 hFc70 rfl).trans e115.symm
                subst q115
                refine g_iload 120 (gd rfl) rfl rfl ?_
                refine g_iadd 121 (gd rfl) rfl (fun z120 e120 => ?_)
                have i120 := in_add 0 319 e120 ro_109_19 i75 rfl rfl
                refine g_iaload 122 (gd rfl) rfl (n := 480) rfl (in_ix i120 rfl) (fun z121 e121 => ?_)
                have i121 := inv_I hIc70 (n := 480) (t := 0) 0 31 rfl (in_ix i120 rfl) rfl e121
                refine g_iload 124 (gd rfl) rfl rfl ?_
                refine g_cmp_ne 127 138 (gd rfl) rfl rfl (fun c124 => ?_) (fun c124 => ?_)
                · skip
                  refine g_iinc 141 (gd rfl) rfl rfl (Nat.le_of_ble_eq_true rfl) (fun z138 e138 => ?_)
                  have i138 := in_add 1 160 e138 i75 (in_c 1 rfl) rfl rfl
                  refine g_goto 70 (gd rfl) rfl ?_
                  exact gg_w (by first | exact Nat.le_add_right _ _ | exact gw2 | exact gw3 | exact gwe rfl | exact gwf rfl | exact gwg rfl | exact gwh rfl | omega) (gg_f (gf_cons rfl (gf_cons rfl (gf_cons rfl (gf_cons rfl (gf_cons rfl (gf_cons rfl (gf_cons rfl (gf_cons rfl (gf_cons rfl gf_nil))))))))) (ih70 sc70 y70_7 z138 hIc70 hFc70 (in_w 0 159 j70_6 rfl) (in_w 0 31 j70_7 rfl) (in_w 0 160 i138 rfl) (m_up mm70 (t_add e138 i75 (in_c 1 rfl) rfl) (in_w 1 1 (in_c 1 rfl) rfl))))
                · skip
                  refine g_aload_n 128 (gd rfl) rfl rfl ?_
                  refine g_iconst 4 129 (gd rfl) rfl rfl ?_
                  refine g_iload_n 130 (gd rfl) rfl rfl ?_
                  refine g_iload_n 131 (gd rfl) rfl rfl ?_
                  refine g_iload 133 (gd rfl) rfl rfl ?_
                  refine g_iload 135 (gd rfl) rfl rfl ?_
                  refine g_callv (X := _) (As := [.int (Int32.ofInt 4), .int x1, .int x2, .int y3_6, .int y70_8]) (r := []) (b := A 109) (q := 109) 138 (gd rfl) rfl rfl rfl rfl rfl (ww_o rfl) (Nat.le_of_ble_eq_true rfl) (Nat.zero_le _) (Nat.zero_le _) (k_318 (by first | exact dq1 hd rfl | exact dq0 hd rfl | exact dq2 hd rfl | exact dq3 hd rfl | omega) hIc70 (in_w 1 4 (in_c 4 rfl) rfl) (in_w 0 159 h1 rfl) (in_w 0 159 h2 rfl) (in_w 0 159 j70_6 rfl) (in_w 0 159 i75 rfl)) (fun e u h => h) (fun v u h => ?_)
                  obtain ⟨s135, hI135, hF135, rfl, rfl⟩ := h
                  show GG _ _ _ _ _ _ _ _ [] _ _ _
                  refine g_iinc 141 (gd rfl) rfl rfl (Nat.le_of_ble_eq_true rfl) (fun z138 e138 => ?_)
                  have i138 := in_add 1 160 e138 i75 (in_c 1 rfl) rfl rfl
                  refine g_goto 70 (gd rfl) rfl ?_
                  exact gg_w (by first | exact Nat.le_add_right _ _ | exact gw2 | exact gw3 | exact gwe rfl | exact gwf rfl | exact gwg rfl | exact gwh rfl | omega) (gg_f (gf_cons rfl (gf_cons rfl (gf_cons rfl (gf_cons rfl (gf_cons rfl (gf_cons rfl (gf_cons rfl (gf_cons rfl (gf_cons rfl gf_nil))))))))) (ih70 s135 y70_7 z138 hI135 (fr_tr rfl hFc70 hF135) (in_w 0 159 j70_6 rfl) (in_w 0 31 j70_7 rfl) (in_w 0 160 i138 rfl) (m_up mm70 (t_add e138 i75 (in_c 1 rfl) rfl) (in_w 1 1 (in_c 1 rfl) rfl))))
      refine g_iload 5 (gd rfl) rfl rfl ?_
      refine g_sipush 160 8 (gd rfl) rfl rfl ?_
      refine g_cmp_ge 11 150 (gd rfl) rfl rfl (fun c8 => ?_) (fun c8 => ?_)
      · skip
        have i8 := r_le2 160 160 c8 (in_c 160 rfl) j3_6 rfl
        exact g_return (gd rfl) rfl (hP _ _ ⟨sc3, hIc3, hFc3, rfl, rfl⟩)
      · skip
        have i8 := r_lt1 0 159 c8 j3_6 (in_c 160 rfl) rfl
        refine g_aload_n 12 (gd rfl) rfl rfl ?_
        refine g_getI 15 (gd rfl) rfl rfl rfl (fun z12 e12 => ?_)
        have i12 := inv_F hIc3 0 2001 rfl e12
        refine g_sipush 2000 18 (gd rfl) rfl rfl ?_
        refine g_cmp_gt 21 150 (gd rfl) rfl rfl (fun c18 => ?_) (fun c18 => ?_)
        · skip
          have i18 := r_lt2 2001 2001 c18 (in_c 2000 rfl) i12 rfl
          exact g_return (gd rfl) rfl (hP _ _ ⟨sc3, hIc3, hFc3, rfl, rfl⟩)
        · skip
          have i18 := r_le1 0 2000 c18 i12 (in_c 2000 rfl) rfl
          refine g_aload_n 22 (gd rfl) rfl rfl ?_
          refine g_iload 24 (gd rfl) rfl rfl ?_
          refine g_iload_n 25 (gd rfl) rfl rfl ?_
          refine g_iload 27 (gd rfl) rfl rfl ?_
          refine g_callv (X := _) (As := [.int y3_6, .int x3, .int x4]) (r := []) (b := A 109) (q := 109) 30 (gd rfl) rfl rfl rfl rfl rfl (ww_o rfl) (Nat.le_of_ble_eq_true rfl) (mc := 0) (ms := 0) (Nat.zero_le _) (Nat.zero_le _) (P := fun v u => _) ?_ (fun e u h => h) (fun v u h => h)
          intro po27 xx27 hp27 hx27
          refine g_enter2 (k := 319) (N := 300) (by first | exact dq1 hd rfl | exact dq0 hd rfl | exact dq2 hd rfl | exact dq3 hd rfl | omega) rfl (Nat.le_of_ble_eq_true rfl) ?_
          refine g_aload_n 1 (gd rfl) rfl rfl ?_
          refine g_getA (q2 := 112) 4 (gd rfl) rfl rfl rfl rfl ?_
          refine g_aload_n 5 (gd rfl) rfl rfl ?_
          refine g_getI 8 (gd rfl) rfl rfl rfl (fun z27x5 e27x5 => ?_)
          have q27x5 : u_109_19 = z27x5 := (fr_F e_109_19 hFc3 rfl).trans e27x5.symm
          subst q27x5
          refine g_iload_n 9 (gd rfl) rfl rfl ?_
          refine g_iadd 10 (gd rfl) rfl (fun z27x9 e27x9 => ?_)
          have i27x9 := in_add 0 319 e27x9 ro_109_19 i8 rfl rfl
          refine g_baload 11 (gd rfl) rfl (n := 480) rfl (in_ix i27x9 rfl) (fun z27x10 e27x10 => ?_)
          have i27x10 := inv_I hIc3 (n := 480) (t := 3) 0 1 rfl (in_ix i27x9 rfl) rfl e27x10
          refine g_if_eq 14 51 (gd rfl) rfl rfl (fun c27x11 => ?_) (fun c27x11 => ?_)
          · skip
            have i27x11 := z_eq 0 0 c27x11 i27x10 rfl
            refine g_iconst 0 52 (gd rfl) rfl rfl ?_
            refine g_ireturn (gd rfl) rfl (nb01 (in_w 0 1 (in_c 0 rfl) rfl)) (hp27 _ _ ?_)
            show GG _ _ _ _ _ _ _ _ [.int (Int32.ofInt 0)] _ _ _
            refine g_if_eq 33 144 (gd rfl) rfl rfl (fun c30 => ?_) (fun c30 => ?_)
            · skip
              refine g_iinc 147 (gd rfl) rfl rfl (Nat.le_of_ble_eq_true rfl) (fun z144 e144 => ?_)
              have i144 := in_add 1 160 e144 i8 (in_c 1 rfl) rfl rfl
              refine g_goto 3 (gd rfl) rfl ?_
              exact gg_w (by first | exact Nat.le_add_right _ _ | exact gw2 | exact gw3 | exact gwe rfl | exact gwf rfl | exact gwg rfl | exact gwh rfl | omega) (gg_f (gf_cons rfl (gf_cons rfl (gf_cons rfl (gf_cons rfl (gf_cons rfl (gf_cons rfl (gf_cons rfl gf_nil))))))) (ih3 sc3 z144 hIc3 hFc3 (in_w 0 160 i144 rfl) (m_up mm3 (t_add e144 i8 (in_c 1 rfl) rfl) (in_w 1 1 (in_c 1 rfl) rfl))))
            · skip
              exact zn_ne c30 (in_c 0 rfl) rfl
          · skip
            have i27x11 := z_ne 1 1 c27x11 i27x10 rfl
            refine g_aload_n 15 (gd rfl) rfl rfl ?_
            refine g_getA (q2 := 113) 18 (gd rfl) rfl rfl rfl rfl ?_
            refine g_aload_n 19 (gd rfl) rfl rfl ?_
            refine g_getI 22 (gd rfl) rfl rfl rfl (fun z27x19 e27x19 => ?_)
            have q27x19 : u_109_19 = z27x19 := (fr_F e_109_19 hFc3 rfl).trans e27x19.symm
            subst q27x19
            refine g_iload_n 23 (gd rfl) rfl rfl ?_
            refine g_iadd 24 (gd rfl) rfl (fun z27x23 e27x23 => ?_)
            have i27x23 := in_add 0 319 e27x23 ro_109_19 i8 rfl rfl
            refine g_iaload 25 (gd rfl) rfl (n := 480) rfl (in_ix i27x23 rfl) (fun z27x24 e27x24 => ?_)
            have i27x24 := inv_I hIc3 (n := 480) (t := 0) 0 31 rfl (in_ix i27x23 rfl) rfl e27x24
            refine g_iload_n 26 (gd rfl) rfl rfl ?_
            refine g_cmp_ne 29 51 (gd rfl) rfl rfl (fun c27x26 => ?_) (fun c27x26 => ?_)
            · skip
              refine g_iconst 0 52 (gd rfl) rfl rfl ?_
              refine g_ireturn (gd rfl) rfl (nb01 (in_w 0 1 (in_c 0 rfl) rfl)) (hp27 _ _ ?_)
              show GG _ _ _ _ _ _ _ _ [.int (Int32.ofInt 0)] _ _ _
              refine g_if_eq 33 144 (gd rfl) rfl rfl (fun c30 => ?_) (fun c30 => ?_)
              · skip
                refine g_iinc 147 (gd rfl) rfl rfl (Nat.le_of_ble_eq_true rfl) (fun z144 e144 => ?_)
                have i144 := in_add 1 160 e144 i8 (in_c 1 rfl) rfl rfl
                refine g_goto 3 (gd rfl) rfl ?_
                exact gg_w (by first | exact Nat.le_add_right _ _ | exact gw2 | exact gw3 | exact gwe rfl | exact gwf rfl | exact gwg rfl | exact gwh rfl | omega) (gg_f (gf_cons rfl (gf_cons rfl (gf_cons rfl (gf_cons rfl (gf_cons rfl (gf_cons rfl (gf_cons rfl gf_nil))))))) (ih3 sc3 z144 hIc3 hFc3 (in_w 0 160 i144 rfl) (m_up mm3 (t_add e144 i8 (in_c 1 rfl) rfl) (in_w 1 1 (in_c 1 rfl) rfl))))
              · skip
                exact zn_ne c30 (in_c 0 rfl) rfl
            · skip
              refine g_iload_n 30 (gd rfl) rfl rfl ?_
              refine g_aload_n 31 (gd rfl) rfl rfl ?_
              refine g_getA (q2 := 114) 34 (gd rfl) rfl rfl rfl rfl ?_
              refine g_aload_n 35 (gd rfl) rfl rfl ?_
              refine g_getI 38 (gd rfl) rfl rfl rfl (fun z27x35 e27x35 => ?_)
              have q27x35 : u_109_19 = z27x35 := (fr_F e_109_19 hFc3 rfl).trans e27x35.symm
              subst q27x35
              refine g_iload_n 39 (gd rfl) rfl rfl ?_
              refine g_iadd 40 (gd rfl) rfl (fun z27x39 e27x39 => ?_)
              have i27x39 := in_add 0 319 e27x39 ro_109_19 i8 rfl rfl
              refine g_iaload 41 (gd rfl) rfl (n := 480) rfl (in_ix i27x39 rfl) (fun z27x40 e27x40 => ?_)
              have i27x40 := inv_I hIc3 (n := 480) (t := 0) 0 31 rfl (in_ix i27x39 rfl) rfl e27x40
              refine g_calls (As := [.int x4, .int z27x40]) (r := []) 44 (gd rfl) rfl rfl rfl rfl rfl (Nat.le_of_ble_eq_true rfl) (mc := 0) (ms := 0) (Nat.zero_le _) (Nat.zero_le _) (P := fun v u => _) ?_ (fun v u h => h)
              intro po27x41 xx27x41 hp27x41 hx27x41
              refine g_enter2 (k := 311) (N := 300) (by first | exact dq1 hd rfl | exact dq0 hd rfl | exact dq2 hd rfl | exact dq3 hd rfl | omega) rfl (Nat.le_of_ble_eq_true rfl) ?_
              refine g_iload_n 1 (gd rfl) rfl rfl ?_
              refine g_iload_n 2 (gd rfl) rfl rfl ?_
              refine g_ishr 3 (gd rfl) rfl (fun z27x41x2 e27x41x2 => ?_)
              refine g_iconst 1 4 (gd rfl) rfl rfl ?_
              refine g_iand 5 (gd rfl) rfl (fun z27x41x4 e27x41x4 => ?_)
              have i27x41x4 := in_and2 e27x41x4 (in_c 1 rfl) rfl
              refine g_iconst 1 6 (gd rfl) rfl rfl ?_
              refine g_cmp_ne 9 13 (gd rfl) rfl rfl (fun c27x41x6 => ?_) (fun c27x41x6 => ?_)
              · skip
                have i27x41x6 := r_ne1 0 0 c27x41x6 i27x41x4 (in_c 1 rfl) rfl
                refine g_iconst 0 14 (gd rfl) rfl rfl ?_
                refine g_ireturn (gd rfl) rfl (nb01 (in_w 0 1 (in_c 0 rfl) rfl)) (hp27x41 _ _ ?_)
                show GG _ _ _ _ _ _ _ _ [.int (Int32.ofInt 0)] _ _ _
                refine g_if_ne 47 51 (gd rfl) rfl rfl (fun c27x44 => ?_) (fun c27x44 => ?_)
                · skip
                  exact zn_ne c27x44 (in_c 0 rfl) rfl
                · skip
                  refine g_iconst 1 48 (gd rfl) rfl rfl ?_
                  refine g_goto 52 (gd rfl) rfl ?_
                  refine g_ireturn (gd rfl) rfl (nb01 (in_w 0 1 (in_c 1 rfl) rfl)) (hp27 _ _ ?_)
                  show GG _ _ _ _ _ _ _ _ [.int (Int32.ofInt 1)] _ _ _
                  refine g_if_eq 33 144 (gd rfl) rfl rfl (fun c30 => ?_) (fun c30 => ?_)
                  · skip
                    exact zn_eq c30 (in_c 1 rfl) rfl
                  · skip
                    refine g_aload_n 34 (gd rfl) rfl rfl ?_
                    refine g_getA (q2 := 114) 37 (gd rfl) rfl rfl rfl rfl ?_
                    refine g_aload_n 38 (gd rfl) rfl rfl ?_
                    refine g_getI 41 (gd rfl) rfl rfl rfl (fun z38 e38 => ?_)
                    have q38 : u_109_19 = z38 := (fr_F e_109_19 hFc3 rfl).trans e38.symm
                    subst q38
                    refine g_iload 43 (gd rfl) rfl rfl ?_
                    refine g_iadd 44 (gd rfl) rfl (fun z43 e43 => ?_)
                    have i43 := in_add 0 319 e43 ro_109_19 i8 rfl rfl
                    refine g_iaload 45 (gd rfl) rfl (n := 480) rfl (in_ix i43 rfl) (fun z44 e44 => ?_)
                    have i44 := inv_I hIc3 (n := 480) (t := 0) 0 31 rfl (in_ix i43 rfl) rfl e44
                    refine g_istore 47 (gd rfl) rfl (Nat.le_of_ble_eq_true rfl) ?_
                    refine g_iload 49 (gd rfl) rfl rfl ?_
                    refine g_iload 51 (gd rfl) rfl rfl ?_
                    refine g_cmp_ne 54 67 (gd rfl) rfl rfl (fun c51 => ?_) (fun c51 => ?_)
                    · skip
                      refine g_iconst 0 68 (gd rfl) rfl rfl ?_
                      refine g_istore 70 (gd rfl) rfl (Nat.le_of_ble_eq_true rfl) ?_
                      exact gg_w (by first | exact Nat.le_add_right _ _ | exact gw2 | exact gw3 | exact gwe rfl | exact gwf rfl | exact gwg rfl | exact gwh rfl | omega) (gg_f (gf_cons rfl (gf_cons rfl (gf_cons rfl (gf_cons rfl (gf_cons rfl (gf_cons rfl (gf_cons rfl (gf_cons rfl (gf_cons rfl gf_nil))))))))) (ct70 161 sc3 z44 (Int32.ofInt 0) hIc3 hFc3 (in_w 0 159 i8 rfl) (in_w 0 31 i44 rfl) (in_w 0 160 (in_c 0 rfl) rfl) (m_in 161 (in_w 0 160 (in_c 0 rfl) rfl) rfl)))
                    · skip
                      refine g_aload_n 55 (gd rfl) rfl rfl ?_
                      refine g_iconst 3 56 (gd rfl) rfl rfl ?_
                      refine g_iload_n 57 (gd rfl) rfl rfl ?_
                      refine g_iload_n 58 (gd rfl) rfl rfl ?_
                      refine g_iload 60 (gd rfl) rfl rfl ?_
                      refine g_iconst 0 61 (gd rfl) rfl rfl ?_
                      refine g_callv (X := _) (As := [.int (Int32.ofInt 3), .int x1, .int x2, .int y3_6, .int (Int32.ofInt 0)]) (r := []) (b := A 109) (q := 109) 64 (gd rfl) rfl rfl rfl rfl rfl (ww_o rfl) (Nat.le_of_ble_eq_true rfl) (Nat.zero_le _) (Nat.zero_le _) (k_318 (by first | exact dq1 hd rfl | exact dq0 hd rfl | exact dq2 hd rfl | exact dq3 hd rfl | omega) hIc3 (in_w 1 4 (in_c 3 rfl) rfl) (in_w 0 159 h1 rfl) (in_w 0 159 h2 rfl) (in_w 0 159 i8 rfl) (in_w 0 159 (in_c 0 rfl) rfl)) (fun e u h => h) (fun v u h => ?_)
                      obtain ⟨s61, hI61, hF61, rfl, rfl⟩ := h
                      show GG _ _ _ _ _ _ _ _ [] _ _ _
                      refine g_goto 144 (gd rfl) rfl ?_
                      refine g_iinc 147 (gd rfl) rfl rfl (Nat.le_of_ble_eq_true rfl) (fun z144 e144 => ?_)
                      have i144 := in_add 1 160 e144 i8 (in_c 1 rfl) rfl rfl
                      refine g_goto 3 (gd rfl) rfl ?_
                      exact gg_w (by first | exact Nat.le_add_right _ _ | exact gw2 | exact gw3 | exact gwe rfl | exact gwf rfl | exact gwg rfl | exact gwh rfl | omega) (gg_f (gf_cons rfl (gf_cons rfl (gf_cons rfl (gf_cons rfl (gf_cons rfl (gf_cons rfl (gf_cons rfl gf_nil))))))) (ih3 s61 z144 hI61 (fr_tr rfl hFc3 hF61) (in_w 0 160 i144 rfl) (m_up mm3 (t_add e144 i8 (in_c 1 rfl) rfl) (in_w 1 1 (in_c 1 rfl) rfl))))
              · skip
                have i27x41x6 := r_eq1 1 1 c27x41x6 i27x41x4 (in_c 1 rfl) rfl
                refine g_iconst 1 10 (gd rfl) rfl rfl ?_
                refine g_goto 14 (gd rfl) rfl ?_
                refine g_ireturn (gd rfl) rfl (nb01 (in_w 0 1 (in_c 1 rfl) rfl)) (hp27x41 _ _ ?_)
                show GG _ _ _ _ _ _ _ _ [.int (Int32.ofInt 1)] _ _ _
                refine g_if_ne 47 51 (gd rfl) rfl rfl (fun c27x44 => ?_) (fun c27x44 => ?_)
                · skip
                  refine g_iconst 0 52 (gd rfl) rfl rfl ?_
                  refine g_ireturn (gd rfl) rfl (nb01 (in_w 0 1 (in_c 0 rfl) rfl)) (hp27 _ _ ?_)
                  show GG _ _ _ _ _ _ _ _ [.int (Int32.ofInt 0)] _ _ _
                  refine g_if_eq 33 144 (gd rfl) rfl rfl (fun c30 => ?_) (fun c30 => ?_)
                  · skip
                    refine g_iinc 147 (gd rfl) rfl rfl (Nat.le_of_ble_eq_true rfl) (fun z144 e144 => ?_)
                    have i144 := in_add 1 160 e144 i8 (in_c 1 rfl) rfl rfl
                    refine g_goto 3 (gd rfl) rfl ?_
                    exact gg_w (by first | exact Nat.le_add_right _ _ | exact gw2 | exact gw3 | exact gwe rfl | exact gwf rfl | exact gwg rfl | exact gwh rfl | omega) (gg_f (gf_cons rfl (gf_cons rfl (gf_cons rfl (gf_cons rfl (gf_cons rfl (gf_cons rfl (gf_cons rfl gf_nil))))))) (ih3 sc3 z144 hIc3 hFc3 (in_w 0 160 i144 rfl) (m_up mm3 (t_add e144 i8 (in_c 1 rfl) rfl) (in_w 1 1 (in_c 1 rfl) rfl))))
                  · skip
                    exact zn_ne c30 (in_c 0 rfl) rfl
                · skip
                  exact zn_eq c27x44 (in_c 1 rfl) rfl
  refine g_enter2 (k := 322) (N := 23764662) (by first | exact dq1 hd rfl | exact dq0 hd rfl | exact dq2 hd rfl | exact dq3 hd rfl | omega) rfl (Nat.le_of_ble_eq_true rfl) ?_
  refine g_iconst 0 1 (gd rfl) rfl rfl ?_
  refine g_istore 3 (gd rfl) rfl (Nat.le_of_ble_eq_true rfl) ?_
  exact gg_w (by first | exact Nat.le_of_ble_eq_true rfl | omega) (gg_f (gf_cons rfl (gf_cons rfl (gf_cons rfl (gf_cons rfl (gf_cons rfl (gf_cons rfl (gf_cons rfl gf_nil))))))) (ct3 161 s (Int32.ofInt 0) hI fr_rf (in_w 0 160 (in_c 0 rfl) rfl) (m_in 161 (in_w 0 160 (in_c 0 rfl) rfl) rfl)))

/-- GraphHouseModel.isBefore -/
theorem k_323 {Z : AmZ} {A : Nat → Nat} {s : GS} {ex : va_W} {d : Nat} {X : AmX} {x1 : Int32} {x2 : Int32} (hd : 1 ≤ d) (hI : Inv s) (h1 : In x1 0 2000) (h2 : In x2 0 2000) : GC Z d 323 [.ref (A 109), .int x1, .int x2] (WW Z A s ++ ex) 0 0 (fun v u => ∃ z : Int32, v = some (.int z) ∧ u = WW Z A s ++ ex ∧ In z 0 1) X := by
  intro post xp hP hX
  have ct84 : ∀ (k84 : Nat) (y84_3 : Int32), (In y84_3 1 5) → 5 - (y84_3).toInt < (k84 : Int) → GG Z (d - 1) 323 post (gx xp) (1 + k84 * 900) 84 (fun j => xlook j [(0, .ref (A 109)), (1, .int x1), (2, .int x2), (3, .int y84_3)]) [] (WW Z A s ++ ex) 0 0 := by
    intro k84
    induction k84 with
    | zero => intro y84_3 j84_3 mm84; exact m_no mm84 j84_3 rfl
    | succ k84 ih84 =>
      intro y84_3 j84_3 mm84
      refine gg_w (M := 1 + k84 * 900 + 900) gws ?_
      refine g_iload_n 85 (gd rfl) rfl rfl ?_
      refine g_aload_n 86 (gd rfl) rfl rfl ?_
      refine g_getA (q2 := 134) 89 (gd rfl) rfl rfl rfl rfl ?_
      refine g_iconst 5 90 (gd rfl) rfl rfl ?_
      refine g_iload_n 91 (gd rfl) rfl rfl ?_
      refine g_imul 92 (gd rfl) rfl (fun z91 e91 => ?_)
      have i91 := in_mulc 5 0 10000 (Or.inl e91) h1 rfl rfl
      refine g_iaload 93 (gd rfl) rfl (n := 10005) rfl (in_ix i91 rfl) (fun z92 e92 => ?_)
      have i92 := inv_I hI (n := 10005) (t := 0) 0 159 rfl (in_ix i91 rfl) rfl e92
      have i93 : In z92 0 4 := by exact ks_u hI e92 (t_mulc 5 (Or.inl e91) h1 rfl).1 h1 i92
      refine g_cmp_gt 96 154 (gd rfl) rfl rfl (fun c93 => ?_) (fun c93 => ?_)
      · skip
        refine g_iconst 0 155 (gd rfl) rfl rfl ?_
        exact g_ireturn (gd rfl) rfl (nb01 (in_w 0 1 (in_c 0 rfl) rfl)) (hP _ _ ⟨(Int32.ofInt 0), rfl, rfl, in_w 0 1 (in_c 0 rfl) rfl⟩)
      · skip
        have i93a := r_le1 1 4 c93 j84_3 i93 rfl
        have i93b := r_le2 1 4 c93 j84_3 i93 rfl
        refine g_aload_n 97 (gd rfl) rfl rfl ?_
        refine g_getA (q2 := 134) 100 (gd rfl) rfl rfl rfl rfl ?_
        refine g_iconst 5 101 (gd rfl) rfl rfl ?_
        refine g_iload_n 102 (gd rfl) rfl rfl ?_
        refine g_imul 103 (gd rfl) rfl (fun z102 e102 => ?_)
        have i102 := in_mulc 5 0 10000 (Or.inl e102) h1 rfl rfl
        refine g_iload_n 104 (gd rfl) rfl rfl ?_
        refine g_iadd 105 (gd rfl) rfl (fun z104 e104 => ?_)
        have i104 := in_add 1 10004 e104 i102 i93a rfl rfl
        refine g_iaload 106 (gd rfl) rfl (n := 10005) rfl (in_ix i104 rfl) (fun z105 e105 => ?_)
        have i105 := inv_I hI (n := 10005) (t := 0) 0 159 rfl (in_ix i104 rfl) rfl e105
        refine g_aload_n 107 (gd rfl) rfl rfl ?_
        refine g_getA (q2 := 134) 110 (gd rfl) rfl rfl rfl rfl ?_
        refine g_iconst 5 111 (gd rfl) rfl rfl ?_
        refine g_iload_n 112 (gd rfl) rfl rfl ?_
        refine g_imul 113 (gd rfl) rfl (fun z112 e112 => ?_)
        have i112 := in_mulc 5 0 10000 (Or.inl e112) h2 rfl rfl
        refine g_iload_n 114 (gd rfl) rfl rfl ?_
        refine g_iadd 115 (gd rfl) rfl (fun z114 e114 => ?_)
        have i114 := in_add 1 10004 e114 i112 i93a rfl rfl
        refine g_iaload 116 (gd rfl) rfl (n := 10005) rfl (in_ix i114 rfl) (fun z115 e115 => ?_)
        have i115 := inv_I hI (n := 10005) (t := 0) 0 159 rfl (in_ix i114 rfl) rfl e115
        refine g_cmp_eq 119 148 (gd rfl) rfl rfl (fun c116 => ?_) (fun c116 => ?_)
        · skip
          refine g_iinc 151 (gd rfl) rfl rfl (Nat.le_of_ble_eq_true rfl) (fun z148 e148 => ?_)
          have i148 := in_add 2 5 e148 i93a (in_c 1 rfl) rfl rfl
          refine g_goto 84 (gd rfl) rfl ?_
          exact gg_w (by first | exact Nat.le_add_right _ _ | exact gw2 | exact gw3 | exact gwe rfl | exact gwf rfl | exact gwg rfl | exact gwh rfl | omega) (gg_f (gf_cons rfl (gf_cons rfl (gf_cons rfl (gf_cons rfl gf_nil)))) (ih84  z148  (in_w 1 5 i148 rfl) (m_up mm84 (t_add e148 i93a (in_c 1 rfl) rfl) (in_w 1 1 (in_c 1 rfl) rfl))))
        · skip
          refine g_aload_n 120 (gd rfl) rfl rfl ?_
          refine g_getA (q2 := 134) 123 (gd rfl) rfl rfl rfl rfl ?_
          refine g_iconst 5 124 (gd rfl) rfl rfl ?_
          refine g_iload_n 125 (gd rfl) rfl rfl ?_
          refine g_imul 126 (gd rfl) rfl (fun z125 e125 => ?_)
          have i125 := in_mulc 5 0 10000 (Or.inl e125) h1 rfl rfl
          refine g_iload_n 127 (gd rfl) rfl rfl ?_
          refine g_iadd 128 (gd rfl) rfl (fun z127 e127 => ?_)
          have i127 := in_add 1 10004 e127 i125 i93a rfl rfl
          refine g_iaload 129 (gd rfl) rfl (n := 10005) rfl (in_ix i127 rfl) (fun z128 e128 => ?_)
          have i128 := inv_I hI (n := 10005) (t := 0) 0 159 rfl (in_ix i127 rfl) rfl e128
          refine g_aload_n 130 (gd rfl) rfl rfl ?_
          refine g_getA (q2 := 134) 133 (gd rfl) rfl rfl rfl rfl ?_
          refine g_iconst 5 134 (gd rfl) rfl rfl ?_
          refine g_iload_n 135 (gd rfl) rfl rfl ?_
          refine g_imul 136 (gd rfl) rfl (fun z135 e135 => ?_)
          have i135 := in_mulc 5 0 10000 (Or.inl e135) h2 rfl rfl
          refine g_iload_n 137 (gd rfl) rfl rfl ?_
          refine g_iadd 138 (gd rfl) rfl (fun z137 e137 => ?_)
          have i137 := in_add 1 10004 e137 i135 i93a rfl rfl
          refine g_iaload 139 (gd rfl) rfl (n := 10005) rfl (in_ix i137 rfl) (fun z138 e138 => ?_)
          have i138 := inv_I hI (n := 10005) (t := 0) 0 159 rfl (in_ix i137 rfl) rfl e138
          refine g_cmp_ge 142 146 (gd rfl) rfl rfl (fun c139 => ?_) (fun c139 => ?_)
          · skip
            refine g_iconst 0 147 (gd rfl) rfl rfl ?_
            exact g_ireturn (gd rfl) rfl (nb01 (in_w 0 1 (in_c 0 rfl) rfl)) (hP _ _ ⟨(Int32.ofInt 0), rfl, rfl, in_w 0 1 (in_c 0 rfl) rfl⟩)
          · skip
            have i139 := r_lt1 0 158 c139 i128 i138 rfl
            have i139a := r_lt2 1 159 c139 i128 i138 rfl
            refine g_iconst 1 143 (gd rfl) rfl rfl ?_
            refine g_goto 147 (gd rfl) rfl ?_
            exact g_ireturn (gd rfl) rfl (nb01 (in_w 0 1 (in_c 1 rfl) rfl)) (hP _ _ ⟨(Int32.ofInt 1), rfl, rfl, in_w 0 1 (in_c 1 rfl) rfl⟩)
  refine g_enter2 (k := 323) (N := 5401) (by first | exact dq1 hd rfl | exact dq0 hd rfl | exact dq2 hd rfl | exact dq3 hd rfl | omega) rfl (Nat.le_of_ble_eq_true rfl) ?_
  refine g_aload_n 1 (gd rfl) rfl rfl ?_
  refine g_getA (q2 := 135) 4 (gd rfl) rfl rfl rfl rfl ?_
  refine g_iload_n 5 (gd rfl) rfl rfl ?_
  refine g_laload 6 (gd rfl) rfl (n := 2001) rfl (in_ix h1 rfl) (fun z5 e5 => ?_)
  refine g_aload_n 7 (gd rfl) rfl rfl ?_
  refine g_getA (q2 := 135) 10 (gd rfl) rfl rfl rfl rfl ?_
  refine g_iload_n 11 (gd rfl) rfl rfl ?_
  refine g_laload 12 (gd rfl) rfl (n := 2001) rfl (in_ix h2 rfl) (fun z11 e11 => ?_)
  refine g_lcmp 13 (gd rfl) rfl (fun z12 e12 => ?_)
  have i12 := lc_in e12
  refine g_if_eq 16 38 (gd rfl) rfl rfl (fun c13 => ?_) (fun c13 => ?_)
  · skip
    have i13 := z_eq 0 0 c13 i12 rfl
    have c13a := lc_eq e12 c13
    refine g_aload_n 39 (gd rfl) rfl rfl ?_
    refine g_getA (q2 := 134) 42 (gd rfl) rfl rfl rfl rfl ?_
    refine g_iconst 5 43 (gd rfl) rfl rfl ?_
    refine g_iload_n 44 (gd rfl) rfl rfl ?_
    refine g_imul 45 (gd rfl) rfl (fun z44 e44 => ?_)
    have i44 := in_mulc 5 0 10000 (Or.inl e44) h1 rfl rfl
    refine g_iaload 46 (gd rfl) rfl (n := 10005) rfl (in_ix i44 rfl) (fun z45 e45 => ?_)
    have i45 := inv_I hI (n := 10005) (t := 0) 0 159 rfl (in_ix i44 rfl) rfl e45
    refine g_aload_n 47 (gd rfl) rfl rfl ?_
    refine g_getA (q2 := 134) 50 (gd rfl) rfl rfl rfl rfl ?_
    refine g_iconst 5 51 (gd rfl) rfl rfl ?_
    refine g_iload_n 52 (gd rfl) rfl rfl ?_
    refine g_imul 53 (gd rfl) rfl (fun z52 e52 => ?_)
    have i52 := in_mulc 5 0 10000 (Or.inl e52) h2 rfl rfl
    refine g_iaload 54 (gd rfl) rfl (n := 10005) rfl (in_ix i52 rfl) (fun z53 e53 => ?_)
    have i53 := inv_I hI (n := 10005) (t := 0) 0 159 rfl (in_ix i52 rfl) rfl e53
    refine g_cmp_eq 57 82 (gd rfl) rfl rfl (fun c54 => ?_) (fun c54 => ?_)
    · skip
      refine g_iconst 1 83 (gd rfl) rfl rfl ?_
      refine g_istore_n 84 (gd rfl) rfl (Nat.le_of_ble_eq_true rfl) ?_
      exact gg_w (by first | exact Nat.le_of_ble_eq_true rfl | omega) (gg_f (gf_cons rfl (gf_cons rfl (gf_cons rfl (gf_cons rfl gf_nil)))) (ct84 5  (Int32.ofInt 1)  (in_w 1 5 (in_c 1 rfl) rfl) (m_in 5 (in_w 1 5 (in_c 1 rfl) rfl) rfl)))
    · skip
      refine g_aload_n 58 (gd rfl) rfl rfl ?_
      refine g_getA (q2 := 134) 61 (gd rfl) rfl rfl rfl rfl ?_
      refine g_iconst 5 62 (gd rfl) rfl rfl ?_
      refine g_iload_n 63 (gd rfl) rfl rfl ?_
      refine g_imul 64 (gd rfl) rfl (fun z63 e63 => ?_)
      have i63 := in_mulc 5 0 10000 (Or.inl e63) h1 rfl rfl
      refine g_iaload 65 (gd rfl) rfl (n := 10005) rfl (in_ix i63 rfl) (fun z64 e64 => ?_)
      have i64 := inv_I hI (n := 10005) (t := 0) 0 159 rfl (in_ix i63 rfl) rfl e64
      refine g_aload_n 66 (gd rfl) rfl rfl ?_
      refine g_getA (q2 := 134) 69 (gd rfl) rfl rfl rfl rfl ?_
      refine g_iconst 5 70 (gd rfl) rfl rfl ?_
      refine g_iload_n 71 (gd rfl) rfl rfl ?_
      refine g_imul 72 (gd rfl) rfl (fun z71 e71 => ?_)
      have i71 := in_mulc 5 0 10000 (Or.inl e71) h2 rfl rfl
      refine g_iaload 73 (gd rfl) rfl (n := 10005) rfl (in_ix i71 rfl) (fun z72 e72 => ?_)
      have i72 := inv_I hI (n := 10005) (t := 0) 0 159 rfl (in_ix i71 rfl) rfl e72
      refine g_cmp_ge 76 80 (gd rfl) rfl rfl (fun c73 => ?_) (fun c73 => ?_)
      · skip
        refine g_iconst 0 81 (gd rfl) rfl rfl ?_
        exact g_ireturn (gd rfl) rfl (nb01 (in_w 0 1 (in_c 0 rfl) rfl)) (hP _ _ ⟨(Int32.ofInt 0), rfl, rfl, in_w 0 1 (in_c 0 rfl) rfl⟩)
      · skip
        have i73 := r_lt1 0 158 c73 i64 i72 rfl
        have i73a := r_lt2 1 159 c73 i64 i72 rfl
        refine g_iconst 1 77 (gd rfl) rfl rfl ?_
        refine g_goto 81 (gd rfl) rfl ?_
        exact g_ireturn (gd rfl) rfl (nb01 (in_w 0 1 (in_c 1 rfl) rfl)) (hP _ _ ⟨(Int32.ofInt 1), rfl, rfl, in_w 0 1 (in_c 1 rfl) rfl⟩)
  · skip
    have c13a := lc_ne e12 c13
    refine g_aload_n 17 (gd rfl) rfl rfl ?_
    refine g_getA (q2 := 135) 20 (gd rfl) rfl rfl rfl rfl ?_
    refine g_iload_n 21 (gd rfl) rfl rfl ?_
    refine g_laload 22 (gd rfl) rfl (n := 2001) rfl (in_ix h1 rfl) (fun z21 e21 => ?_)
    refine g_aload_n 23 (gd rfl) rfl rfl ?_
    refine g_getA (q2 := 135) 26 (gd rfl) rfl rfl rfl rfl ?_
    refine g_iload_n 27 (gd rfl) rfl rfl ?_
    refine g_laload 28 (gd rfl) rfl (n := 2001) rfl (in_ix h2 rfl) (fun z27 e27 => ?_)
    refine g_lcmp 29 (gd rfl) rfl (fun z28 e28 => ?_)
    have i28 := lc_in e28
    refine g_if_ge 32 36 (gd rfl) rfl rfl (fun c29 => ?_) (fun c29 => ?_)
    · skip
      have i29 := z_ge 0 1 c29 i28 rfl
      have c29a := lc_ge e28 c29
      refine g_iconst 0 37 (gd rfl) rfl rfl ?_
      exact g_ireturn (gd rfl) rfl (nb01 (in_w 0 1 (in_c 0 rfl) rfl)) (hP _ _ ⟨(Int32.ofInt 0), rfl, rfl, in_w 0 1 (in_c 0 rfl) rfl⟩)
    · skip
      have i29 := z_lt (-1) (-1) c29 i28 rfl
      have c29a := lc_lt e28 c29
      have i29a := lr_lt1 (-9223372036854775808) 9223372036854775806 c29a (l_rng z21) (l_rng z27) rfl
      have i29b := lr_lt2 (-9223372036854775807) 9223372036854775807 c29a (l_rng z21) (l_rng z27) rfl
      refine g_iconst 1 33 (gd rfl) rfl rfl ?_
      refine g_goto 37 (gd rfl) rfl ?_
      exact g_ireturn (gd rfl) rfl (nb01 (in_w 0 1 (in_c 1 rfl) rfl)) (hP _ _ ⟨(Int32.ofInt 1), rfl, rfl, in_w 0 1 (in_c 1 rfl) rfl⟩)

def fm_324 : FM := ([136, 137], [], [], [])
/-- GraphHouseModel.sortShorts -/
theorem k_324 {Z : AmZ} {A : Nat → Nat} {s : GS} {ex : va_W} {d : Nat} {X : AmX}  (hd : 2 ≤ d) (hI : Inv s)  : GC Z d 324 [.ref (A 109)] (WW Z A s ++ ex) 0 0 (fun v u => ∃ t : GS, Inv t ∧ Fr fm_324 s t ∧ v = none ∧ u = WW Z A t ++ ex) X := by
  intro post xp hP hX
  obtain ⟨u_109_40, e_109_40⟩ : ∃ w, w = s.2.2.1 109 40 := ⟨_, rfl⟩
  have ro_109_40 := inv_F hI 0 2001 rfl e_109_40
  have ct25 : ∀ (k25 : Nat) (sc25 : GS) (y25_1 : Int32), Inv sc25 → Fr fm_324 s sc25 → (In y25_1 1 4608) → 5000 - (y25_1).toInt < (k25 : Int) → GG Z (d - 1) 324 post (gx xp) (1 + k25 * 18050424404) 25 (fun j => xlook j [(0, .ref (A 109)), (1, .int y25_1)]) [] (WW Z A sc25 ++ ex) 0 0 := by
    intro k25
    induction k25 with
    | zero => intro sc25 y25_1 hIc25 hFc25 j25_1 mm25; exfalso; (first | have a0 := in_u ro_109_40 | (have a0 := ro_109_40; unfold In at a0)); have a1 := j25_1; unfold In at a1; omega
    | succ k25 ih25 =>
      intro sc25 y25_1 hIc25 hFc25 j25_1 mm25
      refine gg_w (M := 1 + k25 * 18050424404 + 18050424404) gws ?_
      have ct223 : ∀ (k223 : Nat) (sc223 : GS) (y223_2 : Int32), Inv sc223 → Fr fm_324 s sc223 → (In y25_1 1 2001) → (In y223_2 0 2001) → 2001 - (y223_2).toInt < (k223 : Int) → GG Z (d - 1) 324 post (gx xp) (1 + k25 * 18050424404 + 1 + k223 * 900) 223 (fun j => xlook j [(0, .ref (A 109)), (1, .int y25_1), (2, .int y223_2)]) [] (WW Z A sc223 ++ ex) 0 0 := by
        intro k223
        induction k223 with
        | zero => intro sc223 y223_2 hIc223 hFc223 j223_1 j223_2 mm223; exact m_no mm223 j223_2 rfl
        | succ k223 ih223 =>
          intro sc223 y223_2 hIc223 hFc223 j223_1 j223_2 mm223
          refine gg_w (M := 1 + k25 * 18050424404 + 1 + k223 * 900 + 900) gws ?_
          refine g_iload_n 224 (gd rfl) rfl rfl ?_
          refine g_aload_n 225 (gd rfl) rfl rfl ?_
          refine g_getI 228 (gd rfl) rfl rfl rfl (fun z225 e225 => ?_)
          have q225 : u_109_40 = z225 := (fr_F e_109_40 hFc223 rfl).trans e225.symm
          subst q225
          refine g_cmp_ge 231 249 (gd rfl) rfl rfl (fun c228 => ?_) (fun c228 => ?_)
          · skip
            refine g_iload_n 250 (gd rfl) rfl rfl ?_
            refine g_iconst 2 251 (gd rfl) rfl rfl ?_
            refine g_imul 252 (gd rfl) rfl (fun z251 e251 => ?_)
            have i251 := in_mulc 2 2 4002 (Or.inr e251) j223_1 rfl rfl
            refine g_istore_n 253 (gd rfl) rfl (Nat.le_of_ble_eq_true rfl) ?_
            refine g_goto 25 (gd rfl) rfl ?_
            have m25 : 5000 - (z251).toInt < ((k25 : Nat) : Int) := by (first | have a0 := oa4 j223_1 ro_109_40 j223_2 i251 | ((first | have a0 := in_u j223_1 | (have a0 := j223_1; unfold In at a0)); (first | have a1 := in_u ro_109_40 | (have a1 := ro_109_40; unfold In at a1)); (first | have a2 := in_u j223_2 | (have a2 := j223_2; unfold In at a2)); (first | have a3 := in_u i251 | (have a3 := i251; unfold In at a3)))); have a4 := (t_mulc 2 (Or.inr e251) j223_1 rfl).1; omega
            exact gg_w (by first | exact Nat.le_add_right _ _ | exact gw2 | exact gw3 | exact gwe rfl | exact gwf rfl | exact gwg rfl | exact gwh rfl | omega) (gg_f (gf_cons rfl (gf_cons rfl gf_nil)) (ih25  sc223 z251 hIc223 hFc223 (in_w 1 4608 i251 rfl) m25))
          · skip
            have i228 := r_lt1 0 2000 c228 j223_2 ro_109_40 rfl
            have i228a := r_lt2 1 2001 c228 j223_2 ro_109_40 rfl
            refine g_aload_n 232 (gd rfl) rfl rfl ?_
            refine g_getA (q2 := 136) 235 (gd rfl) rfl rfl rfl rfl ?_
            refine g_iload_n 236 (gd rfl) rfl rfl ?_
            refine g_aload_n 237 (gd rfl) rfl rfl ?_
            refine g_getA (q2 := 137) 240 (gd rfl) rfl rfl rfl rfl ?_
            refine g_iload_n 241 (gd rfl) rfl rfl ?_
            refine g_iaload 242 (gd rfl) rfl (n := 2001) rfl (in_ix i228 rfl) (fun z241 e241 => ?_)
            have i241 := inv_I hIc223 (n := 2001) (t := 0) 0 2000 rfl (in_ix i228 rfl) rfl e241
            refine g_iastore 243 (gd rfl) rfl (n := 2001) rfl (in_ix i228 rfl) ?_
            have hI242 := inv_sI (q := 136) (j := y223_2.toNatClampNeg) hIc223 rfl (in_w 0 2000 i241 rfl)
            refine g_iinc 246 (gd rfl) rfl rfl (Nat.le_of_ble_eq_true rfl) (fun z243 e243 => ?_)
            have i243 := in_add 1 2001 e243 i228 (in_c 1 rfl) rfl rfl
            refine g_goto 223 (gd rfl) rfl ?_
            exact gg_w (by first | exact Nat.le_add_right _ _ | exact gw2 | exact gw3 | exact gwe rfl | exact gwf rfl | exact gwg rfl | exact gwh rfl | omega) (gg_f (gf_cons rfl (gf_cons rfl (gf_cons rfl gf_nil))) (ih223 (sI sc223 136 y223_2.toNatClampNeg z241) z243 hI242 (fr_sI rfl hFc223) (in_w 1 2001 j223_1 rfl) (in_w 0 2001 i243 rfl) (m_up mm223 (t_add e243 i228 (in_c 1 rfl) rfl) (in_w 1 1 (in_c 1 rfl) rfl))))
      have ct35 : ∀ (k35 : Nat) (sc35 : GS) (y35_2 : Int32), Inv sc35 → Fr fm_324 s sc35 → (In y25_1 1 2001) → (In y35_2 0 8000) → 10000 - (y35_2).toInt < (k35 : Int) → GG Z (d - 1) 324 post (gx xp) (1 + k25 * 18050424404 + 1801802 + k35 * 1804501) 35 (fun j => xlook j [(0, .ref (A 109)), (1, .int y25_1), (2, .int y35_2)]) [] (WW Z A sc35 ++ ex) 0 0 := by
        intro k35
        induction k35 with
        | zero => intro sc35 y35_2 hIc35 hFc35 j35_1 j35_2 mm35; exfalso; have a0 := j35_1; unfold In at a0; (first | have a1 := in_u ro_109_40 | (have a1 := ro_109_40; unfold In at a1)); have a2 := j35_2; unfold In at a2; omega
        | succ k35 ih35 =>
          intro sc35 y35_2 hIc35 hFc35 j35_1 j35_2 mm35
          refine gg_w (M := 1 + k25 * 18050424404 + 1801802 + k35 * 1804501 + 1804501) gws ?_
          have ct99 : ∀ (k99 : Nat) (sc99 : GS) (y99_3 : Int32) (y99_4 : Int32) (y99_5 : Int32) (y99_6 : Int32) (y99_7 : Int32), Inv sc99 → Fr fm_324 s sc99 → (In y35_2 0 2001) → (In y99_3 0 2001) → (In y99_4 0 2001) → (In y99_5 0 2001) → (In y99_6 0 2001) → (In y99_7 0 2001) → ((y99_5).toInt + (y99_6).toInt = (y99_7).toInt + (y99_3).toInt) → ((y99_5).toInt ≤ (y99_3).toInt) → ((y99_6).toInt ≤ (y99_4).toInt) → ((y99_3).toInt ≤ (y99_6).toInt) → ((y35_2).toInt ≤ (y99_5).toInt) → ((y99_4).toInt ≤ (u_109_40).toInt) → ((y99_7).toInt ≤ (y99_4).toInt) → 2001 - (y99_7).toInt < (k99 : Int) → GG Z (d - 1) 324 post (gx xp) (1 + k25 * 18050424404 + 1801802 + k35 * 1804501 + 1 + k99 * 900) 99 (fun j => xlook j [(0, .ref (A 109)), (1, .int y25_1), (2, .int y35_2), (3, .int y99_3), (4, .int y99_4), (5, .int y99_5), (6, .int y99_6), (7, .int y99_7)]) [] (WW Z A sc99 ++ ex) 0 0 := by
            intro k99
            induction k99 with
            | zero => intro sc99 y99_3 y99_4 y99_5 y99_6 y99_7 hIc99 hFc99 j99_2 j99_3 j99_4 j99_5 j99_6 j99_7 n99_0 n99_1 n99_2 n99_3 n99_4 n99_5 n99_6 mm99; exact m_no mm99 j99_7 rfl
            | succ k99 ih99 =>
              intro sc99 y99_3 y99_4 y99_5 y99_6 y99_7 hIc99 hFc99 j99_2 j99_3 j99_4 j99_5 j99_6 j99_7 n99_0 n99_1 n99_2 n99_3 n99_4 n99_5 n99_6 mm99
              refine gg_w (M := 1 + k25 * 18050424404 + 1801802 + k35 * 1804501 + 1 + k99 * 900 + 900) gws ?_
              refine g_iload 101 (gd rfl) rfl rfl ?_
              refine g_iload 103 (gd rfl) rfl rfl ?_
              refine g_cmp_ge 106 212 (gd rfl) rfl rfl (fun c103 => ?_) (fun c103 => ?_)
              · skip
                refine g_iload_n 213 (gd rfl) rfl rfl ?_
                refine g_iconst 2 214 (gd rfl) rfl rfl ?_
                refine g_iload_n 215 (gd rfl) rfl rfl ?_
                refine g_imul 216 (gd rfl) rfl (fun z215 e215 => ?_)
                have i215 := in_mulc 2 2 4002 (Or.inl e215) j35_1 rfl rfl
                refine g_iadd 217 (gd rfl) rfl (fun z216 e216 => ?_)
                have i216 := in_add 2 6003 e216 j99_2 i215 rfl rfl
                refine g_istore_n 218 (gd rfl) rfl (Nat.le_of_ble_eq_true rfl) ?_
                refine g_goto 35 (gd rfl) rfl ?_
                have m35 : 10000 - (z216).toInt < ((k35 : Nat) : Int) := by (first | have a0 := oa9 j99_2 j35_1 ro_109_40 j99_7 j99_6 j99_5 j99_4 j99_3 i216 | ((first | have a0 := in_u j99_2 | (have a0 := j99_2; unfold In at a0)); (first | have a1 := in_u j35_1 | (have a1 := j35_1; unfold In at a1)); (first | have a2 := in_u ro_109_40 | (have a2 := ro_109_40; unfold In at a2)); (first | have a3 := in_u j99_7 | (have a3 := j99_7; unfold In at a3)); (first | have a4 := in_u j99_6 | (have a4 := j99_6; unfold In at a4)); (first | have a5 := in_u j99_5 | (have a5 := j99_5; unfold In at a5)); (first | have a6 := in_u j99_4 | (have a6 := j99_4; unfold In at a6)); (first | have a7 := in_u j99_3 | (have a7 := j99_3; unfold In at a7)); (first | have a8 := in_u i216 | (have a8 := i216; unfold In at a8)))); have a9 := t_add e216 j99_2 i215 rfl; (first | have a10 := in_u i215 | (have a10 := i215; unfold In at a10)); have a11 := (t_mulc 2 (Or.inl e215) j35_1 rfl).1; omega
                exact gg_w (by first | exact Nat.le_add_right _ _ | exact gw2 | exact gw3 | exact gwe rfl | exact gwf rfl | exact gwg rfl | exact gwh rfl | omega) (gg_f (gf_cons rfl (gf_cons rfl (gf_cons rfl gf_nil))) (ih35  sc99 z216 hIc99 hFc99 (in_w 1 2001 j35_1 rfl) (in_w 0 8000 i216 rfl) m35))
              · skip
                have i103 := r_lt1 0 2000 c103 j99_7 j99_4 rfl
                have i103a := r_lt2 1 2001 c103 j99_7 j99_4 rfl
                refine g_iload 108 (gd rfl) rfl rfl ?_
                refine g_iload_n 109 (gd rfl) rfl rfl ?_
                refine g_cmp_ge 112 144 (gd rfl) rfl rfl (fun c109 => ?_) (fun c109 => ?_)
                · skip
                  refine g_iconst 0 145 (gd rfl) rfl rfl ?_
                  refine g_istore 147 (gd rfl) rfl (Nat.le_of_ble_eq_true rfl) ?_
                  refine g_aload_n 148 (gd rfl) rfl rfl ?_
                  refine g_getA (q2 := 137) 151 (gd rfl) rfl rfl rfl rfl ?_
                  refine g_iload 153 (gd rfl) rfl rfl ?_
                  refine g_iload 155 (gd rfl) rfl rfl ?_
                  refine g_if_eq 158 168 (gd rfl) rfl rfl (fun c155 => ?_) (fun c155 => ?_)
                  · skip
                    refine g_aload_n 169 (gd rfl) rfl rfl ?_
                    refine g_getA (q2 := 136) 172 (gd rfl) rfl rfl rfl rfl ?_
                    refine g_iload 174 (gd rfl) rfl rfl ?_
                    have i174 : In y99_6 0 2000 := by (first | have a0 := oa9 j99_2 j35_1 ro_109_40 i103 j99_6 j99_5 i103a j99_3 ((in_c 0 rfl)) | ((first | have a0 := in_u j99_2 | (have a0 := j99_2; unfold In at a0)); (first | have a1 := in_u j35_1 | (have a1 := j35_1; unfold In at a1)); (first | have a2 := in_u ro_109_40 | (have a2 := ro_109_40; unfold In at a2)); (first | have a3 := in_u i103 | (have a3 := i103; unfold In at a3)); (first | have a4 := in_u j99_6 | (have a4 := j99_6; unfold In at a4)); (first | have a5 := in_u j99_5 | (have a5 := j99_5; unfold In at a5)); (first | have a6 := in_u i103a | (have a6 := i103a; unfold In at a6)); (first | have a7 := in_u j99_3 | (have a7 := j99_3; unfold In at a7)); (first | have a8 := in_u ((in_c 0 rfl)) | (have a8 := (in_c 0 rfl); unfold In at a8)))); exact ⟨by omega, by omega⟩
                    refine g_iaload 175 (gd rfl) rfl (n := 2001) rfl (in_ix i174 rfl) (fun z174 e174 => ?_)
                    have i174a := inv_I hIc99 (n := 2001) (t := 0) 0 2000 rfl (in_ix i174 rfl) rfl e174
                    refine g_iastore 176 (gd rfl) rfl (n := 2001) rfl (in_ix i103 rfl) ?_
                    have hI175 := inv_sI (q := 137) (j := y99_7.toNatClampNeg) hIc99 rfl (in_w 0 2000 i174a rfl)
                    refine g_iload 178 (gd rfl) rfl rfl ?_
                    refine g_iload 180 (gd rfl) rfl rfl ?_
                    refine g_if_eq 183 187 (gd rfl) rfl rfl (fun c180 => ?_) (fun c180 => ?_)
                    · skip
                      refine g_iconst 0 188 (gd rfl) rfl rfl ?_
                      refine g_iadd 189 (gd rfl) rfl (fun z188 e188 => ?_)
                      have i188 := in_add 0 2001 e188 j99_5 (in_c 0 rfl) rfl rfl
                      refine g_istore 191 (gd rfl) rfl (Nat.le_of_ble_eq_true rfl) ?_
                      refine g_iload 193 (gd rfl) rfl rfl ?_
                      refine g_iload 195 (gd rfl) rfl rfl ?_
                      refine g_if_eq 198 202 (gd rfl) rfl rfl (fun c195 => ?_) (fun c195 => ?_)
                      · skip
                        refine g_iconst 1 203 (gd rfl) rfl rfl ?_
                        refine g_iadd 204 (gd rfl) rfl (fun z203 e203 => ?_)
                        have i203 := in_add 1 2001 e203 i174 (in_c 1 rfl) rfl rfl
                        refine g_istore 206 (gd rfl) rfl (Nat.le_of_ble_eq_true rfl) ?_
                        refine g_iinc 209 (gd rfl) rfl rfl (Nat.le_of_ble_eq_true rfl) (fun z206 e206 => ?_)
                        have i206 := in_add 1 2001 e206 i103 (in_c 1 rfl) rfl rfl
                        refine g_goto 99 (gd rfl) rfl ?_
                        have n99 : (z188).toInt + (z203).toInt = (z206).toInt + (y99_3).toInt := by (first | have a0 := oa10 j99_2 j35_1 ro_109_40 i103 i174 j99_5 i103a j99_3 ((in_c 0 rfl)) i206 | ((first | have a0 := in_u j99_2 | (have a0 := j99_2; unfold In at a0)); (first | have a1 := in_u j35_1 | (have a1 := j35_1; unfold In at a1)); (first | have a2 := in_u ro_109_40 | (have a2 := ro_109_40; unfold In at a2)); (first | have a3 := in_u i103 | (have a3 := i103; unfold In at a3)); (first | have a4 := in_u i174 | (have a4 := i174; unfold In at a4)); (first | have a5 := in_u j99_5 | (have a5 := j99_5; unfold In at a5)); (first | have a6 := in_u i103a | (have a6 := i103a; unfold In at a6)); (first | have a7 := in_u j99_3 | (have a7 := j99_3; unfold In at a7)); (first | have a8 := in_u ((in_c 0 rfl)) | (have a8 := (in_c 0 rfl); unfold In at a8)); (first | have a9 := in_u i206 | (have a9 := i206; unfold In at a9)))); have a10 := t_add e206 i103 (in_c 1 rfl) rfl; (first | have a11 := oa2 ((in_c 1 rfl)) i203 | ((first | have a11 := in_u ((in_c 1 rfl)) | (have a11 := (in_c 1 rfl); unfold In at a11)); (first | have a12 := in_u i203 | (have a12 := i203; unfold In at a12)))); have a13 := t_add e203 i174 (in_c 1 rfl) rfl; (first | have a14 := in_u i188 | (have a14 := i188; unfold In at a14)); have a15 := t_add e188 j99_5 (in_c 0 rfl) rfl; omega
                        have n99a : (z188).toInt ≤ (y99_3).toInt := by (first | have a0 := oa10 j99_2 j35_1 ro_109_40 i103 i174 j99_5 i103a j99_3 ((in_c 0 rfl)) i206 | ((first | have a0 := in_u j99_2 | (have a0 := j99_2; unfold In at a0)); (first | have a1 := in_u j35_1 | (have a1 := j35_1; unfold In at a1)); (first | have a2 := in_u ro_109_40 | (have a2 := ro_109_40; unfold In at a2)); (first | have a3 := in_u i103 | (have a3 := i103; unfold In at a3)); (first | have a4 := in_u i174 | (have a4 := i174; unfold In at a4)); (first | have a5 := in_u j99_5 | (have a5 := j99_5; unfold In at a5)); (first | have a6 := in_u i103a | (have a6 := i103a; unfold In at a6)); (first | have a7 := in_u j99_3 | (have a7 := j99_3; unfold In at a7)); (first | have a8 := in_u ((in_c 0 rfl)) | (have a8 := (in_c 0 rfl); unfold In at a8)); (first | have a9 := in_u i206 | (have a9 := i206; unfold In at a9)))); have a10 := t_add e206 i103 (in_c 1 rfl) rfl; (first | have a11 := oa2 ((in_c 1 rfl)) i203 | ((first | have a11 := in_u ((in_c 1 rfl)) | (have a11 := (in_c 1 rfl); unfold In at a11)); (first | have a12 := in_u i203 | (have a12 := i203; unfold In at a12)))); have a13 := t_add e203 i174 (in_c 1 rfl) rfl; (first | have a14 := in_u i188 | (have a14 := i188; unfold In at a14)); have a15 := t_add e188 j99_5 (in_c 0 rfl) rfl; omega
                        have n99b : (z203).toInt ≤ (y99_4).toInt := by (first | have a0 := oa10 j99_2 j35_1 ro_109_40 i103 i174 j99_5 i103a j99_3 ((in_c 0 rfl)) i206 | ((first | have a0 := in_u j99_2 | (have a0 := j99_2; unfold In at a0)); (first | have a1 := in_u j35_1 | (have a1 := j35_1; unfold In at a1)); (first | have a2 := in_u ro_109_40 | (have a2 := ro_109_40; unfold In at a2)); (first | have a3 := in_u i103 | (have a3 := i103; unfold In at a3)); (first | have a4 := in_u i174 | (have a4 := i174; unfold In at a4)); (first | have a5 := in_u j99_5 | (have a5 := j99_5; unfold In at a5)); (first | have a6 := in_u i103a | (have a6 := i103a; unfold In at a6)); (first | have a7 := in_u j99_3 | (have a7 := j99_3; unfold In at a7)); (first | have a8 := in_u ((in_c 0 rfl)) | (have a8 := (in_c 0 rfl); unfold In at a8)); (first | have a9 := in_u i206 | (have a9 := i206; unfold In at a9)))); have a10 := t_add e206 i103 (in_c 1 rfl) rfl; (first | have a11 := oa2 ((in_c 1 rfl)) i203 | ((first | have a11 := in_u ((in_c 1 rfl)) | (have a11 := (in_c 1 rfl); unfold In at a11)); (first | have a12 := in_u i203 | (have a12 := i203; unfold In at a12)))); have a13 := t_add e203 i174 (in_c 1 rfl) rfl; (first | have a14 := in_u i188 | (have a14 := i188; unfold In at a14)); have a15 := t_add e188 j99_5 (in_c 0 rfl) rfl; omega
                        have n99c : (y99_3).toInt ≤ (z203).toInt := by (first | have a0 := oa10 j99_2 j35_1 ro_109_40 i103 i174 j99_5 i103a j99_3 ((in_c 0 rfl)) i206 | ((first | have a0 := in_u j99_2 | (have a0 := j99_2; unfold In at a0)); (first | have a1 := in_u j35_1 | (have a1 := j35_1; unfold In at a1)); (first | have a2 := in_u ro_109_40 | (have a2 := ro_109_40; unfold In at a2)); (first | have a3 := in_u i103 | (have a3 := i103; unfold In at a3)); (first | have a4 := in_u i174 | (have a4 := i174; unfold In at a4)); (first | have a5 := in_u j99_5 | (have a5 := j99_5; unfold In at a5)); (first | have a6 := in_u i103a | (have a6 := i103a; unfold In at a6)); (first | have a7 := in_u j99_3 | (have a7 := j99_3; unfold In at a7)); (first | have a8 := in_u ((in_c 0 rfl)) | (have a8 := (in_c 0 rfl); unfold In at a8)); (first | have a9 := in_u i206 | (have a9 := i206; unfold In at a9)))); have a10 := t_add e206 i103 (in_c 1 rfl) rfl; (first | have a11 := oa2 ((in_c 1 rfl)) i203 | ((first | have a11 := in_u ((in_c 1 rfl)) | (have a11 := (in_c 1 rfl); unfold In at a11)); (first | have a12 := in_u i203 | (have a12 := i203; unfold In at a12)))); have a13 := t_add e203 i174 (in_c 1 rfl) rfl; (first | have a14 := in_u i188 | (have a14 := i188; unfold In at a14)); have a15 := t_add e188 j99_5 (in_c 0 rfl) rfl; omega
                        have n99d : (y35_2).toInt ≤ (z188).toInt := by (first | have a0 := oa10 j99_2 j35_1 ro_109_40 i103 i174 j99_5 i103a j99_3 ((in_c 0 rfl)) i206 | ((first | have a0 := in_u j99_2 | (have a0 := j99_2; unfold In at a0)); (first | have a1 := in_u j35_1 | (have a1 := j35_1; unfold In at a1)); (first | have a2 := in_u ro_109_40 | (have a2 := ro_109_40; unfold In at a2)); (first | have a3 := in_u i103 | (have a3 := i103; unfold In at a3)); (first | have a4 := in_u i174 | (have a4 := i174; unfold In at a4)); (first | have a5 := in_u j99_5 | (have a5 := j99_5; unfold In at a5)); (first | have a6 := in_u i103a | (have a6 := i103a; unfold In at a6)); (first | have a7 := in_u j99_3 | (have a7 := j99_3; unfold In at a7)); (first | have a8 := in_u ((in_c 0 rfl)) | (have a8 := (in_c 0 rfl); unfold In at a8)); (first | have a9 := in_u i206 | (have a9 := i206; unfold In at a9)))); have a10 := t_add e206 i103 (in_c 1 rfl) rfl; (first | have a11 := oa2 ((in_c 1 rfl)) i203 | ((first | have a11 := in_u ((in_c 1 rfl)) | (have a11 := (in_c 1 rfl); unfold In at a11)); (first | have a12 := in_u i203 | (have a12 := i203; unfold In at a12)))); have a13 := t_add e203 i174 (in_c 1 rfl) rfl; (first | have a14 := in_u i188 | (have a14 := i188; unfold In at a14)); have a15 := t_add e188 j99_5 (in_c 0 rfl) rfl; omega
                        have n99e : (y99_4).toInt ≤ (u_109_40).toInt := by first | exact n99_5 | ((first | have a0 := oa10 j99_2 j35_1 ro_109_40 i103 i174 j99_5 i103a j99_3 ((in_c 0 rfl)) i206 | ((first | have a0 := in_u j99_2 | (have a0 := j99_2; unfold In at a0)); (first | have a1 := in_u j35_1 | (have a1 := j35_1; unfold In at a1)); (first | have a2 := in_u ro_109_40 | (have a2 := ro_109_40; unfold In at a2)); (first | have a3 := in_u i103 | (have a3 := i103; unfold In at a3)); (first | have a4 := in_u i174 | (have a4 := i174; unfold In at a4)); (first | have a5 := in_u j99_5 | (have a5 := j99_5; unfold In at a5)); (first | have a6 := in_u i103a | (have a6 := i103a; unfold In at a6)); (first | have a7 := in_u j99_3 | (have a7 := j99_3; unfold In at a7)); (first | have a8 := in_u ((in_c 0 rfl)) | (have a8 := (in_c 0 rfl); unfold In at a8)); (first | have a9 := in_u i206 | (have a9 := i206; unfold In at a9)))); have a10 := t_add e206 i103 (in_c 1 rfl) rfl; (first | have a11 := oa2 ((in_c 1 rfl)) i203 | ((first | have a11 := in_u ((in_c 1 rfl)) | (have a11 := (in_c 1 rfl); unfold In at a11)); (first | have a12 := in_u i203 | (have a12 := i203; unfold In at a12)))); have a13 := t_add e203 i174 (in_c 1 rfl) rfl; (first | have a14 := in_u i188 | (have a14 := i188; unfold In at a14)); have a15 := t_add e188 j99_5 (in_c 0 rfl) rfl; omega)
                        have n99f : (z206).toInt ≤ (y99_4).toInt := by (first | have a0 := oa10 j99_2 j35_1 ro_109_40 i103 i174 j99_5 i103a j99_3 ((in_c 0 rfl)) i206 | ((first | have a0 := in_u j99_2 | (have a0 := j99_2; unfold In at a0)); (first | have a1 := in_u j35_1 | (have a1 := j35_1; unfold In at a1)); (first | have a2 := in_u ro_109_40 | (have a2 := ro_109_40; unfold In at a2)); (first | have a3 := in_u i103 | (have a3 := i103; unfold In at a3)); (first | have a4 := in_u i174 | (have a4 := i174; unfold In at a4)); (first | have a5 := in_u j99_5 | (have a5 := j99_5; unfold In at a5)); (first | have a6 := in_u i103a | (have a6 := i103a; unfold In at a6)); (first | have a7 := in_u j99_3 | (have a7 := j99_3; unfold In at a7)); (first | have a8 := in_u ((in_c 0 rfl)) | (have a8 := (in_c 0 rfl); unfold In at a8)); (first | have a9 := in_u i206 | (have a9 := i206; unfold In at a9)))); have a10 := t_add e206 i103 (in_c 1 rfl) rfl; (first | have a11 := oa2 ((in_c 1 rfl)) i203 | ((first | have a11 := in_u ((in_c 1 rfl)) | (have a11 := (in_c 1 rfl); unfold In at a11)); (first | have a12 := in_u i203 | (have a12 := i203; unfold In at a12)))); have a13 := t_add e203 i174 (in_c 1 rfl) rfl; (first | have a14 := in_u i188 | (have a14 := i188; unfold In at a14)); have a15 := t_add e188 j99_5 (in_c 0 rfl) rfl; omega
                        exact gg_w (by first | exact Nat.le_add_right _ _ | exact gw2 | exact gw3 | exact gwe rfl | exact gwf rfl | exact gwg rfl | exact gwh rfl | omega) (gg_f (gf_cons rfl (gf_cons rfl (gf_cons rfl (gf_cons rfl (gf_cons rfl (gf_cons rfl (gf_cons rfl (gf_cons rfl gf_nil)))))))) (ih99 (sI sc99 137 y99_7.toNatClampNeg z174) y99_3 y99_4 z188 z203 z206 hI175 (fr_sI rfl hFc99) (in_w 0 2001 j99_2 rfl) (in_w 0 2001 j99_3 rfl) (in_w 0 2001 i103a rfl) (in_w 0 2001 i188 rfl) (in_w 0 2001 i203 rfl) (in_w 0 2001 i206 rfl) n99 n99a n99b n99c n99d n99e n99f (m_up mm99 (t_add e206 i103 (in_c 1 rfl) rfl) (in_w 1 1 (in_c 1 rfl) rfl))))
                      · skip
                        exact zn_ne c195 (in_c 0 rfl) rfl
                    · skip
                      exact zn_ne c180 (in_c 0 rfl) rfl
                  · skip
                    exact zn_ne c155 (in_c 0 rfl) rfl
                · skip
                  have i109 := r_lt1 0 2000 c109 j99_5 j99_3 rfl
                  have i109a := r_lt2 1 2001 c109 j99_5 j99_3 rfl
                  refine g_iload 114 (gd rfl) rfl rfl ?_
                  refine g_iload 116 (gd rfl) rfl rfl ?_
                  refine g_cmp_eq 119 140 (gd rfl) rfl rfl (fun c116 => ?_) (fun c116 => ?_)
                  · skip
                    have i116 := r_eq1 1 2001 c116 j99_6 i103a rfl
                    refine g_iconst 1 141 (gd rfl) rfl rfl ?_
                    refine g_goto 145 (gd rfl) rfl ?_
                    refine g_istore 147 (gd rfl) rfl (Nat.le_of_ble_eq_true rfl) ?_
                    refine g_aload_n 148 (gd rfl) rfl rfl ?_
                    refine g_getA (q2 := 137) 151 (gd rfl) rfl rfl rfl rfl ?_
                    refine g_iload 153 (gd rfl) rfl rfl ?_
                    refine g_iload 155 (gd rfl) rfl rfl ?_
                    refine g_if_eq 158 168 (gd rfl) rfl rfl (fun c155 => ?_) (fun c155 => ?_)
                    · skip
                      exact zn_eq c155 (in_c 1 rfl) rfl
                    · skip
                      refine g_aload_n 159 (gd rfl) rfl rfl ?_
                      refine g_getA (q2 := 136) 162 (gd rfl) rfl rfl rfl rfl ?_
                      refine g_iload 164 (gd rfl) rfl rfl ?_
                      refine g_iaload 165 (gd rfl) rfl (n := 2001) rfl (in_ix i109 rfl) (fun z164 e164 => ?_)
                      have i164 := inv_I hIc99 (n := 2001) (t := 0) 0 2000 rfl (in_ix i109 rfl) rfl e164
                      refine g_goto 175 (gd rfl) rfl ?_
                      refine g_iastore 176 (gd rfl) rfl (n := 2001) rfl (in_ix i103 rfl) ?_
                      have hI175 := inv_sI (q := 137) (j := y99_7.toNatClampNeg) hIc99 rfl (in_w 0 2000 i164 rfl)
                      refine g_iload 178 (gd rfl) rfl rfl ?_
                      refine g_iload 180 (gd rfl) rfl rfl ?_
                      refine g_if_eq 183 187 (gd rfl) rfl rfl (fun c180 => ?_) (fun c180 => ?_)
                      · skip
                        exact zn_eq c180 (in_c 1 rfl) rfl
                      · skip
                        refine g_iconst 1 184 (gd rfl) rfl rfl ?_
                        refine g_goto 188 (gd rfl) rfl ?_
                        refine g_iadd 189 (gd rfl) rfl (fun z188 e188 => ?_)
                        have i188 := in_add 1 2001 e188 i109 (in_c 1 rfl) rfl rfl
                        refine g_istore 191 (gd rfl) rfl (Nat.le_of_ble_eq_true rfl) ?_
                        refine g_iload 193 (gd rfl) rfl rfl ?_
                        refine g_iload 195 (gd rfl) rfl rfl ?_
                        refine g_if_eq 198 202 (gd rfl) rfl rfl (fun c195 => ?_) (fun c195 => ?_)
                        · skip
                          exact zn_eq c195 (in_c 1 rfl) rfl
                        · skip
                          refine g_iconst 0 199 (gd rfl) rfl rfl ?_
                          refine g_goto 203 (gd rfl) rfl ?_
                          refine g_iadd 204 (gd rfl) rfl (fun z203 e203 => ?_)
                          have i203 := in_add 1 2001 e203 i116 (in_c 0 rfl) rfl rfl
                          refine g_istore 206 (gd rfl) rfl (Nat.le_of_ble_eq_true rfl) ?_
                          refine g_iinc 209 (gd rfl) rfl rfl (Nat.le_of_ble_eq_true rfl) (fun z206 e206 => ?_)
                          have i206 := in_add 1 2001 e206 i103 (in_c 1 rfl) rfl rfl
                          refine g_goto 99 (gd rfl) rfl ?_
                          have n99 : (z188).toInt + (z203).toInt = (z206).toInt + (y99_3).toInt := by (first | have a0 := oa10 j99_2 j35_1 ro_109_40 i103 i116 i109 i103a i109a ((in_c 1 rfl)) i206 | ((first | have a0 := in_u j99_2 | (have a0 := j99_2; unfold In at a0)); (first | have a1 := in_u j35_1 | (have a1 := j35_1; unfold In at a1)); (first | have a2 := in_u ro_109_40 | (have a2 := ro_109_40; unfold In at a2)); (first | have a3 := in_u i103 | (have a3 := i103; unfold In at a3)); (first | have a4 := in_u i116 | (have a4 := i116; unfold In at a4)); (first | have a5 := in_u i109 | (have a5 := i109; unfold In at a5)); (first | have a6 := in_u i103a | (have a6 := i103a; unfold In at a6)); (first | have a7 := in_u i109a | (have a7 := i109a; unfold In at a7)); (first | have a8 := in_u ((in_c 1 rfl)) | (have a8 := (in_c 1 rfl); unfold In at a8)); (first | have a9 := in_u i206 | (have a9 := i206; unfold In at a9)))); have a10 := t_add e206 i103 (in_c 1 rfl) rfl; (first | have a11 := in_u i203 | (have a11 := i203; unfold In at a11)); have a12 := t_add e203 i116 (in_c 0 rfl) rfl; (first | have a13 := oa2 ((in_c 0 rfl)) i188 | ((first | have a13 := in_u ((in_c 0 rfl)) | (have a13 := (in_c 0 rfl); unfold In at a13)); (first | have a14 := in_u i188 | (have a14 := i188; unfold In at a14)))); have a15 := t_add e188 i109 (in_c 1 rfl) rfl; omega
                          have n99a : (z188).toInt ≤ (y99_3).toInt := by (first | have a0 := oa10 j99_2 j35_1 ro_109_40 i103 i116 i109 i103a i109a ((in_c 1 rfl)) i206 | ((first | have a0 := in_u j99_2 | (have a0 := j99_2; unfold In at a0)); (first | have a1 := in_u j35_1 | (have a1 := j35_1; unfold In at a1)); (first | have a2 := in_u ro_109_40 | (have a2 := ro_109_40; unfold In at a2)); (first | have a3 := in_u i103 | (have a3 := i103; unfold In at a3)); (first | have a4 := in_u i116 | (have a4 := i116; unfold In at a4)); (first | have a5 := in_u i109 | (have a5 := i109; unfold In at a5)); (first | have a6 := in_u i103a | (have a6 := i103a; unfold In at a6)); (first | have a7 := in_u i109a | (have a7 := i109a; unfold In at a7)); (first | have a8 := in_u ((in_c 1 rfl)) | (have a8 := (in_c 1 rfl); unfold In at a8)); (first | have a9 := in_u i206 | (have a9 := i206; unfold In at a9)))); have a10 := t_add e206 i103 (in_c 1 rfl) rfl; (first | have a11 := in_u i203 | (have a11 := i203; unfold In at a11)); have a12 := t_add e203 i116 (in_c 0 rfl) rfl; (first | have a13 := oa2 ((in_c 0 rfl)) i188 | ((first | have a13 := in_u ((in_c 0 rfl)) | (have a13 := (in_c 0 rfl); unfold In at a13)); (first | have a14 := in_u i188 | (have a14 := i188; unfold In at a14)))); have a15 := t_add e188 i109 (in_c 1 rfl) rfl; omega
                          have n99b : (z203).toInt ≤ (y99_4).toInt := by (first | have a0 := oa10 j99_2 j35_1 ro_109_40 i103 i116 i109 i103a i109a ((in_c 1 rfl)) i206 | ((first | have a0 := in_u j99_2 | (have a0 := j99_2; unfold In at a0)); (first | have a1 := in_u j35_1 | (have a1 := j35_1; unfold In at a1)); (first | have a2 := in_u ro_109_40 | (have a2 := ro_109_40; unfold In at a2)); (first | have a3 := in_u i103 | (have a3 := i103; unfold In at a3)); (first | have a4 := in_u i116 | (have a4 := i116; unfold In at a4)); (first | have a5 := in_u i109 | (have a5 := i109; unfold In at a5)); (first | have a6 := in_u i103a | (have a6 := i103a; unfold In at a6)); (first | have a7 := in_u i109a | (have a7 := i109a; unfold In at a7)); (first | have a8 := in_u ((in_c 1 rfl)) | (have a8 := (in_c 1 rfl); unfold In at a8)); (first | have a9 := in_u i206 | (have a9 := i206; unfold In at a9)))); have a10 := t_add e206 i103 (in_c 1 rfl) rfl; (first | have a11 := in_u i203 | (have a11 := i203; unfold In at a11)); have a12 := t_add e203 i116 (in_c 0 rfl) rfl; (first | have a13 := oa2 ((in_c 0 rfl)) i188 | ((first | have a13 := in_u ((in_c 0 rfl)) | (have a13 := (in_c 0 rfl); unfold In at a13)); (first | have a14 := in_u i188 | (have a14 := i188; unfold In at a14)))); have a15 := t_add e188 i109 (in_c 1 rfl) rfl; omega
                          have n99c : (y99_3).toInt ≤ (z203).toInt := by (first | have a0 := oa10 j99_2 j35_1 ro_109_40 i103 i116 i109 i103a i109a ((in_c 1 rfl)) i206 | ((first | have a0 := in_u j99_2 | (have a0 := j99_2; unfold In at a0)); (first | have a1 := in_u j35_1 | (have a1 := j35_1; unfold In at a1)); (first | have a2 := in_u ro_109_40 | (have a2 := ro_109_40; unfold In at a2)); (first | have a3 := in_u i103 | (have a3 := i103; unfold In at a3)); (first | have a4 := in_u i116 | (have a4 := i116; unfold In at a4)); (first | have a5 := in_u i109 | (have a5 := i109; unfold In at a5)); (first | have a6 := in_u i103a | (have a6 := i103a; unfold In at a6)); (first | have a7 := in_u i109a | (have a7 := i109a; unfold In at a7)); (first | have a8 := in_u ((in_c 1 rfl)) | (have a8 := (in_c 1 rfl); unfold In at a8)); (first | have a9 := in_u i206 | (have a9 := i206; unfold In at a9)))); have a10 := t_add e206 i103 (in_c 1 rfl) rfl; (first | have a11 := in_u i203 | (have a11 := i203; unfold In at a11)); have a12 := t_add e203 i116 (in_c 0 rfl) rfl; (first | have a13 := oa2 ((in_c 0 rfl)) i188 | ((first | have a13 := in_u ((in_c 0 rfl)) | (have a13 := (in_c 0 rfl); unfold In at a13)); (first | have a14 := in_u i188 | (have a14 := i188; unfold In at a14)))); have a15 := t_add e188 i109 (in_c 1 rfl) rfl; omega
                          have n99d : (y35_2).toInt ≤ (z188).toInt := by (first | have a0 := oa10 j99_2 j35_1 ro_109_40 i103 i116 i109 i103a i109a ((in_c 1 rfl)) i206 | ((first | have a0 := in_u j99_2 | (have a0 := j99_2; unfold In at a0)); (first | have a1 := in_u j35_1 | (have a1 := j35_1; unfold In at a1)); (first | have a2 := in_u ro_109_40 | (have a2 := ro_109_40; unfold In at a2)); (first | have a3 := in_u i103 | (have a3 := i103; unfold In at a3)); (first | have a4 := in_u i116 | (have a4 := i116; unfold In at a4)); (first | have a5 := in_u i109 | (have a5 := i109; unfold In at a5)); (first | have a6 := in_u i103a | (have a6 := i103a; unfold In at a6)); (first | have a7 := in_u i109a | (have a7 := i109a; unfold In at a7)); (first | have a8 := in_u ((in_c 1 rfl)) | (have a8 := (in_c 1 rfl); unfold In at a8)); (first | have a9 := in_u i206 | (have a9 := i206; unfold In at a9)))); have a10 := t_add e206 i103 (in_c 1 rfl) rfl; (first | have a11 := in_u i203 | (have a11 := i203; unfold In at a11)); have a12 := t_add e203 i116 (in_c 0 rfl) rfl; (first | have a13 := oa2 ((in_c 0 rfl)) i188 | ((first | have a13 := in_u ((in_c 0 rfl)) | (have a13 := (in_c 0 rfl); unfold In at a13)); (first | have a14 := in_u i188 | (have a14 := i188; unfold In at a14)))); have a15 := t_add e188 i109 (in_c 1 rfl) rfl; omega
                          have n99e : (y99_4).toInt ≤ (u_109_40).toInt := by first | exact n99_5 | ((first | have a0 := oa10 j99_2 j35_1 ro_109_40 i103 i116 i109 i103a i109a ((in_c 1 rfl)) i206 | ((first | have a0 := in_u j99_2 | (have a0 := j99_2; unfold In at a0)); (first | have a1 := in_u j35_1 | (have a1 := j35_1; unfold In at a1)); (first | have a2 := in_u ro_109_40 | (have a2 := ro_109_40; unfold In at a2)); (first | have a3 := in_u i103 | (have a3 := i103; unfold In at a3)); (first | have a4 := in_u i116 | (have a4 := i116; unfold In at a4)); (first | have a5 := in_u i109 | (have a5 := i109; unfold In at a5)); (first | have a6 := in_u i103a | (have a6 := i103a; unfold In at a6)); (first | have a7 := in_u i109a | (have a7 := i109a; unfold In at a7)); (first | have a8 := in_u ((in_c 1 rfl)) | (have a8 := (in_c 1 rfl); unfold In at a8)); (first | have a9 := in_u i206 | (have a9 := i206; unfold In at a9)))); have a10 := t_add e206 i103 (in_c 1 rfl) rfl; (first | have a11 := in_u i203 | (have a11 := i203; unfold In at a11)); have a12 := t_add e203 i116 (in_c 0 rfl) rfl; (first | have a13 := oa2 ((in_c 0 rfl)) i188 | ((first | have a13 := in_u ((in_c 0 rfl)) | (have a13 := (in_c 0 rfl); unfold In at a13)); (first | have a14 := in_u i188 | (have a14 := i188; unfold In at a14)))); have a15 := t_add e188 i109 (in_c 1 rfl) rfl; omega)
                          have n99f : (z206).toInt ≤ (y99_4).toInt := by (first | have a0 := oa10 j99_2 j35_1 ro_109_40 i103 i116 i109 i103a i109a ((in_c 1 rfl)) i206 | ((first | have a0 := in_u j99_2 | (have a0 := j99_2; unfold In at a0)); (first | have a1 := in_u j35_1 | (have a1 := j35_1; unfold In at a1)); (first | have a2 := in_u ro_109_40 | (have a2 := ro_109_40; unfold In at a2)); (first | have a3 := in_u i103 | (have a3 := i103; unfold In at a3)); (first | have a4 := in_u i116 | (have a4 := i116; unfold In at a4)); (first | have a5 := in_u i109 | (have a5 := i109; unfold In at a5)); (first | have a6 := in_u i103a | (have a6 := i103a; unfold In at a6)); (first | have a7 := in_u i109a | (have a7 := i109a; unfold In at a7)); (first | have a8 := in_u ((in_c 1 rfl)) | (have a8 := (in_c 1 rfl); unfold In at a8)); (first | have a9 := in_u i206 | (have a9 := i206; unfold In at a9)))); have a10 := t_add e206 i103 (in_c 1 rfl) rfl; (first | have a11 := in_u i203 | (have a11 := i203; unfold In at a11)); have a12 := t_add e203 i116 (in_c 0 rfl) rfl; (first | have a13 := oa2 ((in_c 0 rfl)) i188 | ((first | have a13 := in_u ((in_c 0 rfl)) | (have a13 := (in_c 0 rfl); unfold In at a13)); (first | have a14 := in_u i188 | (have a14 := i188; unfold In at a14)))); have a15 := t_add e188 i109 (in_c 1 rfl) rfl; omega
                          exact gg_w (by first | exact Nat.le_add_right _ _ | exact gw2 | exact gw3 | exact gwe rfl | exact gwf rfl | exact gwg rfl | exact gwh rfl | omega) (gg_f (gf_cons rfl (gf_cons rfl (gf_cons rfl (gf_cons rfl (gf_cons rfl (gf_cons rfl (gf_cons rfl (gf_cons rfl gf_nil)))))))) (ih99 (sI sc99 137 y99_7.toNatClampNeg z164) y99_3 y99_4 z188 z203 z206 hI175 (fr_sI rfl hFc99) (in_w 0 2001 j99_2 rfl) (in_w 0 2001 i109a rfl) (in_w 0 2001 i103a rfl) (in_w 0 2001 i188 rfl) (in_w 0 2001 i203 rfl) (in_w 0 2001 i206 rfl) n99 n99a n99b n99c n99d n99e n99f (m_up mm99 (t_add e206 i103 (in_c 1 rfl) rfl) (in_w 1 1 (in_c 1 rfl) rfl))))
                  · skip
                    refine g_aload_n 120 (gd rfl) rfl rfl ?_
                    refine g_aload_n 121 (gd rfl) rfl rfl ?_
                    refine g_getA (q2 := 136) 124 (gd rfl) rfl rfl rfl rfl ?_
                    refine g_iload 126 (gd rfl) rfl rfl ?_
                    have i126 : In y99_6 0 2000 := by (first | have a0 := oa8 j99_2 j35_1 ro_109_40 i103 j99_6 i109 i103a i109a | ((first | have a0 := in_u j99_2 | (have a0 := j99_2; unfold In at a0)); (first | have a1 := in_u j35_1 | (have a1 := j35_1; unfold In at a1)); (first | have a2 := in_u ro_109_40 | (have a2 := ro_109_40; unfold In at a2)); (first | have a3 := in_u i103 | (have a3 := i103; unfold In at a3)); (first | have a4 := in_u j99_6 | (have a4 := j99_6; unfold In at a4)); (first | have a5 := in_u i109 | (have a5 := i109; unfold In at a5)); (first | have a6 := in_u i103a | (have a6 := i103a; unfold In at a6)); (first | have a7 := in_u i109a | (have a7 := i109a; unfold In at a7)))); exact ⟨by omega, by omega⟩
                    refine g_iaload 127 (gd rfl) rfl (n := 2001) rfl (in_ix i126 rfl) (fun z126 e126 => ?_)
                    have i126a := inv_I hIc99 (n := 2001) (t := 0) 0 2000 rfl (in_ix i126 rfl) rfl e126
                    refine g_aload_n 128 (gd rfl) rfl rfl ?_
                    refine g_getA (q2 := 136) 131 (gd rfl) rfl rfl rfl rfl ?_
                    refine g_iload 133 (gd rfl) rfl rfl ?_
                    refine g_iaload 134 (gd rfl) rfl (n := 2001) rfl (in_ix i109 rfl) (fun z133 e133 => ?_)
                    have i133 := inv_I hIc99 (n := 2001) (t := 0) 0 2000 rfl (in_ix i109 rfl) rfl e133
                    refine g_callv (X := _) (As := [.int z126, .int z133]) (r := []) (b := A 109) (q := 109) 137 (gd rfl) rfl rfl rfl rfl rfl (ww_o rfl) (Nat.le_of_ble_eq_true rfl) (Nat.zero_le _) (Nat.zero_le _) (k_323 (by first | exact dq1 hd rfl | exact dq0 hd rfl | exact dq2 hd rfl | exact dq3 hd rfl | omega) hIc99 (in_w 0 2000 i126a rfl) (in_w 0 2000 i133 rfl)) (fun e u h => h) (fun v u h => ?_)
                    obtain ⟨z134, rfl, rfl, i134⟩ := h
                    show GG _ _ _ _ _ _ _ _ [.int z134] _ _ _
                    refine g_if_ne 140 144 (gd rfl) rfl rfl (fun c137 => ?_) (fun c137 => ?_)
                    · skip
                      have i137 := z_ne 1 1 c137 i134 rfl
                      refine g_iconst 0 145 (gd rfl) rfl rfl ?_
                      refine g_istore 147 (gd rfl) rfl (Nat.le_of_ble_eq_true rfl) ?_
                      refine g_aload_n 148 (gd rfl) rfl rfl ?_
                      refine g_getA (q2 := 137) 151 (gd rfl) rfl rfl rfl rfl ?_
                      refine g_iload 153 (gd rfl) rfl rfl ?_
                      refine g_iload 155 (gd rfl) rfl rfl ?_
                      refine g_if_eq 158 168 (gd rfl) rfl rfl (fun c155 => ?_) (fun c155 => ?_)
                      · skip
                        refine g_aload_n 169 (gd rfl) rfl rfl ?_
                        refine g_getA (q2 := 136) 172 (gd rfl) rfl rfl rfl rfl ?_
                        refine g_iload 174 (gd rfl) rfl rfl ?_
                        refine g_iaload 175 (gd rfl) rfl (n := 2001) rfl (in_ix i126 rfl) (fun z174 e174 => ?_)
                        have q174 : z126 = z174 := (e126).trans e174.symm
                        subst q174
                        refine g_iastore 176 (gd rfl) rfl (n := 2001) rfl (in_ix i103 rfl) ?_
                        have hI175 := inv_sI (q := 137) (j := y99_7.toNatClampNeg) hIc99 rfl (in_w 0 2000 i126a rfl)
                        refine g_iload 178 (gd rfl) rfl rfl ?_
                        refine g_iload 180 (gd rfl) rfl rfl ?_
                        refine g_if_eq 183 187 (gd rfl) rfl rfl (fun c180 => ?_) (fun c180 => ?_)
                        · skip
                          refine g_iconst 0 188 (gd rfl) rfl rfl ?_
                          refine g_iadd 189 (gd rfl) rfl (fun z188 e188 => ?_)
                          have i188 := in_add 0 2000 e188 i109 (in_c 0 rfl) rfl rfl
                          refine g_istore 191 (gd rfl) rfl (Nat.le_of_ble_eq_true rfl) ?_
                          refine g_iload 193 (gd rfl) rfl rfl ?_
                          refine g_iload 195 (gd rfl) rfl rfl ?_
                          refine g_if_eq 198 202 (gd rfl) rfl rfl (fun c195 => ?_) (fun c195 => ?_)
                          · skip
                            refine g_iconst 1 203 (gd rfl) rfl rfl ?_
                            refine g_iadd 204 (gd rfl) rfl (fun z203 e203 => ?_)
                            have i203 := in_add 1 2001 e203 i126 (in_c 1 rfl) rfl rfl
                            refine g_istore 206 (gd rfl) rfl (Nat.le_of_ble_eq_true rfl) ?_
                            refine g_iinc 209 (gd rfl) rfl rfl (Nat.le_of_ble_eq_true rfl) (fun z206 e206 => ?_)
                            have i206 := in_add 1 2001 e206 i103 (in_c 1 rfl) rfl rfl
                            refine g_goto 99 (gd rfl) rfl ?_
                            have n99 : (z188).toInt + (z203).toInt = (z206).toInt + (y99_3).toInt := by (first | have a0 := oa10 j99_2 j35_1 ro_109_40 i103 i126 i109 i103a i109a ((in_c 0 rfl)) i206 | ((first | have a0 := in_u j99_2 | (have a0 := j99_2; unfold In at a0)); (first | have a1 := in_u j35_1 | (have a1 := j35_1; unfold In at a1)); (first | have a2 := in_u ro_109_40 | (have a2 := ro_109_40; unfold In at a2)); (first | have a3 := in_u i103 | (have a3 := i103; unfold In at a3)); (first | have a4 := in_u i126 | (have a4 := i126; unfold In at a4)); (first | have a5 := in_u i109 | (have a5 := i109; unfold In at a5)); (first | have a6 := in_u i103a | (have a6 := i103a; unfold In at a6)); (first | have a7 := in_u i109a | (have a7 := i109a; unfold In at a7)); (first | have a8 := in_u ((in_c 0 rfl)) | (have a8 := (in_c 0 rfl); unfold In at a8)); (first | have a9 := in_u i206 | (have a9 := i206; unfold In at a9)))); have a10 := t_add e206 i103 (in_c 1 rfl) rfl; (first | have a11 := oa2 ((in_c 1 rfl)) i203 | ((first | have a11 := in_u ((in_c 1 rfl)) | (have a11 := (in_c 1 rfl); unfold In at a11)); (first | have a12 := in_u i203 | (have a12 := i203; unfold In at a12)))); have a13 := t_add e203 i126 (in_c 1 rfl) rfl; (first | have a14 := in_u i188 | (have a14 := i188; unfold In at a14)); have a15 := t_add e188 i109 (in_c 0 rfl) rfl; omega
                            have n99a : (z188).toInt ≤ (y99_3).toInt := by (first | have a0 := oa10 j99_2 j35_1 ro_109_40 i103 i126 i109 i103a i109a ((in_c 0 rfl)) i206 | ((first | have a0 := in_u j99_2 | (have a0 := j99_2; unfold In at a0)); (first | have a1 := in_u j35_1 | (have a1 := j35_1; unfold In at a1)); (first | have a2 := in_u ro_109_40 | (have a2 := ro_109_40; unfold In at a2)); (first | have a3 := in_u i103 | (have a3 := i103; unfold In at a3)); (first | have a4 := in_u i126 | (have a4 := i126; unfold In at a4)); (first | have a5 := in_u i109 | (have a5 := i109; unfold In at a5)); (first | have a6 := in_u i103a | (have a6 := i103a; unfold In at a6)); (first | have a7 := in_u i109a | (have a7 := i109a; unfold In at a7)); (first | have a8 := in_u ((in_c 0 rfl)) | (have a8 := (in_c 0 rfl); unfold In at a8)); (first | have a9 := in_u i206 | (have a9 := i206; unfold In at a9)))); have a10 := t_add e206 i103 (in_c 1 rfl) rfl; (first | have a11 := oa2 ((in_c 1 rfl)) i203 | ((first | have a11 := in_u ((in_c 1 rfl)) | (have a11 := (in_c 1 rfl); unfold In at a11)); (first | have a12 := in_u i203 | (have a12 := i203; unfold In at a12)))); have a13 := t_add e203 i126 (in_c 1 rfl) rfl; (first | have a14 := in_u i188 | (have a14 := i188; unfold In at a14)); have a15 := t_add e188 i109 (in_c 0 rfl) rfl; omega
                            have n99b : (z203).toInt ≤ (y99_4).toInt := by (first | have a0 := oa10 j99_2 j35_1 ro_109_40 i103 i126 i109 i103a i109a ((in_c 0 rfl)) i206 | ((first | have a0 := in_u j99_2 | (have a0 := j99_2; unfold In at a0)); (first | have a1 := in_u j35_1 | (have a1 := j35_1; unfold In at a1)); (first | have a2 := in_u ro_109_40 | (have a2 := ro_109_40; unfold In at a2)); (first | have a3 := in_u i103 | (have a3 := i103; unfold In at a3)); (first | have a4 := in_u i126 | (have a4 := i126; unfold In at a4)); (first | have a5 := in_u i109 | (have a5 := i109; unfold In at a5)); (first | have a6 := in_u i103a | (have a6 := i103a; unfold In at a6)); (first | have a7 := in_u i109a | (have a7 := i109a; unfold In at a7)); (first | have a8 := in_u ((in_c 0 rfl)) | (have a8 := (in_c 0 rfl); unfold In at a8)); (first | have a9 := in_u i206 | (have a9 := i206; unfold In at a9)))); have a10 := t_add e206 i103 (in_c 1 rfl) rfl; (first | have a11 := oa2 ((in_c 1 rfl)) i203 | ((first | have a11 := in_u ((in_c 1 rfl)) | (have a11 := (in_c 1 rfl); unfold In at a11)); (first | have a12 := in_u i203 | (have a12 := i203; unfold In at a12)))); have a13 := t_add e203 i126 (in_c 1 rfl) rfl; (first | have a14 := in_u i188 | (have a14 := i188; unfold In at a14)); have a15 := t_add e188 i109 (in_c 0 rfl) rfl; omega
                            have n99c : (y99_3).toInt ≤ (z203).toInt := by (first | have a0 := oa10 j99_2 j35_1 ro_109_40 i103 i126 i109 i103a i109a ((in_c 0 rfl)) i206 | ((first | have a0 := in_u j99_2 | (have a0 := j99_2; unfold In at a0)); (first | have a1 := in_u j35_1 | (have a1 := j35_1; unfold In at a1)); (first | have a2 := in_u ro_109_40 | (have a2 := ro_109_40; unfold In at a2)); (first | have a3 := in_u i103 | (have a3 := i103; unfold In at a3)); (first | have a4 := in_u i126 | (have a4 := i126; unfold In at a4)); (first | have a5 := in_u i109 | (have a5 := i109; unfold In at a5)); (first | have a6 := in_u i103a | (have a6 := i103a; unfold In at a6)); (first | have a7 := in_u i109a | (have a7 := i109a; unfold In at a7)); (first | have a8 := in_u ((in_c 0 rfl)) | (have a8 := (in_c 0 rfl); unfold In at a8)); (first | have a9 := in_u i206 | (have a9 := i206; unfold In at a9)))); have a10 := t_add e206 i103 (in_c 1 rfl) rfl; (first | have a11 := oa2 ((in_c 1 rfl)) i203 | ((first | have a11 := in_u ((in_c 1 rfl)) | (have a11 := (in_c 1 rfl); unfold In at a11)); (first | have a12 := in_u i203 | (have a12 := i203; unfold In at a12)))); have a13 := t_add e203 i126 (in_c 1 rfl) rfl; (first | have a14 := in_u i188 | (have a14 := i188; unfold In at a14)); have a15 := t_add e188 i109 (in_c 0 rfl) rfl; omega
                            have n99d : (y35_2).toInt ≤ (z188).toInt := by (first | have a0 := oa10 j99_2 j35_1 ro_109_40 i103 i126 i109 i103a i109a ((in_c 0 rfl)) i206 | ((first | have a0 := in_u j99_2 | (have a0 := j99_2; unfold In at a0)); (first | have a1 := in_u j35_1 | (have a1 := j35_1; unfold In at a1)); (first | have a2 := in_u ro_109_40 | (have a2 := ro_109_40; unfold In at a2)); (first | have a3 := in_u i103 | (have a3 := i103; unfold In at a3)); (first | have a4 := in_u i126 | (have a4 := i126; unfold In at a4)); (first | have a5 := in_u i109 | (have a5 := i109; unfold In at a5)); (first | have a6 := in_u i103a | (have a6 := i103a; unfold In at a6)); (first | have a7 := in_u i109a | (have a7 := i109a; unfold In at a7)); (first | have a8 := in_u ((in_c 0 rfl)) | (have a8 := (in_c 0 rfl); unfold In at a8)); (first | have a9 := in_u i206 | (have a9 := i206; unfold In at a9)))); have a10 := t_add e206 i103 (in_c 1 rfl) rfl; (first | have a11 := oa2 ((in_c 1 rfl)) i203 | ((first | have a11 := in_u ((in_c 1 rfl)) | (have a11 := (in_c 1 rfl); unfold In at a11)); (first | have a12 := in_u i203 | (have a12 := i203; unfold In at a12)))); have a13 := t_add e203 i126 (in_c 1 rfl) rfl; (first | have a14 := in_u i188 | (have a14 := i188; unfold In at a14)); have a15 := t_add e188 i109 (in_c 0 rfl) rfl; omega
                            have n99e : (y99_4).toInt ≤ (u_109_40).toInt := by first | exact n99_5 | ((first | have a0 := oa10 j99_2 j35_1 ro_109_40 i103 i126 i109 i103a i109a ((in_c 0 rfl)) i206 | ((first | have a0 := in_u j99_2 | (have a0 := j99_2; unfold In at a0)); (first | have a1 := in_u j35_1 | (have a1 := j35_1; unfold In at a1)); (first | have a2 := in_u ro_109_40 | (have a2 := ro_109_40; unfold In at a2)); (first | have a3 := in_u i103 | (have a3 := i103; unfold In at a3)); (first | have a4 := in_u i126 | (have a4 := i126; unfold In at a4)); (first | have a5 := in_u i109 | (have a5 := i109; unfold In at a5)); (first | have a6 := in_u i103a | (have a6 := i103a; unfold In at a6)); (first | have a7 := in_u i109a | (have a7 := i109a; unfold In at a7)); (first | have a8 := in_u ((in_c 0 rfl)) | (have a8 := (in_c 0 rfl); unfold In at a8)); (first | have a9 := in_u i206 | (have a9 := i206; unfold In at a9)))); have a10 := t_add e206 i103 (in_c 1 rfl) rfl; (first | have a11 := oa2 ((in_c 1 rfl)) i203 | ((first | have a11 := in_u ((in_c 1 rfl)) | (have a11 := (in_c 1 rfl); unfold In at a11)); (first | have a12 := in_u i203 | (have a12 := i203; unfold In at a12)))); have a13 := t_add e203 i126 (in_c 1 rfl) rfl; (first | have a14 := in_u i188 | (have a14 := i188; unfold In at a14)); have a15 := t_add e188 i109 (in_c 0 rfl) rfl; omega)
                            have n99f : (z206).toInt ≤ (y99_4).toInt := by (first | have a0 := oa10 j99_2 j35_1 ro_109_40 i103 i126 i109 i103a i109a ((in_c 0 rfl)) i206 | ((first | have a0 := in_u j99_2 | (have a0 := j99_2; unfold In at a0)); (first | have a1 := in_u j35_1 | (have a1 := j35_1; unfold In at a1)); (first | have a2 := in_u ro_109_40 | (have a2 := ro_109_40; unfold In at a2)); (first | have a3 := in_u i103 | (have a3 := i103; unfold In at a3)); (first | have a4 := in_u i126 | (have a4 := i126; unfold In at a4)); (first | have a5 := in_u i109 | (have a5 := i109; unfold In at a5)); (first | have a6 := in_u i103a | (have a6 := i103a; unfold In at a6)); (first | have a7 := in_u i109a | (have a7 := i109a; unfold In at a7)); (first | have a8 := in_u ((in_c 0 rfl)) | (have a8 := (in_c 0 rfl); unfold In at a8)); (first | have a9 := in_u i206 | (have a9 := i206; unfold In at a9)))); have a10 := t_add e206 i103 (in_c 1 rfl) rfl; (first | have a11 := oa2 ((in_c 1 rfl)) i203 | ((first | have a11 := in_u ((in_c 1 rfl)) | (have a11 := (in_c 1 rfl); unfold In at a11)); (first | have a12 := in_u i203 | (have a12 := i203; unfold In at a12)))); have a13 := t_add e203 i126 (in_c 1 rfl) rfl; (first | have a14 := in_u i188 | (have a14 := i188; unfold In at a14)); have a15 := t_add e188 i109 (in_c 0 rfl) rfl; omega
                            exact gg_w (by first | exact Nat.le_add_right _ _ | exact gw2 | exact gw3 | exact gwe rfl | exact gwf rfl | exact gwg rfl | exact gwh rfl | omega) (gg_f (gf_cons rfl (gf_cons rfl (gf_cons rfl (gf_cons rfl (gf_cons rfl (gf_cons rfl (gf_cons rfl (gf_cons rfl gf_nil)))))))) (ih99 (sI sc99 137 y99_7.toNatClampNeg z126) y99_3 y99_4 z188 z203 z206 hI175 (fr_sI rfl hFc99) (in_w 0 2001 j99_2 rfl) (in_w 0 2001 i109a rfl) (in_w 0 2001 i103a rfl) (in_w 0 2001 i188 rfl) (in_w 0 2001 i203 rfl) (in_w 0 2001 i206 rfl) n99 n99a n99b n99c n99d n99e n99f (m_up mm99 (t_add e206 i103 (in_c 1 rfl) rfl) (in_w 1 1 (in_c 1 rfl) rfl))))
                          · skip
                            exact zn_ne c195 (in_c 0 rfl) rfl
                        · skip
                          exact zn_ne c180 (in_c 0 rfl) rfl
                      · skip
                        exact zn_ne c155 (in_c 0 rfl) rfl
                    · skip
                      have i137 := z_eq 0 0 c137 i134 rfl
                      refine g_iconst 1 141 (gd rfl) rfl rfl ?_
                      refine g_goto 145 (gd rfl) rfl ?_
                      refine g_istore 147 (gd rfl) rfl (Nat.le_of_ble_eq_true rfl) ?_
                      refine g_aload_n 148 (gd rfl) rfl rfl ?_
                      refine g_getA (q2 := 137) 151 (gd rfl) rfl rfl rfl rfl ?_
                      refine g_iload 153 (gd rfl) rfl rfl ?_
                      refine g_iload 155 (gd rfl) rfl rfl ?_
                      refine g_if_eq 158 168 (gd rfl) rfl rfl (fun c155 => ?_) (fun c155 => ?_)
                      · skip
                        exact zn_eq c155 (in_c 1 rfl) rfl
                      · skip
                        refine g_aload_n 159 (gd rfl) rfl rfl ?_
                        refine g_getA (q2 := 136) 162 (gd rfl) rfl rfl rfl rfl ?_
                        refine g_iload 164 (gd rfl) rfl rfl ?_
                        refine g_iaload 165 (gd rfl) rfl (n := 2001) rfl (in_ix i109 rfl) (fun z164 e164 => ?_)
                        have q164 : z133 = z164 := (e133).trans e164.symm
                        subst q164
                        refine g_goto 175 (gd rfl) rfl ?_
                        refine g_iastore 176 (gd rfl) rfl (n := 2001) rfl (in_ix i103 rfl) ?_
                        have hI175 := inv_sI (q := 137) (j := y99_7.toNatClampNeg) hIc99 rfl (in_w 0 2000 i133 rfl)
                        refine g_iload 178 (gd rfl) rfl rfl ?_
                        refine g_iload 180 (gd rfl) rfl rfl ?_
                        refine g_if_eq 183 187 (gd rfl) rfl rfl (fun c180 => ?_) (fun c180 => ?_)
                        · skip
                          exact zn_eq c180 (in_c 1 rfl) rfl
                        · skip
                          refine g_iconst 1 184 (gd rfl) rfl rfl ?_
                          refine g_goto 188 (gd rfl) rfl ?_
                          refine g_iadd 189 (gd rfl) rfl (fun z188 e188 => ?_)
                          have i188 := in_add 1 2001 e188 i109 (in_c 1 rfl) rfl rfl
                          refine g_istore 191 (gd rfl) rfl (Nat.le_of_ble_eq_true rfl) ?_
                          refine g_iload 193 (gd rfl) rfl rfl ?_
                          refine g_iload 195 (gd rfl) rfl rfl ?_
                          refine g_if_eq 198 202 (gd rfl) rfl rfl (fun c195 => ?_) (fun c195 => ?_)
                          · skip
                            exact zn_eq c195 (in_c 1 rfl) rfl
                          · skip
                            refine g_iconst 0 199 (gd rfl) rfl rfl ?_
                            refine g_goto 203 (gd rfl) rfl ?_
                            refine g_iadd 204 (gd rfl) rfl (fun z203 e203 => ?_)
                            have i203 := in_add 0 2000 e203 i126 (in_c 0 rfl) rfl rfl
                            refine g_istore 206 (gd rfl) rfl (Nat.le_of_ble_eq_true rfl) ?_
                            refine g_iinc 209 (gd rfl) rfl rfl (Nat.le_of_ble_eq_true rfl) (fun z206 e206 => ?_)
                            have i206 := in_add 1 2001 e206 i103 (in_c 1 rfl) rfl rfl
                            refine g_goto 99 (gd rfl) rfl ?_
                            have n99 : (z188).toInt + (z203).toInt = (z206).toInt + (y99_3).toInt := by (first | have a0 := oa10 j99_2 j35_1 ro_109_40 i103 i126 i109 i103a i109a ((in_c 1 rfl)) i206 | ((first | have a0 := in_u j99_2 | (have a0 := j99_2; unfold In at a0)); (first | have a1 := in_u j35_1 | (have a1 := j35_1; unfold In at a1)); (first | have a2 := in_u ro_109_40 | (have a2 := ro_109_40; unfold In at a2)); (first | have a3 := in_u i103 | (have a3 := i103; unfold In at a3)); (first | have a4 := in_u i126 | (have a4 := i126; unfold In at a4)); (first | have a5 := in_u i109 | (have a5 := i109; unfold In at a5)); (first | have a6 := in_u i103a | (have a6 := i103a; unfold In at a6)); (first | have a7 := in_u i109a | (have a7 := i109a; unfold In at a7)); (first | have a8 := in_u ((in_c 1 rfl)) | (have a8 := (in_c 1 rfl); unfold In at a8)); (first | have a9 := in_u i206 | (have a9 := i206; unfold In at a9)))); have a10 := t_add e206 i103 (in_c 1 rfl) rfl; (first | have a11 := in_u i203 | (have a11 := i203; unfold In at a11)); have a12 := t_add e203 i126 (in_c 0 rfl) rfl; (first | have a13 := oa2 ((in_c 0 rfl)) i188 | ((first | have a13 := in_u ((in_c 0 rfl)) | (have a13 := (in_c 0 rfl); unfold In at a13)); (first | have a14 := in_u i188 | (have a14 := i188; unfold In at a14)))); have a15 := t_add e188 i109 (in_c 1 rfl) rfl; omega
                            have n99a : (z188).toInt ≤ (y99_3).toInt := by (first | have a0 := oa10 j99_2 j35_1 ro_109_40 i103 i126 i109 i103a i109a ((in_c 1 rfl)) i206 | ((first | have a0 := in_u j99_2 | (have a0 := j99_2; unfold In at a0)); (first | have a1 := in_u j35_1 | (have a1 := j35_1; unfold In at a1)); (first | have a2 := in_u ro_109_40 | (have a2 := ro_109_40; unfold In at a2)); (first | have a3 := in_u i103 | (have a3 := i103; unfold In at a3)); (first | have a4 := in_u i126 | (have a4 := i126; unfold In at a4)); (first | have a5 := in_u i109 | (have a5 := i109; unfold In at a5)); (first | have a6 := in_u i103a | (have a6 := i103a; unfold In at a6)); (first | have a7 := in_u i109a | (have a7 := i109a; unfold In at a7)); (first | have a8 := in_u ((in_c 1 rfl)) | (have a8 := (in_c 1 rfl); unfold In at a8)); (first | have a9 := in_u i206 | (have a9 := i206; unfold In at a9)))); have a10 := t_add e206 i103 (in_c 1 rfl) rfl; (first | have a11 := in_u i203 | (have a11 := i203; unfold In at a11)); have a12 := t_add e203 i126 (in_c 0 rfl) rfl; (first | have a13 := oa2 ((in_c 0 rfl)) i188 | ((first | have a13 := in_u ((in_c 0 rfl)) | (have a13 := (in_c 0 rfl); unfold In at a13)); (first | have a14 := in_u i188 | (have a14 := i188; unfold In at a14)))); have a15 := t_add e188 i109 (in_c 1 rfl) rfl; omega
                            have n99b : (z203).toInt ≤ (y99_4).toInt := by (first | have a0 := oa10 j99_2 j35_1 ro_109_40 i103 i126 i109 i103a i109a ((in_c 1 rfl)) i206 | ((first | have a0 := in_u j99_2 | (have a0 := j99_2; unfold In at a0)); (first | have a1 := in_u j35_1 | (have a1 := j35_1; unfold In at a1)); (first | have a2 := in_u ro_109_40 | (have a2 := ro_109_40; unfold In at a2)); (first | have a3 := in_u i103 | (have a3 := i103; unfold In at a3)); (first | have a4 := in_u i126 | (have a4 := i126; unfold In at a4)); (first | have a5 := in_u i109 | (have a5 := i109; unfold In at a5)); (first | have a6 := in_u i103a | (have a6 := i103a; unfold In at a6)); (first | have a7 := in_u i109a | (have a7 := i109a; unfold In at a7)); (first | have a8 := in_u ((in_c 1 rfl)) | (have a8 := (in_c 1 rfl); unfold In at a8)); (first | have a9 := in_u i206 | (have a9 := i206; unfold In at a9)))); have a10 := t_add e206 i103 (in_c 1 rfl) rfl; (first | have a11 := in_u i203 | (have a11 := i203; unfold In at a11)); have a12 := t_add e203 i126 (in_c 0 rfl) rfl; (first | have a13 := oa2 ((in_c 0 rfl)) i188 | ((first | have a13 := in_u ((in_c 0 rfl)) | (have a13 := (in_c 0 rfl); unfold In at a13)); (first | have a14 := in_u i188 | (have a14 := i188; unfold In at a14)))); have a15 := t_add e188 i109 (in_c 1 rfl) rfl; omega
                            have n99c : (y99_3).toInt ≤ (z203).toInt := by (first | have a0 := oa10 j99_2 j35_1 ro_109_40 i103 i126 i109 i103a i109a ((in_c 1 rfl)) i206 | ((first | have a0 := in_u j99_2 | (have a0 := j99_2; unfold In at a0)); (first | have a1 := in_u j35_1 | (have a1 := j35_1; unfold In at a1)); (first | have a2 := in_u ro_109_40 | (have a2 := ro_109_40; unfold In at a2)); (first | have a3 := in_u i103 | (have a3 := i103; unfold In at a3)); (first | have a4 := in_u i126 | (have a4 := i126; unfold In at a4)); (first | have a5 := in_u i109 | (have a5 := i109; unfold In at a5)); (first | have a6 := in_u i103a | (have a6 := i103a; unfold In at a6)); (first | have a7 := in_u i109a | (have a7 := i109a; unfold In at a7)); (first | have a8 := in_u ((in_c 1 rfl)) | (have a8 := (in_c 1 rfl); unfold In at a8)); (first | have a9 := in_u i206 | (have a9 := i206; unfold In at a9)))); have a10 := t_add e206 i103 (in_c 1 rfl) rfl; (first | have a11 := in_u i203 | (have a11 := i203; unfold In at a11)); have a12 := t_add e203 i126 (in_c 0 rfl) rfl; (first | have a13 := oa2 ((in_c 0 rfl)) i188 | ((first | have a13 := in_u ((in_c 0 rfl)) | (have a13 := (in_c 0 rfl); unfold In at a13)); (first | have a14 := in_u i188 | (have a14 := i188; unfold In at a14)))); have a15 := t_add e188 i109 (in_c 1 rfl) rfl; omega
                            have n99d : (y35_2).toInt ≤ (z188).toInt := by (first | have a0 := oa10 j99_2 j35_1 ro_109_40 i103 i126 i109 i103a i109a ((in_c 1 rfl)) i206 | ((first | have a0 := in_u j99_2 | (have a0 := j99_2; unfold In at a0)); (first | have a1 := in_u j35_1 | (have a1 := j35_1; unfold In at a1)); (first | have a2 := in_u ro_109_40 | (have a2 := ro_109_40; unfold In at a2)); (first | have a3 := in_u i103 | (have a3 := i103; unfold In at a3)); (first | have a4 := in_u i126 | (have a4 := i126; unfold In at a4)); (first | have a5 := in_u i109 | (have a5 := i109; unfold In at a5)); (first | have a6 := in_u i103a | (have a6 := i103a; unfold In at a6)); (first | have a7 := in_u i109a | (have a7 := i109a; unfold In at a7)); (first | have a8 := in_u ((in_c 1 rfl)) | (have a8 := (in_c 1 rfl); unfold In at a8)); (first | have a9 := in_u i206 | (have a9 := i206; unfold In at a9)))); have a10 := t_add e206 i103 (in_c 1 rfl) rfl; (first | have a11 := in_u i203 | (have a11 := i203; unfold In at a11)); have a12 := t_add e203 i126 (in_c 0 rfl) rfl; (first | have a13 := oa2 ((in_c 0 rfl)) i188 | ((first | have a13 := in_u ((in_c 0 rfl)) | (have a13 := (in_c 0 rfl); unfold In at a13)); (first | have a14 := in_u i188 | (have a14 := i188; unfold In at a14)))); have a15 := t_add e188 i109 (in_c 1 rfl) rfl; omega
                            have n99e : (y99_4).toInt ≤ (u_109_40).toInt := by first | exact n99_5 | ((first | have a0 := oa10 j99_2 j35_1 ro_109_40 i103 i126 i109 i103a i109a ((in_c 1 rfl)) i206 | ((first | have a0 := in_u j99_2 | (have a0 := j99_2; unfold In at a0)); (first | have a1 := in_u j35_1 | (have a1 := j35_1; unfold In at a1)); (first | have a2 := in_u ro_109_40 | (have a2 := ro_109_40; unfold In at a2)); (first | have a3 := in_u i103 | (have a3 := i103; unfold In at a3)); (first | have a4 := in_u i126 | (have a4 := i126; unfold In at a4)); (first | have a5 := in_u i109 | (have a5 := i109; unfold In at a5)); (first | have a6 := in_u i103a | (have a6 := i103a; unfold In at a6)); (first | have a7 := in_u i109a | (have a7 := i109a; unfold In at a7)); (first | have a8 := in_u ((in_c 1 rfl)) | (have a8 := (in_c 1 rfl); unfold In at a8)); (first | have a9 := in_u i206 | (have a9 := i206; unfold In at a9)))); have a10 := t_add e206 i103 (in_c 1 rfl) rfl; (first | have a11 := in_u i203 | (have a11 := i203; unfold In at a11)); have a12 := t_add e203 i126 (in_c 0 rfl) rfl; (first | have a13 := oa2 ((in_c 0 rfl)) i188 | ((first | have a13 := in_u ((in_c 0 rfl)) | (have a13 := (in_c 0 rfl); unfold In at a13)); (first | have a14 := in_u i188 | (have a14 := i188; unfold In at a14)))); have a15 := t_add e188 i109 (in_c 1 rfl) rfl; omega)
                            have n99f : (z206).toInt ≤ (y99_4).toInt := by (first | have a0 := oa10 j99_2 j35_1 ro_109_40 i103 i126 i109 i103a i109a ((in_c 1 rfl)) i206 | ((first | have a0 := in_u j99_2 | (have a0 := j99_2; unfold In at a0)); (first | have a1 := in_u j35_1 | (have a1 := j35_1; unfold In at a1)); (first | have a2 := in_u ro_109_40 | (have a2 := ro_109_40; unfold In at a2)); (first | have a3 := in_u i103 | (have a3 := i103; unfold In at a3)); (first | have a4 := in_u i126 | (have a4 := i126; unfold In at a4)); (first | have a5 := in_u i109 | (have a5 := i109; unfold In at a5)); (first | have a6 := in_u i103a | (have a6 := i103a; unfold In at a6)); (first | have a7 := in_u i109a | (have a7 := i109a; unfold In at a7)); (first | have a8 := in_u ((in_c 1 rfl)) | (have a8 := (in_c 1 rfl); unfold In at a8)); (first | have a9 := in_u i206 | (have a9 := i206; unfold In at a9)))); have a10 := t_add e206 i103 (in_c 1 rfl) rfl; (first | have a11 := in_u i203 | (have a11 := i203; unfold In at a11)); have a12 := t_add e203 i126 (in_c 0 rfl) rfl; (first | have a13 := oa2 ((in_c 0 rfl)) i188 | ((first | have a13 := in_u ((in_c 0 rfl)) | (have a13 := (in_c 0 rfl); unfold In at a13)); (first | have a14 := in_u i188 | (have a14 := i188; unfold In at a14)))); have a15 := t_add e188 i109 (in_c 1 rfl) rfl; omega
                            exact gg_w (by first | exact Nat.le_add_right _ _ | exact gw2 | exact gw3 | exact gwe rfl | exact gwf rfl | exact gwg rfl | exact gwh rfl | omega) (gg_f (gf_cons rfl (gf_cons rfl (gf_cons rfl (gf_cons rfl (gf_cons rfl (gf_cons rfl (gf_cons rfl (gf_cons rfl gf_nil)))))))) (ih99 (sI sc99 137 y99_7.toNatClampNeg z133) y99_3 y99_4 z188 z203 z206 hI175 (fr_sI rfl hFc99) (in_w 0 2001 j99_2 rfl) (in_w 0 2001 i109a rfl) (in_w 0 2001 i103a rfl) (in_w 0 2001 i188 rfl) (in_w 0 2001 i203 rfl) (in_w 0 2001 i206 rfl) n99 n99a n99b n99c n99d n99e n99f (m_up mm99 (t_add e206 i103 (in_c 1 rfl) rfl) (in_w 1 1 (in_c 1 rfl) rfl))))
          refine g_iload_n 36 (gd rfl) rfl rfl ?_
          refine g_aload_n 37 (gd rfl) rfl rfl ?_
          refine g_getI 40 (gd rfl) rfl rfl rfl (fun z37 e37 => ?_)
          have q37 : u_109_40 = z37 := (fr_F e_109_40 hFc35 rfl).trans e37.symm
          subst q37
          refine g_cmp_ge 43 221 (gd rfl) rfl rfl (fun c40 => ?_) (fun c40 => ?_)
          · skip
            refine g_iconst 0 222 (gd rfl) rfl rfl ?_
            refine g_istore_n 223 (gd rfl) rfl (Nat.le_of_ble_eq_true rfl) ?_
            exact gg_w (by first | exact Nat.le_add_right _ _ | exact gw2 | exact gw3 | exact gwe rfl | exact gwf rfl | exact gwg rfl | exact gwh rfl | omega) (gg_f (gf_cons rfl (gf_cons rfl (gf_cons rfl gf_nil))) (ct223 2002 sc35 (Int32.ofInt 0) hIc35 hFc35 (in_w 1 2001 j35_1 rfl) (in_w 0 2001 (in_c 0 rfl) rfl) (m_in 2002 (in_w 0 2001 (in_c 0 rfl) rfl) rfl)))
          · skip
            have i40 := r_lt1 0 2000 c40 j35_2 ro_109_40 rfl
            have i40a := r_lt2 1 2001 c40 j35_2 ro_109_40 rfl
            refine g_iload_n 44 (gd rfl) rfl rfl ?_
            refine g_iload_n 45 (gd rfl) rfl rfl ?_
            refine g_iadd 46 (gd rfl) rfl (fun z45 e45 => ?_)
            have i45 := in_add 1 4001 e45 i40 j35_1 rfl rfl
            refine g_aload_n 47 (gd rfl) rfl rfl ?_
            refine g_getI 50 (gd rfl) rfl rfl rfl (fun z47 e47 => ?_)
            have q47 : u_109_40 = z47 := (fr_F e_109_40 hFc35 rfl).trans e47.symm
            subst q47
            refine g_cmp_ge 53 59 (gd rfl) rfl rfl (fun c50 => ?_) (fun c50 => ?_)
            · skip
              refine g_aload_n 60 (gd rfl) rfl rfl ?_
              refine g_getI 63 (gd rfl) rfl rfl rfl (fun z60 e60 => ?_)
              have q60 : u_109_40 = z60 := (fr_F e_109_40 hFc35 rfl).trans e60.symm
              subst q60
              refine g_istore_n 64 (gd rfl) rfl (Nat.le_of_ble_eq_true rfl) ?_
              refine g_iload_n 65 (gd rfl) rfl rfl ?_
              refine g_iconst 2 66 (gd rfl) rfl rfl ?_
              refine g_iload_n 67 (gd rfl) rfl rfl ?_
              refine g_imul 68 (gd rfl) rfl (fun z67 e67 => ?_)
              have i67 := in_mulc 2 2 4002 (Or.inl e67) j35_1 rfl rfl
              refine g_iadd 69 (gd rfl) rfl (fun z68 e68 => ?_)
              have i68 := in_add 2 6002 e68 i40 i67 rfl rfl
              refine g_aload_n 70 (gd rfl) rfl rfl ?_
              refine g_getI 73 (gd rfl) rfl rfl rfl (fun z70 e70 => ?_)
              have q70 : u_109_40 = z70 := (fr_F e_109_40 hFc35 rfl).trans e70.symm
              subst q70
              refine g_cmp_ge 76 84 (gd rfl) rfl rfl (fun c73 => ?_) (fun c73 => ?_)
              · skip
                refine g_aload_n 85 (gd rfl) rfl rfl ?_
                refine g_getI 88 (gd rfl) rfl rfl rfl (fun z85 e85 => ?_)
                have q85 : u_109_40 = z85 := (fr_F e_109_40 hFc35 rfl).trans e85.symm
                subst q85
                refine g_istore 90 (gd rfl) rfl (Nat.le_of_ble_eq_true rfl) ?_
                refine g_iload_n 91 (gd rfl) rfl rfl ?_
                refine g_istore 93 (gd rfl) rfl (Nat.le_of_ble_eq_true rfl) ?_
                refine g_iload_n 94 (gd rfl) rfl rfl ?_
                refine g_istore 96 (gd rfl) rfl (Nat.le_of_ble_eq_true rfl) ?_
                refine g_iload_n 97 (gd rfl) rfl rfl ?_
                refine g_istore 99 (gd rfl) rfl (Nat.le_of_ble_eq_true rfl) ?_
                have n99 : (y35_2).toInt + (u_109_40).toInt = (y35_2).toInt + (u_109_40).toInt := by (first | have a0 := oa4 j35_1 i40a i40 i68 | ((first | have a0 := in_u j35_1 | (have a0 := j35_1; unfold In at a0)); (first | have a1 := in_u i40a | (have a1 := i40a; unfold In at a1)); (first | have a2 := in_u i40 | (have a2 := i40; unfold In at a2)); (first | have a3 := in_u i68 | (have a3 := i68; unfold In at a3)))); have a4 := t_add e68 i40 i67 rfl; (first | have a5 := in_u i67 | (have a5 := i67; unfold In at a5)); have a6 := (t_mulc 2 (Or.inl e67) j35_1 rfl).1; (first | have a7 := in_u i45 | (have a7 := i45; unfold In at a7)); have a8 := t_add e45 i40 j35_1 rfl; omega
                have n99a : (y35_2).toInt ≤ (u_109_40).toInt := by (first | have a0 := oa4 j35_1 i40a i40 i68 | ((first | have a0 := in_u j35_1 | (have a0 := j35_1; unfold In at a0)); (first | have a1 := in_u i40a | (have a1 := i40a; unfold In at a1)); (first | have a2 := in_u i40 | (have a2 := i40; unfold In at a2)); (first | have a3 := in_u i68 | (have a3 := i68; unfold In at a3)))); have a4 := t_add e68 i40 i67 rfl; (first | have a5 := in_u i67 | (have a5 := i67; unfold In at a5)); have a6 := (t_mulc 2 (Or.inl e67) j35_1 rfl).1; (first | have a7 := in_u i45 | (have a7 := i45; unfold In at a7)); have a8 := t_add e45 i40 j35_1 rfl; omega
                have n99b : (u_109_40).toInt ≤ (u_109_40).toInt := by exact Int.le_refl _
                have n99c : (u_109_40).toInt ≤ (u_109_40).toInt := by exact Int.le_refl _
                have n99d : (y35_2).toInt ≤ (y35_2).toInt := by exact Int.le_refl _
                have n99e : (u_109_40).toInt ≤ (u_109_40).toInt := by exact Int.le_refl _
                have n99f : (y35_2).toInt ≤ (u_109_40).toInt := by (first | have a0 := oa4 j35_1 i40a i40 i68 | ((first | have a0 := in_u j35_1 | (have a0 := j35_1; unfold In at a0)); (first | have a1 := in_u i40a | (have a1 := i40a; unfold In at a1)); (first | have a2 := in_u i40 | (have a2 := i40; unfold In at a2)); (first | have a3 := in_u i68 | (have a3 := i68; unfold In at a3)))); have a4 := t_add e68 i40 i67 rfl; (first | have a5 := in_u i67 | (have a5 := i67; unfold In at a5)); have a6 := (t_mulc 2 (Or.inl e67) j35_1 rfl).1; (first | have a7 := in_u i45 | (have a7 := i45; unfold In at a7)); have a8 := t_add e45 i40 j35_1 rfl; omega
                exact gg_w (by first | exact Nat.le_add_right _ _ | exact gw2 | exact gw3 | exact gwe rfl | exact gwf rfl | exact gwg rfl | exact gwh rfl | omega) (gg_f (gf_cons rfl (gf_cons rfl (gf_cons rfl (gf_cons rfl (gf_cons rfl (gf_cons rfl (gf_cons rfl (gf_cons rfl gf_nil)))))))) (ct99 2002 sc35 u_109_40 u_109_40 y35_2 u_109_40 y35_2 hIc35 hFc35 (in_w 0 2001 i40 rfl) (in_w 0 2001 i40a rfl) (in_w 0 2001 i40a rfl) (in_w 0 2001 i40 rfl) (in_w 0 2001 i40a rfl) (in_w 0 2001 i40 rfl) n99 n99a n99b n99c n99d n99e n99f (m_in 2002 (in_w 0 2001 i40 rfl) rfl)))
              · skip
                have i73 := r_lt1 2 2000 c73 i68 i40a rfl
                have i73a := r_lt2 3 2001 c73 i68 i40a rfl
                refine g_iload_n 77 (gd rfl) rfl rfl ?_
                refine g_iconst 2 78 (gd rfl) rfl rfl ?_
                refine g_iload_n 79 (gd rfl) rfl rfl ?_
                refine g_imul 80 (gd rfl) rfl (fun z79 e79 => ?_)
                have i79 := in_mulc 2 2 4002 (Or.inl e79) j35_1 rfl rfl
                refine g_iadd 81 (gd rfl) rfl (fun z80 e80 => ?_)
                have i80 := in_add 2 6002 e80 i40 i79 rfl rfl
                refine g_goto 88 (gd rfl) rfl ?_
                refine g_istore 90 (gd rfl) rfl (Nat.le_of_ble_eq_true rfl) ?_
                refine g_iload_n 91 (gd rfl) rfl rfl ?_
                refine g_istore 93 (gd rfl) rfl (Nat.le_of_ble_eq_true rfl) ?_
                refine g_iload_n 94 (gd rfl) rfl rfl ?_
                refine g_istore 96 (gd rfl) rfl (Nat.le_of_ble_eq_true rfl) ?_
                refine g_iload_n 97 (gd rfl) rfl rfl ?_
                refine g_istore 99 (gd rfl) rfl (Nat.le_of_ble_eq_true rfl) ?_
                have i99 : In z80 0 2001 := by exact ⟨by (first | have a0 := oa4 j35_1 i73a i40 i80 | ((first | have a0 := in_u j35_1 | (have a0 := j35_1; unfold In at a0)); (first | have a1 := in_u i73a | (have a1 := i73a; unfold In at a1)); (first | have a2 := in_u i40 | (have a2 := i40; unfold In at a2)); (first | have a3 := in_u i80 | (have a3 := i80; unfold In at a3)))); have a4 := t_add e80 i40 i79 rfl; (first | have a5 := in_u i79 | (have a5 := i79; unfold In at a5)); have a6 := (t_mulc 2 (Or.inl e79) j35_1 rfl).1; (first | have a7 := in_u i73 | (have a7 := i73; unfold In at a7)); have a8 := t_add e68 i40 i67 rfl; (first | have a9 := in_u i67 | (have a9 := i67; unfold In at a9)); have a10 := (t_mulc 2 (Or.inl e67) j35_1 rfl).1; (first | have a11 := in_u i45 | (have a11 := i45; unfold In at a11)); have a12 := t_add e45 i40 j35_1 rfl; omega, by (first | have a0 := oa4 j35_1 i73a i40 i80 | ((first | have a0 := in_u j35_1 | (have a0 := j35_1; unfold In at a0)); (first | have a1 := in_u i73a | (have a1 := i73a; unfold In at a1)); (first | have a2 := in_u i40 | (have a2 := i40; unfold In at a2)); (first | have a3 := in_u i80 | (have a3 := i80; unfold In at a3)))); have a4 := t_add e80 i40 i79 rfl; (first | have a5 := in_u i79 | (have a5 := i79; unfold In at a5)); have a6 := (t_mulc 2 (Or.inl e79) j35_1 rfl).1; (first | have a7 := in_u i73 | (have a7 := i73; unfold In at a7)); have a8 := t_add e68 i40 i67 rfl; (first | have a9 := in_u i67 | (have a9 := i67; unfold In at a9)); have a10 := (t_mulc 2 (Or.inl e67) j35_1 rfl).1; (first | have a11 := in_u i45 | (have a11 := i45; unfold In at a11)); have a12 := t_add e45 i40 j35_1 rfl; omega⟩
                have n99 : (y35_2).toInt + (u_109_40).toInt = (y35_2).toInt + (u_109_40).toInt := by (first | have a0 := oa4 j35_1 i73a i40 i99 | ((first | have a0 := in_u j35_1 | (have a0 := j35_1; unfold In at a0)); (first | have a1 := in_u i73a | (have a1 := i73a; unfold In at a1)); (first | have a2 := in_u i40 | (have a2 := i40; unfold In at a2)); (first | have a3 := in_u i99 | (have a3 := i99; unfold In at a3)))); have a4 := t_add e80 i40 i79 rfl; (first | have a5 := in_u i79 | (have a5 := i79; unfold In at a5)); have a6 := (t_mulc 2 (Or.inl e79) j35_1 rfl).1; (first | have a7 := in_u i73 | (have a7 := i73; unfold In at a7)); have a8 := t_add e68 i40 i67 rfl; (first | have a9 := in_u i67 | (have a9 := i67; unfold In at a9)); have a10 := (t_mulc 2 (Or.inl e67) j35_1 rfl).1; (first | have a11 := in_u i45 | (have a11 := i45; unfold In at a11)); have a12 := t_add e45 i40 j35_1 rfl; omega
                have n99a : (y35_2).toInt ≤ (u_109_40).toInt := by (first | have a0 := oa4 j35_1 i73a i40 i99 | ((first | have a0 := in_u j35_1 | (have a0 := j35_1; unfold In at a0)); (first | have a1 := in_u i73a | (have a1 := i73a; unfold In at a1)); (first | have a2 := in_u i40 | (have a2 := i40; unfold In at a2)); (first | have a3 := in_u i99 | (have a3 := i99; unfold In at a3)))); have a4 := t_add e80 i40 i79 rfl; (first | have a5 := in_u i79 | (have a5 := i79; unfold In at a5)); have a6 := (t_mulc 2 (Or.inl e79) j35_1 rfl).1; (first | have a7 := in_u i73 | (have a7 := i73; unfold In at a7)); have a8 := t_add e68 i40 i67 rfl; (first | have a9 := in_u i67 | (have a9 := i67; unfold In at a9)); have a10 := (t_mulc 2 (Or.inl e67) j35_1 rfl).1; (first | have a11 := in_u i45 | (have a11 := i45; unfold In at a11)); have a12 := t_add e45 i40 j35_1 rfl; omega
                have n99b : (u_109_40).toInt ≤ (z80).toInt := by (first | have a0 := oa4 j35_1 i73a i40 i99 | ((first | have a0 := in_u j35_1 | (have a0 := j35_1; unfold In at a0)); (first | have a1 := in_u i73a | (have a1 := i73a; unfold In at a1)); (first | have a2 := in_u i40 | (have a2 := i40; unfold In at a2)); (first | have a3 := in_u i99 | (have a3 := i99; unfold In at a3)))); have a4 := t_add e80 i40 i79 rfl; (first | have a5 := in_u i79 | (have a5 := i79; unfold In at a5)); have a6 := (t_mulc 2 (Or.inl e79) j35_1 rfl).1; (first | have a7 := in_u i73 | (have a7 := i73; unfold In at a7)); have a8 := t_add e68 i40 i67 rfl; (first | have a9 := in_u i67 | (have a9 := i67; unfold In at a9)); have a10 := (t_mulc 2 (Or.inl e67) j35_1 rfl).1; (first | have a11 := in_u i45 | (have a11 := i45; unfold In at a11)); have a12 := t_add e45 i40 j35_1 rfl; omega
                have n99c : (u_109_40).toInt ≤ (u_109_40).toInt := by exact Int.le_refl _
                have n99d : (y35_2).toInt ≤ (y35_2).toInt := by exact Int.le_refl _
                have n99e : (z80).toInt ≤ (u_109_40).toInt := by (first | have a0 := oa4 j35_1 i73a i40 i99 | ((first | have a0 := in_u j35_1 | (have a0 := j35_1; unfold In at a0)); (first | have a1 := in_u i73a | (have a1 := i73a; unfold In at a1)); (first | have a2 := in_u i40 | (have a2 := i40; unfold In at a2)); (first | have a3 := in_u i99 | (have a3 := i99; unfold In at a3)))); have a4 := t_add e80 i40 i79 rfl; (first | have a5 := in_u i79 | (have a5 := i79; unfold In at a5)); have a6 := (t_mulc 2 (Or.inl e79) j35_1 rfl).1; (first | have a7 := in_u i73 | (have a7 := i73; unfold In at a7)); have a8 := t_add e68 i40 i67 rfl; (first | have a9 := in_u i67 | (have a9 := i67; unfold In at a9)); have a10 := (t_mulc 2 (Or.inl e67) j35_1 rfl).1; (first | have a11 := in_u i45 | (have a11 := i45; unfold In at a11)); have a12 := t_add e45 i40 j35_1 rfl; omega
                have n99f : (y35_2).toInt ≤ (z80).toInt := by (first | have a0 := oa4 j35_1 i73a i40 i99 | ((first | have a0 := in_u j35_1 | (have a0 := j35_1; unfold In at a0)); (first | have a1 := in_u i73a | (have a1 := i73a; unfold In at a1)); (first | have a2 := in_u i40 | (have a2 := i40; unfold In at a2)); (first | have a3 := in_u i99 | (have a3 := i99; unfold In at a3)))); have a4 := t_add e80 i40 i79 rfl; (first | have a5 := in_u i79 | (have a5 := i79; unfold In at a5)); have a6 := (t_mulc 2 (Or.inl e79) j35_1 rfl).1; (first | have a7 := in_u i73 | (have a7 := i73; unfold In at a7)); have a8 := t_add e68 i40 i67 rfl; (first | have a9 := in_u i67 | (have a9 := i67; unfold In at a9)); have a10 := (t_mulc 2 (Or.inl e67) j35_1 rfl).1; (first | have a11 := in_u i45 | (have a11 := i45; unfold In at a11)); have a12 := t_add e45 i40 j35_1 rfl; omega
                exact gg_w (by first | exact Nat.le_add_right _ _ | exact gw2 | exact gw3 | exact gwe rfl | exact gwf rfl | exact gwg rfl | exact gwh rfl | omega) (gg_f (gf_cons rfl (gf_cons rfl (gf_cons rfl (gf_cons rfl (gf_cons rfl (gf_cons rfl (gf_cons rfl (gf_cons rfl gf_nil)))))))) (ct99 2002 sc35 u_109_40 z80 y35_2 u_109_40 y35_2 hIc35 hFc35 (in_w 0 2001 i40 rfl) (in_w 0 2001 i73a rfl) i99 (in_w 0 2001 i40 rfl) (in_w 0 2001 i73a rfl) (in_w 0 2001 i40 rfl) n99 n99a n99b n99c n99d n99e n99f (m_in 2002 (in_w 0 2001 i40 rfl) rfl)))
            · skip
              have i50 := r_lt1 1 2000 c50 i45 i40a rfl
              have i50a := r_lt2 2 2001 c50 i45 i40a rfl
              refine g_iload_n 54 (gd rfl) rfl rfl ?_
              refine g_iload_n 55 (gd rfl) rfl rfl ?_
              refine g_iadd 56 (gd rfl) rfl (fun z55 e55 => ?_)
              have i55 := in_add 1 4001 e55 i40 j35_1 rfl rfl
              refine g_goto 63 (gd rfl) rfl ?_
              refine g_istore_n 64 (gd rfl) rfl (Nat.le_of_ble_eq_true rfl) ?_
              refine g_iload_n 65 (gd rfl) rfl rfl ?_
              refine g_iconst 2 66 (gd rfl) rfl rfl ?_
              refine g_iload_n 67 (gd rfl) rfl rfl ?_
              refine g_imul 68 (gd rfl) rfl (fun z67 e67 => ?_)
              have i67 := in_mulc 2 2 4002 (Or.inl e67) j35_1 rfl rfl
              refine g_iadd 69 (gd rfl) rfl (fun z68 e68 => ?_)
              have i68 := in_add 2 6002 e68 i40 i67 rfl rfl
              refine g_aload_n 70 (gd rfl) rfl rfl ?_
              refine g_getI 73 (gd rfl) rfl rfl rfl (fun z70 e70 => ?_)
              have q70 : u_109_40 = z70 := (fr_F e_109_40 hFc35 rfl).trans e70.symm
              subst q70
              refine g_cmp_ge 76 84 (gd rfl) rfl rfl (fun c73 => ?_) (fun c73 => ?_)
              · skip
                refine g_aload_n 85 (gd rfl) rfl rfl ?_
                refine g_getI 88 (gd rfl) rfl rfl rfl (fun z85 e85 => ?_)
                have q85 : u_109_40 = z85 := (fr_F e_109_40 hFc35 rfl).trans e85.symm
                subst q85
                refine g_istore 90 (gd rfl) rfl (Nat.le_of_ble_eq_true rfl) ?_
                refine g_iload_n 91 (gd rfl) rfl rfl ?_
                refine g_istore 93 (gd rfl) rfl (Nat.le_of_ble_eq_true rfl) ?_
                refine g_iload_n 94 (gd rfl) rfl rfl ?_
                refine g_istore 96 (gd rfl) rfl (Nat.le_of_ble_eq_true rfl) ?_
                refine g_iload_n 97 (gd rfl) rfl rfl ?_
                refine g_istore 99 (gd rfl) rfl (Nat.le_of_ble_eq_true rfl) ?_
                have i99 : In z55 0 2001 := by exact ⟨by (first | have a0 := oa4 j35_1 i50a i40 i55 | ((first | have a0 := in_u j35_1 | (have a0 := j35_1; unfold In at a0)); (first | have a1 := in_u i50a | (have a1 := i50a; unfold In at a1)); (first | have a2 := in_u i40 | (have a2 := i40; unfold In at a2)); (first | have a3 := in_u i55 | (have a3 := i55; unfold In at a3)))); have a4 := t_add e55 i40 j35_1 rfl; (first | have a5 := in_u i68 | (have a5 := i68; unfold In at a5)); have a6 := t_add e68 i40 i67 rfl; (first | have a7 := in_u i67 | (have a7 := i67; unfold In at a7)); have a8 := (t_mulc 2 (Or.inl e67) j35_1 rfl).1; (first | have a9 := in_u i50 | (have a9 := i50; unfold In at a9)); have a10 := t_add e45 i40 j35_1 rfl; omega, by (first | have a0 := oa4 j35_1 i50a i40 i55 | ((first | have a0 := in_u j35_1 | (have a0 := j35_1; unfold In at a0)); (first | have a1 := in_u i50a | (have a1 := i50a; unfold In at a1)); (first | have a2 := in_u i40 | (have a2 := i40; unfold In at a2)); (first | have a3 := in_u i55 | (have a3 := i55; unfold In at a3)))); have a4 := t_add e55 i40 j35_1 rfl; (first | have a5 := in_u i68 | (have a5 := i68; unfold In at a5)); have a6 := t_add e68 i40 i67 rfl; (first | have a7 := in_u i67 | (have a7 := i67; unfold In at a7)); have a8 := (t_mulc 2 (Or.inl e67) j35_1 rfl).1; (first | have a9 := in_u i50 | (have a9 := i50; unfold In at a9)); have a10 := t_add e45 i40 j35_1 rfl; omega⟩
                have n99 : (y35_2).toInt + (z55).toInt = (y35_2).toInt + (z55).toInt := by (first | have a0 := oa4 j35_1 i50a i40 i99 | ((first | have a0 := in_u j35_1 | (have a0 := j35_1; unfold In at a0)); (first | have a1 := in_u i50a | (have a1 := i50a; unfold In at a1)); (first | have a2 := in_u i40 | (have a2 := i40; unfold In at a2)); (first | have a3 := in_u i99 | (have a3 := i99; unfold In at a3)))); have a4 := t_add e55 i40 j35_1 rfl; (first | have a5 := in_u i68 | (have a5 := i68; unfold In at a5)); have a6 := t_add e68 i40 i67 rfl; (first | have a7 := in_u i67 | (have a7 := i67; unfold In at a7)); have a8 := (t_mulc 2 (Or.inl e67) j35_1 rfl).1; (first | have a9 := in_u i50 | (have a9 := i50; unfold In at a9)); have a10 := t_add e45 i40 j35_1 rfl; omega
                have n99a : (y35_2).toInt ≤ (z55).toInt := by (first | have a0 := oa4 j35_1 i50a i40 i99 | ((first | have a0 := in_u j35_1 | (have a0 := j35_1; unfold In at a0)); (first | have a1 := in_u i50a | (have a1 := i50a; unfold In at a1)); (first | have a2 := in_u i40 | (have a2 := i40; unfold In at a2)); (first | have a3 := in_u i99 | (have a3 := i99; unfold In at a3)))); have a4 := t_add e55 i40 j35_1 rfl; (first | have a5 := in_u i68 | (have a5 := i68; unfold In at a5)); have a6 := t_add e68 i40 i67 rfl; (first | have a7 := in_u i67 | (have a7 := i67; unfold In at a7)); have a8 := (t_mulc 2 (Or.inl e67) j35_1 rfl).1; (first | have a9 := in_u i50 | (have a9 := i50; unfold In at a9)); have a10 := t_add e45 i40 j35_1 rfl; omega
                have n99b : (z55).toInt ≤ (u_109_40).toInt := by (first | have a0 := oa4 j35_1 i50a i40 i99 | ((first | have a0 := in_u j35_1 | (have a0 := j35_1; unfold In at a0)); (first | have a1 := in_u i50a | (have a1 := i50a; unfold In at a1)); (first | have a2 := in_u i40 | (have a2 := i40; unfold In at a2)); (first | have a3 := in_u i99 | (have a3 := i99; unfold In at a3)))); have a4 := t_add e55 i40 j35_1 rfl; (first | have a5 := in_u i68 | (have a5 := i68; unfold In at a5)); have a6 := t_add e68 i40 i67 rfl; (first | have a7 := in_u i67 | (have a7 := i67; unfold In at a7)); have a8 := (t_mulc 2 (Or.inl e67) j35_1 rfl).1; (first | have a9 := in_u i50 | (have a9 := i50; unfold In at a9)); have a10 := t_add e45 i40 j35_1 rfl; omega
                have n99c : (z55).toInt ≤ (z55).toInt := by exact Int.le_refl _
                have n99d : (y35_2).toInt ≤ (y35_2).toInt := by exact Int.le_refl _
                have n99e : (u_109_40).toInt ≤ (u_109_40).toInt := by exact Int.le_refl _
                have n99f : (y35_2).toInt ≤ (u_109_40).toInt := by (first | have a0 := oa4 j35_1 i50a i40 i99 | ((first | have a0 := in_u j35_1 | (have a0 := j35_1; unfold In at a0)); (first | have a1 := in_u i50a | (have a1 := i50a; unfold In at a1)); (first | have a2 := in_u i40 | (have a2 := i40; unfold In at a2)); (first | have a3 := in_u i99 | (have a3 := i99; unfold In at a3)))); have a4 := t_add e55 i40 j35_1 rfl; (first | have a5 := in_u i68 | (have a5 := i68; unfold In at a5)); have a6 := t_add e68 i40 i67 rfl; (first | have a7 := in_u i67 | (have a7 := i67; unfold In at a7)); have a8 := (t_mulc 2 (Or.inl e67) j35_1 rfl).1; (first | have a9 := in_u i50 | (have a9 := i50; unfold In at a9)); have a10 := t_add e45 i40 j35_1 rfl; omega
                exact gg_w (by first | exact Nat.le_add_right _ _ | exact gw2 | exact gw3 | exact gwe rfl | exact gwf rfl | exact gwg rfl | exact gwh rfl | omega) (gg_f (gf_cons rfl (gf_cons rfl (gf_cons rfl (gf_cons rfl (gf_cons rfl (gf_cons rfl (gf_cons rfl (gf_cons rfl gf_nil)))))))) (ct99 2002 sc35 z55 u_109_40 y35_2 z55 y35_2 hIc35 hFc35 (in_w 0 2001 i40 rfl) i99 (in_w 0 2001 i50a rfl) (in_w 0 2001 i40 rfl) (in_w 0 2001 i99 rfl) (in_w 0 2001 i40 rfl) n99 n99a n99b n99c n99d n99e n99f (m_in 2002 (in_w 0 2001 i40 rfl) rfl)))
              · skip
                have i73 := r_lt1 2 2000 c73 i68 i50a rfl
                have i73a := r_lt2 3 2001 c73 i68 i50a rfl
                refine g_iload_n 77 (gd rfl) rfl rfl ?_
                refine g_iconst 2 78 (gd rfl) rfl rfl ?_
                refine g_iload_n 79 (gd rfl) rfl rfl ?_
                refine g_imul 80 (gd rfl) rfl (fun z79 e79 => ?_)
                have i79 := in_mulc 2 2 4002 (Or.inl e79) j35_1 rfl rfl
                refine g_iadd 81 (gd rfl) rfl (fun z80 e80 => ?_)
                have i80 := in_add 2 6002 e80 i40 i79 rfl rfl
                refine g_goto 88 (gd rfl) rfl ?_
                refine g_istore 90 (gd rfl) rfl (Nat.le_of_ble_eq_true rfl) ?_
                refine g_iload_n 91 (gd rfl) rfl rfl ?_
                refine g_istore 93 (gd rfl) rfl (Nat.le_of_ble_eq_true rfl) ?_
                refine g_iload_n 94 (gd rfl) rfl rfl ?_
                refine g_istore 96 (gd rfl) rfl (Nat.le_of_ble_eq_true rfl) ?_
                refine g_iload_n 97 (gd rfl) rfl rfl ?_
                refine g_istore 99 (gd rfl) rfl (Nat.le_of_ble_eq_true rfl) ?_
                have i99 : In z55 0 2001 := by exact ⟨by (first | have a0 := oa4 j35_1 i73a i40 i55 | ((first | have a0 := in_u j35_1 | (have a0 := j35_1; unfold In at a0)); (first | have a1 := in_u i73a | (have a1 := i73a; unfold In at a1)); (first | have a2 := in_u i40 | (have a2 := i40; unfold In at a2)); (first | have a3 := in_u i55 | (have a3 := i55; unfold In at a3)))); have a4 := t_add e55 i40 j35_1 rfl; (first | have a5 := in_u i80 | (have a5 := i80; unfold In at a5)); have a6 := t_add e80 i40 i79 rfl; (first | have a7 := in_u i79 | (have a7 := i79; unfold In at a7)); have a8 := (t_mulc 2 (Or.inl e79) j35_1 rfl).1; (first | have a9 := in_u i73 | (have a9 := i73; unfold In at a9)); have a10 := t_add e68 i40 i67 rfl; (first | have a11 := in_u i67 | (have a11 := i67; unfold In at a11)); have a12 := (t_mulc 2 (Or.inl e67) j35_1 rfl).1; (first | have a13 := in_u i50 | (have a13 := i50; unfold In at a13)); have a14 := t_add e45 i40 j35_1 rfl; omega, by (first | have a0 := oa4 j35_1 i73a i40 i55 | ((first | have a0 := in_u j35_1 | (have a0 := j35_1; unfold In at a0)); (first | have a1 := in_u i73a | (have a1 := i73a; unfold In at a1)); (first | have a2 := in_u i40 | (have a2 := i40; unfold In at a2)); (first | have a3 := in_u i55 | (have a3 := i55; unfold In at a3)))); have a4 := t_add e55 i40 j35_1 rfl; (first | have a5 := in_u i80 | (have a5 := i80; unfold In at a5)); have a6 := t_add e80 i40 i79 rfl; (first | have a7 := in_u i79 | (have a7 := i79; unfold In at a7)); have a8 := (t_mulc 2 (Or.inl e79) j35_1 rfl).1; (first | have a9 := in_u i73 | (have a9 := i73; unfold In at a9)); have a10 := t_add e68 i40 i67 rfl; (first | have a11 := in_u i67 | (have a11 := i67; unfold In at a11)); have a12 := (t_mulc 2 (Or.inl e67) j35_1 rfl).1; (first | have a13 := in_u i50 | (have a13 := i50; unfold In at a13)); have a14 := t_add e45 i40 j35_1 rfl; omega⟩
                have i99a : In z80 0 2001 := by exact ⟨by (first | have a0 := oa4 j35_1 i73a i40 i99 | ((first | have a0 := in_u j35_1 | (have a0 := j35_1; unfold In at a0)); (first | have a1 := in_u i73a | (have a1 := i73a; unfold In at a1)); (first | have a2 := in_u i40 | (have a2 := i40; unfold In at a2)); (first | have a3 := in_u i99 | (have a3 := i99; unfold In at a3)))); have a4 := t_add e55 i40 j35_1 rfl; (first | have a5 := in_u i80 | (have a5 := i80; unfold In at a5)); have a6 := t_add e80 i40 i79 rfl; (first | have a7 := in_u i79 | (have a7 := i79; unfold In at a7)); have a8 := (t_mulc 2 (Or.inl e79) j35_1 rfl).1; (first | have a9 := in_u i73 | (have a9 := i73; unfold In at a9)); have a10 := t_add e68 i40 i67 rfl; (first | have a11 := in_u i67 | (have a11 := i67; unfold In at a11)); have a12 := (t_mulc 2 (Or.inl e67) j35_1 rfl).1; (first | have a13 := in_u i50 | (have a13 := i50; unfold In at a13)); have a14 := t_add e45 i40 j35_1 rfl; omega, by (first | have a0 := oa4 j35_1 i73a i40 i99 | ((first | have a0 := in_u j35_1 | (have a0 := j35_1; unfold In at a0)); (first | have a1 := in_u i73a | (have a1 := i73a; unfold In at a1)); (first | have a2 := in_u i40 | (have a2 := i40; unfold In at a2)); (first | have a3 := in_u i99 | (have a3 := i99; unfold In at a3)))); have a4 := t_add e55 i40 j35_1 rfl; (first | have a5 := in_u i80 | (have a5 := i80; unfold In at a5)); have a6 := t_add e80 i40 i79 rfl; (first | have a7 := in_u i79 | (have a7 := i79; unfold In at a7)); have a8 := (t_mulc 2 (Or.inl e79) j35_1 rfl).1; (first | have a9 := in_u i73 | (have a9 := i73; unfold In at a9)); have a10 := t_add e68 i40 i67 rfl; (first | have a11 := in_u i67 | (have a11 := i67; unfold In at a11)); have a12 := (t_mulc 2 (Or.inl e67) j35_1 rfl).1; (first | have a13 := in_u i50 | (have a13 := i50; unfold In at a13)); have a14 := t_add e45 i40 j35_1 rfl; omega⟩
                have n99 : (y35_2).toInt + (z55).toInt = (y35_2).toInt + (z55).toInt := by (first | have a0 := oa4 j35_1 i73a i40 i99 | ((first | have a0 := in_u j35_1 | (have a0 := j35_1; unfold In at a0)); (first | have a1 := in_u i73a | (have a1 := i73a; unfold In at a1)); (first | have a2 := in_u i40 | (have a2 := i40; unfold In at a2)); (first | have a3 := in_u i99 | (have a3 := i99; unfold In at a3)))); have a4 := t_add e55 i40 j35_1 rfl; (first | have a5 := in_u i99a | (have a5 := i99a; unfold In at a5)); have a6 := t_add e80 i40 i79 rfl; (first | have a7 := in_u i79 | (have a7 := i79; unfold In at a7)); have a8 := (t_mulc 2 (Or.inl e79) j35_1 rfl).1; (first | have a9 := in_u i73 | (have a9 := i73; unfold In at a9)); have a10 := t_add e68 i40 i67 rfl; (first | have a11 := in_u i67 | (have a11 := i67; unfold In at a11)); have a12 := (t_mulc 2 (Or.inl e67) j35_1 rfl).1; (first | have a13 := in_u i50 | (have a13 := i50; unfold In at a13)); have a14 := t_add e45 i40 j35_1 rfl; omega
                have n99a : (y35_2).toInt ≤ (z55).toInt := by (first | have a0 := oa4 j35_1 i73a i40 i99 | ((first | have a0 := in_u j35_1 | (have a0 := j35_1; unfold In at a0)); (first | have a1 := in_u i73a | (have a1 := i73a; unfold In at a1)); (first | have a2 := in_u i40 | (have a2 := i40; unfold In at a2)); (first | have a3 := in_u i99 | (have a3 := i99; unfold In at a3)))); have a4 := t_add e55 i40 j35_1 rfl; (first | have a5 := in_u i99a | (have a5 := i99a; unfold In at a5)); have a6 := t_add e80 i40 i79 rfl; (first | have a7 := in_u i79 | (have a7 := i79; unfold In at a7)); have a8 := (t_mulc 2 (Or.inl e79) j35_1 rfl).1; (first | have a9 := in_u i73 | (have a9 := i73; unfold In at a9)); have a10 := t_add e68 i40 i67 rfl; (first | have a11 := in_u i67 | (have a11 := i67; unfold In at a11)); have a12 := (t_mulc 2 (Or.inl e67) j35_1 rfl).1; (first | have a13 := in_u i50 | (have a13 := i50; unfold In at a13)); have a14 := t_add e45 i40 j35_1 rfl; omega
                have n99b : (z55).toInt ≤ (z80).toInt := by (first | have a0 := oa4 j35_1 i73a i40 i99 | ((first | have a0 := in_u j35_1 | (have a0 := j35_1; unfold In at a0)); (first | have a1 := in_u i73a | (have a1 := i73a; unfold In at a1)); (first | have a2 := in_u i40 | (have a2 := i40; unfold In at a2)); (first | have a3 := in_u i99 | (have a3 := i99; unfold In at a3)))); have a4 := t_add e55 i40 j35_1 rfl; (first | have a5 := in_u i99a | (have a5 := i99a; unfold In at a5)); have a6 := t_add e80 i40 i79 rfl; (first | have a7 := in_u i79 | (have a7 := i79; unfold In at a7)); have a8 := (t_mulc 2 (Or.inl e79) j35_1 rfl).1; (first | have a9 := in_u i73 | (have a9 := i73; unfold In at a9)); have a10 := t_add e68 i40 i67 rfl; (first | have a11 := in_u i67 | (have a11 := i67; unfold In at a11)); have a12 := (t_mulc 2 (Or.inl e67) j35_1 rfl).1; (first | have a13 := in_u i50 | (have a13 := i50; unfold In at a13)); have a14 := t_add e45 i40 j35_1 rfl; omega
                have n99c : (z55).toInt ≤ (z55).toInt := by exact Int.le_refl _
                have n99d : (y35_2).toInt ≤ (y35_2).toInt := by exact Int.le_refl _
                have n99e : (z80).toInt ≤ (u_109_40).toInt := by (first | have a0 := oa4 j35_1 i73a i40 i99 | ((first | have a0 := in_u j35_1 | (have a0 := j35_1; unfold In at a0)); (first | have a1 := in_u i73a | (have a1 := i73a; unfold In at a1)); (first | have a2 := in_u i40 | (have a2 := i40; unfold In at a2)); (first | have a3 := in_u i99 | (have a3 := i99; unfold In at a3)))); have a4 := t_add e55 i40 j35_1 rfl; (first | have a5 := in_u i99a | (have a5 := i99a; unfold In at a5)); have a6 := t_add e80 i40 i79 rfl; (first | have a7 := in_u i79 | (have a7 := i79; unfold In at a7)); have a8 := (t_mulc 2 (Or.inl e79) j35_1 rfl).1; (first | have a9 := in_u i73 | (have a9 := i73; unfold In at a9)); have a10 := t_add e68 i40 i67 rfl; (first | have a11 := in_u i67 | (have a11 := i67; unfold In at a11)); have a12 := (t_mulc 2 (Or.inl e67) j35_1 rfl).1; (first | have a13 := in_u i50 | (have a13 := i50; unfold In at a13)); have a14 := t_add e45 i40 j35_1 rfl; omega
                have n99f : (y35_2).toInt ≤ (z80).toInt := by (first | have a0 := oa4 j35_1 i73a i40 i99 | ((first | have a0 := in_u j35_1 | (have a0 := j35_1; unfold In at a0)); (first | have a1 := in_u i73a | (have a1 := i73a; unfold In at a1)); (first | have a2 := in_u i40 | (have a2 := i40; unfold In at a2)); (first | have a3 := in_u i99 | (have a3 := i99; unfold In at a3)))); have a4 := t_add e55 i40 j35_1 rfl; (first | have a5 := in_u i99a | (have a5 := i99a; unfold In at a5)); have a6 := t_add e80 i40 i79 rfl; (first | have a7 := in_u i79 | (have a7 := i79; unfold In at a7)); have a8 := (t_mulc 2 (Or.inl e79) j35_1 rfl).1; (first | have a9 := in_u i73 | (have a9 := i73; unfold In at a9)); have a10 := t_add e68 i40 i67 rfl; (first | have a11 := in_u i67 | (have a11 := i67; unfold In at a11)); have a12 := (t_mulc 2 (Or.inl e67) j35_1 rfl).1; (first | have a13 := in_u i50 | (have a13 := i50; unfold In at a13)); have a14 := t_add e45 i40 j35_1 rfl; omega
                exact gg_w (by first | exact Nat.le_add_right _ _ | exact gw2 | exact gw3 | exact gwe rfl | exact gwf rfl | exact gwg rfl | exact gwh rfl | omega) (gg_f (gf_cons rfl (gf_cons rfl (gf_cons rfl (gf_cons rfl (gf_cons rfl (gf_cons rfl (gf_cons rfl (gf_cons rfl gf_nil)))))))) (ct99 2002 sc35 z55 z80 y35_2 z55 y35_2 hIc35 hFc35 (in_w 0 2001 i40 rfl) i99 i99a (in_w 0 2001 i40 rfl) (in_w 0 2001 i99 rfl) (in_w 0 2001 i40 rfl) n99 n99a n99b n99c n99d n99e n99f (m_in 2002 (in_w 0 2001 i40 rfl) rfl)))
      refine g_iload_n 26 (gd rfl) rfl rfl ?_
      refine g_aload_n 27 (gd rfl) rfl rfl ?_
      refine g_getI 30 (gd rfl) rfl rfl rfl (fun z27 e27 => ?_)
      have q27 : u_109_40 = z27 := (fr_F e_109_40 hFc25 rfl).trans e27.symm
      subst q27
      refine g_cmp_ge 33 256 (gd rfl) rfl rfl (fun c30 => ?_) (fun c30 => ?_)
      · skip
        exact g_return (gd rfl) rfl (hP _ _ ⟨sc25, hIc25, hFc25, rfl, rfl⟩)
      · skip
        have i30 := r_lt1 1 2000 c30 j25_1 ro_109_40 rfl
        have i30a := r_lt2 2 2001 c30 j25_1 ro_109_40 rfl
        refine g_iconst 0 34 (gd rfl) rfl rfl ?_
        refine g_istore_n 35 (gd rfl) rfl (Nat.le_of_ble_eq_true rfl) ?_
        have m35 : 10000 - ((Int32.ofInt 0)).toInt < ((10001 : Nat) : Int) := by (first | have a0 := oa3 i30a i30 ((in_c 0 rfl)) | ((first | have a0 := in_u i30a | (have a0 := i30a; unfold In at a0)); (first | have a1 := in_u i30 | (have a1 := i30; unfold In at a1)); (first | have a2 := in_u ((in_c 0 rfl)) | (have a2 := (in_c 0 rfl); unfold In at a2)))); omega
        exact gg_w (by first | exact Nat.le_add_right _ _ | exact gw2 | exact gw3 | exact gwe rfl | exact gwf rfl | exact gwg rfl | exact gwh rfl | omega) (gg_f (gf_cons rfl (gf_cons rfl (gf_cons rfl gf_nil))) (ct35 10001 sc25 (Int32.ofInt 0) hIc25 hFc25 (in_w 1 2001 i30 rfl) (in_w 0 8000 (in_c 0 rfl) rfl) m35))
  have ct2 : ∀ (k2 : Nat) (sc2 : GS) (y2_1 : Int32), Inv sc2 → Fr fm_324 s sc2 → (In y2_1 0 2001) → 2001 - (y2_1).toInt < (k2 : Int) → GG Z (d - 1) 324 post (gx xp) (90270172444406 + k2 * 900) 2 (fun j => xlook j [(0, .ref (A 109)), (1, .int y2_1)]) [] (WW Z A sc2 ++ ex) 0 0 := by
    intro k2
    induction k2 with
    | zero => intro sc2 y2_1 hIc2 hFc2 j2_1 mm2; exact m_no mm2 j2_1 rfl
    | succ k2 ih2 =>
      intro sc2 y2_1 hIc2 hFc2 j2_1 mm2
      refine gg_w (M := 90270172444406 + k2 * 900 + 900) gws ?_
      refine g_iload_n 3 (gd rfl) rfl rfl ?_
      refine g_aload_n 4 (gd rfl) rfl rfl ?_
      refine g_getI 7 (gd rfl) rfl rfl rfl (fun z4 e4 => ?_)
      have q4 : u_109_40 = z4 := (fr_F e_109_40 hFc2 rfl).trans e4.symm
      subst q4
      refine g_cmp_ge 10 23 (gd rfl) rfl rfl (fun c7 => ?_) (fun c7 => ?_)
      · skip
        refine g_iconst 1 24 (gd rfl) rfl rfl ?_
        refine g_istore_n 25 (gd rfl) rfl (Nat.le_of_ble_eq_true rfl) ?_
        have m25 : 5000 - ((Int32.ofInt 1)).toInt < ((5001 : Nat) : Int) := by (first | have a0 := oa3 ro_109_40 j2_1 ((in_c 1 rfl)) | ((first | have a0 := in_u ro_109_40 | (have a0 := ro_109_40; unfold In at a0)); (first | have a1 := in_u j2_1 | (have a1 := j2_1; unfold In at a1)); (first | have a2 := in_u ((in_c 1 rfl)) | (have a2 := (in_c 1 rfl); unfold In at a2)))); omega
        exact gg_w (by first | exact Nat.le_add_right _ _ | exact gw2 | exact gw3 | exact gwe rfl | exact gwf rfl | exact gwg rfl | exact gwh rfl | omega) (gg_f (gf_cons rfl (gf_cons rfl gf_nil)) (ct25 5001 sc2 (Int32.ofInt 1) hIc2 hFc2 (in_w 1 4608 (in_c 1 rfl) rfl) m25))
      · skip
        have i7 := r_lt1 0 2000 c7 j2_1 ro_109_40 rfl
        have i7a := r_lt2 1 2001 c7 j2_1 ro_109_40 rfl
        refine g_aload_n 11 (gd rfl) rfl rfl ?_
        refine g_getA (q2 := 136) 14 (gd rfl) rfl rfl rfl rfl ?_
        refine g_iload_n 15 (gd rfl) rfl rfl ?_
        refine g_iload_n 16 (gd rfl) rfl rfl ?_
        refine g_iastore 17 (gd rfl) rfl (n := 2001) rfl (in_ix i7 rfl) ?_
        have hI16 := inv_sI (q := 136) (j := y2_1.toNatClampNeg) hIc2 rfl (in_w 0 2000 i7 rfl)
        refine g_iinc 20 (gd rfl) rfl rfl (Nat.le_of_ble_eq_true rfl) (fun z17 e17 => ?_)
        have i17 := in_add 1 2001 e17 i7 (in_c 1 rfl) rfl rfl
        refine g_goto 2 (gd rfl) rfl ?_
        exact gg_w (by first | exact Nat.le_add_right _ _ | exact gw2 | exact gw3 | exact gwe rfl | exact gwf rfl | exact gwg rfl | exact gwh rfl | omega) (gg_f (gf_cons rfl (gf_cons rfl gf_nil)) (ih2 (sI sc2 136 y2_1.toNatClampNeg y2_1) z17 hI16 (fr_sI rfl hFc2) (in_w 0 2001 i17 rfl) (m_up mm2 (t_add e17 i7 (in_c 1 rfl) rfl) (in_w 1 1 (in_c 1 rfl) rfl))))
  refine g_enter2 (k := 324) (N := 90270174247106) (by first | exact dq1 hd rfl | exact dq0 hd rfl | exact dq2 hd rfl | exact dq3 hd rfl | omega) rfl (Nat.le_of_ble_eq_true rfl) ?_
  refine g_iconst 0 1 (gd rfl) rfl rfl ?_
  refine g_istore_n 2 (gd rfl) rfl (Nat.le_of_ble_eq_true rfl) ?_
  exact gg_w (by first | exact Nat.le_of_ble_eq_true rfl | omega) (gg_f (gf_cons rfl (gf_cons rfl gf_nil)) (ct2 2002 s (Int32.ofInt 0) hI fr_rf (in_w 0 2001 (in_c 0 rfl) rfl) (m_in 2002 (in_w 0 2001 (in_c 0 rfl) rfl) rfl)))

def fm_328 : FM := ([129], [], [(109, 0)], [])
/-- GraphHouseModel.part -/
theorem k_328 {Z : AmZ} {A : Nat → Nat} {s : GS} {ex : va_W} {d : Nat} {X : AmX} {x1 : Int32} {x2 : Int32} (hd : 4 ≤ d) (hI : Inv s)  : GC Z d 328 [.ref (A 109), .int x1, .int x2] (WW Z A s ++ ex) 0 0 (fun v u => ∃ t : GS, Inv t ∧ Fr fm_328 s t ∧ ∃ z : Int32, v = some (.int z) ∧ u = WW Z A t ++ ex ∧ In z 0 31) X := by
  intro post xp hP hX
  obtain ⟨u_109_20, e_109_20⟩ : ∃ w, w = s.2.2.1 109 20 := ⟨_, rfl⟩
  have ro_109_20 := inv_F hI 0 32 rfl e_109_20
  have ct50 : ∀ (k50 : Nat) (sc50 : GS) (y50_3 : Int32), Inv sc50 → Fr fm_328 s sc50 → (In x1 0 1) → (In x2 0 31) → (In y50_3 0 31) → ((y50_3).toInt ≤ (x2).toInt) → (0 ≤ (x2).toInt) → ((x2).toInt < (u_109_20).toInt) → (bt (sc50.1 129 (x2).toNatClampNeg) (x2).toNatClampNeg = true) → (x2).toInt - (y50_3).toInt < (k50 : Int) → GG Z (d - 1) 328 post (gx xp) (1 + k50 * 900) 50 (fun j => xlook j [(0, .ref (A 109)), (1, .int x1), (2, .int x2), (3, .int y50_3)]) [] (WW Z A sc50 ++ ex) 0 0 := by
    intro k50
    induction k50 with
    | zero => intro sc50 y50_3 hIc50 hFc50 j50_1 j50_2 j50_3 n50_0 n50_1 n50_2 g50_0 mm50; exfalso; have a0 := j50_2; unfold In at a0; have a1 := j50_1; unfold In at a1; (first | have a2 := in_u ro_109_20 | (have a2 := ro_109_20; unfold In at a2)); have a3 := j50_3; unfold In at a3; omega
    | succ k50 ih50 =>
      intro sc50 y50_3 hIc50 hFc50 j50_1 j50_2 j50_3 n50_0 n50_1 n50_2 g50_0 mm50
      refine gg_w (M := 1 + k50 * 900 + 900) gws ?_
      refine g_aload_n 51 (gd rfl) rfl rfl ?_
      refine g_getA (q2 := 129) 54 (gd rfl) rfl rfl rfl rfl ?_
      refine g_iload_n 55 (gd rfl) rfl rfl ?_
      refine g_iaload 56 (gd rfl) rfl (n := 32) rfl (in_ix j50_2 rfl) (fun z55 e55 => ?_)
      refine g_iload_n 57 (gd rfl) rfl rfl ?_
      refine g_calls (As := [.int z55, .int y50_3]) (r := []) 60 (gd rfl) rfl rfl rfl rfl rfl (Nat.le_of_ble_eq_true rfl) (mc := 0) (ms := 0) (Nat.zero_le _) (Nat.zero_le _) (P := fun v u => _) ?_ (fun v u h => h)
      intro po57 xx57 hp57 hx57
      refine g_enter2 (k := 311) (N := 300) (by first | exact dq1 hd rfl | exact dq0 hd rfl | exact dq2 hd rfl | exact dq3 hd rfl | omega) rfl (Nat.le_of_ble_eq_true rfl) ?_
      refine g_iload_n 1 (gd rfl) rfl rfl ?_
      refine g_iload_n 2 (gd rfl) rfl rfl ?_
      refine g_ishr 3 (gd rfl) rfl (fun z57x2 e57x2 => ?_)
      refine g_iconst 1 4 (gd rfl) rfl rfl ?_
      refine g_iand 5 (gd rfl) rfl (fun z57x4 e57x4 => ?_)
      have i57x4 := in_and2 e57x4 (in_c 1 rfl) rfl
      refine g_iconst 1 6 (gd rfl) rfl rfl ?_
      refine g_cmp_ne 9 13 (gd rfl) rfl rfl (fun c57x6 => ?_) (fun c57x6 => ?_)
      · skip
        have i57x6 := r_ne1 0 0 c57x6 i57x4 (in_c 1 rfl) rfl
        refine g_iconst 0 14 (gd rfl) rfl rfl ?_
        refine g_ireturn (gd rfl) rfl (nb01 (in_w 0 1 (in_c 0 rfl) rfl)) (hp57 _ _ ?_)
        show GG _ _ _ _ _ _ _ _ [.int (Int32.ofInt 0)] _ _ _
        refine g_if_eq 63 76 (gd rfl) rfl rfl (fun c60 => ?_) (fun c60 => ?_)
        · skip
          have hne : y50_3.toInt ≠ (x2).toInt := by first | exact pt_ne (bt_no e57x2 e57x4 j50_3 c57x6) (by rw [e55]; exact g50_0) | (intro e; have hb := bt_no e70x2 e70x4 j50_2 c70x6; rw [e68, Int32.toInt_inj.mp e, g50_0] at hb; cases hb)
          refine g_iinc 79 (gd rfl) rfl rfl (Nat.le_of_ble_eq_true rfl) (fun z76 e76 => ?_)
          have i76 := in_add 1 32 e76 j50_3 (in_c 1 rfl) rfl rfl
          refine g_goto 50 (gd rfl) rfl ?_
          have i50 : In z76 0 31 := by exact ⟨by (first | have a0 := oa5 j50_2 j50_1 ro_109_20 j50_3 i76 | ((first | have a0 := in_u j50_2 | (have a0 := j50_2; unfold In at a0)); (first | have a1 := in_u j50_1 | (have a1 := j50_1; unfold In at a1)); (first | have a2 := in_u ro_109_20 | (have a2 := ro_109_20; unfold In at a2)); (first | have a3 := in_u j50_3 | (have a3 := j50_3; unfold In at a3)); (first | have a4 := in_u i76 | (have a4 := i76; unfold In at a4)))); have a5 := t_add e76 j50_3 (in_c 1 rfl) rfl; (first | have a6 := in_u ((in_c 1 rfl)) | (have a6 := (in_c 1 rfl); unfold In at a6)); omega, by (first | have a0 := oa5 j50_2 j50_1 ro_109_20 j50_3 i76 | ((first | have a0 := in_u j50_2 | (have a0 := j50_2; unfold In at a0)); (first | have a1 := in_u j50_1 | (have a1 := j50_1; unfold In at a1)); (first | have a2 := in_u ro_109_20 | (have a2 := ro_109_20; unfold In at a2)); (first | have a3 := in_u j50_3 | (have a3 := j50_3; unfold In at a3)); (first | have a4 := in_u i76 | (have a4 := i76; unfold In at a4)))); have a5 := t_add e76 j50_3 (in_c 1 rfl) rfl; (first | have a6 := in_u ((in_c 1 rfl)) | (have a6 := (in_c 1 rfl); unfold In at a6)); omega⟩
          have n50 : (z76).toInt ≤ (x2).toInt := by (first | have a0 := oa5 j50_2 j50_1 ro_109_20 j50_3 i50 | ((first | have a0 := in_u j50_2 | (have a0 := j50_2; unfold In at a0)); (first | have a1 := in_u j50_1 | (have a1 := j50_1; unfold In at a1)); (first | have a2 := in_u ro_109_20 | (have a2 := ro_109_20; unfold In at a2)); (first | have a3 := in_u j50_3 | (have a3 := j50_3; unfold In at a3)); (first | have a4 := in_u i50 | (have a4 := i50; unfold In at a4)))); have a5 := t_add e76 j50_3 (in_c 1 rfl) rfl; (first | have a6 := in_u ((in_c 1 rfl)) | (have a6 := (in_c 1 rfl); unfold In at a6)); omega
          have n50a : 0 ≤ (x2).toInt := by first | exact n50_1 | ((first | have a0 := oa5 j50_2 j50_1 ro_109_20 j50_3 i50 | ((first | have a0 := in_u j50_2 | (have a0 := j50_2; unfold In at a0)); (first | have a1 := in_u j50_1 | (have a1 := j50_1; unfold In at a1)); (first | have a2 := in_u ro_109_20 | (have a2 := ro_109_20; unfold In at a2)); (first | have a3 := in_u j50_3 | (have a3 := j50_3; unfold In at a3)); (first | have a4 := in_u i50 | (have a4 := i50; unfold In at a4)))); have a5 := t_add e76 j50_3 (in_c 1 rfl) rfl; (first | have a6 := in_u ((in_c 1 rfl)) | (have a6 := (in_c 1 rfl); unfold In at a6)); omega)
          have n50b : (x2).toInt < (u_109_20).toInt := by first | exact n50_2 | ((first | have a0 := oa5 j50_2 j50_1 ro_109_20 j50_3 i50 | ((first | have a0 := in_u j50_2 | (have a0 := j50_2; unfold In at a0)); (first | have a1 := in_u j50_1 | (have a1 := j50_1; unfold In at a1)); (first | have a2 := in_u ro_109_20 | (have a2 := ro_109_20; unfold In at a2)); (first | have a3 := in_u j50_3 | (have a3 := j50_3; unfold In at a3)); (first | have a4 := in_u i50 | (have a4 := i50; unfold In at a4)))); have a5 := t_add e76 j50_3 (in_c 1 rfl) rfl; (first | have a6 := in_u ((in_c 1 rfl)) | (have a6 := (in_c 1 rfl); unfold In at a6)); omega)
          have n50c : bt (sc50.1 129 (x2).toNatClampNeg) (x2).toNatClampNeg = true := by first | exact g50_0 | (first | exact g50_0 | (refine p45 _ ⟨?_, ?_⟩; (have hn := (show u_109_20 = sc50.2.2.1 109 20 from fr_F e_109_20 hFc50 rfl); rw [← hn]; show (((x2).toInt.toNat : Nat) : Int) < _; (first | have a0 := oa5 j50_2 j50_1 ro_109_20 j50_3 i50 | ((first | have a0 := in_u j50_2 | (have a0 := j50_2; unfold In at a0)); (first | have a1 := in_u j50_1 | (have a1 := j50_1; unfold In at a1)); (first | have a2 := in_u ro_109_20 | (have a2 := ro_109_20; unfold In at a2)); (first | have a3 := in_u j50_3 | (have a3 := j50_3; unfold In at a3)); (first | have a4 := in_u i50 | (have a4 := i50; unfold In at a4)))); have a5 := t_add e76 j50_3 (in_c 1 rfl) rfl; (first | have a6 := in_u ((in_c 1 rfl)) | (have a6 := (in_c 1 rfl); unfold In at a6)); omega); (have e2 : (Int32.ofInt (-1)).toInt = -1 := rfl; rw [e2]; show (((x2).toInt.toNat : Nat) : Int) ≠ -1; omega)))
          have m50 : (x2).toInt - (z76).toInt < ((k50 : Nat) : Int) := by (first | have a0 := oa5 j50_2 j50_1 ro_109_20 j50_3 i50 | ((first | have a0 := in_u j50_2 | (have a0 := j50_2; unfold In at a0)); (first | have a1 := in_u j50_1 | (have a1 := j50_1; unfold In at a1)); (first | have a2 := in_u ro_109_20 | (have a2 := ro_109_20; unfold In at a2)); (first | have a3 := in_u j50_3 | (have a3 := j50_3; unfold In at a3)); (first | have a4 := in_u i50 | (have a4 := i50; unfold In at a4)))); have a5 := t_add e76 j50_3 (in_c 1 rfl) rfl; (first | have a6 := in_u ((in_c 1 rfl)) | (have a6 := (in_c 1 rfl); unfold In at a6)); omega
          exact gg_w (by first | exact Nat.le_add_right _ _ | exact gw2 | exact gw3 | exact gwe rfl | exact gwf rfl | exact gwg rfl | exact gwh rfl | omega) (gg_f (gf_cons rfl (gf_cons rfl (gf_cons rfl (gf_cons rfl gf_nil)))) (ih50  sc50 z76 hIc50 hFc50 (in_w 0 1 j50_1 rfl) (in_w 0 31 j50_2 rfl) i50 n50 n50a n50b n50c m50))
        · skip
          exact zn_ne c60 (in_c 0 rfl) rfl
      · skip
        have i57x6 := r_eq1 1 1 c57x6 i57x4 (in_c 1 rfl) rfl
        refine g_iconst 1 10 (gd rfl) rfl rfl ?_
        refine g_goto 14 (gd rfl) rfl ?_
        refine g_ireturn (gd rfl) rfl (nb01 (in_w 0 1 (in_c 1 rfl) rfl)) (hp57 _ _ ?_)
        show GG _ _ _ _ _ _ _ _ [.int (Int32.ofInt 1)] _ _ _
        refine g_if_eq 63 76 (gd rfl) rfl rfl (fun c60 => ?_) (fun c60 => ?_)
        · skip
          exact zn_eq c60 (in_c 1 rfl) rfl
        · skip
          refine g_aload_n 64 (gd rfl) rfl rfl ?_
          refine g_getA (q2 := 129) 67 (gd rfl) rfl rfl rfl rfl ?_
          refine g_iload_n 68 (gd rfl) rfl rfl ?_
          refine g_iaload 69 (gd rfl) rfl (n := 32) rfl (in_ix j50_3 rfl) (fun z68 e68 => ?_)
          refine g_iload_n 70 (gd rfl) rfl rfl ?_
          refine g_calls (As := [.int z68, .int x2]) (r := []) 73 (gd rfl) rfl rfl rfl rfl rfl (Nat.le_of_ble_eq_true rfl) (mc := 0) (ms := 0) (Nat.zero_le _) (Nat.zero_le _) (P := fun v u => _) ?_ (fun v u h => h)
          intro po70 xx70 hp70 hx70
          refine g_enter2 (k := 311) (N := 300) (by first | exact dq1 hd rfl | exact dq0 hd rfl | exact dq2 hd rfl | exact dq3 hd rfl | omega) rfl (Nat.le_of_ble_eq_true rfl) ?_
          refine g_iload_n 1 (gd rfl) rfl rfl ?_
          refine g_iload_n 2 (gd rfl) rfl rfl ?_
          refine g_ishr 3 (gd rfl) rfl (fun z70x2 e70x2 => ?_)
          refine g_iconst 1 4 (gd rfl) rfl rfl ?_
          refine g_iand 5 (gd rfl) rfl (fun z70x4 e70x4 => ?_)
          have i70x4 := in_and2 e70x4 (in_c 1 rfl) rfl
          refine g_iconst 1 6 (gd rfl) rfl rfl ?_
          refine g_cmp_ne 9 13 (gd rfl) rfl rfl (fun c70x6 => ?_) (fun c70x6 => ?_)
          · skip
            have i70x6 := r_ne1 0 0 c70x6 i70x4 (in_c 1 rfl) rfl
            refine g_iconst 0 14 (gd rfl) rfl rfl ?_
            refine g_ireturn (gd rfl) rfl (nb01 (in_w 0 1 (in_c 0 rfl) rfl)) (hp70 _ _ ?_)
            show GG _ _ _ _ _ _ _ _ [.int (Int32.ofInt 0)] _ _ _
            refine g_if_ne 76 82 (gd rfl) rfl rfl (fun c73 => ?_) (fun c73 => ?_)
            · skip
              exact zn_ne c73 (in_c 0 rfl) rfl
            · skip
              have hne : y50_3.toInt ≠ (x2).toInt := by first | exact pt_ne (bt_no e57x2 e57x4 j50_3 c57x6) (by rw [e55]; exact g50_0) | (intro e; have hb := bt_no e70x2 e70x4 j50_2 c70x6; rw [e68, Int32.toInt_inj.mp e, g50_0] at hb; cases hb)
              refine g_iinc 79 (gd rfl) rfl rfl (Nat.le_of_ble_eq_true rfl) (fun z76 e76 => ?_)
              have i76 := in_add 1 32 e76 j50_3 (in_c 1 rfl) rfl rfl
              refine g_goto 50 (gd rfl) rfl ?_
              have i50 : In z76 0 31 := by exact ⟨by (first | have a0 := oa5 j50_2 j50_1 ro_109_20 j50_3 i76 | ((first | have a0 := in_u j50_2 | (have a0 := j50_2; unfold In at a0)); (first | have a1 := in_u j50_1 | (have a1 := j50_1; unfold In at a1)); (first | have a2 := in_u ro_109_20 | (have a2 := ro_109_20; unfold In at a2)); (first | have a3 := in_u j50_3 | (have a3 := j50_3; unfold In at a3)); (first | have a4 := in_u i76 | (have a4 := i76; unfold In at a4)))); have a5 := t_add e76 j50_3 (in_c 1 rfl) rfl; (first | have a6 := in_u ((in_c 1 rfl)) | (have a6 := (in_c 1 rfl); unfold In at a6)); omega, by (first | have a0 := oa5 j50_2 j50_1 ro_109_20 j50_3 i76 | ((first | have a0 := in_u j50_2 | (have a0 := j50_2; unfold In at a0)); (first | have a1 := in_u j50_1 | (have a1 := j50_1; unfold In at a1)); (first | have a2 := in_u ro_109_20 | (have a2 := ro_109_20; unfold In at a2)); (first | have a3 := in_u j50_3 | (have a3 := j50_3; unfold In at a3)); (first | have a4 := in_u i76 | (have a4 := i76; unfold In at a4)))); have a5 := t_add e76 j50_3 (in_c 1 rfl) rfl; (first | have a6 := in_u ((in_c 1 rfl)) | (have a6 := (in_c 1 rfl); unfold In at a6)); omega⟩
              have n50 : (z76).toInt ≤ (x2).toInt := by (first | have a0 := oa5 j50_2 j50_1 ro_109_20 j50_3 i50 | ((first | have a0 := in_u j50_2 | (have a0 := j50_2; unfold In at a0)); (first | have a1 := in_u j50_1 | (have a1 := j50_1; unfold In at a1)); (first | have a2 := in_u ro_109_20 | (have a2 := ro_109_20; unfold In at a2)); (first | have a3 := in_u j50_3 | (have a3 := j50_3; unfold In at a3)); (first | have a4 := in_u i50 | (have a4 := i50; unfold In at a4)))); have a5 := t_add e76 j50_3 (in_c 1 rfl) rfl; (first | have a6 := in_u ((in_c 1 rfl)) | (have a6 := (in_c 1 rfl); unfold In at a6)); omega
              have n50a : 0 ≤ (x2).toInt := by first | exact n50_1 | ((first | have a0 := oa5 j50_2 j50_1 ro_109_20 j50_3 i50 | ((first | have a0 := in_u j50_2 | (have a0 := j50_2; unfold In at a0)); (first | have a1 := in_u j50_1 | (have a1 := j50_1; unfold In at a1)); (first | have a2 := in_u ro_109_20 | (have a2 := ro_109_20; unfold In at a2)); (first | have a3 := in_u j50_3 | (have a3 := j50_3; unfold In at a3)); (first | have a4 := in_u i50 | (have a4 := i50; unfold In at a4)))); have a5 := t_add e76 j50_3 (in_c 1 rfl) rfl; (first | have a6 := in_u ((in_c 1 rfl)) | (have a6 := (in_c 1 rfl); unfold In at a6)); omega)
              have n50b : (x2).toInt < (u_109_20).toInt := by first | exact n50_2 | ((first | have a0 := oa5 j50_2 j50_1 ro_109_20 j50_3 i50 | ((first | have a0 := in_u j50_2 | (have a0 := j50_2; unfold In at a0)); (first | have a1 := in_u j50_1 | (have a1 := j50_1; unfold In at a1)); (first | have a2 := in_u ro_109_20 | (have a2 := ro_109_20; unfold In at a2)); (first | have a3 := in_u j50_3 | (have a3 := j50_3; unfold In at a3)); (first | have a4 := in_u i50 | (have a4 := i50; unfold In at a4)))); have a5 := t_add e76 j50_3 (in_c 1 rfl) rfl; (first | have a6 := in_u ((in_c 1 rfl)) | (have a6 := (in_c 1 rfl); unfold In at a6)); omega)
              have n50c : bt (sc50.1 129 (x2).toNatClampNeg) (x2).toNatClampNeg = true := by first | exact g50_0 | (first | exact g50_0 | (refine p45 _ ⟨?_, ?_⟩; (have hn := (show u_109_20 = sc50.2.2.1 109 20 from fr_F e_109_20 hFc50 rfl); rw [← hn]; show (((x2).toInt.toNat : Nat) : Int) < _; (first | have a0 := oa5 j50_2 j50_1 ro_109_20 j50_3 i50 | ((first | have a0 := in_u j50_2 | (have a0 := j50_2; unfold In at a0)); (first | have a1 := in_u j50_1 | (have a1 := j50_1; unfold In at a1)); (first | have a2 := in_u ro_109_20 | (have a2 := ro_109_20; unfold In at a2)); (first | have a3 := in_u j50_3 | (have a3 := j50_3; unfold In at a3)); (first | have a4 := in_u i50 | (have a4 := i50; unfold In at a4)))); have a5 := t_add e76 j50_3 (in_c 1 rfl) rfl; (first | have a6 := in_u ((in_c 1 rfl)) | (have a6 := (in_c 1 rfl); unfold In at a6)); omega); (have e2 : (Int32.ofInt (-1)).toInt = -1 := rfl; rw [e2]; show (((x2).toInt.toNat : Nat) : Int) ≠ -1; omega)))
              have m50 : (x2).toInt - (z76).toInt < ((k50 : Nat) : Int) := by (first | have a0 := oa5 j50_2 j50_1 ro_109_20 j50_3 i50 | ((first | have a0 := in_u j50_2 | (have a0 := j50_2; unfold In at a0)); (first | have a1 := in_u j50_1 | (have a1 := j50_1; unfold In at a1)); (first | have a2 := in_u ro_109_20 | (have a2 := ro_109_20; unfold In at a2)); (first | have a3 := in_u j50_3 | (have a3 := j50_3; unfold In at a3)); (first | have a4 := in_u i50 | (have a4 := i50; unfold In at a4)))); have a5 := t_add e76 j50_3 (in_c 1 rfl) rfl; (first | have a6 := in_u ((in_c 1 rfl)) | (have a6 := (in_c 1 rfl); unfold In at a6)); omega
              exact gg_w (by first | exact Nat.le_add_right _ _ | exact gw2 | exact gw3 | exact gwe rfl | exact gwf rfl | exact gwg rfl | exact gwh rfl | omega) (gg_f (gf_cons rfl (gf_cons rfl (gf_cons rfl (gf_cons rfl gf_nil)))) (ih50  sc50 z76 hIc50 hFc50 (in_w 0 1 j50_1 rfl) (in_w 0 31 j50_2 rfl) i50 n50 n50a n50b n50c m50))
          · skip
            have i70x6 := r_eq1 1 1 c70x6 i70x4 (in_c 1 rfl) rfl
            refine g_iconst 1 10 (gd rfl) rfl rfl ?_
            refine g_goto 14 (gd rfl) rfl ?_
            refine g_ireturn (gd rfl) rfl (nb01 (in_w 0 1 (in_c 1 rfl) rfl)) (hp70 _ _ ?_)
            show GG _ _ _ _ _ _ _ _ [.int (Int32.ofInt 1)] _ _ _
            refine g_if_ne 76 82 (gd rfl) rfl rfl (fun c73 => ?_) (fun c73 => ?_)
            · skip
              refine g_iload_n 83 (gd rfl) rfl rfl ?_
              exact g_ireturn (gd rfl) rfl rfl (hP _ _ ⟨sc50, hIc50, hFc50, y50_3, rfl, rfl, in_w 0 31 j50_3 rfl⟩)
            · skip
              exact zn_eq c73 (in_c 1 rfl) rfl
  refine g_enter2 (k := 328) (N := 30601) (by first | exact dq1 hd rfl | exact dq0 hd rfl | exact dq2 hd rfl | exact dq3 hd rfl | omega) rfl (Nat.le_of_ble_eq_true rfl) ?_
  refine g_aload_n 1 (gd rfl) rfl rfl ?_
  refine g_iload_n 2 (gd rfl) rfl rfl ?_
  refine g_i2l 3 (gd rfl) rfl (fun z2 e2 => ?_)
  have i2 := l_i e2 (i_rng x1)
  refine g_lconst 0 4 (gd rfl) rfl rfl ?_
  refine g_lconst 1 5 (gd rfl) rfl rfl ?_
  refine g_calls (As := [.long z2, .long (Int64.ofInt 0), .long (Int64.ofInt 1)]) (r := [.ref (A 109)]) 8 (gd rfl) rfl rfl rfl rfl rfl (Nat.le_of_ble_eq_true rfl) (mc := 0) (ms := 0) (Nat.zero_le _) (Nat.zero_le _) (P := fun v u => _) ?_ (fun v u h => h)
  intro po5 xx5 hp5 hx5
  refine g_enter2 (k := 269) (N := 300) (by first | exact dq1 hd rfl | exact dq0 hd rfl | exact dq2 hd rfl | exact dq3 hd rfl | omega) rfl (Nat.le_of_ble_eq_true rfl) ?_
  refine g_lload_n 1 (gd rfl) rfl rfl ?_
  refine g_lload_n 2 (gd rfl) rfl rfl ?_
  refine g_lcmp 3 (gd rfl) rfl (fun z5x2 e5x2 => ?_)
  have i5x2 := lc_in e5x2
  refine g_if_lt 6 17 (gd rfl) rfl rfl (fun c5x3 => ?_) (fun c5x3 => ?_)
  · skip
    have i5x3 := z_lt (-1) (-1) c5x3 i5x2 rfl
    have c5x3a := lc_lt e5x2 c5x3
    have i5x3a := lr_lt1 (-2147483648) (-1) c5x3a i2 (l_c 0 rfl) rfl
    have i5x3b := l_b e2 i5x3a
    refine g_iconst 0 18 (gd rfl) rfl rfl ?_
    refine g_ireturn (gd rfl) rfl (nb01 (in_w 0 1 (in_c 0 rfl) rfl)) (hp5 _ _ ?_)
    show GG _ _ _ _ _ _ _ _ [.int (Int32.ofInt 0), .ref (A 109)] _ _ _
    refine g_if_eq 11 23 (gd rfl) rfl rfl (fun c8 => ?_) (fun c8 => ?_)
    · skip
      refine g_iconst 0 24 (gd rfl) rfl rfl ?_
      refine g_callv (X := _) (As := [.int (Int32.ofInt 0)]) (r := []) (b := A 109) (q := 109) 27 (gd rfl) rfl rfl rfl rfl rfl (ww_o rfl) (Nat.le_of_ble_eq_true rfl) (mc := 0) (ms := 0) (Nat.zero_le _) (Nat.zero_le _) (P := fun v u => _) ?_ (fun e u h => h) (fun v u h => h)
      intro po24 xx24 hp24 hx24
      refine g_enter2 (k := 271) (N := 300) (by first | exact dq1 hd rfl | exact dq0 hd rfl | exact dq2 hd rfl | exact dq3 hd rfl | omega) rfl (Nat.le_of_ble_eq_true rfl) ?_
      refine g_aload_n 1 (gd rfl) rfl rfl ?_
      refine g_iload_n 2 (gd rfl) rfl rfl ?_
      refine g_iconst 1 3 (gd rfl) rfl rfl ?_
      refine g_callv (X := _) (As := [.int (Int32.ofInt 0), .int (Int32.ofInt 1)]) (r := []) (b := A 109) (q := 109) 6 (gd rfl) rfl rfl rfl rfl rfl (ww_o rfl) (Nat.le_of_ble_eq_true rfl) (mc := 0) (ms := 0) (Nat.zero_le _) (Nat.zero_le _) (P := fun v u => _) ?_ (fun e u h => h) (fun v u h => h)
      intro po24x3 xx24x3 hp24x3 hx24x3
      refine g_enter2 (k := 270) (N := 300) (by first | exact dq1 hd rfl | exact dq0 hd rfl | exact dq2 hd rfl | exact dq3 hd rfl | omega) rfl (Nat.le_of_ble_eq_true rfl) ?_
      refine g_aload_n 1 (gd rfl) rfl rfl ?_
      refine g_iload_n 2 (gd rfl) rfl rfl ?_
      refine g_if_ne 5 9 (gd rfl) rfl rfl (fun c24x3x2 => ?_) (fun c24x3x2 => ?_)
      · skip
        exact zn_ne c24x3x2 (in_c 0 rfl) rfl
      · skip
        refine g_iconst 1 6 (gd rfl) rfl rfl ?_
        refine g_goto 18 (gd rfl) rfl ?_
        refine g_putI 21 (gd rfl) rfl rfl rfl rfl ?_
        have hI24x3x18 := inv_sF (q := 109) (j := 0) hI rfl (in_w 0 2 (in_c 1 rfl) rfl)
        refine g_aload_n 22 (gd rfl) rfl rfl ?_
        refine g_getI 25 (gd rfl) rfl rfl rfl (fun z24x3x22 e24x3x22 => ?_)
        have q24x3x22 : (Int32.ofInt 1) = z24x3x22 := (sF_get).trans e24x3x22.symm
        subst q24x3x22
        refine g_if_le 28 32 (gd rfl) rfl rfl (fun c24x3x25 => ?_) (fun c24x3x25 => ?_)
        · skip
          exact zn_le c24x3x25 (in_c 1 rfl) rfl
        · skip
          refine g_iconst 1 29 (gd rfl) rfl rfl ?_
          refine g_goto 33 (gd rfl) rfl ?_
          refine g_ireturn (gd rfl) rfl (nb01 (in_w 0 1 (in_c 1 rfl) rfl)) (hp24x3 _ _ ?_)
          show GG _ _ _ _ _ _ _ _ [.int (Int32.ofInt 1)] _ _ _
          refine g_ireturn (gd rfl) rfl (nb01 (in_w 0 1 (in_c 1 rfl) rfl)) (hp24 _ _ ?_)
          show GG _ _ _ _ _ _ _ _ [.int (Int32.ofInt 1)] _ _ _
          refine g_if_eq 30 32 (gd rfl) rfl rfl (fun c27 => ?_) (fun c27 => ?_)
          · skip
            exact zn_eq c27 (in_c 1 rfl) rfl
          · skip
            refine g_iconst 0 31 (gd rfl) rfl rfl ?_
            exact g_ireturn (gd rfl) rfl rfl (hP _ _ ⟨(sF s 109 0 (Int32.ofInt 1)), hI24x3x18, (fr_sF rfl fr_rf), (Int32.ofInt 0), rfl, rfl, in_w 0 31 (in_c 0 rfl) rfl⟩)
    · skip
      exact zn_ne c8 (in_c 0 rfl) rfl
  · skip
    have i5x3 := z_ge 0 1 c5x3 i5x2 rfl
    have c5x3a := lc_ge e5x2 c5x3
    have i5x3a := lr_le2 0 2147483647 c5x3a (l_c 0 rfl) i2 rfl
    have i5x3b := l_b e2 i5x3a
    refine g_lload_n 7 (gd rfl) rfl rfl ?_
    refine g_lload 9 (gd rfl) rfl rfl ?_
    refine g_lcmp 10 (gd rfl) rfl (fun z5x9 e5x9 => ?_)
    have i5x9 := lc_in e5x9
    refine g_if_gt 13 17 (gd rfl) rfl rfl (fun c5x10 => ?_) (fun c5x10 => ?_)
    · skip
      have i5x10 := z_gt 1 1 c5x10 i5x9 rfl
      have c5x10a := lc_gt e5x9 c5x10
      have i5x10a := lr_lt2 2 2147483647 c5x10a (l_c 1 rfl) i5x3a rfl
      have i5x10b := l_b e2 i5x10a
      refine g_iconst 0 18 (gd rfl) rfl rfl ?_
      refine g_ireturn (gd rfl) rfl (nb01 (in_w 0 1 (in_c 0 rfl) rfl)) (hp5 _ _ ?_)
      show GG _ _ _ _ _ _ _ _ [.int (Int32.ofInt 0), .ref (A 109)] _ _ _
      refine g_if_eq 11 23 (gd rfl) rfl rfl (fun c8 => ?_) (fun c8 => ?_)
      · skip
        refine g_iconst 0 24 (gd rfl) rfl rfl ?_
        refine g_callv (X := _) (As := [.int (Int32.ofInt 0)]) (r := []) (b := A 109) (q := 109) 27 (gd rfl) rfl rfl rfl rfl rfl (ww_o rfl) (Nat.le_of_ble_eq_true rfl) (mc := 0) (ms := 0) (Nat.zero_le _) (Nat.zero_le _) (P := fun v u => _) ?_ (fun e u h => h) (fun v u h => h)
        intro po24 xx24 hp24 hx24
        refine g_enter2 (k := 271) (N := 300) (by first | exact dq1 hd rfl | exact dq0 hd rfl | exact dq2 hd rfl | exact dq3 hd rfl | omega) rfl (Nat.le_of_ble_eq_true rfl) ?_
        refine g_aload_n 1 (gd rfl) rfl rfl ?_
        refine g_iload_n 2 (gd rfl) rfl rfl ?_
        refine g_iconst 1 3 (gd rfl) rfl rfl ?_
        refine g_callv (X := _) (As := [.int (Int32.ofInt 0), .int (Int32.ofInt 1)]) (r := []) (b := A 109) (q := 109) 6 (gd rfl) rfl rfl rfl rfl rfl (ww_o rfl) (Nat.le_of_ble_eq_true rfl) (mc := 0) (ms := 0) (Nat.zero_le _) (Nat.zero_le _) (P := fun v u => _) ?_ (fun e u h => h) (fun v u h => h)
        intro po24x3 xx24x3 hp24x3 hx24x3
        refine g_enter2 (k := 270) (N := 300) (by first | exact dq1 hd rfl | exact dq0 hd rfl | exact dq2 hd rfl | exact dq3 hd rfl | omega) rfl (Nat.le_of_ble_eq_true rfl) ?_
        refine g_aload_n 1 (gd rfl) rfl rfl ?_
        refine g_iload_n 2 (gd rfl) rfl rfl ?_
        refine g_if_ne 5 9 (gd rfl) rfl rfl (fun c24x3x2 => ?_) (fun c24x3x2 => ?_)
        · skip
          exact zn_ne c24x3x2 (in_c 0 rfl) rfl
        · skip
          refine g_iconst 1 6 (gd rfl) rfl rfl ?_
          refine g_goto 18 (gd rfl) rfl ?_
          refine g_putI 21 (gd rfl) rfl rfl rfl rfl ?_
          have hI24x3x18 := inv_sF (q := 109) (j := 0) hI rfl (in_w 0 2 (in_c 1 rfl) rfl)
          refine g_aload_n 22 (gd rfl) rfl rfl ?_
          refine g_getI 25 (gd rfl) rfl rfl rfl (fun z24x3x22 e24x3x22 => ?_)
          have q24x3x22 : (Int32.ofInt 1) = z24x3x22 := (sF_get).trans e24x3x22.symm
          subst q24x3x22
          refine g_if_le 28 32 (gd rfl) rfl rfl (fun c24x3x25 => ?_) (fun c24x3x25 => ?_)
          · skip
            exact zn_le c24x3x25 (in_c 1 rfl) rfl
          · skip
            refine g_iconst 1 29 (gd rfl) rfl rfl ?_
            refine g_goto 33 (gd rfl) rfl ?_
            refine g_ireturn (gd rfl) rfl (nb01 (in_w 0 1 (in_c 1 rfl) rfl)) (hp24x3 _ _ ?_)
            show GG _ _ _ _ _ _ _ _ [.int (Int32.ofInt 1)] _ _ _
            refine g_ireturn (gd rfl) rfl (nb01 (in_w 0 1 (in_c 1 rfl) rfl)) (hp24 _ _ ?_)
            show GG _ _ _ _ _ _ _ _ [.int (Int32.ofInt 1)] _ _ _
            refine g_if_eq 30 32 (gd rfl) rfl rfl (fun c27 => ?_) (fun c27 => ?_)
            · skip
              exact zn_eq c27 (in_c 1 rfl) rfl
            · skip
              refine g_iconst 0 31 (gd rfl) rfl rfl ?_
              exact g_ireturn (gd rfl) rfl rfl (hP _ _ ⟨(sF s 109 0 (Int32.ofInt 1)), hI24x3x18, (fr_sF rfl fr_rf), (Int32.ofInt 0), rfl, rfl, in_w 0 31 (in_c 0 rfl) rfl⟩)
      · skip
        exact zn_ne c8 (in_c 0 rfl) rfl
    · skip
      have i5x10 := z_le (-1) 0 c5x10 i5x9 rfl
      have c5x10a := lc_le e5x9 c5x10
      have i5x10a := lr_le1 0 1 c5x10a i5x3a (l_c 1 rfl) rfl
      have i5x10b := l_b e2 i5x10a
      refine g_iconst 1 14 (gd rfl) rfl rfl ?_
      refine g_goto 18 (gd rfl) rfl ?_
      refine g_ireturn (gd rfl) rfl (nb01 (in_w 0 1 (in_c 1 rfl) rfl)) (hp5 _ _ ?_)
      show GG _ _ _ _ _ _ _ _ [.int (Int32.ofInt 1), .ref (A 109)] _ _ _
      refine g_if_eq 11 23 (gd rfl) rfl rfl (fun c8 => ?_) (fun c8 => ?_)
      · skip
        exact zn_eq c8 (in_c 1 rfl) rfl
      · skip
        refine g_aload_n 12 (gd rfl) rfl rfl ?_
        refine g_iload_n 13 (gd rfl) rfl rfl ?_
        refine g_callv (X := _) (As := [.int x2]) (r := [.ref (A 109)]) (b := A 109) (q := 109) 16 (gd rfl) rfl rfl rfl rfl rfl (ww_o rfl) (Nat.le_of_ble_eq_true rfl) (mc := 0) (ms := 0) (Nat.zero_le _) (Nat.zero_le _) (P := fun v u => _) ?_ (fun e u h => h) (fun v u h => h)
        intro po13 xx13 hp13 hx13
        refine g_enter2 (k := 272) (N := 300) (by first | exact dq1 hd rfl | exact dq0 hd rfl | exact dq2 hd rfl | exact dq3 hd rfl | omega) rfl (Nat.le_of_ble_eq_true rfl) ?_
        refine g_iload_n 1 (gd rfl) rfl rfl ?_
        refine g_if_lt 4 16 (gd rfl) rfl rfl (fun c13x1 => ?_) (fun c13x1 => ?_)
        · skip
          have i13x1 := z_lt (-2147483648) (-1) c13x1 (i_rng x2) rfl
          refine g_iconst 0 17 (gd rfl) rfl rfl ?_
          refine g_ireturn (gd rfl) rfl (nb01 (in_w 0 1 (in_c 0 rfl) rfl)) (hp13 _ _ ?_)
          show GG _ _ _ _ _ _ _ _ [.int (Int32.ofInt 0), .ref (A 109)] _ _ _
          refine g_if_eq 19 23 (gd rfl) rfl rfl (fun c16 => ?_) (fun c16 => ?_)
          · skip
            refine g_iconst 0 24 (gd rfl) rfl rfl ?_
            refine g_callv (X := _) (As := [.int (Int32.ofInt 0)]) (r := []) (b := A 109) (q := 109) 27 (gd rfl) rfl rfl rfl rfl rfl (ww_o rfl) (Nat.le_of_ble_eq_true rfl) (mc := 0) (ms := 0) (Nat.zero_le _) (Nat.zero_le _) (P := fun v u => _) ?_ (fun e u h => h) (fun v u h => h)
            intro po24 xx24 hp24 hx24
            refine g_enter2 (k := 271) (N := 300) (by first | exact dq1 hd rfl | exact dq0 hd rfl | exact dq2 hd rfl | exact dq3 hd rfl | omega) rfl (Nat.le_of_ble_eq_true rfl) ?_
            refine g_aload_n 1 (gd rfl) rfl rfl ?_
            refine g_iload_n 2 (gd rfl) rfl rfl ?_
            refine g_iconst 1 3 (gd rfl) rfl rfl ?_
            refine g_callv (X := _) (As := [.int (Int32.ofInt 0), .int (Int32.ofInt 1)]) (r := []) (b := A 109) (q := 109) 6 (gd rfl) rfl rfl rfl rfl rfl (ww_o rfl) (Nat.le_of_ble_eq_true rfl) (mc := 0) (ms := 0) (Nat.zero_le _) (Nat.zero_le _) (P := fun v u => _) ?_ (fun e u h => h) (fun v u h => h)
            intro po24x3 xx24x3 hp24x3 hx24x3
            refine g_enter2 (k := 270) (N := 300) (by first | exact dq1 hd rfl | exact dq0 hd rfl | exact dq2 hd rfl | exact dq3 hd rfl | omega) rfl (Nat.le_of_ble_eq_true rfl) ?_
            refine g_aload_n 1 (gd rfl) rfl rfl ?_
            refine g_iload_n 2 (gd rfl) rfl rfl ?_
            refine g_if_ne 5 9 (gd rfl) rfl rfl (fun c24x3x2 => ?_) (fun c24x3x2 => ?_)
            · skip
              exact zn_ne c24x3x2 (in_c 0 rfl) rfl
            · skip
              refine g_iconst 1 6 (gd rfl) rfl rfl ?_
              refine g_goto 18 (gd rfl) rfl ?_
              refine g_putI 21 (gd rfl) rfl rfl rfl rfl ?_
              have hI24x3x18 := inv_sF (q := 109) (j := 0) hI rfl (in_w 0 2 (in_c 1 rfl) rfl)
              refine g_aload_n 22 (gd rfl) rfl rfl ?_
              refine g_getI 25 (gd rfl) rfl rfl rfl (fun z24x3x22 e24x3x22 => ?_)
              have q24x3x22 : (Int32.ofInt 1) = z24x3x22 := (sF_get).trans e24x3x22.symm
              subst q24x3x22
              refine g_if_le 28 32 (gd rfl) rfl rfl (fun c24x3x25 => ?_) (fun c24x3x25 => ?_)
              · skip
                exact zn_le c24x3x25 (in_c 1 rfl) rfl
              · skip
                refine g_iconst 1 29 (gd rfl) rfl rfl ?_
                refine g_goto 33 (gd rfl) rfl ?_
                refine g_ireturn (gd rfl) rfl (nb01 (in_w 0 1 (in_c 1 rfl) rfl)) (hp24x3 _ _ ?_)
                show GG _ _ _ _ _ _ _ _ [.int (Int32.ofInt 1)] _ _ _
                refine g_ireturn (gd rfl) rfl (nb01 (in_w 0 1 (in_c 1 rfl) rfl)) (hp24 _ _ ?_)
                show GG _ _ _ _ _ _ _ _ [.int (Int32.ofInt 1)] _ _ _
                refine g_if_eq 30 32 (gd rfl) rfl rfl (fun c27 => ?_) (fun c27 => ?_)
                · skip
                  exact zn_eq c27 (in_c 1 rfl) rfl
                · skip
                  refine g_iconst 0 31 (gd rfl) rfl rfl ?_
                  exact g_ireturn (gd rfl) rfl rfl (hP _ _ ⟨(sF s 109 0 (Int32.ofInt 1)), hI24x3x18, (fr_sF rfl fr_rf), (Int32.ofInt 0), rfl, rfl, in_w 0 31 (in_c 0 rfl) rfl⟩)
          · skip
            exact zn_ne c16 (in_c 0 rfl) rfl
        · skip
          have i13x1 := z_ge 0 2147483647 c13x1 (i_rng x2) rfl
          refine g_iload_n 5 (gd rfl) rfl rfl ?_
          refine g_aload_n 6 (gd rfl) rfl rfl ?_
          refine g_getI 9 (gd rfl) rfl rfl rfl (fun z13x6 e13x6 => ?_)
          have q13x6 : u_109_20 = z13x6 := (e_109_20).trans e13x6.symm
          subst q13x6
          refine g_cmp_ge 12 16 (gd rfl) rfl rfl (fun c13x9 => ?_) (fun c13x9 => ?_)
          · skip
            refine g_iconst 0 17 (gd rfl) rfl rfl ?_
            refine g_ireturn (gd rfl) rfl (nb01 (in_w 0 1 (in_c 0 rfl) rfl)) (hp13 _ _ ?_)
            show GG _ _ _ _ _ _ _ _ [.int (Int32.ofInt 0), .ref (A 109)] _ _ _
            refine g_if_eq 19 23 (gd rfl) rfl rfl (fun c16 => ?_) (fun c16 => ?_)
            · skip
              refine g_iconst 0 24 (gd rfl) rfl rfl ?_
              refine g_callv (X := _) (As := [.int (Int32.ofInt 0)]) (r := []) (b := A 109) (q := 109) 27 (gd rfl) rfl rfl rfl rfl rfl (ww_o rfl) (Nat.le_of_ble_eq_true rfl) (mc := 0) (ms := 0) (Nat.zero_le _) (Nat.zero_le _) (P := fun v u => _) ?_ (fun e u h => h) (fun v u h => h)
              intro po24 xx24 hp24 hx24
              refine g_enter2 (k := 271) (N := 300) (by first | exact dq1 hd rfl | exact dq0 hd rfl | exact dq2 hd rfl | exact dq3 hd rfl | omega) rfl (Nat.le_of_ble_eq_true rfl) ?_
              refine g_aload_n 1 (gd rfl) rfl rfl ?_
              refine g_iload_n 2 (gd rfl) rfl rfl ?_
              refine g_iconst 1 3 (gd rfl) rfl rfl ?_
              refine g_callv (X := _) (As := [.int (Int32.ofInt 0), .int (Int32.ofInt 1)]) (r := []) (b := A 109) (q := 109) 6 (gd rfl) rfl rfl rfl rfl rfl (ww_o rfl) (Nat.le_of_ble_eq_true rfl) (mc := 0) (ms := 0) (Nat.zero_le _) (Nat.zero_le _) (P := fun v u => _) ?_ (fun e u h => h) (fun v u h => h)
              intro po24x3 xx24x3 hp24x3 hx24x3
              refine g_enter2 (k := 270) (N := 300) (by first | exact dq1 hd rfl | exact dq0 hd rfl | exact dq2 hd rfl | exact dq3 hd rfl | omega) rfl (Nat.le_of_ble_eq_true rfl) ?_
              refine g_aload_n 1 (gd rfl) rfl rfl ?_
              refine g_iload_n 2 (gd rfl) rfl rfl ?_
              refine g_if_ne 5 9 (gd rfl) rfl rfl (fun c24x3x2 => ?_) (fun c24x3x2 => ?_)
              · skip
                exact zn_ne c24x3x2 (in_c 0 rfl) rfl
              · skip
                refine g_iconst 1 6 (gd rfl) rfl rfl ?_
                refine g_goto 18 (gd rfl) rfl ?_
                refine g_putI 21 (gd rfl) rfl rfl rfl rfl ?_
                have hI24x3x18 := inv_sF (q := 109) (j := 0) hI rfl (in_w 0 2 (in_c 1 rfl) rfl)
                refine g_aload_n 22 (gd rfl) rfl rfl ?_
                refine g_getI 25 (gd rfl) rfl rfl rfl (fun z24x3x22 e24x3x22 => ?_)
                have q24x3x22 : (Int32.ofInt 1) = z24x3x22 := (sF_get).trans e24x3x22.symm
                subst q24x3x22
                refine g_if_le 28 32 (gd rfl) rfl rfl (fun c24x3x25 => ?_) (fun c24x3x25 => ?_)
                · skip
                  exact zn_le c24x3x25 (in_c 1 rfl) rfl
                · skip
                  refine g_iconst 1 29 (gd rfl) rfl rfl ?_
                  refine g_goto 33 (gd rfl) rfl ?_
                  refine g_ireturn (gd rfl) rfl (nb01 (in_w 0 1 (in_c 1 rfl) rfl)) (hp24x3 _ _ ?_)
                  show GG _ _ _ _ _ _ _ _ [.int (Int32.ofInt 1)] _ _ _
                  refine g_ireturn (gd rfl) rfl (nb01 (in_w 0 1 (in_c 1 rfl) rfl)) (hp24 _ _ ?_)
                  show GG _ _ _ _ _ _ _ _ [.int (Int32.ofInt 1)] _ _ _
                  refine g_if_eq 30 32 (gd rfl) rfl rfl (fun c27 => ?_) (fun c27 => ?_)
                  · skip
                    exact zn_eq c27 (in_c 1 rfl) rfl
                  · skip
                    refine g_iconst 0 31 (gd rfl) rfl rfl ?_
                    exact g_ireturn (gd rfl) rfl rfl (hP _ _ ⟨(sF s 109 0 (Int32.ofInt 1)), hI24x3x18, (fr_sF rfl fr_rf), (Int32.ofInt 0), rfl, rfl, in_w 0 31 (in_c 0 rfl) rfl⟩)
            · skip
              exact zn_ne c16 (in_c 0 rfl) rfl
          · skip
            have i13x9 := r_lt1 0 31 c13x9 i13x1 ro_109_20 rfl
            have i13x9a := r_lt2 1 32 c13x9 i13x1 ro_109_20 rfl
            refine g_iconst 1 13 (gd rfl) rfl rfl ?_
            refine g_goto 17 (gd rfl) rfl ?_
            refine g_ireturn (gd rfl) rfl (nb01 (in_w 0 1 (in_c 1 rfl) rfl)) (hp13 _ _ ?_)
            show GG _ _ _ _ _ _ _ _ [.int (Int32.ofInt 1), .ref (A 109)] _ _ _
            refine g_if_eq 19 23 (gd rfl) rfl rfl (fun c16 => ?_) (fun c16 => ?_)
            · skip
              exact zn_eq c16 (in_c 1 rfl) rfl
            · skip
              refine g_iconst 1 20 (gd rfl) rfl rfl ?_
              refine g_goto 24 (gd rfl) rfl ?_
              refine g_callv (X := _) (As := [.int (Int32.ofInt 1)]) (r := []) (b := A 109) (q := 109) 27 (gd rfl) rfl rfl rfl rfl rfl (ww_o rfl) (Nat.le_of_ble_eq_true rfl) (mc := 0) (ms := 0) (Nat.zero_le _) (Nat.zero_le _) (P := fun v u => _) ?_ (fun e u h => h) (fun v u h => h)
              intro po24 xx24 hp24 hx24
              refine g_enter2 (k := 271) (N := 300) (by first | exact dq1 hd rfl | exact dq0 hd rfl | exact dq2 hd rfl | exact dq3 hd rfl | omega) rfl (Nat.le_of_ble_eq_true rfl) ?_
              refine g_aload_n 1 (gd rfl) rfl rfl ?_
              refine g_iload_n 2 (gd rfl) rfl rfl ?_
              refine g_iconst 1 3 (gd rfl) rfl rfl ?_
              refine g_callv (X := _) (As := [.int (Int32.ofInt 1), .int (Int32.ofInt 1)]) (r := []) (b := A 109) (q := 109) 6 (gd rfl) rfl rfl rfl rfl rfl (ww_o rfl) (Nat.le_of_ble_eq_true rfl) (mc := 0) (ms := 0) (Nat.zero_le _) (Nat.zero_le _) (P := fun v u => _) ?_ (fun e u h => h) (fun v u h => h)
              intro po24x3 xx24x3 hp24x3 hx24x3
              refine g_enter2 (k := 270) (N := 300) (by first | exact dq1 hd rfl | exact dq0 hd rfl | exact dq2 hd rfl | exact dq3 hd rfl | omega) rfl (Nat.le_of_ble_eq_true rfl) ?_
              refine g_aload_n 1 (gd rfl) rfl rfl ?_
              refine g_iload_n 2 (gd rfl) rfl rfl ?_
              refine g_if_ne 5 9 (gd rfl) rfl rfl (fun c24x3x2 => ?_) (fun c24x3x2 => ?_)
              · skip
                refine g_iload_n 10 (gd rfl) rfl rfl ?_
                refine g_if_ne 13 17 (gd rfl) rfl rfl (fun c24x3x10 => ?_) (fun c24x3x10 => ?_)
                · skip
                  refine g_iconst 0 18 (gd rfl) rfl rfl ?_
                  refine g_putI 21 (gd rfl) rfl rfl rfl rfl ?_
                  have hI24x3x18 := inv_sF (q := 109) (j := 0) hI rfl (in_w 0 2 (in_c 0 rfl) rfl)
                  refine g_aload_n 22 (gd rfl) rfl rfl ?_
                  refine g_getI 25 (gd rfl) rfl rfl rfl (fun z24x3x22 e24x3x22 => ?_)
                  have q24x3x22 : (Int32.ofInt 0) = z24x3x22 := (sF_get).trans e24x3x22.symm
                  subst q24x3x22
                  refine g_if_le 28 32 (gd rfl) rfl rfl (fun c24x3x25 => ?_) (fun c24x3x25 => ?_)
                  · skip
                    refine g_iconst 0 33 (gd rfl) rfl rfl ?_
                    refine g_ireturn (gd rfl) rfl (nb01 (in_w 0 1 (in_c 0 rfl) rfl)) (hp24x3 _ _ ?_)
                    show GG _ _ _ _ _ _ _ _ [.int (Int32.ofInt 0)] _ _ _
                    refine g_ireturn (gd rfl) rfl (nb01 (in_w 0 1 (in_c 0 rfl) rfl)) (hp24 _ _ ?_)
                    show GG _ _ _ _ _ _ _ _ [.int (Int32.ofInt 0)] _ _ _
                    refine g_if_eq 30 32 (gd rfl) rfl rfl (fun c27 => ?_) (fun c27 => ?_)
                    · skip
                      refine g_aload_n 33 (gd rfl) rfl rfl ?_
                      refine g_iload_n 34 (gd rfl) rfl rfl ?_
                      refine g_iconst 1 35 (gd rfl) rfl rfl ?_
                      refine g_cmp_ne 38 42 (gd rfl) rfl rfl (fun c35 => ?_) (fun c35 => ?_)
                      · skip
                        have i35 := r_ne1 0 0 c35 i5x10b (in_c 1 rfl) rfl
                        refine g_iconst 0 43 (gd rfl) rfl rfl ?_
                        refine g_iconst (-1) 44 (gd rfl) rfl rfl ?_
                        refine g_iconst (-1) 45 (gd rfl) rfl rfl ?_
                        refine g_callv (X := _) (As := [.int (Int32.ofInt 0), .int (Int32.ofInt (-1)), .int (Int32.ofInt (-1))]) (r := []) (b := A 109) (q := 109) 48 (gd rfl) rfl rfl rfl rfl rfl (ww_o rfl) (Nat.le_of_ble_eq_true rfl) (Nat.zero_le _) (Nat.zero_le _) (k_310 (by first | exact dq1 hd rfl | exact dq0 hd rfl | exact dq2 hd rfl | exact dq3 hd rfl | omega) hI24x3x18 (in_w 0 1 (in_c 0 rfl) rfl) (in_w (-1) 159 (in_c (-1) rfl) rfl) (in_w (-1) 31 (in_c (-1) rfl) rfl)) (fun e u h => h) (fun v u h => ?_)
                        obtain ⟨s45, hI45, hF45, rfl, rfl, p45, p45a⟩ := h
                        show GG _ _ _ _ _ _ _ _ [] _ _ _
                        refine g_iconst 0 49 (gd rfl) rfl rfl ?_
                        refine g_istore_n 50 (gd rfl) rfl (Nat.le_of_ble_eq_true rfl) ?_
                        have n50 : ((Int32.ofInt 0)).toInt ≤ (x2).toInt := by (first | have a0 := oa4 i13x9 i35 i13x9a ((in_c 0 rfl)) | ((first | have a0 := in_u i13x9 | (have a0 := i13x9; unfold In at a0)); (first | have a1 := in_u i35 | (have a1 := i35; unfold In at a1)); (first | have a2 := in_u i13x9a | (have a2 := i13x9a; unfold In at a2)); (first | have a3 := in_u ((in_c 0 rfl)) | (have a3 := (in_c 0 rfl); unfold In at a3)))); have a4 := tx_i2l e2; omega
                        have n50a : 0 ≤ (x2).toInt := by (first | have a0 := oa4 i13x9 i35 i13x9a ((in_c 0 rfl)) | ((first | have a0 := in_u i13x9 | (have a0 := i13x9; unfold In at a0)); (first | have a1 := in_u i35 | (have a1 := i35; unfold In at a1)); (first | have a2 := in_u i13x9a | (have a2 := i13x9a; unfold In at a2)); (first | have a3 := in_u ((in_c 0 rfl)) | (have a3 := (in_c 0 rfl); unfold In at a3)))); have a4 := tx_i2l e2; omega
                        have n50b : (x2).toInt < (u_109_20).toInt := by (first | have a0 := oa4 i13x9 i35 i13x9a ((in_c 0 rfl)) | ((first | have a0 := in_u i13x9 | (have a0 := i13x9; unfold In at a0)); (first | have a1 := in_u i35 | (have a1 := i35; unfold In at a1)); (first | have a2 := in_u i13x9a | (have a2 := i13x9a; unfold In at a2)); (first | have a3 := in_u ((in_c 0 rfl)) | (have a3 := (in_c 0 rfl); unfold In at a3)))); have a4 := tx_i2l e2; omega
                        have n50c : bt (s45.1 129 (x2).toNatClampNeg) (x2).toNatClampNeg = true := by first | exact g50_0 | (refine p45 _ ⟨?_, ?_⟩; (have hn := (show u_109_20 = s45.2.2.1 109 20 from fr_F (s := (sF s 109 0 (Int32.ofInt 0))) (sF_ne rfl (e_109_20)) hF45 rfl); rw [← hn]; show (((x2).toInt.toNat : Nat) : Int) < _; (first | have a0 := oa4 i13x9 i35 i13x9a ((in_c 0 rfl)) | ((first | have a0 := in_u i13x9 | (have a0 := i13x9; unfold In at a0)); (first | have a1 := in_u i35 | (have a1 := i35; unfold In at a1)); (first | have a2 := in_u i13x9a | (have a2 := i13x9a; unfold In at a2)); (first | have a3 := in_u ((in_c 0 rfl)) | (have a3 := (in_c 0 rfl); unfold In at a3)))); have a4 := tx_i2l e2; omega); (have e2 : (Int32.ofInt (-1)).toInt = -1 := rfl; rw [e2]; show (((x2).toInt.toNat : Nat) : Int) ≠ -1; omega))
                        have m50 : (x2).toInt - ((Int32.ofInt 0)).toInt < ((33 : Nat) : Int) := by (first | have a0 := oa4 i13x9 i35 i13x9a ((in_c 0 rfl)) | ((first | have a0 := in_u i13x9 | (have a0 := i13x9; unfold In at a0)); (first | have a1 := in_u i35 | (have a1 := i35; unfold In at a1)); (first | have a2 := in_u i13x9a | (have a2 := i13x9a; unfold In at a2)); (first | have a3 := in_u ((in_c 0 rfl)) | (have a3 := (in_c 0 rfl); unfold In at a3)))); have a4 := tx_i2l e2; omega
                        exact gg_w (by first | exact Nat.le_of_ble_eq_true rfl | omega) (gg_f (gf_cons rfl (gf_cons rfl (gf_cons rfl (gf_cons rfl gf_nil)))) (ct50 33 s45 (Int32.ofInt 0) hI45 (fr_tr rfl (fr_sF rfl fr_rf) hF45) (in_w 0 1 i35 rfl) (in_w 0 31 i13x9 rfl) (in_w 0 31 (in_c 0 rfl) rfl) n50 n50a n50b n50c m50))
                      · skip
                        have i35 := r_eq1 1 1 c35 i5x10b (in_c 1 rfl) rfl
                        refine g_iconst 1 39 (gd rfl) rfl rfl ?_
                        refine g_goto 43 (gd rfl) rfl ?_
                        refine g_iconst (-1) 44 (gd rfl) rfl rfl ?_
                        refine g_iconst (-1) 45 (gd rfl) rfl rfl ?_
                        refine g_callv (X := _) (As := [.int (Int32.ofInt 1), .int (Int32.ofInt (-1)), .int (Int32.ofInt (-1))]) (r := []) (b := A 109) (q := 109) 48 (gd rfl) rfl rfl rfl rfl rfl (ww_o rfl) (Nat.le_of_ble_eq_true rfl) (Nat.zero_le _) (Nat.zero_le _) (k_310 (by first | exact dq1 hd rfl | exact dq0 hd rfl | exact dq2 hd rfl | exact dq3 hd rfl | omega) hI24x3x18 (in_w 0 1 (in_c 1 rfl) rfl) (in_w (-1) 159 (in_c (-1) rfl) rfl) (in_w (-1) 31 (in_c (-1) rfl) rfl)) (fun e u h => h) (fun v u h => ?_)
                        obtain ⟨s45, hI45, hF45, rfl, rfl, p45, p45a⟩ := h
                        show GG _ _ _ _ _ _ _ _ [] _ _ _
                        refine g_iconst 0 49 (gd rfl) rfl rfl ?_
                        refine g_istore_n 50 (gd rfl) rfl (Nat.le_of_ble_eq_true rfl) ?_
                        have n50 : ((Int32.ofInt 0)).toInt ≤ (x2).toInt := by (first | have a0 := oa4 i13x9 i35 i13x9a ((in_c 0 rfl)) | ((first | have a0 := in_u i13x9 | (have a0 := i13x9; unfold In at a0)); (first | have a1 := in_u i35 | (have a1 := i35; unfold In at a1)); (first | have a2 := in_u i13x9a | (have a2 := i13x9a; unfold In at a2)); (first | have a3 := in_u ((in_c 0 rfl)) | (have a3 := (in_c 0 rfl); unfold In at a3)))); have a4 := tx_i2l e2; omega
                        have n50a : 0 ≤ (x2).toInt := by (first | have a0 := oa4 i13x9 i35 i13x9a ((in_c 0 rfl)) | ((first | have a0 := in_u i13x9 | (have a0 := i13x9; unfold In at a0)); (first | have a1 := in_u i35 | (have a1 := i35; unfold In at a1)); (first | have a2 := in_u i13x9a | (have a2 := i13x9a; unfold In at a2)); (first | have a3 := in_u ((in_c 0 rfl)) | (have a3 := (in_c 0 rfl); unfold In at a3)))); have a4 := tx_i2l e2; omega
                        have n50b : (x2).toInt < (u_109_20).toInt := by (first | have a0 := oa4 i13x9 i35 i13x9a ((in_c 0 rfl)) | ((first | have a0 := in_u i13x9 | (have a0 := i13x9; unfold In at a0)); (first | have a1 := in_u i35 | (have a1 := i35; unfold In at a1)); (first | have a2 := in_u i13x9a | (have a2 := i13x9a; unfold In at a2)); (first | have a3 := in_u ((in_c 0 rfl)) | (have a3 := (in_c 0 rfl); unfold In at a3)))); have a4 := tx_i2l e2; omega
                        have n50c : bt (s45.1 129 (x2).toNatClampNeg) (x2).toNatClampNeg = true := by first | exact g50_0 | (refine p45 _ ⟨?_, ?_⟩; (have hn := (show u_109_20 = s45.2.2.1 109 20 from fr_F (s := (sF s 109 0 (Int32.ofInt 0))) (sF_ne rfl (e_109_20)) hF45 rfl); rw [← hn]; show (((x2).toInt.toNat : Nat) : Int) < _; (first | have a0 := oa4 i13x9 i35 i13x9a ((in_c 0 rfl)) | ((first | have a0 := in_u i13x9 | (have a0 := i13x9; unfold In at a0)); (first | have a1 := in_u i35 | (have a1 := i35; unfold In at a1)); (first | have a2 := in_u i13x9a | (have a2 := i13x9a; unfold In at a2)); (first | have a3 := in_u ((in_c 0 rfl)) | (have a3 := (in_c 0 rfl); unfold In at a3)))); have a4 := tx_i2l e2; omega); (have e2 : (Int32.ofInt (-1)).toInt = -1 := rfl; rw [e2]; show (((x2).toInt.toNat : Nat) : Int) ≠ -1; omega))
                        have m50 : (x2).toInt - ((Int32.ofInt 0)).toInt < ((33 : Nat) : Int) := by (first | have a0 := oa4 i13x9 i35 i13x9a ((in_c 0 rfl)) | ((first | have a0 := in_u i13x9 | (have a0 := i13x9; unfold In at a0)); (first | have a1 := in_u i35 | (have a1 := i35; unfold In at a1)); (first | have a2 := in_u i13x9a | (have a2 := i13x9a; unfold In at a2)); (first | have a3 := in_u ((in_c 0 rfl)) | (have a3 := (in_c 0 rfl); unfold In at a3)))); have a4 := tx_i2l e2; omega
                        exact gg_w (by first | exact Nat.le_of_ble_eq_true rfl | omega) (gg_f (gf_cons rfl (gf_cons rfl (gf_cons rfl (gf_cons rfl gf_nil)))) (ct50 33 s45 (Int32.ofInt 0) hI45 (fr_tr rfl (fr_sF rfl fr_rf) hF45) (in_w 0 1 i35 rfl) (in_w 0 31 i13x9 rfl) (in_w 0 31 (in_c 0 rfl) rfl) n50 n50a n50b n50c m50))
                    · skip
                      exact zn_ne c27 (in_c 0 rfl) rfl
                  · skip
                    exact zn_gt c24x3x25 (in_c 0 rfl) rfl
                · skip
                  exact zn_eq c24x3x10 (in_c 1 rfl) rfl
              · skip
                exact zn_eq c24x3x2 (in_c 1 rfl) rfl

def fm_329 : FM := ([129], [], [], [])
/-- GraphHouseModel.weakParts -/
theorem k_329 {Z : AmZ} {A : Nat → Nat} {s : GS} {ex : va_W} {d : Nat} {X : AmX} {x1 : Int32} {x2 : Int32} (hd : 4 ≤ d) (hI : Inv s) (h1 : In x1 (-1) 159) (h2 : In x2 (-1) 31) : GC Z d 329 [.ref (A 109), .int x1, .int x2] (WW Z A s ++ ex) 0 0 (fun v u => ∃ t : GS, Inv t ∧ Fr fm_329 s t ∧ ∃ z : Int32, v = some (.int z) ∧ u = WW Z A t ++ ex ∧ In z (-2147483648) 2147483647) X := by
  intro post xp hP hX
  obtain ⟨u_109_20, e_109_20⟩ : ∃ w, w = s.2.2.1 109 20 := ⟨_, rfl⟩
  have ro_109_20 := inv_F hI 0 32 rfl e_109_20
  have ct12 : ∀ (k12 : Nat) (sc12 : GS) (y12_3 : Int32) (y12_4 : Int32), Inv sc12 → Fr fm_329 s sc12 → (In y12_4 0 32) → (∀ j : Nat, ((j : Int) < (sc12.2.2.1 109 20).toInt ∧ (j : Int) ≠ (x2).toInt) → bt (sc12.1 129 j) j = true) → 32 - (y12_4).toInt < (k12 : Int) → GG Z (d - 1) 329 post (gx xp) (1 + k12 * 900) 12 (fun j => xlook j [(0, .ref (A 109)), (1, .int x1), (2, .int x2), (3, .int y12_3), (4, .int y12_4)]) [] (WW Z A sc12 ++ ex) 0 0 := by
    intro k12
    induction k12 with
    | zero => intro sc12 y12_3 y12_4 hIc12 hFc12 j12_4 g12_0 mm12; exact m_no mm12 j12_4 rfl
    | succ k12 ih12 =>
      intro sc12 y12_3 y12_4 hIc12 hFc12 j12_4 g12_0 mm12
      refine gg_w (M := 1 + k12 * 900 + 900) gws ?_
      refine g_iload 14 (gd rfl) rfl rfl ?_
      refine g_aload_n 15 (gd rfl) rfl rfl ?_
      refine g_getI 18 (gd rfl) rfl rfl rfl (fun z15 e15 => ?_)
      have q15 : u_109_20 = z15 := (fr_F e_109_20 hFc12 rfl).trans e15.symm
      subst q15
      refine g_cmp_ge 21 56 (gd rfl) rfl rfl (fun c18 => ?_) (fun c18 => ?_)
      · skip
        refine g_iload_n 57 (gd rfl) rfl rfl ?_
        exact g_ireturn (gd rfl) rfl rfl (hP _ _ ⟨sc12, hIc12, hFc12, y12_3, rfl, rfl, in_w (-2147483648) 2147483647 (i_rng y12_3) rfl⟩)
      · skip
        have i18 := r_lt1 0 31 c18 j12_4 ro_109_20 rfl
        have i18a := r_lt2 1 32 c18 j12_4 ro_109_20 rfl
        refine g_iload_n 22 (gd rfl) rfl rfl ?_
        refine g_iload 24 (gd rfl) rfl rfl ?_
        refine g_iload_n 25 (gd rfl) rfl rfl ?_
        refine g_cmp_eq 28 47 (gd rfl) rfl rfl (fun c25 => ?_) (fun c25 => ?_)
        · skip
          have i25 := r_eq2 0 31 c25 i18 h2 rfl
          refine g_iconst 0 48 (gd rfl) rfl rfl ?_
          refine g_iadd 49 (gd rfl) rfl (fun z48 e48 => ?_)
          have i48 := in_add (-2147483648) 2147483647 e48 (i_rng y12_3) (in_c 0 rfl) rfl rfl
          refine g_istore_n 50 (gd rfl) rfl (Nat.le_of_ble_eq_true rfl) ?_
          refine g_iinc 53 (gd rfl) rfl rfl (Nat.le_of_ble_eq_true rfl) (fun z50 e50 => ?_)
          have i50 := in_add 1 32 e50 i18 (in_c 1 rfl) rfl rfl
          refine g_goto 12 (gd rfl) rfl ?_
          have n12 : ∀ j : Nat, ((j : Int) < (sc12.2.2.1 109 20).toInt ∧ (j : Int) ≠ (x2).toInt) → bt (sc12.1 129 j) j = true := by first | exact g12_0 | exact p4
          exact gg_w (by first | exact Nat.le_add_right _ _ | exact gw2 | exact gw3 | exact gwe rfl | exact gwf rfl | exact gwg rfl | exact gwh rfl | omega) (gg_f (gf_cons rfl (gf_cons rfl (gf_cons rfl (gf_cons rfl (gf_cons rfl gf_nil))))) (ih12 sc12 z48 z50 hIc12 hFc12 (in_w 0 32 i50 rfl) n12 (m_up mm12 (t_add e50 i18 (in_c 1 rfl) rfl) (in_w 1 1 (in_c 1 rfl) rfl))))
        · skip
          refine g_aload_n 29 (gd rfl) rfl rfl ?_
          refine g_getA (q2 := 129) 32 (gd rfl) rfl rfl rfl rfl ?_
          refine g_iload 34 (gd rfl) rfl rfl ?_
          refine g_iaload 35 (gd rfl) rfl (n := 32) rfl (in_ix i18 rfl) (fun z34 e34 => ?_)
          have nz35 : (z34).toInt ≠ 0 := by refine bt_nz (k := y12_4.toNatClampNeg) ?_; rw [e34]; refine g12_0 _ ⟨?_, ?_⟩; (have hn := (show u_109_20 = sc12.2.2.1 109 20 from fr_F e_109_20 hFc12 rfl); rw [← hn]; show ((y12_4.toInt.toNat : Nat) : Int) < _; (first | have a0 := oa4 h2 h1 i18a i18 | ((first | have a0 := in_u h2 | (have a0 := h2; unfold In at a0)); (first | have a1 := in_u h1 | (have a1 := h1; unfold In at a1)); (first | have a2 := in_u i18a | (have a2 := i18a; unfold In at a2)); (first | have a3 := in_u i18 | (have a3 := i18; unfold In at a3)))); omega); (intro e; apply c25; have e4 : ((y12_4.toInt.toNat : Nat) : Int) = y12_4.toInt := (by (first | have a0 := oa4 h2 h1 i18a i18 | ((first | have a0 := in_u h2 | (have a0 := h2; unfold In at a0)); (first | have a1 := in_u h1 | (have a1 := h1; unfold In at a1)); (first | have a2 := in_u i18a | (have a2 := i18a; unfold In at a2)); (first | have a3 := in_u i18 | (have a3 := i18; unfold In at a3)))); omega); have e5 : ((y12_4.toInt.toNat : Nat) : Int) = (x2).toInt := e; omega)
          refine g_calls (As := [.int z34]) (r := [.int y12_3]) 38 (gd rfl) rfl rfl rfl rfl rfl (Nat.le_of_ble_eq_true rfl) (Nat.zero_le _) (Nat.zero_le _) (k_327n (by first | exact dq1 hd rfl | exact dq0 hd rfl | exact dq2 hd rfl | exact dq3 hd rfl | omega) nz35) (fun v u h => ?_)
          obtain ⟨z35, rfl, rfl, i35, hb35⟩ := h
          show GG _ _ _ _ _ _ _ _ [.int z35, .int y12_3] _ _ _
          refine g_iload 40 (gd rfl) rfl rfl ?_
          refine g_cmp_ne 43 47 (gd rfl) rfl rfl (fun c40 => ?_) (fun c40 => ?_)
          · skip
            refine g_iconst 0 48 (gd rfl) rfl rfl ?_
            refine g_iadd 49 (gd rfl) rfl (fun z48 e48 => ?_)
            have i48 := in_add (-2147483648) 2147483647 e48 (i_rng y12_3) (in_c 0 rfl) rfl rfl
            refine g_istore_n 50 (gd rfl) rfl (Nat.le_of_ble_eq_true rfl) ?_
            refine g_iinc 53 (gd rfl) rfl rfl (Nat.le_of_ble_eq_true rfl) (fun z50 e50 => ?_)
            have i50 := in_add 1 32 e50 i18 (in_c 1 rfl) rfl rfl
            refine g_goto 12 (gd rfl) rfl ?_
            have n12 : ∀ j : Nat, ((j : Int) < (sc12.2.2.1 109 20).toInt ∧ (j : Int) ≠ (x2).toInt) → bt (sc12.1 129 j) j = true := by first | exact g12_0 | exact p4
            exact gg_w (by first | exact Nat.le_add_right _ _ | exact gw2 | exact gw3 | exact gwe rfl | exact gwf rfl | exact gwg rfl | exact gwh rfl | omega) (gg_f (gf_cons rfl (gf_cons rfl (gf_cons rfl (gf_cons rfl (gf_cons rfl gf_nil))))) (ih12 sc12 z48 z50 hIc12 hFc12 (in_w 0 32 i50 rfl) n12 (m_up mm12 (t_add e50 i18 (in_c 1 rfl) rfl) (in_w 1 1 (in_c 1 rfl) rfl))))
          · skip
            refine g_iconst 1 44 (gd rfl) rfl rfl ?_
            refine g_goto 48 (gd rfl) rfl ?_
            refine g_iadd 49 (gd rfl) rfl (fun z48 e48 => ?_)
            refine g_istore_n 50 (gd rfl) rfl (Nat.le_of_ble_eq_true rfl) ?_
            refine g_iinc 53 (gd rfl) rfl rfl (Nat.le_of_ble_eq_true rfl) (fun z50 e50 => ?_)
            have i50 := in_add 1 32 e50 i18 (in_c 1 rfl) rfl rfl
            refine g_goto 12 (gd rfl) rfl ?_
            have n12 : ∀ j : Nat, ((j : Int) < (sc12.2.2.1 109 20).toInt ∧ (j : Int) ≠ (x2).toInt) → bt (sc12.1 129 j) j = true := by first | exact g12_0 | exact p4
            exact gg_w (by first | exact Nat.le_add_right _ _ | exact gw2 | exact gw3 | exact gwe rfl | exact gwf rfl | exact gwg rfl | exact gwh rfl | omega) (gg_f (gf_cons rfl (gf_cons rfl (gf_cons rfl (gf_cons rfl (gf_cons rfl gf_nil))))) (ih12 sc12 z48 z50 hIc12 hFc12 (in_w 0 32 i50 rfl) n12 (m_up mm12 (t_add e50 i18 (in_c 1 rfl) rfl) (in_w 1 1 (in_c 1 rfl) rfl))))
  refine g_enter2 (k := 329) (N := 30601) (by first | exact dq1 hd rfl | exact dq0 hd rfl | exact dq2 hd rfl | exact dq3 hd rfl | omega) rfl (Nat.le_of_ble_eq_true rfl) ?_
  refine g_aload_n 1 (gd rfl) rfl rfl ?_
  refine g_iconst 1 2 (gd rfl) rfl rfl ?_
  refine g_iload_n 3 (gd rfl) rfl rfl ?_
  refine g_iload_n 4 (gd rfl) rfl rfl ?_
  refine g_callv (X := _) (As := [.int (Int32.ofInt 1), .int x1, .int x2]) (r := []) (b := A 109) (q := 109) 7 (gd rfl) rfl rfl rfl rfl rfl (ww_o rfl) (Nat.le_of_ble_eq_true rfl) (Nat.zero_le _) (Nat.zero_le _) (k_310 (by first | exact dq1 hd rfl | exact dq0 hd rfl | exact dq2 hd rfl | exact dq3 hd rfl | omega) hI (in_w 0 1 (in_c 1 rfl) rfl) (in_w (-1) 159 h1 rfl) (in_w (-1) 31 h2 rfl)) (fun e u h => h) (fun v u h => ?_)
  obtain ⟨s4, hI4, hF4, rfl, rfl, p4, p4a⟩ := h
  show GG _ _ _ _ _ _ _ _ [] _ _ _
  refine g_iconst 0 8 (gd rfl) rfl rfl ?_
  refine g_istore_n 9 (gd rfl) rfl (Nat.le_of_ble_eq_true rfl) ?_
  refine g_iconst 0 10 (gd rfl) rfl rfl ?_
  refine g_istore 12 (gd rfl) rfl (Nat.le_of_ble_eq_true rfl) ?_
  have n12 : ∀ j : Nat, ((j : Int) < (s4.2.2.1 109 20).toInt ∧ (j : Int) ≠ (x2).toInt) → bt (s4.1 129 j) j = true := by first | exact g12_0 | exact p4
  exact gg_w (by first | exact Nat.le_of_ble_eq_true rfl | omega) (gg_f (gf_cons rfl (gf_cons rfl (gf_cons rfl (gf_cons rfl (gf_cons rfl gf_nil))))) (ct12 33 s4 (Int32.ofInt 0) (Int32.ofInt 0) hI4 (fr_tr rfl fr_rf hF4) (in_w 0 32 (in_c 0 rfl) rfl) n12 (m_in 33 (in_w 0 32 (in_c 0 rfl) rfl) rfl)))

def fm_330 : FM := ([129], [], [(109, 0)], [])
/-- GraphHouseModel.bridge -/
theorem k_330 {Z : AmZ} {A : Nat → Nat} {s : GS} {ex : va_W} {d : Nat} {X : AmX} {x1 : Int32} (hd : 5 ≤ d) (hI : Inv s)  : GC Z d 330 [.ref (A 109), .int x1] (WW Z A s ++ ex) 0 0 (fun v u => ∃ t : GS, Inv t ∧ Fr fm_330 s t ∧ ∃ z : Int32, v = some (.int z) ∧ u = WW Z A t ++ ex ∧ In z 0 1) X := by
  intro post xp hP hX
  obtain ⟨u_109_19, e_109_19⟩ : ∃ w, w = s.2.2.1 109 19 := ⟨_, rfl⟩
  have ro_109_19 := inv_F hI 0 160 rfl e_109_19
  refine g_enter2 (k := 330) (N := 900) (by first | exact dq1 hd rfl | exact dq0 hd rfl | exact dq2 hd rfl | exact dq3 hd rfl | omega) rfl (Nat.le_of_ble_eq_true rfl) ?_
  refine g_aload_n 1 (gd rfl) rfl rfl ?_
  refine g_aload_n 2 (gd rfl) rfl rfl ?_
  refine g_iload_n 3 (gd rfl) rfl rfl ?_
  refine g_callv (X := _) (As := [.int x1]) (r := [.ref (A 109)]) (b := A 109) (q := 109) 6 (gd rfl) rfl rfl rfl rfl rfl (ww_o rfl) (Nat.le_of_ble_eq_true rfl) (mc := 0) (ms := 0) (Nat.zero_le _) (Nat.zero_le _) (P := fun v u => _) ?_ (fun e u h => h) (fun v u h => h)
  intro po3 xx3 hp3 hx3
  refine g_enter2 (k := 273) (N := 300) (by first | exact dq1 hd rfl | exact dq0 hd rfl | exact dq2 hd rfl | exact dq3 hd rfl | omega) rfl (Nat.le_of_ble_eq_true rfl) ?_
  refine g_iload_n 1 (gd rfl) rfl rfl ?_
  refine g_if_lt 4 29 (gd rfl) rfl rfl (fun c3x1 => ?_) (fun c3x1 => ?_)
  · skip
    have i3x1 := z_lt (-2147483648) (-1) c3x1 (i_rng x1) rfl
    refine g_iconst 0 30 (gd rfl) rfl rfl ?_
    refine g_ireturn (gd rfl) rfl (nb01 (in_w 0 1 (in_c 0 rfl) rfl)) (hp3 _ _ ?_)
    show GG _ _ _ _ _ _ _ _ [.int (Int32.ofInt 0), .ref (A 109)] _ _ _
    refine g_callv (X := _) (As := [.int (Int32.ofInt 0)]) (r := []) (b := A 109) (q := 109) 9 (gd rfl) rfl rfl rfl rfl rfl (ww_o rfl) (Nat.le_of_ble_eq_true rfl) (mc := 0) (ms := 0) (Nat.zero_le _) (Nat.zero_le _) (P := fun v u => _) ?_ (fun e u h => h) (fun v u h => h)
    intro po6 xx6 hp6 hx6
    refine g_enter2 (k := 271) (N := 300) (by first | exact dq1 hd rfl | exact dq0 hd rfl | exact dq2 hd rfl | exact dq3 hd rfl | omega) rfl (Nat.le_of_ble_eq_true rfl) ?_
    refine g_aload_n 1 (gd rfl) rfl rfl ?_
    refine g_iload_n 2 (gd rfl) rfl rfl ?_
    refine g_iconst 1 3 (gd rfl) rfl rfl ?_
    refine g_callv (X := _) (As := [.int (Int32.ofInt 0), .int (Int32.ofInt 1)]) (r := []) (b := A 109) (q := 109) 6 (gd rfl) rfl rfl rfl rfl rfl (ww_o rfl) (Nat.le_of_ble_eq_true rfl) (mc := 0) (ms := 0) (Nat.zero_le _) (Nat.zero_le _) (P := fun v u => _) ?_ (fun e u h => h) (fun v u h => h)
    intro po6x3 xx6x3 hp6x3 hx6x3
    refine g_enter2 (k := 270) (N := 300) (by first | exact dq1 hd rfl | exact dq0 hd rfl | exact dq2 hd rfl | exact dq3 hd rfl | omega) rfl (Nat.le_of_ble_eq_true rfl) ?_
    refine g_aload_n 1 (gd rfl) rfl rfl ?_
    refine g_iload_n 2 (gd rfl) rfl rfl ?_
    refine g_if_ne 5 9 (gd rfl) rfl rfl (fun c6x3x2 => ?_) (fun c6x3x2 => ?_)
    · skip
      exact zn_ne c6x3x2 (in_c 0 rfl) rfl
    · skip
      refine g_iconst 1 6 (gd rfl) rfl rfl ?_
      refine g_goto 18 (gd rfl) rfl ?_
      refine g_putI 21 (gd rfl) rfl rfl rfl rfl ?_
      have hI6x3x18 := inv_sF (q := 109) (j := 0) hI rfl (in_w 0 2 (in_c 1 rfl) rfl)
      refine g_aload_n 22 (gd rfl) rfl rfl ?_
      refine g_getI 25 (gd rfl) rfl rfl rfl (fun z6x3x22 e6x3x22 => ?_)
      have q6x3x22 : (Int32.ofInt 1) = z6x3x22 := (sF_get).trans e6x3x22.symm
      subst q6x3x22
      refine g_if_le 28 32 (gd rfl) rfl rfl (fun c6x3x25 => ?_) (fun c6x3x25 => ?_)
      · skip
        exact zn_le c6x3x25 (in_c 1 rfl) rfl
      · skip
        refine g_iconst 1 29 (gd rfl) rfl rfl ?_
        refine g_goto 33 (gd rfl) rfl ?_
        refine g_ireturn (gd rfl) rfl (nb01 (in_w 0 1 (in_c 1 rfl) rfl)) (hp6x3 _ _ ?_)
        show GG _ _ _ _ _ _ _ _ [.int (Int32.ofInt 1)] _ _ _
        refine g_ireturn (gd rfl) rfl (nb01 (in_w 0 1 (in_c 1 rfl) rfl)) (hp6 _ _ ?_)
        show GG _ _ _ _ _ _ _ _ [.int (Int32.ofInt 1)] _ _ _
        refine g_if_eq 12 14 (gd rfl) rfl rfl (fun c9 => ?_) (fun c9 => ?_)
        · skip
          exact zn_eq c9 (in_c 1 rfl) rfl
        · skip
          refine g_iconst 0 13 (gd rfl) rfl rfl ?_
          exact g_ireturn (gd rfl) rfl (nb01 (in_w 0 1 (in_c 0 rfl) rfl)) (hP _ _ ⟨(sF s 109 0 (Int32.ofInt 1)), hI6x3x18, (fr_sF rfl fr_rf), (Int32.ofInt 0), rfl, rfl, in_w 0 1 (in_c 0 rfl) rfl⟩)
  · skip
    have i3x1 := z_ge 0 2147483647 c3x1 (i_rng x1) rfl
    refine g_iload_n 5 (gd rfl) rfl rfl ?_
    refine g_sipush 160 8 (gd rfl) rfl rfl ?_
    refine g_cmp_ge 11 29 (gd rfl) rfl rfl (fun c3x8 => ?_) (fun c3x8 => ?_)
    · skip
      have i3x8 := r_le2 160 2147483647 c3x8 (in_c 160 rfl) i3x1 rfl
      refine g_iconst 0 30 (gd rfl) rfl rfl ?_
      refine g_ireturn (gd rfl) rfl (nb01 (in_w 0 1 (in_c 0 rfl) rfl)) (hp3 _ _ ?_)
      show GG _ _ _ _ _ _ _ _ [.int (Int32.ofInt 0), .ref (A 109)] _ _ _
      refine g_callv (X := _) (As := [.int (Int32.ofInt 0)]) (r := []) (b := A 109) (q := 109) 9 (gd rfl) rfl rfl rfl rfl rfl (ww_o rfl) (Nat.le_of_ble_eq_true rfl) (mc := 0) (ms := 0) (Nat.zero_le _) (Nat.zero_le _) (P := fun v u => _) ?_ (fun e u h => h) (fun v u h => h)
      intro po6 xx6 hp6 hx6
      refine g_enter2 (k := 271) (N := 300) (by first | exact dq1 hd rfl | exact dq0 hd rfl | exact dq2 hd rfl | exact dq3 hd rfl | omega) rfl (Nat.le_of_ble_eq_true rfl) ?_
      refine g_aload_n 1 (gd rfl) rfl rfl ?_
      refine g_iload_n 2 (gd rfl) rfl rfl ?_
      refine g_iconst 1 3 (gd rfl) rfl rfl ?_
      refine g_callv (X := _) (As := [.int (Int32.ofInt 0), .int (Int32.ofInt 1)]) (r := []) (b := A 109) (q := 109) 6 (gd rfl) rfl rfl rfl rfl rfl (ww_o rfl) (Nat.le_of_ble_eq_true rfl) (mc := 0) (ms := 0) (Nat.zero_le _) (Nat.zero_le _) (P := fun v u => _) ?_ (fun e u h => h) (fun v u h => h)
      intro po6x3 xx6x3 hp6x3 hx6x3
      refine g_enter2 (k := 270) (N := 300) (by first | exact dq1 hd rfl | exact dq0 hd rfl | exact dq2 hd rfl | exact dq3 hd rfl | omega) rfl (Nat.le_of_ble_eq_true rfl) ?_
      refine g_aload_n 1 (gd rfl) rfl rfl ?_
      refine g_iload_n 2 (gd rfl) rfl rfl ?_
      refine g_if_ne 5 9 (gd rfl) rfl rfl (fun c6x3x2 => ?_) (fun c6x3x2 => ?_)
      · skip
        exact zn_ne c6x3x2 (in_c 0 rfl) rfl
      · skip
        refine g_iconst 1 6 (gd rfl) rfl rfl ?_
        refine g_goto 18 (gd rfl) rfl ?_
        refine g_putI 21 (gd rfl) rfl rfl rfl rfl ?_
        have hI6x3x18 := inv_sF (q := 109) (j := 0) hI rfl (in_w 0 2 (in_c 1 rfl) rfl)
        refine g_aload_n 22 (gd rfl) rfl rfl ?_
        refine g_getI 25 (gd rfl) rfl rfl rfl (fun z6x3x22 e6x3x22 => ?_)
        have q6x3x22 : (Int32.ofInt 1) = z6x3x22 := (sF_get).trans e6x3x22.symm
        subst q6x3x22
        refine g_if_le 28 32 (gd rfl) rfl rfl (fun c6x3x25 => ?_) (fun c6x3x25 => ?_)
        · skip
          exact zn_le c6x3x25 (in_c 1 rfl) rfl
        · skip
          refine g_iconst 1 29 (gd rfl) rfl rfl ?_
          refine g_goto 33 (gd rfl) rfl ?_
          refine g_ireturn (gd rfl) rfl (nb01 (in_w 0 1 (in_c 1 rfl) rfl)) (hp6x3 _ _ ?_)
          show GG _ _ _ _ _ _ _ _ [.int (Int32.ofInt 1)] _ _ _
          refine g_ireturn (gd rfl) rfl (nb01 (in_w 0 1 (in_c 1 rfl) rfl)) (hp6 _ _ ?_)
          show GG _ _ _ _ _ _ _ _ [.int (Int32.ofInt 1)] _ _ _
          refine g_if_eq 12 14 (gd rfl) rfl rfl (fun c9 => ?_) (fun c9 => ?_)
          · skip
            exact zn_eq c9 (in_c 1 rfl) rfl
          · skip
            refine g_iconst 0 13 (gd rfl) rfl rfl ?_
            exact g_ireturn (gd rfl) rfl (nb01 (in_w 0 1 (in_c 0 rfl) rfl)) (hP _ _ ⟨(sF s 109 0 (Int32.ofInt 1)), hI6x3x18, (fr_sF rfl fr_rf), (Int32.ofInt 0), rfl, rfl, in_w 0 1 (in_c 0 rfl) rfl⟩)
    · skip
      have i3x8 := r_lt1 0 159 c3x8 i3x1 (in_c 160 rfl) rfl
      refine g_aload_n 12 (gd rfl) rfl rfl ?_
      refine g_getA (q2 := 112) 15 (gd rfl) rfl rfl rfl rfl ?_
      refine g_aload_n 16 (gd rfl) rfl rfl ?_
      refine g_getI 19 (gd rfl) rfl rfl rfl (fun z3x16 e3x16 => ?_)
      have q3x16 : u_109_19 = z3x16 := (e_109_19).trans e3x16.symm
      subst q3x16
      refine g_iload_n 20 (gd rfl) rfl rfl ?_
      refine g_iadd 21 (gd rfl) rfl (fun z3x20 e3x20 => ?_)
      have i3x20 := in_add 0 319 e3x20 ro_109_19 i3x8 rfl rfl
      refine g_baload 22 (gd rfl) rfl (n := 480) rfl (in_ix i3x20 rfl) (fun z3x21 e3x21 => ?_)
      have i3x21 := inv_I hI (n := 480) (t := 3) 0 1 rfl (in_ix i3x20 rfl) rfl e3x21
      refine g_if_eq 25 29 (gd rfl) rfl rfl (fun c3x22 => ?_) (fun c3x22 => ?_)
      · skip
        have i3x22 := z_eq 0 0 c3x22 i3x21 rfl
        refine g_iconst 0 30 (gd rfl) rfl rfl ?_
        refine g_ireturn (gd rfl) rfl (nb01 (in_w 0 1 (in_c 0 rfl) rfl)) (hp3 _ _ ?_)
        show GG _ _ _ _ _ _ _ _ [.int (Int32.ofInt 0), .ref (A 109)] _ _ _
        refine g_callv (X := _) (As := [.int (Int32.ofInt 0)]) (r := []) (b := A 109) (q := 109) 9 (gd rfl) rfl rfl rfl rfl rfl (ww_o rfl) (Nat.le_of_ble_eq_true rfl) (mc := 0) (ms := 0) (Nat.zero_le _) (Nat.zero_le _) (P := fun v u => _) ?_ (fun e u h => h) (fun v u h => h)
        intro po6 xx6 hp6 hx6
        refine g_enter2 (k := 271) (N := 300) (by first | exact dq1 hd rfl | exact dq0 hd rfl | exact dq2 hd rfl | exact dq3 hd rfl | omega) rfl (Nat.le_of_ble_eq_true rfl) ?_
        refine g_aload_n 1 (gd rfl) rfl rfl ?_
        refine g_iload_n 2 (gd rfl) rfl rfl ?_
        refine g_iconst 1 3 (gd rfl) rfl rfl ?_
        refine g_callv (X := _) (As := [.int (Int32.ofInt 0), .int (Int32.ofInt 1)]) (r := []) (b := A 109) (q := 109) 6 (gd rfl) rfl rfl rfl rfl rfl (ww_o rfl) (Nat.le_of_ble_eq_true rfl) (mc := 0) (ms := 0) (Nat.zero_le _) (Nat.zero_le _) (P := fun v u => _) ?_ (fun e u h => h) (fun v u h => h)
        intro po6x3 xx6x3 hp6x3 hx6x3
        refine g_enter2 (k := 270) (N := 300) (by first | exact dq1 hd rfl | exact dq0 hd rfl | exact dq2 hd rfl | exact dq3 hd rfl | omega) rfl (Nat.le_of_ble_eq_true rfl) ?_
        refine g_aload_n 1 (gd rfl) rfl rfl ?_
        refine g_iload_n 2 (gd rfl) rfl rfl ?_
        refine g_if_ne 5 9 (gd rfl) rfl rfl (fun c6x3x2 => ?_) (fun c6x3x2 => ?_)
        · skip
          exact zn_ne c6x3x2 (in_c 0 rfl) rfl
        · skip
          refine g_iconst 1 6 (gd rfl) rfl rfl ?_
          refine g_goto 18 (gd rfl) rfl ?_
          refine g_putI 21 (gd rfl) rfl rfl rfl rfl ?_
          have hI6x3x18 := inv_sF (q := 109) (j := 0) hI rfl (in_w 0 2 (in_c 1 rfl) rfl)
          refine g_aload_n 22 (gd rfl) rfl rfl ?_
          refine g_getI 25 (gd rfl) rfl rfl rfl (fun z6x3x22 e6x3x22 => ?_)
          have q6x3x22 : (Int32.ofInt 1) = z6x3x22 := (sF_get).trans e6x3x22.symm
          subst q6x3x22
          refine g_if_le 28 32 (gd rfl) rfl rfl (fun c6x3x25 => ?_) (fun c6x3x25 => ?_)
          · skip
            exact zn_le c6x3x25 (in_c 1 rfl) rfl
          · skip
            refine g_iconst 1 29 (gd rfl) rfl rfl ?_
            refine g_goto 33 (gd rfl) rfl ?_
            refine g_ireturn (gd rfl) rfl (nb01 (in_w 0 1 (in_c 1 rfl) rfl)) (hp6x3 _ _ ?_)
            show GG _ _ _ _ _ _ _ _ [.int (Int32.ofInt 1)] _ _ _
            refine g_ireturn (gd rfl) rfl (nb01 (in_w 0 1 (in_c 1 rfl) rfl)) (hp6 _ _ ?_)
            show GG _ _ _ _ _ _ _ _ [.int (Int32.ofInt 1)] _ _ _
            refine g_if_eq 12 14 (gd rfl) rfl rfl (fun c9 => ?_) (fun c9 => ?_)
            · skip
              exact zn_eq c9 (in_c 1 rfl) rfl
            · skip
              refine g_iconst 0 13 (gd rfl) rfl rfl ?_
              exact g_ireturn (gd rfl) rfl (nb01 (in_w 0 1 (in_c 0 rfl) rfl)) (hP _ _ ⟨(sF s 109 0 (Int32.ofInt 1)), hI6x3x18, (fr_sF rfl fr_rf), (Int32.ofInt 0), rfl, rfl, in_w 0 1 (in_c 0 rfl) rfl⟩)
      · skip
        have i3x22 := z_ne 1 1 c3x22 i3x21 rfl
        refine g_iconst 1 26 (gd rfl) rfl rfl ?_
        refine g_goto 30 (gd rfl) rfl ?_
        refine g_ireturn (gd rfl) rfl (nb01 (in_w 0 1 (in_c 1 rfl) rfl)) (hp3 _ _ ?_)
        show GG _ _ _ _ _ _ _ _ [.int (Int32.ofInt 1), .ref (A 109)] _ _ _
        refine g_callv (X := _) (As := [.int (Int32.ofInt 1)]) (r := []) (b := A 109) (q := 109) 9 (gd rfl) rfl rfl rfl rfl rfl (ww_o rfl) (Nat.le_of_ble_eq_true rfl) (mc := 0) (ms := 0) (Nat.zero_le _) (Nat.zero_le _) (P := fun v u => _) ?_ (fun e u h => h) (fun v u h => h)
        intro po6 xx6 hp6 hx6
        refine g_enter2 (k := 271) (N := 300) (by first | exact dq1 hd rfl | exact dq0 hd rfl | exact dq2 hd rfl | exact dq3 hd rfl | omega) rfl (Nat.le_of_ble_eq_true rfl) ?_
        refine g_aload_n 1 (gd rfl) rfl rfl ?_
        refine g_iload_n 2 (gd rfl) rfl rfl ?_
        refine g_iconst 1 3 (gd rfl) rfl rfl ?_
        refine g_callv (X := _) (As := [.int (Int32.ofInt 1), .int (Int32.ofInt 1)]) (r := []) (b := A 109) (q := 109) 6 (gd rfl) rfl rfl rfl rfl rfl (ww_o rfl) (Nat.le_of_ble_eq_true rfl) (mc := 0) (ms := 0) (Nat.zero_le _) (Nat.zero_le _) (P := fun v u => _) ?_ (fun e u h => h) (fun v u h => h)
        intro po6x3 xx6x3 hp6x3 hx6x3
        refine g_enter2 (k := 270) (N := 300) (by first | exact dq1 hd rfl | exact dq0 hd rfl | exact dq2 hd rfl | exact dq3 hd rfl | omega) rfl (Nat.le_of_ble_eq_true rfl) ?_
        refine g_aload_n 1 (gd rfl) rfl rfl ?_
        refine g_iload_n 2 (gd rfl) rfl rfl ?_
        refine g_if_ne 5 9 (gd rfl) rfl rfl (fun c6x3x2 => ?_) (fun c6x3x2 => ?_)
        · skip
          refine g_iload_n 10 (gd rfl) rfl rfl ?_
          refine g_if_ne 13 17 (gd rfl) rfl rfl (fun c6x3x10 => ?_) (fun c6x3x10 => ?_)
          · skip
            refine g_iconst 0 18 (gd rfl) rfl rfl ?_
            refine g_putI 21 (gd rfl) rfl rfl rfl rfl ?_
            have hI6x3x18 := inv_sF (q := 109) (j := 0) hI rfl (in_w 0 2 (in_c 0 rfl) rfl)
            refine g_aload_n 22 (gd rfl) rfl rfl ?_
            refine g_getI 25 (gd rfl) rfl rfl rfl (fun z6x3x22 e6x3x22 => ?_)
            have q6x3x22 : (Int32.ofInt 0) = z6x3x22 := (sF_get).trans e6x3x22.symm
            subst q6x3x22
            refine g_if_le 28 32 (gd rfl) rfl rfl (fun c6x3x25 => ?_) (fun c6x3x25 => ?_)
            · skip
              refine g_iconst 0 33 (gd rfl) rfl rfl ?_
              refine g_ireturn (gd rfl) rfl (nb01 (in_w 0 1 (in_c 0 rfl) rfl)) (hp6x3 _ _ ?_)
              show GG _ _ _ _ _ _ _ _ [.int (Int32.ofInt 0)] _ _ _
              refine g_ireturn (gd rfl) rfl (nb01 (in_w 0 1 (in_c 0 rfl) rfl)) (hp6 _ _ ?_)
              show GG _ _ _ _ _ _ _ _ [.int (Int32.ofInt 0)] _ _ _
              refine g_if_eq 12 14 (gd rfl) rfl rfl (fun c9 => ?_) (fun c9 => ?_)
              · skip
                refine g_aload_n 15 (gd rfl) rfl rfl ?_
                refine g_iload_n 16 (gd rfl) rfl rfl ?_
                refine g_iconst (-1) 17 (gd rfl) rfl rfl ?_
                refine g_callv (X := _) (As := [.int x1, .int (Int32.ofInt (-1))]) (r := []) (b := A 109) (q := 109) 20 (gd rfl) rfl rfl rfl rfl rfl (ww_o rfl) (Nat.le_of_ble_eq_true rfl) (Nat.zero_le _) (Nat.zero_le _) (k_329 (by first | exact dq1 hd rfl | exact dq0 hd rfl | exact dq2 hd rfl | exact dq3 hd rfl | omega) hI6x3x18 (in_w (-1) 159 i3x8 rfl) (in_w (-1) 31 (in_c (-1) rfl) rfl)) (fun e u h => h) (fun v u h => ?_)
                obtain ⟨s17, hI17, hF17, z17, rfl, rfl, i17⟩ := h
                show GG _ _ _ _ _ _ _ _ [.int z17] _ _ _
                refine g_aload_n 21 (gd rfl) rfl rfl ?_
                refine g_iconst (-1) 22 (gd rfl) rfl rfl ?_
                refine g_iconst (-1) 23 (gd rfl) rfl rfl ?_
                refine g_callv (X := _) (As := [.int (Int32.ofInt (-1)), .int (Int32.ofInt (-1))]) (r := [.int z17]) (b := A 109) (q := 109) 26 (gd rfl) rfl rfl rfl rfl rfl (ww_o rfl) (Nat.le_of_ble_eq_true rfl) (Nat.zero_le _) (Nat.zero_le _) (k_329 (by first | exact dq1 hd rfl | exact dq0 hd rfl | exact dq2 hd rfl | exact dq3 hd rfl | omega) hI17 (in_w (-1) 159 (in_c (-1) rfl) rfl) (in_w (-1) 31 (in_c (-1) rfl) rfl)) (fun e u h => h) (fun v u h => ?_)
                obtain ⟨s23, hI23, hF23, z23, rfl, rfl, i23⟩ := h
                show GG _ _ _ _ _ _ _ _ [.int z23, .int z17] _ _ _
                refine g_cmp_le 29 33 (gd rfl) rfl rfl (fun c26 => ?_) (fun c26 => ?_)
                · skip
                  refine g_iconst 0 34 (gd rfl) rfl rfl ?_
                  exact g_ireturn (gd rfl) rfl (nb01 (in_w 0 1 (in_c 0 rfl) rfl)) (hP _ _ ⟨s23, hI23, (fr_tr rfl (fr_tr rfl (fr_sF rfl fr_rf) hF17) hF23), (Int32.ofInt 0), rfl, rfl, in_w 0 1 (in_c 0 rfl) rfl⟩)
                · skip
                  have i26 := r_lt1 (-2147483648) 2147483646 c26 i23 i17 rfl
                  have i26a := r_lt2 (-2147483647) 2147483647 c26 i23 i17 rfl
                  refine g_iconst 1 30 (gd rfl) rfl rfl ?_
                  refine g_goto 34 (gd rfl) rfl ?_
                  exact g_ireturn (gd rfl) rfl (nb01 (in_w 0 1 (in_c 1 rfl) rfl)) (hP _ _ ⟨s23, hI23, (fr_tr rfl (fr_tr rfl (fr_sF rfl fr_rf) hF17) hF23), (Int32.ofInt 1), rfl, rfl, in_w 0 1 (in_c 1 rfl) rfl⟩)
              · skip
                exact zn_ne c9 (in_c 0 rfl) rfl
            · skip
              exact zn_gt c6x3x25 (in_c 0 rfl) rfl
          · skip
            exact zn_eq c6x3x10 (in_c 1 rfl) rfl
        · skip
          exact zn_eq c6x3x2 (in_c 1 rfl) rfl

def fm_331 : FM := ([129], [], [(109, 0)], [])
/-- GraphHouseModel.cut -/
theorem k_331 {Z : AmZ} {A : Nat → Nat} {s : GS} {ex : va_W} {d : Nat} {X : AmX} {x1 : Int32} (hd : 5 ≤ d) (hI : Inv s)  : GC Z d 331 [.ref (A 109), .int x1] (WW Z A s ++ ex) 0 0 (fun v u => ∃ t : GS, Inv t ∧ Fr fm_331 s t ∧ ∃ z : Int32, v = some (.int z) ∧ u = WW Z A t ++ ex ∧ In z 0 1) X := by
  intro post xp hP hX
  obtain ⟨u_109_20, e_109_20⟩ : ∃ w, w = s.2.2.1 109 20 := ⟨_, rfl⟩
  have ro_109_20 := inv_F hI 0 32 rfl e_109_20
  refine g_enter2 (k := 331) (N := 900) (by first | exact dq1 hd rfl | exact dq0 hd rfl | exact dq2 hd rfl | exact dq3 hd rfl | omega) rfl (Nat.le_of_ble_eq_true rfl) ?_
  refine g_aload_n 1 (gd rfl) rfl rfl ?_
  refine g_aload_n 2 (gd rfl) rfl rfl ?_
  refine g_iload_n 3 (gd rfl) rfl rfl ?_
  refine g_callv (X := _) (As := [.int x1]) (r := [.ref (A 109)]) (b := A 109) (q := 109) 6 (gd rfl) rfl rfl rfl rfl rfl (ww_o rfl) (Nat.le_of_ble_eq_true rfl) (mc := 0) (ms := 0) (Nat.zero_le _) (Nat.zero_le _) (P := fun v u => _) ?_ (fun e u h => h) (fun v u h => h)
  intro po3 xx3 hp3 hx3
  refine g_enter2 (k := 272) (N := 300) (by first | exact dq1 hd rfl | exact dq0 hd rfl | exact dq2 hd rfl | exact dq3 hd rfl | omega) rfl (Nat.le_of_ble_eq_true rfl) ?_
  refine g_iload_n 1 (gd rfl) rfl rfl ?_
  refine g_if_lt 4 16 (gd rfl) rfl rfl (fun c3x1 => ?_) (fun c3x1 => ?_)
  · skip
    have i3x1 := z_lt (-2147483648) (-1) c3x1 (i_rng x1) rfl
    refine g_iconst 0 17 (gd rfl) rfl rfl ?_
    refine g_ireturn (gd rfl) rfl (nb01 (in_w 0 1 (in_c 0 rfl) rfl)) (hp3 _ _ ?_)
    show GG _ _ _ _ _ _ _ _ [.int (Int32.ofInt 0), .ref (A 109)] _ _ _
    refine g_callv (X := _) (As := [.int (Int32.ofInt 0)]) (r := []) (b := A 109) (q := 109) 9 (gd rfl) rfl rfl rfl rfl rfl (ww_o rfl) (Nat.le_of_ble_eq_true rfl) (mc := 0) (ms := 0) (Nat.zero_le _) (Nat.zero_le _) (P := fun v u => _) ?_ (fun e u h => h) (fun v u h => h)
    intro po6 xx6 hp6 hx6
    refine g_enter2 (k := 271) (N := 300) (by first | exact dq1 hd rfl | exact dq0 hd rfl | exact dq2 hd rfl | exact dq3 hd rfl | omega) rfl (Nat.le_of_ble_eq_true rfl) ?_
    refine g_aload_n 1 (gd rfl) rfl rfl ?_
    refine g_iload_n 2 (gd rfl) rfl rfl ?_
    refine g_iconst 1 3 (gd rfl) rfl rfl ?_
    refine g_callv (X := _) (As := [.int (Int32.ofInt 0), .int (Int32.ofInt 1)]) (r := []) (b := A 109) (q := 109) 6 (gd rfl) rfl rfl rfl rfl rfl (ww_o rfl) (Nat.le_of_ble_eq_true rfl) (mc := 0) (ms := 0) (Nat.zero_le _) (Nat.zero_le _) (P := fun v u => _) ?_ (fun e u h => h) (fun v u h => h)
    intro po6x3 xx6x3 hp6x3 hx6x3
    refine g_enter2 (k := 270) (N := 300) (by first | exact dq1 hd rfl | exact dq0 hd rfl | exact dq2 hd rfl | exact dq3 hd rfl | omega) rfl (Nat.le_of_ble_eq_true rfl) ?_
    refine g_aload_n 1 (gd rfl) rfl rfl ?_
    refine g_iload_n 2 (gd rfl) rfl rfl ?_
    refine g_if_ne 5 9 (gd rfl) rfl rfl (fun c6x3x2 => ?_) (fun c6x3x2 => ?_)
    · skip
      exact zn_ne c6x3x2 (in_c 0 rfl) rfl
    · skip
      refine g_iconst 1 6 (gd rfl) rfl rfl ?_
      refine g_goto 18 (gd rfl) rfl ?_
      refine g_putI 21 (gd rfl) rfl rfl rfl rfl ?_
      have hI6x3x18 := inv_sF (q := 109) (j := 0) hI rfl (in_w 0 2 (in_c 1 rfl) rfl)
      refine g_aload_n 22 (gd rfl) rfl rfl ?_
      refine g_getI 25 (gd rfl) rfl rfl rfl (fun z6x3x22 e6x3x22 => ?_)
      have q6x3x22 : (Int32.ofInt 1) = z6x3x22 := (sF_get).trans e6x3x22.symm
      subst q6x3x22
      refine g_if_le 28 32 (gd rfl) rfl rfl (fun c6x3x25 => ?_) (fun c6x3x25 => ?_)
      · skip
        exact zn_le c6x3x25 (in_c 1 rfl) rfl
      · skip
        refine g_iconst 1 29 (gd rfl) rfl rfl ?_
        refine g_goto 33 (gd rfl) rfl ?_
        refine g_ireturn (gd rfl) rfl (nb01 (in_w 0 1 (in_c 1 rfl) rfl)) (hp6x3 _ _ ?_)
        show GG _ _ _ _ _ _ _ _ [.int (Int32.ofInt 1)] _ _ _
        refine g_ireturn (gd rfl) rfl (nb01 (in_w 0 1 (in_c 1 rfl) rfl)) (hp6 _ _ ?_)
        show GG _ _ _ _ _ _ _ _ [.int (Int32.ofInt 1)] _ _ _
        refine g_if_eq 12 14 (gd rfl) rfl rfl (fun c9 => ?_) (fun c9 => ?_)
        · skip
          exact zn_eq c9 (in_c 1 rfl) rfl
        · skip
          refine g_iconst 0 13 (gd rfl) rfl rfl ?_
          exact g_ireturn (gd rfl) rfl (nb01 (in_w 0 1 (in_c 0 rfl) rfl)) (hP _ _ ⟨(sF s 109 0 (Int32.ofInt 1)), hI6x3x18, (fr_sF rfl fr_rf), (Int32.ofInt 0), rfl, rfl, in_w 0 1 (in_c 0 rfl) rfl⟩)
  · skip
    have i3x1 := z_ge 0 2147483647 c3x1 (i_rng x1) rfl
    refine g_iload_n 5 (gd rfl) rfl rfl ?_
    refine g_aload_n 6 (gd rfl) rfl rfl ?_
    refine g_getI 9 (gd rfl) rfl rfl rfl (fun z3x6 e3x6 => ?_)
    have q3x6 : u_109_20 = z3x6 := (e_109_20).trans e3x6.symm
    subst q3x6
    refine g_cmp_ge 12 16 (gd rfl) rfl rfl (fun c3x9 => ?_) (fun c3x9 => ?_)
    · skip
      refine g_iconst 0 17 (gd rfl) rfl rfl ?_
      refine g_ireturn (gd rfl) rfl (nb01 (in_w 0 1 (in_c 0 rfl) rfl)) (hp3 _ _ ?_)
      show GG _ _ _ _ _ _ _ _ [.int (Int32.ofInt 0), .ref (A 109)] _ _ _
      refine g_callv (X := _) (As := [.int (Int32.ofInt 0)]) (r := []) (b := A 109) (q := 109) 9 (gd rfl) rfl rfl rfl rfl rfl (ww_o rfl) (Nat.le_of_ble_eq_true rfl) (mc := 0) (ms := 0) (Nat.zero_le _) (Nat.zero_le _) (P := fun v u => _) ?_ (fun e u h => h) (fun v u h => h)
      intro po6 xx6 hp6 hx6
      refine g_enter2 (k := 271) (N := 300) (by first | exact dq1 hd rfl | exact dq0 hd rfl | exact dq2 hd rfl | exact dq3 hd rfl | omega) rfl (Nat.le_of_ble_eq_true rfl) ?_
      refine g_aload_n 1 (gd rfl) rfl rfl ?_
      refine g_iload_n 2 (gd rfl) rfl rfl ?_
      refine g_iconst 1 3 (gd rfl) rfl rfl ?_
      refine g_callv (X := _) (As := [.int (Int32.ofInt 0), .int (Int32.ofInt 1)]) (r := []) (b := A 109) (q := 109) 6 (gd rfl) rfl rfl rfl rfl rfl (ww_o rfl) (Nat.le_of_ble_eq_true rfl) (mc := 0) (ms := 0) (Nat.zero_le _) (Nat.zero_le _) (P := fun v u => _) ?_ (fun e u h => h) (fun v u h => h)
      intro po6x3 xx6x3 hp6x3 hx6x3
      refine g_enter2 (k := 270) (N := 300) (by first | exact dq1 hd rfl | exact dq0 hd rfl | exact dq2 hd rfl | exact dq3 hd rfl | omega) rfl (Nat.le_of_ble_eq_true rfl) ?_
      refine g_aload_n 1 (gd rfl) rfl rfl ?_
      refine g_iload_n 2 (gd rfl) rfl rfl ?_
      refine g_if_ne 5 9 (gd rfl) rfl rfl (fun c6x3x2 => ?_) (fun c6x3x2 => ?_)
      · skip
        exact zn_ne c6x3x2 (in_c 0 rfl) rfl
      · skip
        refine g_iconst 1 6 (gd rfl) rfl rfl ?_
        refine g_goto 18 (gd rfl) rfl ?_
        refine g_putI 21 (gd rfl) rfl rfl rfl rfl ?_
        have hI6x3x18 := inv_sF (q := 109) (j := 0) hI rfl (in_w 0 2 (in_c 1 rfl) rfl)
        refine g_aload_n 22 (gd rfl) rfl rfl ?_
        refine g_getI 25 (gd rfl) rfl rfl rfl (fun z6x3x22 e6x3x22 => ?_)
        have q6x3x22 : (Int32.ofInt 1) = z6x3x22 := (sF_get).trans e6x3x22.symm
        subst q6x3x22
        refine g_if_le 28 32 (gd rfl) rfl rfl (fun c6x3x25 => ?_) (fun c6x3x25 => ?_)
        · skip
          exact zn_le c6x3x25 (in_c 1 rfl) rfl
        · skip
          refine g_iconst 1 29 (gd rfl) rfl rfl ?_
          refine g_goto 33 (gd rfl) rfl ?_
          refine g_ireturn (gd rfl) rfl (nb01 (in_w 0 1 (in_c 1 rfl) rfl)) (hp6x3 _ _ ?_)
          show GG _ _ _ _ _ _ _ _ [.int (Int32.ofInt 1)] _ _ _
          refine g_ireturn (gd rfl) rfl (nb01 (in_w 0 1 (in_c 1 rfl) rfl)) (hp6 _ _ ?_)
          show GG _ _ _ _ _ _ _ _ [.int (Int32.ofInt 1)] _ _ _
          refine g_if_eq 12 14 (gd rfl) rfl rfl (fun c9 => ?_) (fun c9 => ?_)
          · skip
            exact zn_eq c9 (in_c 1 rfl) rfl
          · skip
            refine g_iconst 0 13 (gd rfl) rfl rfl ?_
            exact g_ireturn (gd rfl) rfl (nb01 (in_w 0 1 (in_c 0 rfl) rfl)) (hP _ _ ⟨(sF s 109 0 (Int32.ofInt 1)), hI6x3x18, (fr_sF rfl fr_rf), (Int32.ofInt 0), rfl, rfl, in_w 0 1 (in_c 0 rfl) rfl⟩)
    · skip
      have i3x9 := r_lt1 0 31 c3x9 i3x1 ro_109_20 rfl
      have i3x9a := r_lt2 1 32 c3x9 i3x1 ro_109_20 rfl
      refine g_iconst 1 13 (gd rfl) rfl rfl ?_
      refine g_goto 17 (gd rfl) rfl ?_
      refine g_ireturn (gd rfl) rfl (nb01 (in_w 0 1 (in_c 1 rfl) rfl)) (hp3 _ _ ?_)
      show GG _ _ _ _ _ _ _ _ [.int (Int32.ofInt 1), .ref (A 109)] _ _ _
      refine g_callv (X := _) (As := [.int (Int32.ofInt 1)]) (r := []) (b := A 109) (q := 109) 9 (gd rfl) rfl rfl rfl rfl rfl (ww_o rfl) (Nat.le_of_ble_eq_true rfl) (mc := 0) (ms := 0) (Nat.zero_le _) (Nat.zero_le _) (P := fun v u => _) ?_ (fun e u h => h) (fun v u h => h)
      intro po6 xx6 hp6 hx6
      refine g_enter2 (k := 271) (N := 300) (by first | exact dq1 hd rfl | exact dq0 hd rfl | exact dq2 hd rfl | exact dq3 hd rfl | omega) rfl (Nat.le_of_ble_eq_true rfl) ?_
      refine g_aload_n 1 (gd rfl) rfl rfl ?_
      refine g_iload_n 2 (gd rfl) rfl rfl ?_
      refine g_iconst 1 3 (gd rfl) rfl rfl ?_
      refine g_callv (X := _) (As := [.int (Int32.ofInt 1), .int (Int32.ofInt 1)]) (r := []) (b := A 109) (q := 109) 6 (gd rfl) rfl rfl rfl rfl rfl (ww_o rfl) (Nat.le_of_ble_eq_true rfl) (mc := 0) (ms := 0) (Nat.zero_le _) (Nat.zero_le _) (P := fun v u => _) ?_ (fun e u h => h) (fun v u h => h)
      intro po6x3 xx6x3 hp6x3 hx6x3
      refine g_enter2 (k := 270) (N := 300) (by first | exact dq1 hd rfl | exact dq0 hd rfl | exact dq2 hd rfl | exact dq3 hd rfl | omega) rfl (Nat.le_of_ble_eq_true rfl) ?_
      refine g_aload_n 1 (gd rfl) rfl rfl ?_
      refine g_iload_n 2 (gd rfl) rfl rfl ?_
      refine g_if_ne 5 9 (gd rfl) rfl rfl (fun c6x3x2 => ?_) (fun c6x3x2 => ?_)
      · skip
        refine g_iload_n 10 (gd rfl) rfl rfl ?_
        refine g_if_ne 13 17 (gd rfl) rfl rfl (fun c6x3x10 => ?_) (fun c6x3x10 => ?_)
        · skip
          refine g_iconst 0 18 (gd rfl) rfl rfl ?_
          refine g_putI 21 (gd rfl) rfl rfl rfl rfl ?_
          have hI6x3x18 := inv_sF (q := 109) (j := 0) hI rfl (in_w 0 2 (in_c 0 rfl) rfl)
          refine g_aload_n 22 (gd rfl) rfl rfl ?_
          refine g_getI 25 (gd rfl) rfl rfl rfl (fun z6x3x22 e6x3x22 => ?_)
          have q6x3x22 : (Int32.ofInt 0) = z6x3x22 := (sF_get).trans e6x3x22.symm
          subst q6x3x22
          refine g_if_le 28 32 (gd rfl) rfl rfl (fun c6x3x25 => ?_) (fun c6x3x25 => ?_)
          · skip
            refine g_iconst 0 33 (gd rfl) rfl rfl ?_
            refine g_ireturn (gd rfl) rfl (nb01 (in_w 0 1 (in_c 0 rfl) rfl)) (hp6x3 _ _ ?_)
            show GG _ _ _ _ _ _ _ _ [.int (Int32.ofInt 0)] _ _ _
            refine g_ireturn (gd rfl) rfl (nb01 (in_w 0 1 (in_c 0 rfl) rfl)) (hp6 _ _ ?_)
            show GG _ _ _ _ _ _ _ _ [.int (Int32.ofInt 0)] _ _ _
            refine g_if_eq 12 14 (gd rfl) rfl rfl (fun c9 => ?_) (fun c9 => ?_)
            · skip
              refine g_aload_n 15 (gd rfl) rfl rfl ?_
              refine g_iconst (-1) 16 (gd rfl) rfl rfl ?_
              refine g_iload_n 17 (gd rfl) rfl rfl ?_
              refine g_callv (X := _) (As := [.int (Int32.ofInt (-1)), .int x1]) (r := []) (b := A 109) (q := 109) 20 (gd rfl) rfl rfl rfl rfl rfl (ww_o rfl) (Nat.le_of_ble_eq_true rfl) (Nat.zero_le _) (Nat.zero_le _) (k_329 (by first | exact dq1 hd rfl | exact dq0 hd rfl | exact dq2 hd rfl | exact dq3 hd rfl | omega) hI6x3x18 (in_w (-1) 159 (in_c (-1) rfl) rfl) (in_w (-1) 31 i3x9 rfl)) (fun e u h => h) (fun v u h => ?_)
              obtain ⟨s17, hI17, hF17, z17, rfl, rfl, i17⟩ := h
              show GG _ _ _ _ _ _ _ _ [.int z17] _ _ _
              refine g_aload_n 21 (gd rfl) rfl rfl ?_
              refine g_iconst (-1) 22 (gd rfl) rfl rfl ?_
              refine g_iconst (-1) 23 (gd rfl) rfl rfl ?_
              refine g_callv (X := _) (As := [.int (Int32.ofInt (-1)), .int (Int32.ofInt (-1))]) (r := [.int z17]) (b := A 109) (q := 109) 26 (gd rfl) rfl rfl rfl rfl rfl (ww_o rfl) (Nat.le_of_ble_eq_true rfl) (Nat.zero_le _) (Nat.zero_le _) (k_329 (by first | exact dq1 hd rfl | exact dq0 hd rfl | exact dq2 hd rfl | exact dq3 hd rfl | omega) hI17 (in_w (-1) 159 (in_c (-1) rfl) rfl) (in_w (-1) 31 (in_c (-1) rfl) rfl)) (fun e u h => h) (fun v u h => ?_)
              obtain ⟨s23, hI23, hF23, z23, rfl, rfl, i23⟩ := h
              show GG _ _ _ _ _ _ _ _ [.int z23, .int z17] _ _ _
              refine g_cmp_le 29 33 (gd rfl) rfl rfl (fun c26 => ?_) (fun c26 => ?_)
              · skip
                refine g_iconst 0 34 (gd rfl) rfl rfl ?_
                exact g_ireturn (gd rfl) rfl (nb01 (in_w 0 1 (in_c 0 rfl) rfl)) (hP _ _ ⟨s23, hI23, (fr_tr rfl (fr_tr rfl (fr_sF rfl fr_rf) hF17) hF23), (Int32.ofInt 0), rfl, rfl, in_w 0 1 (in_c 0 rfl) rfl⟩)
              · skip
                have i26 := r_lt1 (-2147483648) 2147483646 c26 i23 i17 rfl
                have i26a := r_lt2 (-2147483647) 2147483647 c26 i23 i17 rfl
                refine g_iconst 1 30 (gd rfl) rfl rfl ?_
                refine g_goto 34 (gd rfl) rfl ?_
                exact g_ireturn (gd rfl) rfl (nb01 (in_w 0 1 (in_c 1 rfl) rfl)) (hP _ _ ⟨s23, hI23, (fr_tr rfl (fr_tr rfl (fr_sF rfl fr_rf) hF17) hF23), (Int32.ofInt 1), rfl, rfl, in_w 0 1 (in_c 1 rfl) rfl⟩)
            · skip
              exact zn_ne c9 (in_c 0 rfl) rfl
          · skip
            exact zn_gt c6x3x25 (in_c 0 rfl) rfl
        · skip
          exact zn_eq c6x3x10 (in_c 1 rfl) rfl
      · skip
        exact zn_eq c6x3x2 (in_c 1 rfl) rfl

def fm_332 : FM := ([], [], [(109, 0)], [])
/-- GraphHouseModel.order -/
theorem k_332 {Z : AmZ} {A : Nat → Nat} {s : GS} {ex : va_W} {d : Nat} {X : AmX} {x1 : Int32} (hd : 4 ≤ d) (hI : Inv s)  : GC Z d 332 [.ref (A 109), .int x1] (WW Z A s ++ ex) 0 0 (fun v u => ∃ t : GS, Inv t ∧ Fr fm_332 s t ∧ ∃ z : Int32, v = some (.int z) ∧ u = WW Z A t ++ ex ∧ In z (-1) 31) X := by
  intro post xp hP hX
  obtain ⟨u_109_19, e_109_19⟩ : ∃ w, w = s.2.2.1 109 19 := ⟨_, rfl⟩
  have ro_109_19 := inv_F hI 0 160 rfl e_109_19
  obtain ⟨u_109_20, e_109_20⟩ : ∃ w, w = s.2.2.1 109 20 := ⟨_, rfl⟩
  have ro_109_20 := inv_F hI 0 32 rfl e_109_20
  have ct28 : ∀ (k28 : Nat) (sc28 : GS) (y28_2 : Int32) (y28_3 : Int32) (y28_4 : Int32) (y28_5 : Int32), Inv sc28 → Fr fm_332 s sc28 → (In x1 0 2147483647) → (In y28_3 (-1) 31) → (In y28_4 (-1) 31) → (In y28_5 0 32) → 32 - (y28_5).toInt < (k28 : Int) → GG Z (d - 1) 332 post (gx xp) (1 + k28 * 27648969) 28 (fun j => xlook j [(0, .ref (A 109)), (1, .int x1), (2, .int y28_2), (3, .int y28_3), (4, .int y28_4), (5, .int y28_5)]) [] (WW Z A sc28 ++ ex) 0 0 := by
    intro k28
    induction k28 with
    | zero => intro sc28 y28_2 y28_3 y28_4 y28_5 hIc28 hFc28 j28_1 j28_3 j28_4 j28_5 mm28; exact m_no mm28 j28_5 rfl
    | succ k28 ih28 =>
      intro sc28 y28_2 y28_3 y28_4 y28_5 hIc28 hFc28 j28_1 j28_3 j28_4 j28_5 mm28
      refine gg_w (M := 1 + k28 * 27648969 + 27648969) gws ?_
      have ct47 : ∀ (k47 : Nat) (sc47 : GS) (y47_3 : Int32) (y47_6 : Int32), Inv sc47 → Fr fm_332 s sc47 → (In y47_3 (-1) 31) → (In y28_5 0 31) → (In y47_6 (-1) 31) → (y47_6).toInt - (-1) < (k47 : Int) → GG Z (d - 1) 332 post (gx xp) (1 + k28 * 27648969 + 1 + k47 * 813152) 47 (fun j => xlook j [(0, .ref (A 109)), (1, .int x1), (2, .int y28_2), (3, .int y47_3), (4, .int y28_4), (5, .int y28_5), (6, .int y47_6)]) [] (WW Z A sc47 ++ ex) 0 0 := by
        intro k47
        induction k47 with
        | zero => intro sc47 y47_3 y47_6 hIc47 hFc47 j47_3 j47_5 j47_6 mm47; exact m_nod mm47 j47_6 rfl
        | succ k47 ih47 =>
          intro sc47 y47_3 y47_6 hIc47 hFc47 j47_3 j47_5 j47_6 mm47
          refine gg_w (M := 1 + k28 * 27648969 + 1 + k47 * 813152 + 813152) gws ?_
          have ct141 : ∀ (sc141 : GS) (y141_7 : Int32) (y141_8 : Int32), Inv sc141 → Fr fm_332 s sc141 → (In y47_6 0 31) → (In y141_7 0 1) → (In y141_8 0 448) → GG Z (d - 1) 332 post (gx xp) (1 + k28 * 27648969 + 1 + k47 * 813152 + 901) 141 (fun j => xlook j [(0, .ref (A 109)), (1, .int x1), (2, .int y28_2), (3, .int y47_3), (4, .int y28_4), (5, .int y28_5), (6, .int y47_6), (7, .int y141_7), (8, .int y141_8)]) [] (WW Z A sc141 ++ ex) 0 0 := by
            intro sc141 y141_7 y141_8 hIc141 hFc141 j141_6 j141_7 j141_8
            refine g_iload 143 (gd rfl) rfl rfl ?_
            refine g_if_eq 146 151 (gd rfl) rfl rfl (fun c143 => ?_) (fun c143 => ?_)
            · skip
              have i143 := z_eq 0 0 c143 j141_7 rfl
              refine g_iload_n 152 (gd rfl) rfl rfl ?_
              refine g_istore_n 153 (gd rfl) rfl (Nat.le_of_ble_eq_true rfl) ?_
              refine g_iinc 156 (gd rfl) rfl rfl (Nat.le_of_ble_eq_true rfl) (fun z153 e153 => ?_)
              have i153 := in_add (-1) 30 e153 j141_6 (in_c (-1) rfl) rfl rfl
              refine g_goto 47 (gd rfl) rfl ?_
              exact gg_w (by first | exact Nat.le_add_right _ _ | exact gw2 | exact gw3 | exact gwe rfl | exact gwf rfl | exact gwg rfl | exact gwh rfl | omega) (gg_f (gf_cons rfl (gf_cons rfl (gf_cons rfl (gf_cons rfl (gf_cons rfl (gf_cons rfl (gf_cons rfl gf_nil))))))) (ih47 sc141 y47_3 z153 hIc141 hFc141 (in_w (-1) 31 j47_3 rfl) (in_w 0 31 j47_5 rfl) (in_w (-1) 31 i153 rfl) (m_dn mm47 (t_add e153 j141_6 (in_c (-1) rfl) rfl) (in_w (-1) (-1) (in_c (-1) rfl) rfl))))
            · skip
              have i143 := z_ne 1 1 c143 j141_7 rfl
              refine g_iload 148 (gd rfl) rfl rfl ?_
              refine g_goto 152 (gd rfl) rfl ?_
              refine g_istore_n 153 (gd rfl) rfl (Nat.le_of_ble_eq_true rfl) ?_
              refine g_iinc 156 (gd rfl) rfl rfl (Nat.le_of_ble_eq_true rfl) (fun z153 e153 => ?_)
              have i153 := in_add (-1) 30 e153 j141_6 (in_c (-1) rfl) rfl rfl
              refine g_goto 47 (gd rfl) rfl ?_
              exact gg_w (by first | exact Nat.le_add_right _ _ | exact gw2 | exact gw3 | exact gwe rfl | exact gwf rfl | exact gwg rfl | exact gwh rfl | omega) (gg_f (gf_cons rfl (gf_cons rfl (gf_cons rfl (gf_cons rfl (gf_cons rfl (gf_cons rfl (gf_cons rfl gf_nil))))))) (ih47 sc141 y47_6 z153 hIc141 hFc141 (in_w (-1) 31 j141_6 rfl) (in_w 0 31 j47_5 rfl) (in_w (-1) 31 i153 rfl) (m_dn mm47 (t_add e153 j141_6 (in_c (-1) rfl) rfl) (in_w (-1) (-1) (in_c (-1) rfl) rfl))))
          have ct74 : ∀ (k74 : Nat) (sc74 : GS) (y74_7 : Int32) (y74_8 : Int32), Inv sc74 → Fr fm_332 s sc74 → (In y47_6 0 31) → (In y74_7 0 1) → (In y74_8 0 448) → 448 - (y74_8).toInt < (k74 : Int) → GG Z (d - 1) 332 post (gx xp) (1 + k28 * 27648969 + 1 + k47 * 813152 + 902 + k74 * 1801) 74 (fun j => xlook j [(0, .ref (A 109)), (1, .int x1), (2, .int y28_2), (3, .int y47_3), (4, .int y28_4), (5, .int y28_5), (6, .int y47_6), (7, .int y74_7), (8, .int y74_8)]) [] (WW Z A sc74 ++ ex) 0 0 := by
            intro k74
            induction k74 with
            | zero => intro sc74 y74_7 y74_8 hIc74 hFc74 j74_6 j74_7 j74_8 mm74; exact m_no mm74 j74_8 rfl
            | succ k74 ih74 =>
              intro sc74 y74_7 y74_8 hIc74 hFc74 j74_6 j74_7 j74_8 mm74
              refine gg_w (M := 1 + k28 * 27648969 + 1 + k47 * 813152 + 902 + k74 * 1801 + 1801) gws ?_
              have ct128 : ∀ (sc128 : GS) , Inv sc128 → Fr fm_332 s sc128 → (In y74_7 1 1) → (In y74_8 0 400) → ((y74_7).toInt ≠ 0) → GG Z (d - 1) 332 post (gx xp) (1 + k28 * 27648969 + 1 + k47 * 813152 + 902 + k74 * 1801 + 901) 128 (fun j => xlook j [(0, .ref (A 109)), (1, .int x1), (2, .int y28_2), (3, .int y47_3), (4, .int y28_4), (5, .int y28_5), (6, .int y47_6), (7, .int y74_7), (8, .int y74_8)]) [] (WW Z A sc128 ++ ex) 0 0 := by
                intro sc128  hIc128 hFc128 j128_7 j128_8 nz128_7
                refine g_iconst 1 129 (gd rfl) rfl rfl ?_
                refine g_goto 133 (gd rfl) rfl ?_
                refine g_istore 135 (gd rfl) rfl (Nat.le_of_ble_eq_true rfl) ?_
                refine g_iinc 138 (gd rfl) rfl rfl (Nat.le_of_ble_eq_true rfl) (fun z135 e135 => ?_)
                have i135 := in_add 1 401 e135 j128_8 (in_c 1 rfl) rfl rfl
                refine g_goto 74 (gd rfl) rfl ?_
                exact gg_w (by first | exact Nat.le_add_right _ _ | exact gw2 | exact gw3 | exact gwe rfl | exact gwf rfl | exact gwg rfl | exact gwh rfl | omega) (gg_f (gf_cons rfl (gf_cons rfl (gf_cons rfl (gf_cons rfl (gf_cons rfl (gf_cons rfl (gf_cons rfl (gf_cons rfl (gf_cons rfl gf_nil))))))))) (ih74 sc128 (Int32.ofInt 1) z135 hIc128 hFc128 (in_w 0 31 j74_6 rfl) (in_w 0 1 (in_c 1 rfl) rfl) (in_w 0 448 i135 rfl) (m_up mm74 (t_add e135 j128_8 (in_c 1 rfl) rfl) (in_w 1 1 (in_c 1 rfl) rfl))))
              refine g_iload 76 (gd rfl) rfl rfl ?_
              refine g_aload_n 77 (gd rfl) rfl rfl ?_
              refine g_getI 80 (gd rfl) rfl rfl rfl (fun z77 e77 => ?_)
              have q77 : u_109_19 = z77 := (fr_F e_109_19 hFc74 rfl).trans e77.symm
              subst q77
              refine g_sipush 160 83 (gd rfl) rfl rfl ?_
              refine g_iadd 84 (gd rfl) rfl (fun z83 e83 => ?_)
              have i83 := in_add 160 320 e83 ro_109_19 (in_c 160 rfl) rfl rfl
              refine g_cmp_ge 87 141 (gd rfl) rfl rfl (fun c84 => ?_) (fun c84 => ?_)
              · skip
                have i84 := r_le2 160 448 c84 i83 j74_8 rfl
                exact gg_w (by first | exact Nat.le_add_right _ _ | exact gw2 | exact gw3 | exact gwe rfl | exact gwf rfl | exact gwg rfl | exact gwh rfl | omega) (gg_f (gf_cons rfl (gf_cons rfl (gf_cons rfl (gf_cons rfl (gf_cons rfl (gf_cons rfl (gf_cons rfl (gf_cons rfl (gf_cons rfl gf_nil))))))))) (ct141 sc74 y74_7 y74_8 hIc74 hFc74 (in_w 0 31 j74_6 rfl) (in_w 0 1 j74_7 rfl) (in_w 0 448 i84 rfl)))
              · skip
                have i84 := r_lt1 0 319 c84 j74_8 i83 rfl
                refine g_iload 89 (gd rfl) rfl rfl ?_
                refine g_if_eq 92 141 (gd rfl) rfl rfl (fun c89 => ?_) (fun c89 => ?_)
                · skip
                  have i89 := z_eq 0 0 c89 j74_7 rfl
                  exact gg_w (by first | exact Nat.le_add_right _ _ | exact gw2 | exact gw3 | exact gwe rfl | exact gwf rfl | exact gwg rfl | exact gwh rfl | omega) (gg_f (gf_cons rfl (gf_cons rfl (gf_cons rfl (gf_cons rfl (gf_cons rfl (gf_cons rfl (gf_cons rfl (gf_cons rfl (gf_cons rfl gf_nil))))))))) (ct141 sc74 y74_7 y74_8 hIc74 hFc74 (in_w 0 31 j74_6 rfl) (in_w 0 1 i89 rfl) (in_w 0 448 i84 rfl)))
                · skip
                  have i89 := z_ne 1 1 c89 j74_7 rfl
                  refine g_aload_n 93 (gd rfl) rfl rfl ?_
                  refine g_getA (q2 := 112) 96 (gd rfl) rfl rfl rfl rfl ?_
                  refine g_iload 98 (gd rfl) rfl rfl ?_
                  refine g_baload 99 (gd rfl) rfl (n := 480) rfl (in_ix i84 rfl) (fun z98 e98 => ?_)
                  have i98 := inv_I hIc74 (n := 480) (t := 3) 0 1 rfl (in_ix i84 rfl) rfl e98
                  refine g_if_eq 102 128 (gd rfl) rfl rfl (fun c99 => ?_) (fun c99 => ?_)
                  · skip
                    have i99 := z_eq 0 0 c99 i98 rfl
                    exact gg_w (by first | exact Nat.le_add_right _ _ | exact gw2 | exact gw3 | exact gwe rfl | exact gwf rfl | exact gwg rfl | exact gwh rfl | omega) (gg_f (gf_cons rfl (gf_cons rfl (gf_cons rfl (gf_cons rfl (gf_cons rfl (gf_cons rfl (gf_cons rfl (gf_cons rfl (gf_cons rfl gf_nil))))))))) (ct128 sc74  hIc74 hFc74 (in_w 1 1 i89 rfl) (in_w 0 400 i84 rfl) c89))
                  · skip
                    have i99 := z_ne 1 1 c99 i98 rfl
                    refine g_aload_n 103 (gd rfl) rfl rfl ?_
                    refine g_getA (q2 := 114) 106 (gd rfl) rfl rfl rfl rfl ?_
                    refine g_iload 108 (gd rfl) rfl rfl ?_
                    refine g_iaload 109 (gd rfl) rfl (n := 480) rfl (in_ix i84 rfl) (fun z108 e108 => ?_)
                    have i108 := inv_I hIc74 (n := 480) (t := 0) 0 31 rfl (in_ix i84 rfl) rfl e108
                    refine g_iload 111 (gd rfl) rfl rfl ?_
                    refine g_cmp_ne 114 128 (gd rfl) rfl rfl (fun c111 => ?_) (fun c111 => ?_)
                    · skip
                      exact gg_w (by first | exact Nat.le_add_right _ _ | exact gw2 | exact gw3 | exact gwe rfl | exact gwf rfl | exact gwg rfl | exact gwh rfl | omega) (gg_f (gf_cons rfl (gf_cons rfl (gf_cons rfl (gf_cons rfl (gf_cons rfl (gf_cons rfl (gf_cons rfl (gf_cons rfl (gf_cons rfl gf_nil))))))))) (ct128 sc74  hIc74 hFc74 (in_w 1 1 i89 rfl) (in_w 0 400 i84 rfl) c89))
                    · skip
                      refine g_iload_n 115 (gd rfl) rfl rfl ?_
                      refine g_aload_n 116 (gd rfl) rfl rfl ?_
                      refine g_getA (q2 := 113) 119 (gd rfl) rfl rfl rfl rfl ?_
                      refine g_iload 121 (gd rfl) rfl rfl ?_
                      refine g_iaload 122 (gd rfl) rfl (n := 480) rfl (in_ix i84 rfl) (fun z121 e121 => ?_)
                      have i121 := inv_I hIc74 (n := 480) (t := 0) 0 31 rfl (in_ix i84 rfl) rfl e121
                      refine g_calls (As := [.int y28_2, .int z121]) (r := []) 125 (gd rfl) rfl rfl rfl rfl rfl (Nat.le_of_ble_eq_true rfl) (mc := 0) (ms := 0) (Nat.zero_le _) (Nat.zero_le _) (P := fun v u => _) ?_ (fun v u h => h)
                      intro po122 xx122 hp122 hx122
                      refine g_enter2 (k := 311) (N := 300) (by first | exact dq1 hd rfl | exact dq0 hd rfl | exact dq2 hd rfl | exact dq3 hd rfl | omega) rfl (Nat.le_of_ble_eq_true rfl) ?_
                      refine g_iload_n 1 (gd rfl) rfl rfl ?_
                      refine g_iload_n 2 (gd rfl) rfl rfl ?_
                      refine g_ishr 3 (gd rfl) rfl (fun z122x2 e122x2 => ?_)
                      refine g_iconst 1 4 (gd rfl) rfl rfl ?_
                      refine g_iand 5 (gd rfl) rfl (fun z122x4 e122x4 => ?_)
                      have i122x4 := in_and2 e122x4 (in_c 1 rfl) rfl
                      refine g_iconst 1 6 (gd rfl) rfl rfl ?_
                      refine g_cmp_ne 9 13 (gd rfl) rfl rfl (fun c122x6 => ?_) (fun c122x6 => ?_)
                      · skip
                        have i122x6 := r_ne1 0 0 c122x6 i122x4 (in_c 1 rfl) rfl
                        refine g_iconst 0 14 (gd rfl) rfl rfl ?_
                        refine g_ireturn (gd rfl) rfl (nb01 (in_w 0 1 (in_c 0 rfl) rfl)) (hp122 _ _ ?_)
                        show GG _ _ _ _ _ _ _ _ [.int (Int32.ofInt 0)] _ _ _
                        refine g_if_eq 128 132 (gd rfl) rfl rfl (fun c125 => ?_) (fun c125 => ?_)
                        · skip
                          refine g_iconst 0 133 (gd rfl) rfl rfl ?_
                          refine g_istore 135 (gd rfl) rfl (Nat.le_of_ble_eq_true rfl) ?_
                          refine g_iinc 138 (gd rfl) rfl rfl (Nat.le_of_ble_eq_true rfl) (fun z135 e135 => ?_)
                          have i135 := in_add 1 320 e135 i84 (in_c 1 rfl) rfl rfl
                          refine g_goto 74 (gd rfl) rfl ?_
                          exact gg_w (by first | exact Nat.le_add_right _ _ | exact gw2 | exact gw3 | exact gwe rfl | exact gwf rfl | exact gwg rfl | exact gwh rfl | omega) (gg_f (gf_cons rfl (gf_cons rfl (gf_cons rfl (gf_cons rfl (gf_cons rfl (gf_cons rfl (gf_cons rfl (gf_cons rfl (gf_cons rfl gf_nil))))))))) (ih74 sc74 (Int32.ofInt 0) z135 hIc74 hFc74 (in_w 0 31 j74_6 rfl) (in_w 0 1 (in_c 0 rfl) rfl) (in_w 0 448 i135 rfl) (m_up mm74 (t_add e135 i84 (in_c 1 rfl) rfl) (in_w 1 1 (in_c 1 rfl) rfl))))
                        · skip
                          exact zn_ne c125 (in_c 0 rfl) rfl
                      · skip
                        have i122x6 := r_eq1 1 1 c122x6 i122x4 (in_c 1 rfl) rfl
                        refine g_iconst 1 10 (gd rfl) rfl rfl ?_
                        refine g_goto 14 (gd rfl) rfl ?_
                        refine g_ireturn (gd rfl) rfl (nb01 (in_w 0 1 (in_c 1 rfl) rfl)) (hp122 _ _ ?_)
                        show GG _ _ _ _ _ _ _ _ [.int (Int32.ofInt 1)] _ _ _
                        refine g_if_eq 128 132 (gd rfl) rfl rfl (fun c125 => ?_) (fun c125 => ?_)
                        · skip
                          exact zn_eq c125 (in_c 1 rfl) rfl
                        · skip
                          exact gg_w (by first | exact Nat.le_add_right _ _ | exact gw2 | exact gw3 | exact gwe rfl | exact gwf rfl | exact gwg rfl | exact gwh rfl | omega) (gg_f (gf_cons rfl (gf_cons rfl (gf_cons rfl (gf_cons rfl (gf_cons rfl (gf_cons rfl (gf_cons rfl (gf_cons rfl (gf_cons rfl gf_nil))))))))) (ct128 sc74  hIc74 hFc74 (in_w 1 1 i89 rfl) (in_w 0 400 i84 rfl) c89))
          refine g_iload 49 (gd rfl) rfl rfl ?_
          refine g_if_lt 52 159 (gd rfl) rfl rfl (fun c49 => ?_) (fun c49 => ?_)
          · skip
            have i49 := z_lt (-1) (-1) c49 j47_6 rfl
            refine g_iload_n 160 (gd rfl) rfl rfl ?_
            refine g_iconst (-1) 161 (gd rfl) rfl rfl ?_
            refine g_cmp_ne 164 166 (gd rfl) rfl rfl (fun c161 => ?_) (fun c161 => ?_)
            · skip
              have i161 := r_ne1 0 31 c161 j47_3 (in_c (-1) rfl) rfl
              refine g_iload_n 167 (gd rfl) rfl rfl ?_
              refine g_iconst 1 168 (gd rfl) rfl rfl ?_
              refine g_iload_n 169 (gd rfl) rfl rfl ?_
              refine g_ishl 170 (gd rfl) rfl (fun z169 e169 => ?_)
              refine g_ior 171 (gd rfl) rfl (fun z170 e170 => ?_)
              refine g_istore_n 172 (gd rfl) rfl (Nat.le_of_ble_eq_true rfl) ?_
              refine g_iload 174 (gd rfl) rfl rfl ?_
              refine g_iload_n 175 (gd rfl) rfl rfl ?_
              refine g_cmp_ne 178 182 (gd rfl) rfl rfl (fun c175 => ?_) (fun c175 => ?_)
              · skip
                refine g_iload 184 (gd rfl) rfl rfl ?_
                refine g_istore 186 (gd rfl) rfl (Nat.le_of_ble_eq_true rfl) ?_
                refine g_iinc 189 (gd rfl) rfl rfl (Nat.le_of_ble_eq_true rfl) (fun z186 e186 => ?_)
                have i186 := in_add 1 32 e186 j47_5 (in_c 1 rfl) rfl rfl
                refine g_goto 28 (gd rfl) rfl ?_
                exact gg_w (by first | exact Nat.le_add_right _ _ | exact gw2 | exact gw3 | exact gwe rfl | exact gwf rfl | exact gwg rfl | exact gwh rfl | omega) (gg_f (gf_cons rfl (gf_cons rfl (gf_cons rfl (gf_cons rfl (gf_cons rfl (gf_cons rfl gf_nil)))))) (ih28 sc47 z170 y47_3 y28_4 z186 hIc47 hFc47 (in_w 0 2147483647 j28_1 rfl) (in_w (-1) 31 i161 rfl) (in_w (-1) 31 j28_4 rfl) (in_w 0 32 i186 rfl) (m_up mm28 (t_add e186 j47_5 (in_c 1 rfl) rfl) (in_w 1 1 (in_c 1 rfl) rfl))))
              · skip
                have i175 := r_eq2 0 31 c175 j47_5 j28_1 rfl
                refine g_iload_n 179 (gd rfl) rfl rfl ?_
                refine g_goto 184 (gd rfl) rfl ?_
                refine g_istore 186 (gd rfl) rfl (Nat.le_of_ble_eq_true rfl) ?_
                refine g_iinc 189 (gd rfl) rfl rfl (Nat.le_of_ble_eq_true rfl) (fun z186 e186 => ?_)
                have i186 := in_add 1 32 e186 j47_5 (in_c 1 rfl) rfl rfl
                refine g_goto 28 (gd rfl) rfl ?_
                exact gg_w (by first | exact Nat.le_add_right _ _ | exact gw2 | exact gw3 | exact gwe rfl | exact gwf rfl | exact gwg rfl | exact gwh rfl | omega) (gg_f (gf_cons rfl (gf_cons rfl (gf_cons rfl (gf_cons rfl (gf_cons rfl (gf_cons rfl gf_nil)))))) (ih28 sc47 z170 y47_3 y47_3 z186 hIc47 hFc47 (in_w 0 2147483647 i175 rfl) (in_w (-1) 31 i161 rfl) (in_w (-1) 31 i161 rfl) (in_w 0 32 i186 rfl) (m_up mm28 (t_add e186 j47_5 (in_c 1 rfl) rfl) (in_w 1 1 (in_c 1 rfl) rfl))))
            · skip
              have i161 := r_eq1 (-1) (-1) c161 j47_3 (in_c (-1) rfl) rfl
              refine g_iconst (-1) 165 (gd rfl) rfl rfl ?_
              exact g_ireturn (gd rfl) rfl rfl (hP _ _ ⟨sc47, hIc47, hFc47, (Int32.ofInt (-1)), rfl, rfl, in_w (-1) 31 (in_c (-1) rfl) rfl⟩)
          · skip
            have i49 := z_ge 0 31 c49 j47_6 rfl
            refine g_iload_n 53 (gd rfl) rfl rfl ?_
            refine g_iload 55 (gd rfl) rfl rfl ?_
            refine g_calls (As := [.int y28_2, .int y47_6]) (r := []) 58 (gd rfl) rfl rfl rfl rfl rfl (Nat.le_of_ble_eq_true rfl) (mc := 0) (ms := 0) (Nat.zero_le _) (Nat.zero_le _) (P := fun v u => _) ?_ (fun v u h => h)
            intro po55 xx55 hp55 hx55
            refine g_enter2 (k := 311) (N := 300) (by first | exact dq1 hd rfl | exact dq0 hd rfl | exact dq2 hd rfl | exact dq3 hd rfl | omega) rfl (Nat.le_of_ble_eq_true rfl) ?_
            refine g_iload_n 1 (gd rfl) rfl rfl ?_
            refine g_iload_n 2 (gd rfl) rfl rfl ?_
            refine g_ishr 3 (gd rfl) rfl (fun z55x2 e55x2 => ?_)
            refine g_iconst 1 4 (gd rfl) rfl rfl ?_
            refine g_iand 5 (gd rfl) rfl (fun z55x4 e55x4 => ?_)
            have i55x4 := in_and2 e55x4 (in_c 1 rfl) rfl
            refine g_iconst 1 6 (gd rfl) rfl rfl ?_
            refine g_cmp_ne 9 13 (gd rfl) rfl rfl (fun c55x6 => ?_) (fun c55x6 => ?_)
            · skip
              have i55x6 := r_ne1 0 0 c55x6 i55x4 (in_c 1 rfl) rfl
              refine g_iconst 0 14 (gd rfl) rfl rfl ?_
              refine g_ireturn (gd rfl) rfl (nb01 (in_w 0 1 (in_c 0 rfl) rfl)) (hp55 _ _ ?_)
              show GG _ _ _ _ _ _ _ _ [.int (Int32.ofInt 0)] _ _ _
              refine g_if_ne 61 65 (gd rfl) rfl rfl (fun c58 => ?_) (fun c58 => ?_)
              · skip
                exact zn_ne c58 (in_c 0 rfl) rfl
              · skip
                refine g_iconst 1 62 (gd rfl) rfl rfl ?_
                refine g_goto 66 (gd rfl) rfl ?_
                refine g_istore 68 (gd rfl) rfl (Nat.le_of_ble_eq_true rfl) ?_
                refine g_aload_n 69 (gd rfl) rfl rfl ?_
                refine g_getI 72 (gd rfl) rfl rfl rfl (fun z69 e69 => ?_)
                have q69 : u_109_19 = z69 := (fr_F e_109_19 hFc47 rfl).trans e69.symm
                subst q69
                refine g_istore 74 (gd rfl) rfl (Nat.le_of_ble_eq_true rfl) ?_
                exact gg_w (by first | exact Nat.le_add_right _ _ | exact gw2 | exact gw3 | exact gwe rfl | exact gwf rfl | exact gwg rfl | exact gwh rfl | omega) (gg_f (gf_cons rfl (gf_cons rfl (gf_cons rfl (gf_cons rfl (gf_cons rfl (gf_cons rfl (gf_cons rfl (gf_cons rfl (gf_cons rfl gf_nil))))))))) (ct74 449 sc47 (Int32.ofInt 1) u_109_19 hIc47 hFc47 (in_w 0 31 i49 rfl) (in_w 0 1 (in_c 1 rfl) rfl) (in_w 0 448 ro_109_19 rfl) (m_in 449 (in_w 0 448 ro_109_19 rfl) rfl)))
            · skip
              have i55x6 := r_eq1 1 1 c55x6 i55x4 (in_c 1 rfl) rfl
              refine g_iconst 1 10 (gd rfl) rfl rfl ?_
              refine g_goto 14 (gd rfl) rfl ?_
              refine g_ireturn (gd rfl) rfl (nb01 (in_w 0 1 (in_c 1 rfl) rfl)) (hp55 _ _ ?_)
              show GG _ _ _ _ _ _ _ _ [.int (Int32.ofInt 1)] _ _ _
              refine g_if_ne 61 65 (gd rfl) rfl rfl (fun c58 => ?_) (fun c58 => ?_)
              · skip
                refine g_iconst 0 66 (gd rfl) rfl rfl ?_
                refine g_istore 68 (gd rfl) rfl (Nat.le_of_ble_eq_true rfl) ?_
                refine g_aload_n 69 (gd rfl) rfl rfl ?_
                refine g_getI 72 (gd rfl) rfl rfl rfl (fun z69 e69 => ?_)
                have q69 : u_109_19 = z69 := (fr_F e_109_19 hFc47 rfl).trans e69.symm
                subst q69
                refine g_istore 74 (gd rfl) rfl (Nat.le_of_ble_eq_true rfl) ?_
                exact gg_w (by first | exact Nat.le_add_right _ _ | exact gw2 | exact gw3 | exact gwe rfl | exact gwf rfl | exact gwg rfl | exact gwh rfl | omega) (gg_f (gf_cons rfl (gf_cons rfl (gf_cons rfl (gf_cons rfl (gf_cons rfl (gf_cons rfl (gf_cons rfl (gf_cons rfl (gf_cons rfl gf_nil))))))))) (ct74 449 sc47 (Int32.ofInt 0) u_109_19 hIc47 hFc47 (in_w 0 31 i49 rfl) (in_w 0 1 (in_c 0 rfl) rfl) (in_w 0 448 ro_109_19 rfl) (m_in 449 (in_w 0 448 ro_109_19 rfl) rfl)))
              · skip
                exact zn_eq c58 (in_c 1 rfl) rfl
      refine g_iload 30 (gd rfl) rfl rfl ?_
      refine g_aload_n 31 (gd rfl) rfl rfl ?_
      refine g_getI 34 (gd rfl) rfl rfl rfl (fun z31 e31 => ?_)
      have q31 : u_109_20 = z31 := (fr_F e_109_20 hFc28 rfl).trans e31.symm
      subst q31
      refine g_cmp_ge 37 192 (gd rfl) rfl rfl (fun c34 => ?_) (fun c34 => ?_)
      · skip
        refine g_iload 194 (gd rfl) rfl rfl ?_
        exact g_ireturn (gd rfl) rfl rfl (hP _ _ ⟨sc28, hIc28, hFc28, y28_4, rfl, rfl, in_w (-1) 31 j28_4 rfl⟩)
      · skip
        have i34 := r_lt1 0 31 c34 j28_5 ro_109_20 rfl
        have i34a := r_lt2 1 32 c34 j28_5 ro_109_20 rfl
        refine g_iconst (-1) 38 (gd rfl) rfl rfl ?_
        refine g_istore_n 39 (gd rfl) rfl (Nat.le_of_ble_eq_true rfl) ?_
        refine g_aload_n 40 (gd rfl) rfl rfl ?_
        refine g_getI 43 (gd rfl) rfl rfl rfl (fun z40 e40 => ?_)
        have q40 : u_109_20 = z40 := (fr_F e_109_20 hFc28 rfl).trans e40.symm
        subst q40
        refine g_iconst 1 44 (gd rfl) rfl rfl ?_
        refine g_isub 45 (gd rfl) rfl (fun z44 e44 => ?_)
        have i44 := in_sub 0 31 e44 i34a (in_c 1 rfl) rfl rfl
        refine g_istore 47 (gd rfl) rfl (Nat.le_of_ble_eq_true rfl) ?_
        exact gg_w (by first | exact Nat.le_add_right _ _ | exact gw2 | exact gw3 | exact gwe rfl | exact gwf rfl | exact gwg rfl | exact gwh rfl | omega) (gg_f (gf_cons rfl (gf_cons rfl (gf_cons rfl (gf_cons rfl (gf_cons rfl (gf_cons rfl (gf_cons rfl gf_nil))))))) (ct47 33 sc28 (Int32.ofInt (-1)) z44 hIc28 hFc28 (in_w (-1) 31 (in_c (-1) rfl) rfl) (in_w 0 31 i34 rfl) (in_w (-1) 31 i44 rfl) (m_ind 33 (in_w (-1) 31 i44 rfl) rfl)))
  refine g_enter2 (k := 332) (N := 912416878) (by first | exact dq1 hd rfl | exact dq0 hd rfl | exact dq2 hd rfl | exact dq3 hd rfl | omega) rfl (Nat.le_of_ble_eq_true rfl) ?_
  refine g_aload_n 1 (gd rfl) rfl rfl ?_
  refine g_iload_n 2 (gd rfl) rfl rfl ?_
  refine g_if_lt 5 9 (gd rfl) rfl rfl (fun c2 => ?_) (fun c2 => ?_)
  · skip
    have i2 := z_lt (-2147483648) (-1) c2 (i_rng x1) rfl
    refine g_iconst 0 10 (gd rfl) rfl rfl ?_
    refine g_callv (X := _) (As := [.int (Int32.ofInt 0)]) (r := []) (b := A 109) (q := 109) 13 (gd rfl) rfl rfl rfl rfl rfl (ww_o rfl) (Nat.le_of_ble_eq_true rfl) (mc := 0) (ms := 0) (Nat.zero_le _) (Nat.zero_le _) (P := fun v u => _) ?_ (fun e u h => h) (fun v u h => h)
    intro po10 xx10 hp10 hx10
    refine g_enter2 (k := 271) (N := 300) (by first | exact dq1 hd rfl | exact dq0 hd rfl | exact dq2 hd rfl | exact dq3 hd rfl | omega) rfl (Nat.le_of_ble_eq_true rfl) ?_
    refine g_aload_n 1 (gd rfl) rfl rfl ?_
    refine g_iload_n 2 (gd rfl) rfl rfl ?_
    refine g_iconst 1 3 (gd rfl) rfl rfl ?_
    refine g_callv (X := _) (As := [.int (Int32.ofInt 0), .int (Int32.ofInt 1)]) (r := []) (b := A 109) (q := 109) 6 (gd rfl) rfl rfl rfl rfl rfl (ww_o rfl) (Nat.le_of_ble_eq_true rfl) (mc := 0) (ms := 0) (Nat.zero_le _) (Nat.zero_le _) (P := fun v u => _) ?_ (fun e u h => h) (fun v u h => h)
    intro po10x3 xx10x3 hp10x3 hx10x3
    refine g_enter2 (k := 270) (N := 300) (by first | exact dq1 hd rfl | exact dq0 hd rfl | exact dq2 hd rfl | exact dq3 hd rfl | omega) rfl (Nat.le_of_ble_eq_true rfl) ?_
    refine g_aload_n 1 (gd rfl) rfl rfl ?_
    refine g_iload_n 2 (gd rfl) rfl rfl ?_
    refine g_if_ne 5 9 (gd rfl) rfl rfl (fun c10x3x2 => ?_) (fun c10x3x2 => ?_)
    · skip
      exact zn_ne c10x3x2 (in_c 0 rfl) rfl
    · skip
      refine g_iconst 1 6 (gd rfl) rfl rfl ?_
      refine g_goto 18 (gd rfl) rfl ?_
      refine g_putI 21 (gd rfl) rfl rfl rfl rfl ?_
      have hI10x3x18 := inv_sF (q := 109) (j := 0) hI rfl (in_w 0 2 (in_c 1 rfl) rfl)
      refine g_aload_n 22 (gd rfl) rfl rfl ?_
      refine g_getI 25 (gd rfl) rfl rfl rfl (fun z10x3x22 e10x3x22 => ?_)
      have q10x3x22 : (Int32.ofInt 1) = z10x3x22 := (sF_get).trans e10x3x22.symm
      subst q10x3x22
      refine g_if_le 28 32 (gd rfl) rfl rfl (fun c10x3x25 => ?_) (fun c10x3x25 => ?_)
      · skip
        exact zn_le c10x3x25 (in_c 1 rfl) rfl
      · skip
        refine g_iconst 1 29 (gd rfl) rfl rfl ?_
        refine g_goto 33 (gd rfl) rfl ?_
        refine g_ireturn (gd rfl) rfl (nb01 (in_w 0 1 (in_c 1 rfl) rfl)) (hp10x3 _ _ ?_)
        show GG _ _ _ _ _ _ _ _ [.int (Int32.ofInt 1)] _ _ _
        refine g_ireturn (gd rfl) rfl (nb01 (in_w 0 1 (in_c 1 rfl) rfl)) (hp10 _ _ ?_)
        show GG _ _ _ _ _ _ _ _ [.int (Int32.ofInt 1)] _ _ _
        refine g_if_eq 16 18 (gd rfl) rfl rfl (fun c13 => ?_) (fun c13 => ?_)
        · skip
          exact zn_eq c13 (in_c 1 rfl) rfl
        · skip
          refine g_iconst 0 17 (gd rfl) rfl rfl ?_
          exact g_ireturn (gd rfl) rfl rfl (hP _ _ ⟨(sF s 109 0 (Int32.ofInt 1)), hI10x3x18, (fr_sF rfl fr_rf), (Int32.ofInt 0), rfl, rfl, in_w (-1) 31 (in_c 0 rfl) rfl⟩)
  · skip
    have i2 := z_ge 0 2147483647 c2 (i_rng x1) rfl
    refine g_iconst 1 6 (gd rfl) rfl rfl ?_
    refine g_goto 10 (gd rfl) rfl ?_
    refine g_callv (X := _) (As := [.int (Int32.ofInt 1)]) (r := []) (b := A 109) (q := 109) 13 (gd rfl) rfl rfl rfl rfl rfl (ww_o rfl) (Nat.le_of_ble_eq_true rfl) (mc := 0) (ms := 0) (Nat.zero_le _) (Nat.zero_le _) (P := fun v u => _) ?_ (fun e u h => h) (fun v u h => h)
    intro po10 xx10 hp10 hx10
    refine g_enter2 (k := 271) (N := 300) (by first | exact dq1 hd rfl | exact dq0 hd rfl | exact dq2 hd rfl | exact dq3 hd rfl | omega) rfl (Nat.le_of_ble_eq_true rfl) ?_
    refine g_aload_n 1 (gd rfl) rfl rfl ?_
    refine g_iload_n 2 (gd rfl) rfl rfl ?_
    refine g_iconst 1 3 (gd rfl) rfl rfl ?_
    refine g_callv (X := _) (As := [.int (Int32.ofInt 1), .int (Int32.ofInt 1)]) (r := []) (b := A 109) (q := 109) 6 (gd rfl) rfl rfl rfl rfl rfl (ww_o rfl) (Nat.le_of_ble_eq_true rfl) (mc := 0) (ms := 0) (Nat.zero_le _) (Nat.zero_le _) (P := fun v u => _) ?_ (fun e u h => h) (fun v u h => h)
    intro po10x3 xx10x3 hp10x3 hx10x3
    refine g_enter2 (k := 270) (N := 300) (by first | exact dq1 hd rfl | exact dq0 hd rfl | exact dq2 hd rfl | exact dq3 hd rfl | omega) rfl (Nat.le_of_ble_eq_true rfl) ?_
    refine g_aload_n 1 (gd rfl) rfl rfl ?_
    refine g_iload_n 2 (gd rfl) rfl rfl ?_
    refine g_if_ne 5 9 (gd rfl) rfl rfl (fun c10x3x2 => ?_) (fun c10x3x2 => ?_)
    · skip
      refine g_iload_n 10 (gd rfl) rfl rfl ?_
      refine g_if_ne 13 17 (gd rfl) rfl rfl (fun c10x3x10 => ?_) (fun c10x3x10 => ?_)
      · skip
        refine g_iconst 0 18 (gd rfl) rfl rfl ?_
        refine g_putI 21 (gd rfl) rfl rfl rfl rfl ?_
        have hI10x3x18 := inv_sF (q := 109) (j := 0) hI rfl (in_w 0 2 (in_c 0 rfl) rfl)
        refine g_aload_n 22 (gd rfl) rfl rfl ?_
        refine g_getI 25 (gd rfl) rfl rfl rfl (fun z10x3x22 e10x3x22 => ?_)
        have q10x3x22 : (Int32.ofInt 0) = z10x3x22 := (sF_get).trans e10x3x22.symm
        subst q10x3x22
        refine g_if_le 28 32 (gd rfl) rfl rfl (fun c10x3x25 => ?_) (fun c10x3x25 => ?_)
        · skip
          refine g_iconst 0 33 (gd rfl) rfl rfl ?_
          refine g_ireturn (gd rfl) rfl (nb01 (in_w 0 1 (in_c 0 rfl) rfl)) (hp10x3 _ _ ?_)
          show GG _ _ _ _ _ _ _ _ [.int (Int32.ofInt 0)] _ _ _
          refine g_ireturn (gd rfl) rfl (nb01 (in_w 0 1 (in_c 0 rfl) rfl)) (hp10 _ _ ?_)
          show GG _ _ _ _ _ _ _ _ [.int (Int32.ofInt 0)] _ _ _
          refine g_if_eq 16 18 (gd rfl) rfl rfl (fun c13 => ?_) (fun c13 => ?_)
          · skip
            refine g_iconst 0 19 (gd rfl) rfl rfl ?_
            refine g_istore_n 20 (gd rfl) rfl (Nat.le_of_ble_eq_true rfl) ?_
            refine g_iconst (-1) 21 (gd rfl) rfl rfl ?_
            refine g_istore_n 22 (gd rfl) rfl (Nat.le_of_ble_eq_true rfl) ?_
            refine g_iconst (-1) 23 (gd rfl) rfl rfl ?_
            refine g_istore 25 (gd rfl) rfl (Nat.le_of_ble_eq_true rfl) ?_
            refine g_iconst 0 26 (gd rfl) rfl rfl ?_
            refine g_istore 28 (gd rfl) rfl (Nat.le_of_ble_eq_true rfl) ?_
            exact gg_w (by first | exact Nat.le_of_ble_eq_true rfl | omega) (gg_f (gf_cons rfl (gf_cons rfl (gf_cons rfl (gf_cons rfl (gf_cons rfl (gf_cons rfl gf_nil)))))) (ct28 33 (sF s 109 0 (Int32.ofInt 0)) (Int32.ofInt 0) (Int32.ofInt (-1)) (Int32.ofInt (-1)) (Int32.ofInt 0) hI10x3x18 (fr_sF rfl fr_rf) (in_w 0 2147483647 i2 rfl) (in_w (-1) 31 (in_c (-1) rfl) rfl) (in_w (-1) 31 (in_c (-1) rfl) rfl) (in_w 0 32 (in_c 0 rfl) rfl) (m_in 33 (in_w 0 32 (in_c 0 rfl) rfl) rfl)))
          · skip
            exact zn_ne c13 (in_c 0 rfl) rfl
        · skip
          exact zn_gt c10x3x25 (in_c 0 rfl) rfl
      · skip
        exact zn_eq c10x3x10 (in_c 1 rfl) rfl
    · skip
      exact zn_eq c10x3x2 (in_c 1 rfl) rfl

/-- GraphHouseModel.jointsWith -/
theorem k_333 {Z : AmZ} {A : Nat → Nat} {s : GS} {ex : va_W} {d : Nat} {X : AmX} {x1 : Int32} {x2 : Int32} (hd : 3 ≤ d) (hI : Inv s) (h1 : In x1 0 31) : GC Z d 333 [.ref (A 109), .int x1, .int x2] (WW Z A s ++ ex) 0 0 (fun v u => ∃ z : Int32, v = some (.int z) ∧ u = WW Z A s ++ ex ∧ In z 0 160) X := by
  intro post xp hP hX
  obtain ⟨u_109_19, e_109_19⟩ : ∃ w, w = s.2.2.1 109 19 := ⟨_, rfl⟩
  have ro_109_19 := inv_F hI 0 160 rfl e_109_19
  have ct5 : ∀ (k5 : Nat) (y5_3 : Int32) (y5_4 : Int32), (In y5_3 0 160) → (In y5_4 0 160) → ((y5_3).toInt ≤ (y5_4).toInt + 0) → 160 - (y5_4).toInt < (k5 : Int) → GG Z (d - 1) 333 post (gx xp) (1 + k5 * 900) 5 (fun j => xlook j [(0, .ref (A 109)), (1, .int x1), (2, .int x2), (3, .int y5_3), (4, .int y5_4)]) [] (WW Z A s ++ ex) 0 0 := by
    intro k5
    induction k5 with
    | zero => intro y5_3 y5_4 j5_3 j5_4 l5_3 mm5; exact m_no mm5 j5_4 rfl
    | succ k5 ih5 =>
      intro y5_3 y5_4 j5_3 j5_4 l5_3 mm5
      refine gg_w (M := 1 + k5 * 900 + 900) gws ?_
      refine g_iload 7 (gd rfl) rfl rfl ?_
      refine g_sipush 160 10 (gd rfl) rfl rfl ?_
      refine g_cmp_ge 13 94 (gd rfl) rfl rfl (fun c10 => ?_) (fun c10 => ?_)
      · skip
        have i10 := r_le2 160 160 c10 (in_c 160 rfl) j5_4 rfl
        refine g_iload_n 95 (gd rfl) rfl rfl ?_
        exact g_ireturn (gd rfl) rfl rfl (hP _ _ ⟨y5_3, rfl, rfl, in_w 0 160 j5_3 rfl⟩)
      · skip
        have i10 := r_lt1 0 159 c10 j5_4 (in_c 160 rfl) rfl
        refine g_aload_n 14 (gd rfl) rfl rfl ?_
        refine g_iload 16 (gd rfl) rfl rfl ?_
        refine g_callv (X := _) (As := [.int y5_4]) (r := []) (b := A 109) (q := 109) 19 (gd rfl) rfl rfl rfl rfl rfl (ww_o rfl) (Nat.le_of_ble_eq_true rfl) (mc := 0) (ms := 0) (Nat.zero_le _) (Nat.zero_le _) (P := fun v u => _) ?_ (fun e u h => h) (fun v u h => h)
        intro po16 xx16 hp16 hx16
        refine g_enter2 (k := 288) (N := 300) (by first | exact dq1 hd rfl | exact dq0 hd rfl | exact dq2 hd rfl | exact dq3 hd rfl | omega) rfl (Nat.le_of_ble_eq_true rfl) ?_
        refine g_aload_n 1 (gd rfl) rfl rfl ?_
        refine g_getA (q2 := 112) 4 (gd rfl) rfl rfl rfl rfl ?_
        refine g_aload_n 5 (gd rfl) rfl rfl ?_
        refine g_getI 8 (gd rfl) rfl rfl rfl (fun z16x5 e16x5 => ?_)
        have q16x5 : u_109_19 = z16x5 := (e_109_19).trans e16x5.symm
        subst q16x5
        refine g_iload_n 9 (gd rfl) rfl rfl ?_
        refine g_iadd 10 (gd rfl) rfl (fun z16x9 e16x9 => ?_)
        have i16x9 := in_add 0 319 e16x9 ro_109_19 i10 rfl rfl
        refine g_baload 11 (gd rfl) rfl (n := 480) rfl (in_ix i16x9 rfl) (fun z16x10 e16x10 => ?_)
        have i16x10 := inv_I hI (n := 480) (t := 3) 0 1 rfl (in_ix i16x9 rfl) rfl e16x10
        refine g_if_eq 14 43 (gd rfl) rfl rfl (fun c16x11 => ?_) (fun c16x11 => ?_)
        · skip
          have i16x11 := z_eq 0 0 c16x11 i16x10 rfl
          refine g_iconst 0 44 (gd rfl) rfl rfl ?_
          refine g_ireturn (gd rfl) rfl (nb01 (in_w 0 1 (in_c 0 rfl) rfl)) (hp16 _ _ ?_)
          show GG _ _ _ _ _ _ _ _ [.int (Int32.ofInt 0)] _ _ _
          refine g_if_eq 22 88 (gd rfl) rfl rfl (fun c19 => ?_) (fun c19 => ?_)
          · skip
            refine g_iinc 91 (gd rfl) rfl rfl (Nat.le_of_ble_eq_true rfl) (fun z88 e88 => ?_)
            have i88 := in_add 1 160 e88 i10 (in_c 1 rfl) rfl rfl
            refine g_goto 5 (gd rfl) rfl ?_
            have l5 := rl_0 l5_3 (t_add e88 i10 (in_c 1 rfl) rfl) (in_w 0 1 (in_c 1 rfl) rfl)
            exact gg_w (by first | exact Nat.le_add_right _ _ | exact gw2 | exact gw3 | exact gwe rfl | exact gwf rfl | exact gwg rfl | exact gwh rfl | omega) (gg_f (gf_cons rfl (gf_cons rfl (gf_cons rfl (gf_cons rfl (gf_cons rfl gf_nil))))) (ih5  y5_3 z88  (rl_w 0 160 l5 j5_3 (in_w 0 160 i88 rfl) rfl) (in_w 0 160 i88 rfl) l5 (m_up mm5 (t_add e88 i10 (in_c 1 rfl) rfl) (in_w 1 1 (in_c 1 rfl) rfl))))
          · skip
            exact zn_ne c19 (in_c 0 rfl) rfl
        · skip
          have i16x11 := z_ne 1 1 c16x11 i16x10 rfl
          refine g_aload_n 15 (gd rfl) rfl rfl ?_
          refine g_getA (q2 := 113) 18 (gd rfl) rfl rfl rfl rfl ?_
          refine g_aload_n 19 (gd rfl) rfl rfl ?_
          refine g_getI 22 (gd rfl) rfl rfl rfl (fun z16x19 e16x19 => ?_)
          have q16x19 : u_109_19 = z16x19 := (e_109_19).trans e16x19.symm
          subst q16x19
          refine g_iload_n 23 (gd rfl) rfl rfl ?_
          refine g_iadd 24 (gd rfl) rfl (fun z16x23 e16x23 => ?_)
          have i16x23 := in_add 0 319 e16x23 ro_109_19 i10 rfl rfl
          refine g_iaload 25 (gd rfl) rfl (n := 480) rfl (in_ix i16x23 rfl) (fun z16x24 e16x24 => ?_)
          have i16x24 := inv_I hI (n := 480) (t := 0) 0 31 rfl (in_ix i16x23 rfl) rfl e16x24
          refine g_aload_n 26 (gd rfl) rfl rfl ?_
          refine g_getA (q2 := 114) 29 (gd rfl) rfl rfl rfl rfl ?_
          refine g_aload_n 30 (gd rfl) rfl rfl ?_
          refine g_getI 33 (gd rfl) rfl rfl rfl (fun z16x30 e16x30 => ?_)
          have q16x30 : u_109_19 = z16x30 := (e_109_19).trans e16x30.symm
          subst q16x30
          refine g_iload_n 34 (gd rfl) rfl rfl ?_
          refine g_iadd 35 (gd rfl) rfl (fun z16x34 e16x34 => ?_)
          have i16x34 := in_add 0 319 e16x34 ro_109_19 i10 rfl rfl
          refine g_iaload 36 (gd rfl) rfl (n := 480) rfl (in_ix i16x34 rfl) (fun z16x35 e16x35 => ?_)
          have i16x35 := inv_I hI (n := 480) (t := 0) 0 31 rfl (in_ix i16x34 rfl) rfl e16x35
          refine g_cmp_eq 39 43 (gd rfl) rfl rfl (fun c16x36 => ?_) (fun c16x36 => ?_)
          · skip
            refine g_iconst 0 44 (gd rfl) rfl rfl ?_
            refine g_ireturn (gd rfl) rfl (nb01 (in_w 0 1 (in_c 0 rfl) rfl)) (hp16 _ _ ?_)
            show GG _ _ _ _ _ _ _ _ [.int (Int32.ofInt 0)] _ _ _
            refine g_if_eq 22 88 (gd rfl) rfl rfl (fun c19 => ?_) (fun c19 => ?_)
            · skip
              refine g_iinc 91 (gd rfl) rfl rfl (Nat.le_of_ble_eq_true rfl) (fun z88 e88 => ?_)
              have i88 := in_add 1 160 e88 i10 (in_c 1 rfl) rfl rfl
              refine g_goto 5 (gd rfl) rfl ?_
              have l5 := rl_0 l5_3 (t_add e88 i10 (in_c 1 rfl) rfl) (in_w 0 1 (in_c 1 rfl) rfl)
              exact gg_w (by first | exact Nat.le_add_right _ _ | exact gw2 | exact gw3 | exact gwe rfl | exact gwf rfl | exact gwg rfl | exact gwh rfl | omega) (gg_f (gf_cons rfl (gf_cons rfl (gf_cons rfl (gf_cons rfl (gf_cons rfl gf_nil))))) (ih5  y5_3 z88  (rl_w 0 160 l5 j5_3 (in_w 0 160 i88 rfl) rfl) (in_w 0 160 i88 rfl) l5 (m_up mm5 (t_add e88 i10 (in_c 1 rfl) rfl) (in_w 1 1 (in_c 1 rfl) rfl))))
            · skip
              exact zn_ne c19 (in_c 0 rfl) rfl
          · skip
            refine g_iconst 1 40 (gd rfl) rfl rfl ?_
            refine g_goto 44 (gd rfl) rfl ?_
            refine g_ireturn (gd rfl) rfl (nb01 (in_w 0 1 (in_c 1 rfl) rfl)) (hp16 _ _ ?_)
            show GG _ _ _ _ _ _ _ _ [.int (Int32.ofInt 1)] _ _ _
            refine g_if_eq 22 88 (gd rfl) rfl rfl (fun c19 => ?_) (fun c19 => ?_)
            · skip
              exact zn_eq c19 (in_c 1 rfl) rfl
            · skip
              refine g_aload_n 23 (gd rfl) rfl rfl ?_
              refine g_getA (q2 := 113) 26 (gd rfl) rfl rfl rfl rfl ?_
              refine g_aload_n 27 (gd rfl) rfl rfl ?_
              refine g_getI 30 (gd rfl) rfl rfl rfl (fun z27 e27 => ?_)
              have q27 : u_109_19 = z27 := (e_109_19).trans e27.symm
              subst q27
              refine g_iload 32 (gd rfl) rfl rfl ?_
              refine g_iadd 33 (gd rfl) rfl (fun z32 e32 => ?_)
              have i32 := in_add 0 319 e32 ro_109_19 i10 rfl rfl
              refine g_iaload 34 (gd rfl) rfl (n := 480) rfl (in_ix i32 rfl) (fun z33 e33 => ?_)
              have i33 := inv_I hI (n := 480) (t := 0) 0 31 rfl (in_ix i32 rfl) rfl e33
              refine g_istore 36 (gd rfl) rfl (Nat.le_of_ble_eq_true rfl) ?_
              refine g_aload_n 37 (gd rfl) rfl rfl ?_
              refine g_getA (q2 := 114) 40 (gd rfl) rfl rfl rfl rfl ?_
              refine g_aload_n 41 (gd rfl) rfl rfl ?_
              refine g_getI 44 (gd rfl) rfl rfl rfl (fun z41 e41 => ?_)
              have q41 : u_109_19 = z41 := (e_109_19).trans e41.symm
              subst q41
              refine g_iload 46 (gd rfl) rfl rfl ?_
              refine g_iadd 47 (gd rfl) rfl (fun z46 e46 => ?_)
              have i46 := in_add 0 319 e46 ro_109_19 i10 rfl rfl
              refine g_iaload 48 (gd rfl) rfl (n := 480) rfl (in_ix i46 rfl) (fun z47 e47 => ?_)
              have i47 := inv_I hI (n := 480) (t := 0) 0 31 rfl (in_ix i46 rfl) rfl e47
              refine g_istore 50 (gd rfl) rfl (Nat.le_of_ble_eq_true rfl) ?_
              refine g_iload_n 51 (gd rfl) rfl rfl ?_
              refine g_iload 53 (gd rfl) rfl rfl ?_
              refine g_iload_n 54 (gd rfl) rfl rfl ?_
              refine g_cmp_ne 57 66 (gd rfl) rfl rfl (fun c54 => ?_) (fun c54 => ?_)
              · skip
                refine g_iload 68 (gd rfl) rfl rfl ?_
                refine g_iload_n 69 (gd rfl) rfl rfl ?_
                refine g_cmp_ne 72 85 (gd rfl) rfl rfl (fun c69 => ?_) (fun c69 => ?_)
                · skip
                  refine g_iconst 0 86 (gd rfl) rfl rfl ?_
                  refine g_iadd 87 (gd rfl) rfl (fun z86 e86 => ?_)
                  have i86 := in_add 0 160 e86 j5_3 (in_c 0 rfl) rfl rfl
                  refine g_istore_n 88 (gd rfl) rfl (Nat.le_of_ble_eq_true rfl) ?_
                  refine g_iinc 91 (gd rfl) rfl rfl (Nat.le_of_ble_eq_true rfl) (fun z88 e88 => ?_)
                  have i88 := in_add 1 160 e88 i10 (in_c 1 rfl) rfl rfl
                  refine g_goto 5 (gd rfl) rfl ?_
                  have l5 := rl_1 l5_3 (t_add e86 j5_3 (in_c 0 rfl) rfl) (in_c 0 rfl) (t_add e88 i10 (in_c 1 rfl) rfl) (in_c 1 rfl) rfl
                  exact gg_w (by first | exact Nat.le_add_right _ _ | exact gw2 | exact gw3 | exact gwe rfl | exact gwf rfl | exact gwg rfl | exact gwh rfl | omega) (gg_f (gf_cons rfl (gf_cons rfl (gf_cons rfl (gf_cons rfl (gf_cons rfl gf_nil))))) (ih5  z86 z88  (rl_w 0 160 l5 i86 (in_w 0 160 i88 rfl) rfl) (in_w 0 160 i88 rfl) l5 (m_up mm5 (t_add e88 i10 (in_c 1 rfl) rfl) (in_w 1 1 (in_c 1 rfl) rfl))))
                · skip
                  refine g_iload_n 73 (gd rfl) rfl rfl ?_
                  refine g_iload 75 (gd rfl) rfl rfl ?_
                  refine g_calls (As := [.int x2, .int z33]) (r := [.int y5_3]) 78 (gd rfl) rfl rfl rfl rfl rfl (Nat.le_of_ble_eq_true rfl) (mc := 0) (ms := 0) (Nat.zero_le _) (Nat.zero_le _) (P := fun v u => _) ?_ (fun v u h => h)
                  intro po75 xx75 hp75 hx75
                  refine g_enter2 (k := 311) (N := 300) (by first | exact dq1 hd rfl | exact dq0 hd rfl | exact dq2 hd rfl | exact dq3 hd rfl | omega) rfl (Nat.le_of_ble_eq_true rfl) ?_
                  refine g_iload_n 1 (gd rfl) rfl rfl ?_
                  refine g_iload_n 2 (gd rfl) rfl rfl ?_
                  refine g_ishr 3 (gd rfl) rfl (fun z75x2 e75x2 => ?_)
                  refine g_iconst 1 4 (gd rfl) rfl rfl ?_
                  refine g_iand 5 (gd rfl) rfl (fun z75x4 e75x4 => ?_)
                  have i75x4 := in_and2 e75x4 (in_c 1 rfl) rfl
                  refine g_iconst 1 6 (gd rfl) rfl rfl ?_
                  refine g_cmp_ne 9 13 (gd rfl) rfl rfl (fun c75x6 => ?_) (fun c75x6 => ?_)
                  · skip
                    have i75x6 := r_ne1 0 0 c75x6 i75x4 (in_c 1 rfl) rfl
                    refine g_iconst 0 14 (gd rfl) rfl rfl ?_
                    refine g_ireturn (gd rfl) rfl (nb01 (in_w 0 1 (in_c 0 rfl) rfl)) (hp75 _ _ ?_)
                    show GG _ _ _ _ _ _ _ _ [.int (Int32.ofInt 0), .int y5_3] _ _ _
                    refine g_if_eq 81 85 (gd rfl) rfl rfl (fun c78 => ?_) (fun c78 => ?_)
                    · skip
                      refine g_iconst 0 86 (gd rfl) rfl rfl ?_
                      refine g_iadd 87 (gd rfl) rfl (fun z86 e86 => ?_)
                      have i86 := in_add 0 160 e86 j5_3 (in_c 0 rfl) rfl rfl
                      refine g_istore_n 88 (gd rfl) rfl (Nat.le_of_ble_eq_true rfl) ?_
                      refine g_iinc 91 (gd rfl) rfl rfl (Nat.le_of_ble_eq_true rfl) (fun z88 e88 => ?_)
                      have i88 := in_add 1 160 e88 i10 (in_c 1 rfl) rfl rfl
                      refine g_goto 5 (gd rfl) rfl ?_
                      have l5 := rl_1 l5_3 (t_add e86 j5_3 (in_c 0 rfl) rfl) (in_c 0 rfl) (t_add e88 i10 (in_c 1 rfl) rfl) (in_c 1 rfl) rfl
                      exact gg_w (by first | exact Nat.le_add_right _ _ | exact gw2 | exact gw3 | exact gwe rfl | exact gwf rfl | exact gwg rfl | exact gwh rfl | omega) (gg_f (gf_cons rfl (gf_cons rfl (gf_cons rfl (gf_cons rfl (gf_cons rfl gf_nil))))) (ih5  z86 z88  (rl_w 0 160 l5 i86 (in_w 0 160 i88 rfl) rfl) (in_w 0 160 i88 rfl) l5 (m_up mm5 (t_add e88 i10 (in_c 1 rfl) rfl) (in_w 1 1 (in_c 1 rfl) rfl))))
                    · skip
                      exact zn_ne c78 (in_c 0 rfl) rfl
                  · skip
                    have i75x6 := r_eq1 1 1 c75x6 i75x4 (in_c 1 rfl) rfl
                    refine g_iconst 1 10 (gd rfl) rfl rfl ?_
                    refine g_goto 14 (gd rfl) rfl ?_
                    refine g_ireturn (gd rfl) rfl (nb01 (in_w 0 1 (in_c 1 rfl) rfl)) (hp75 _ _ ?_)
                    show GG _ _ _ _ _ _ _ _ [.int (Int32.ofInt 1), .int y5_3] _ _ _
                    refine g_if_eq 81 85 (gd rfl) rfl rfl (fun c78 => ?_) (fun c78 => ?_)
                    · skip
                      exact zn_eq c78 (in_c 1 rfl) rfl
                    · skip
                      refine g_iconst 1 82 (gd rfl) rfl rfl ?_
                      refine g_goto 86 (gd rfl) rfl ?_
                      refine g_iadd 87 (gd rfl) rfl (fun z86 e86 => ?_)
                      have i86 := in_add 1 161 e86 j5_3 (in_c 1 rfl) rfl rfl
                      refine g_istore_n 88 (gd rfl) rfl (Nat.le_of_ble_eq_true rfl) ?_
                      refine g_iinc 91 (gd rfl) rfl rfl (Nat.le_of_ble_eq_true rfl) (fun z88 e88 => ?_)
                      have i88 := in_add 1 160 e88 i10 (in_c 1 rfl) rfl rfl
                      refine g_goto 5 (gd rfl) rfl ?_
                      have l5 := rl_1 l5_3 (t_add e86 j5_3 (in_c 1 rfl) rfl) (in_c 1 rfl) (t_add e88 i10 (in_c 1 rfl) rfl) (in_c 1 rfl) rfl
                      exact gg_w (by first | exact Nat.le_add_right _ _ | exact gw2 | exact gw3 | exact gwe rfl | exact gwf rfl | exact gwg rfl | exact gwh rfl | omega) (gg_f (gf_cons rfl (gf_cons rfl (gf_cons rfl (gf_cons rfl (gf_cons rfl gf_nil))))) (ih5  z86 z88  (rl_w 0 160 l5 i86 (in_w 0 160 i88 rfl) rfl) (in_w 0 160 i88 rfl) l5 (m_up mm5 (t_add e88 i10 (in_c 1 rfl) rfl) (in_w 1 1 (in_c 1 rfl) rfl))))
              · skip
                refine g_iload_n 58 (gd rfl) rfl rfl ?_
                refine g_iload 60 (gd rfl) rfl rfl ?_
                refine g_calls (As := [.int x2, .int z47]) (r := [.int y5_3]) 63 (gd rfl) rfl rfl rfl rfl rfl (Nat.le_of_ble_eq_true rfl) (mc := 0) (ms := 0) (Nat.zero_le _) (Nat.zero_le _) (P := fun v u => _) ?_ (fun v u h => h)
                intro po60 xx60 hp60 hx60
                refine g_enter2 (k := 311) (N := 300) (by first | exact dq1 hd rfl | exact dq0 hd rfl | exact dq2 hd rfl | exact dq3 hd rfl | omega) rfl (Nat.le_of_ble_eq_true rfl) ?_
                refine g_iload_n 1 (gd rfl) rfl rfl ?_
                refine g_iload_n 2 (gd rfl) rfl rfl ?_
                refine g_ishr 3 (gd rfl) rfl (fun z60x2 e60x2 => ?_)
                refine g_iconst 1 4 (gd rfl) rfl rfl ?_
                refine g_iand 5 (gd rfl) rfl (fun z60x4 e60x4 => ?_)
                have i60x4 := in_and2 e60x4 (in_c 1 rfl) rfl
                refine g_iconst 1 6 (gd rfl) rfl rfl ?_
                refine g_cmp_ne 9 13 (gd rfl) rfl rfl (fun c60x6 => ?_) (fun c60x6 => ?_)
                · skip
                  have i60x6 := r_ne1 0 0 c60x6 i60x4 (in_c 1 rfl) rfl
                  refine g_iconst 0 14 (gd rfl) rfl rfl ?_
                  refine g_ireturn (gd rfl) rfl (nb01 (in_w 0 1 (in_c 0 rfl) rfl)) (hp60 _ _ ?_)
                  show GG _ _ _ _ _ _ _ _ [.int (Int32.ofInt 0), .int y5_3] _ _ _
                  refine g_if_ne 66 81 (gd rfl) rfl rfl (fun c63 => ?_) (fun c63 => ?_)
                  · skip
                    exact zn_ne c63 (in_c 0 rfl) rfl
                  · skip
                    refine g_iload 68 (gd rfl) rfl rfl ?_
                    refine g_iload_n 69 (gd rfl) rfl rfl ?_
                    refine g_cmp_ne 72 85 (gd rfl) rfl rfl (fun c69 => ?_) (fun c69 => ?_)
                    · skip
                      refine g_iconst 0 86 (gd rfl) rfl rfl ?_
                      refine g_iadd 87 (gd rfl) rfl (fun z86 e86 => ?_)
                      have i86 := in_add 0 160 e86 j5_3 (in_c 0 rfl) rfl rfl
                      refine g_istore_n 88 (gd rfl) rfl (Nat.le_of_ble_eq_true rfl) ?_
                      refine g_iinc 91 (gd rfl) rfl rfl (Nat.le_of_ble_eq_true rfl) (fun z88 e88 => ?_)
                      have i88 := in_add 1 160 e88 i10 (in_c 1 rfl) rfl rfl
                      refine g_goto 5 (gd rfl) rfl ?_
                      have l5 := rl_1 l5_3 (t_add e86 j5_3 (in_c 0 rfl) rfl) (in_c 0 rfl) (t_add e88 i10 (in_c 1 rfl) rfl) (in_c 1 rfl) rfl
                      exact gg_w (by first | exact Nat.le_add_right _ _ | exact gw2 | exact gw3 | exact gwe rfl | exact gwf rfl | exact gwg rfl | exact gwh rfl | omega) (gg_f (gf_cons rfl (gf_cons rfl (gf_cons rfl (gf_cons rfl (gf_cons rfl gf_nil))))) (ih5  z86 z88  (rl_w 0 160 l5 i86 (in_w 0 160 i88 rfl) rfl) (in_w 0 160 i88 rfl) l5 (m_up mm5 (t_add e88 i10 (in_c 1 rfl) rfl) (in_w 1 1 (in_c 1 rfl) rfl))))
                    · skip
                      refine g_iload_n 73 (gd rfl) rfl rfl ?_
                      refine g_iload 75 (gd rfl) rfl rfl ?_
                      refine g_calls (As := [.int x2, .int z33]) (r := [.int y5_3]) 78 (gd rfl) rfl rfl rfl rfl rfl (Nat.le_of_ble_eq_true rfl) (mc := 0) (ms := 0) (Nat.zero_le _) (Nat.zero_le _) (P := fun v u => _) ?_ (fun v u h => h)
                      intro po75 xx75 hp75 hx75
                      refine g_enter2 (k := 311) (N := 300) (by first | exact dq1 hd rfl | exact dq0 hd rfl | exact dq2 hd rfl | exact dq3 hd rfl | omega) rfl (Nat.le_of_ble_eq_true rfl) ?_
                      refine g_iload_n 1 (gd rfl) rfl rfl ?_
                      refine g_iload_n 2 (gd rfl) rfl rfl ?_
                      refine g_ishr 3 (gd rfl) rfl (fun z75x2 e75x2 => ?_)
                      refine g_iconst 1 4 (gd rfl) rfl rfl ?_
                      refine g_iand 5 (gd rfl) rfl (fun z75x4 e75x4 => ?_)
                      have i75x4 := in_and2 e75x4 (in_c 1 rfl) rfl
                      refine g_iconst 1 6 (gd rfl) rfl rfl ?_
                      refine g_cmp_ne 9 13 (gd rfl) rfl rfl (fun c75x6 => ?_) (fun c75x6 => ?_)
                      · skip
                        have i75x6 := r_ne1 0 0 c75x6 i75x4 (in_c 1 rfl) rfl
                        refine g_iconst 0 14 (gd rfl) rfl rfl ?_
                        refine g_ireturn (gd rfl) rfl (nb01 (in_w 0 1 (in_c 0 rfl) rfl)) (hp75 _ _ ?_)
                        show GG _ _ _ _ _ _ _ _ [.int (Int32.ofInt 0), .int y5_3] _ _ _
                        refine g_if_eq 81 85 (gd rfl) rfl rfl (fun c78 => ?_) (fun c78 => ?_)
                        · skip
                          refine g_iconst 0 86 (gd rfl) rfl rfl ?_
                          refine g_iadd 87 (gd rfl) rfl (fun z86 e86 => ?_)
                          have i86 := in_add 0 160 e86 j5_3 (in_c 0 rfl) rfl rfl
                          refine g_istore_n 88 (gd rfl) rfl (Nat.le_of_ble_eq_true rfl) ?_
                          refine g_iinc 91 (gd rfl) rfl rfl (Nat.le_of_ble_eq_true rfl) (fun z88 e88 => ?_)
                          have i88 := in_add 1 160 e88 i10 (in_c 1 rfl) rfl rfl
                          refine g_goto 5 (gd rfl) rfl ?_
                          have l5 := rl_1 l5_3 (t_add e86 j5_3 (in_c 0 rfl) rfl) (in_c 0 rfl) (t_add e88 i10 (in_c 1 rfl) rfl) (in_c 1 rfl) rfl
                          exact gg_w (by first | exact Nat.le_add_right _ _ | exact gw2 | exact gw3 | exact gwe rfl | exact gwf rfl | exact gwg rfl | exact gwh rfl | omega) (gg_f (gf_cons rfl (gf_cons rfl (gf_cons rfl (gf_cons rfl (gf_cons rfl gf_nil))))) (ih5  z86 z88  (rl_w 0 160 l5 i86 (in_w 0 160 i88 rfl) rfl) (in_w 0 160 i88 rfl) l5 (m_up mm5 (t_add e88 i10 (in_c 1 rfl) rfl) (in_w 1 1 (in_c 1 rfl) rfl))))
                        · skip
                          exact zn_ne c78 (in_c 0 rfl) rfl
                      · skip
                        have i75x6 := r_eq1 1 1 c75x6 i75x4 (in_c 1 rfl) rfl
                        refine g_iconst 1 10 (gd rfl) rfl rfl ?_
                        refine g_goto 14 (gd rfl) rfl ?_
                        refine g_ireturn (gd rfl) rfl (nb01 (in_w 0 1 (in_c 1 rfl) rfl)) (hp75 _ _ ?_)
                        show GG _ _ _ _ _ _ _ _ [.int (Int32.ofInt 1), .int y5_3] _ _ _
                        refine g_if_eq 81 85 (gd rfl) rfl rfl (fun c78 => ?_) (fun c78 => ?_)
                        · skip
                          exact zn_eq c78 (in_c 1 rfl) rfl
                        · skip
                          refine g_iconst 1 82 (gd rfl) rfl rfl ?_
                          refine g_goto 86 (gd rfl) rfl ?_
                          refine g_iadd 87 (gd rfl) rfl (fun z86 e86 => ?_)
                          have i86 := in_add 1 161 e86 j5_3 (in_c 1 rfl) rfl rfl
                          refine g_istore_n 88 (gd rfl) rfl (Nat.le_of_ble_eq_true rfl) ?_
                          refine g_iinc 91 (gd rfl) rfl rfl (Nat.le_of_ble_eq_true rfl) (fun z88 e88 => ?_)
                          have i88 := in_add 1 160 e88 i10 (in_c 1 rfl) rfl rfl
                          refine g_goto 5 (gd rfl) rfl ?_
                          have l5 := rl_1 l5_3 (t_add e86 j5_3 (in_c 1 rfl) rfl) (in_c 1 rfl) (t_add e88 i10 (in_c 1 rfl) rfl) (in_c 1 rfl) rfl
                          exact gg_w (by first | exact Nat.le_add_right _ _ | exact gw2 | exact gw3 | exact gwe rfl | exact gwf rfl | exact gwg rfl | exact gwh rfl | omega) (gg_f (gf_cons rfl (gf_cons rfl (gf_cons rfl (gf_cons rfl (gf_cons rfl gf_nil))))) (ih5  z86 z88  (rl_w 0 160 l5 i86 (in_w 0 160 i88 rfl) rfl) (in_w 0 160 i88 rfl) l5 (m_up mm5 (t_add e88 i10 (in_c 1 rfl) rfl) (in_w 1 1 (in_c 1 rfl) rfl))))
                · skip
                  have i60x6 := r_eq1 1 1 c60x6 i60x4 (in_c 1 rfl) rfl
                  refine g_iconst 1 10 (gd rfl) rfl rfl ?_
                  refine g_goto 14 (gd rfl) rfl ?_
                  refine g_ireturn (gd rfl) rfl (nb01 (in_w 0 1 (in_c 1 rfl) rfl)) (hp60 _ _ ?_)
                  show GG _ _ _ _ _ _ _ _ [.int (Int32.ofInt 1), .int y5_3] _ _ _
                  refine g_if_ne 66 81 (gd rfl) rfl rfl (fun c63 => ?_) (fun c63 => ?_)
                  · skip
                    refine g_iconst 1 82 (gd rfl) rfl rfl ?_
                    refine g_goto 86 (gd rfl) rfl ?_
                    refine g_iadd 87 (gd rfl) rfl (fun z86 e86 => ?_)
                    have i86 := in_add 1 161 e86 j5_3 (in_c 1 rfl) rfl rfl
                    refine g_istore_n 88 (gd rfl) rfl (Nat.le_of_ble_eq_true rfl) ?_
                    refine g_iinc 91 (gd rfl) rfl rfl (Nat.le_of_ble_eq_true rfl) (fun z88 e88 => ?_)
                    have i88 := in_add 1 160 e88 i10 (in_c 1 rfl) rfl rfl
                    refine g_goto 5 (gd rfl) rfl ?_
                    have l5 := rl_1 l5_3 (t_add e86 j5_3 (in_c 1 rfl) rfl) (in_c 1 rfl) (t_add e88 i10 (in_c 1 rfl) rfl) (in_c 1 rfl) rfl
                    exact gg_w (by first | exact Nat.le_add_right _ _ | exact gw2 | exact gw3 | exact gwe rfl | exact gwf rfl | exact gwg rfl | exact gwh rfl | omega) (gg_f (gf_cons rfl (gf_cons rfl (gf_cons rfl (gf_cons rfl (gf_cons rfl gf_nil))))) (ih5  z86 z88  (rl_w 0 160 l5 i86 (in_w 0 160 i88 rfl) rfl) (in_w 0 160 i88 rfl) l5 (m_up mm5 (t_add e88 i10 (in_c 1 rfl) rfl) (in_w 1 1 (in_c 1 rfl) rfl))))
                  · skip
                    exact zn_eq c63 (in_c 1 rfl) rfl
  refine g_enter2 (k := 333) (N := 145801) (by first | exact dq1 hd rfl | exact dq0 hd rfl | exact dq2 hd rfl | exact dq3 hd rfl | omega) rfl (Nat.le_of_ble_eq_true rfl) ?_
  refine g_iconst 0 1 (gd rfl) rfl rfl ?_
  refine g_istore_n 2 (gd rfl) rfl (Nat.le_of_ble_eq_true rfl) ?_
  refine g_iconst 0 3 (gd rfl) rfl rfl ?_
  refine g_istore 5 (gd rfl) rfl (Nat.le_of_ble_eq_true rfl) ?_
  have l5 := rl_in 0 (in_c 0 rfl) (in_c 0 rfl) rfl
  exact gg_w (by first | exact Nat.le_of_ble_eq_true rfl | omega) (gg_f (gf_cons rfl (gf_cons rfl (gf_cons rfl (gf_cons rfl (gf_cons rfl gf_nil))))) (ct5 161  (Int32.ofInt 0) (Int32.ofInt 0)  (rl_w 0 160 l5 (in_c 0 rfl) (in_w 0 160 (in_c 0 rfl) rfl) rfl) (in_w 0 160 (in_c 0 rfl) rfl) l5 (m_in 161 (in_w 0 160 (in_c 0 rfl) rfl) rfl)))
end
section
/-! methods, by vc.py -/
def fm_334 : FM := ([], [], [(109, 0)], [])
/-- GraphHouseModel.core -/
theorem k_334 {Z : AmZ} {A : Nat → Nat} {s : GS} {ex : va_W} {d : Nat} {X : AmX} {x1 : Int32} (hd : 4 ≤ d) (hI : Inv s)  : GC Z d 334 [.ref (A 109), .int x1] (WW Z A s ++ ex) 0 0 (fun v u => ∃ t : GS, Inv t ∧ Fr fm_334 s t ∧ ∃ z : Int32, v = some (.int z) ∧ u = WW Z A t ++ ex ∧ In z 0 160) X := by
  intro post xp hP hX
  obtain ⟨u_109_20, e_109_20⟩ : ∃ w, w = s.2.2.1 109 20 := ⟨_, rfl⟩
  have ro_109_20 := inv_F hI 0 32 rfl e_109_20
  have ct41 : ∀ (k41 : Nat) (sc41 : GS) (y41_2 : Int32) (y41_3 : Int32) (y41_4 : Int32), Inv sc41 → Fr fm_334 s sc41 → (In x1 0 31) → (In y41_3 0 161) → (In y41_4 0 160) → ((x1).toInt < (u_109_20).toInt) → (0 ≤ (x1).toInt) → (161 ≤ (y41_3).toInt → ∀ j : Nat, (j : Int) < (u_109_20).toInt → bt y41_2 j = false) → 200 - (y41_3).toInt < (k41 : Int) → GG Z (d - 1) 334 post (gx xp) (1 + k41 * 3274302) 41 (fun j => xlook j [(0, .ref (A 109)), (1, .int x1), (2, .int y41_2), (3, .int y41_3), (4, .int y41_4)]) [] (WW Z A sc41 ++ ex) 0 0 := by
    intro k41
    induction k41 with
    | zero => intro sc41 y41_2 y41_3 y41_4 hIc41 hFc41 j41_1 j41_3 j41_4 n41_0 n41_1 g41_0 mm41; exfalso; have a0 := j41_1; unfold In at a0; (first | have a1 := in_u ro_109_20 | (have a1 := ro_109_20; unfold In at a1)); have a2 := j41_4; unfold In at a2; have a3 := j41_3; unfold In at a3; omega
    | succ k41 ih41 =>
      intro sc41 y41_2 y41_3 y41_4 hIc41 hFc41 j41_1 j41_3 j41_4 n41_0 n41_1 g41_0 mm41
      refine gg_w (M := 1 + k41 * 3274302 + 3274302) gws ?_
      have ct58 : ∀ (k58 : Nat) (sc58 : GS) (y58_2 : Int32) (y58_3 : Int32) (y58_4 : Int32) (y58_5 : Int32), Inv sc58 → Fr fm_334 s sc58 → (In y58_3 1 161) → (In y58_4 0 160) → (In y58_5 0 1) → ((y58_3).toInt = y41_3.toInt + 1) → (161 ≤ (y58_3).toInt → (y58_5).toInt = 0 → ∀ j : Nat, (j : Int) < (u_109_20).toInt → bt y58_2 j = false) → cb y58_2 + (y58_5).toInt.toNat < k58 → GG Z (d - 1) 334 post (gx xp) (1 + k41 * 3274302 + 1 + k58 * 32401) 58 (fun j => xlook j [(0, .ref (A 109)), (1, .int x1), (2, .int y58_2), (3, .int y58_3), (4, .int y58_4), (5, .int y58_5)]) [] (WW Z A sc58 ++ ex) 0 0 := by
        intro k58
        induction k58 with
        | zero => intro sc58 y58_2 y58_3 y58_4 y58_5 hIc58 hFc58 j58_3 j58_4 j58_5 n58_0 g58_0 mm58; exact absurd mm58 (Nat.not_lt_zero _)
        | succ k58 ih58 =>
          intro sc58 y58_2 y58_3 y58_4 y58_5 hIc58 hFc58 j58_3 j58_4 j58_5 n58_0 g58_0 mm58
          refine gg_w (M := 1 + k41 * 3274302 + 1 + k58 * 32401 + 32401) gws ?_
          have ct69 : ∀ (k69 : Nat) (sc69 : GS) (y69_2 : Int32) (y69_5 : Int32) (y69_6 : Int32), Inv sc69 → Fr fm_334 s sc69 → (In y69_5 0 1) → (In y69_6 0 32) → (161 ≤ (y58_3).toInt → (y69_5).toInt = 0 → ∀ j : Nat, (j : Int) < (y69_6).toInt → bt y69_2 j = false) → (cb y69_2 + (y69_5).toInt.toNat < k58) → 32 - (y69_6).toInt < (k69 : Int) → GG Z (d - 1) 334 post (gx xp) (1 + k41 * 3274302 + 1 + k58 * 32401 + 1 + k69 * 900) 69 (fun j => xlook j [(0, .ref (A 109)), (1, .int x1), (2, .int y69_2), (3, .int y58_3), (4, .int y58_4), (5, .int y69_5), (6, .int y69_6)]) [] (WW Z A sc69 ++ ex) 0 0 := by
            intro k69
            induction k69 with
            | zero => intro sc69 y69_2 y69_5 y69_6 hIc69 hFc69 j69_5 j69_6 g69_0 g69_1 mm69; exact m_no mm69 j69_6 rfl
            | succ k69 ih69 =>
              intro sc69 y69_2 y69_5 y69_6 hIc69 hFc69 j69_5 j69_6 g69_0 g69_1 mm69
              refine gg_w (M := 1 + k41 * 3274302 + 1 + k58 * 32401 + 1 + k69 * 900 + 900) gws ?_
              refine g_iload 71 (gd rfl) rfl rfl ?_
              refine g_aload_n 72 (gd rfl) rfl rfl ?_
              refine g_getI 75 (gd rfl) rfl rfl rfl (fun z72 e72 => ?_)
              have q72 : u_109_20 = z72 := (fr_F e_109_20 hFc69 rfl).trans e72.symm
              subst q72
              refine g_cmp_ge 78 116 (gd rfl) rfl rfl (fun c75 => ?_) (fun c75 => ?_)
              · skip
                refine g_goto 58 (gd rfl) rfl ?_
                have n58 : (y58_3).toInt = y41_3.toInt + 1 := by first | exact n58_0 | ((first | have a0 := oa6 j58_4 j58_3 j41_1 ro_109_20 j69_6 j69_5 | ((first | have a0 := in_u j58_4 | (have a0 := j58_4; unfold In at a0)); (first | have a1 := in_u j58_3 | (have a1 := j58_3; unfold In at a1)); (first | have a2 := in_u j41_1 | (have a2 := j41_1; unfold In at a2)); (first | have a3 := in_u ro_109_20 | (have a3 := ro_109_20; unfold In at a3)); (first | have a4 := in_u j69_6 | (have a4 := j69_6; unfold In at a4)); (first | have a5 := in_u j69_5 | (have a5 := j69_5; unfold In at a5)))); omega)
                have n58a : 161 ≤ (y58_3).toInt → (y69_5).toInt = 0 → ∀ j : Nat, (j : Int) < (u_109_20).toInt → bt y69_2 j = false := by first | (intro _ h; exact absurd h (by decide)) | (intro h1 h2 j hj; exact g69_0 h1 h2 j (by (first | have a0 := oa6 j58_4 j58_3 j41_1 ro_109_20 j69_6 j69_5 | ((first | have a0 := in_u j58_4 | (have a0 := j58_4; unfold In at a0)); (first | have a1 := in_u j58_3 | (have a1 := j58_3; unfold In at a1)); (first | have a2 := in_u j41_1 | (have a2 := j41_1; unfold In at a2)); (first | have a3 := in_u ro_109_20 | (have a3 := ro_109_20; unfold In at a3)); (first | have a4 := in_u j69_6 | (have a4 := j69_6; unfold In at a4)); (first | have a5 := in_u j69_5 | (have a5 := j69_5; unfold In at a5)))); omega))
                have m58 : cb y69_2 + (y69_5).toInt.toNat < k58 := by exact g69_1
                exact gg_w (by first | exact Nat.le_add_right _ _ | exact gw2 | exact gw3 | exact gwe rfl | exact gwf rfl | exact gwg rfl | exact gwh rfl | omega) (gg_f (gf_cons rfl (gf_cons rfl (gf_cons rfl (gf_cons rfl (gf_cons rfl (gf_cons rfl gf_nil)))))) (ih58  sc69 y69_2 y58_3 y58_4 y69_5 hIc69 hFc69 (in_w 1 161 j58_3 rfl) (in_w 0 160 j58_4 rfl) (in_w 0 1 j69_5 rfl) n58 n58a m58))
              · skip
                have i75 := r_lt1 0 31 c75 j69_6 ro_109_20 rfl
                have i75a := r_lt2 1 32 c75 j69_6 ro_109_20 rfl
                refine g_iload_n 79 (gd rfl) rfl rfl ?_
                refine g_iload 81 (gd rfl) rfl rfl ?_
                refine g_calls (As := [.int y69_2, .int y69_6]) (r := []) 84 (gd rfl) rfl rfl rfl rfl rfl (Nat.le_of_ble_eq_true rfl) (mc := 0) (ms := 0) (Nat.zero_le _) (Nat.zero_le _) (P := fun v u => _) ?_ (fun v u h => h)
                intro po81 xx81 hp81 hx81
                refine g_enter2 (k := 311) (N := 300) (by first | exact dq1 hd rfl | exact dq0 hd rfl | exact dq2 hd rfl | exact dq3 hd rfl | omega) rfl (Nat.le_of_ble_eq_true rfl) ?_
                refine g_iload_n 1 (gd rfl) rfl rfl ?_
                refine g_iload_n 2 (gd rfl) rfl rfl ?_
                refine g_ishr 3 (gd rfl) rfl (fun z81x2 e81x2 => ?_)
                refine g_iconst 1 4 (gd rfl) rfl rfl ?_
                refine g_iand 5 (gd rfl) rfl (fun z81x4 e81x4 => ?_)
                have i81x4 := in_and2 e81x4 (in_c 1 rfl) rfl
                refine g_iconst 1 6 (gd rfl) rfl rfl ?_
                refine g_cmp_ne 9 13 (gd rfl) rfl rfl (fun c81x6 => ?_) (fun c81x6 => ?_)
                · skip
                  have i81x6 := r_ne1 0 0 c81x6 i81x4 (in_c 1 rfl) rfl
                  refine g_iconst 0 14 (gd rfl) rfl rfl ?_
                  refine g_ireturn (gd rfl) rfl (nb01 (in_w 0 1 (in_c 0 rfl) rfl)) (hp81 _ _ ?_)
                  show GG _ _ _ _ _ _ _ _ [.int (Int32.ofInt 0)] _ _ _
                  refine g_if_eq 87 110 (gd rfl) rfl rfl (fun c84 => ?_) (fun c84 => ?_)
                  · skip
                    refine g_iinc 113 (gd rfl) rfl rfl (Nat.le_of_ble_eq_true rfl) (fun z110 e110 => ?_)
                    have i110 := in_add 1 32 e110 i75 (in_c 1 rfl) rfl rfl
                    refine g_goto 69 (gd rfl) rfl ?_
                    have n69 : 161 ≤ (y58_3).toInt → (y69_5).toInt = 0 → ∀ j : Nat, (j : Int) < (z110).toInt → bt y69_2 j = false := by first | (intro _ _ j hj; exfalso; have h0 : (Int32.ofInt 0).toInt = 0 := rfl; omega) | (intro h1 h2 j hj; by_cases hj2 : (j : Int) < y69_6.toInt; exact g69_0 h1 h2 j hj2; (have ej : j = y69_6.toNatClampNeg := (by show j = y69_6.toInt.toNat; (first | have a0 := oa7 j58_4 j58_3 j41_1 i75a i75 j69_5 i110 | ((first | have a0 := in_u j58_4 | (have a0 := j58_4; unfold In at a0)); (first | have a1 := in_u j58_3 | (have a1 := j58_3; unfold In at a1)); (first | have a2 := in_u j41_1 | (have a2 := j41_1; unfold In at a2)); (first | have a3 := in_u i75a | (have a3 := i75a; unfold In at a3)); (first | have a4 := in_u i75 | (have a4 := i75; unfold In at a4)); (first | have a5 := in_u j69_5 | (have a5 := j69_5; unfold In at a5)); (first | have a6 := in_u i110 | (have a6 := i110; unfold In at a6)))); have a7 := t_add e110 i75 (in_c 1 rfl) rfl; (first | have a8 := in_u ((in_c 1 rfl)) | (have a8 := (in_c 1 rfl); unfold In at a8)); omega); rw [ej]; exact bt_no e81x2 e81x4 i75 c81x6)) | (intro h1 h2 j hj; exfalso; have h9 := i91; unfold In at h9; omega) | (intro _ h; exact absurd h (by decide))
                    have n69a : cb y69_2 + (y69_5).toInt.toNat < k58 := by first | exact g69_1 | (first | exact g69_1 | (show cb y58_2 + 0 < k58; have h := j58_5; unfold In at h; omega) | (have h := cb_clr e102 e104 e105 i75 (bt_yes e81x2 e81x4 i75 c81x6); show cb z105 + 1 < k58; omega))
                    exact gg_w (by first | exact Nat.le_add_right _ _ | exact gw2 | exact gw3 | exact gwe rfl | exact gwf rfl | exact gwg rfl | exact gwh rfl | omega) (gg_f (gf_cons rfl (gf_cons rfl (gf_cons rfl (gf_cons rfl (gf_cons rfl (gf_cons rfl (gf_cons rfl gf_nil))))))) (ih69 sc69 y69_2 y69_5 z110 hIc69 hFc69 (in_w 0 1 j69_5 rfl) (in_w 0 32 i110 rfl) n69 n69a (m_up mm69 (t_add e110 i75 (in_c 1 rfl) rfl) (in_w 1 1 (in_c 1 rfl) rfl))))
                  · skip
                    exact zn_ne c84 (in_c 0 rfl) rfl
                · skip
                  have i81x6 := r_eq1 1 1 c81x6 i81x4 (in_c 1 rfl) rfl
                  refine g_iconst 1 10 (gd rfl) rfl rfl ?_
                  refine g_goto 14 (gd rfl) rfl ?_
                  refine g_ireturn (gd rfl) rfl (nb01 (in_w 0 1 (in_c 1 rfl) rfl)) (hp81 _ _ ?_)
                  show GG _ _ _ _ _ _ _ _ [.int (Int32.ofInt 1)] _ _ _
                  refine g_if_eq 87 110 (gd rfl) rfl rfl (fun c84 => ?_) (fun c84 => ?_)
                  · skip
                    exact zn_eq c84 (in_c 1 rfl) rfl
                  · skip
                    refine g_aload_n 88 (gd rfl) rfl rfl ?_
                    refine g_iload 90 (gd rfl) rfl rfl ?_
                    refine g_iload_n 91 (gd rfl) rfl rfl ?_
                    refine g_callv (X := _) (As := [.int y69_6, .int y69_2]) (r := []) (b := A 109) (q := 109) 94 (gd rfl) rfl rfl rfl rfl rfl (ww_o rfl) (Nat.le_of_ble_eq_true rfl) (Nat.zero_le _) (Nat.zero_le _) (k_333 (by first | exact dq1 hd rfl | exact dq0 hd rfl | exact dq2 hd rfl | exact dq3 hd rfl | omega) hIc69 (in_w 0 31 i75 rfl)) (fun e u h => h) (fun v u h => ?_)
                    obtain ⟨z91, rfl, rfl, i91⟩ := h
                    show GG _ _ _ _ _ _ _ _ [.int z91] _ _ _
                    refine g_iload_n 95 (gd rfl) rfl rfl ?_
                    refine g_cmp_ge 98 110 (gd rfl) rfl rfl (fun c95 => ?_) (fun c95 => ?_)
                    · skip
                      have i95 := r_le1 1 160 c95 j58_3 i91 rfl
                      have i95a := r_le2 1 160 c95 j58_3 i91 rfl
                      refine g_iinc 113 (gd rfl) rfl rfl (Nat.le_of_ble_eq_true rfl) (fun z110 e110 => ?_)
                      have i110 := in_add 1 32 e110 i75 (in_c 1 rfl) rfl rfl
                      refine g_goto 69 (gd rfl) rfl ?_
                      have n69 : 161 ≤ (y58_3).toInt → (y69_5).toInt = 0 → ∀ j : Nat, (j : Int) < (z110).toInt → bt y69_2 j = false := by first | (intro _ _ j hj; exfalso; have h0 : (Int32.ofInt 0).toInt = 0 := rfl; omega) | (intro h1 h2 j hj; by_cases hj2 : (j : Int) < y69_6.toInt; exact g69_0 h1 h2 j hj2; (have ej : j = y69_6.toNatClampNeg := (by show j = y69_6.toInt.toNat; (first | have a0 := oa7 j58_4 i95 j41_1 i75a i75 j69_5 i110 | ((first | have a0 := in_u j58_4 | (have a0 := j58_4; unfold In at a0)); (first | have a1 := in_u i95 | (have a1 := i95; unfold In at a1)); (first | have a2 := in_u j41_1 | (have a2 := j41_1; unfold In at a2)); (first | have a3 := in_u i75a | (have a3 := i75a; unfold In at a3)); (first | have a4 := in_u i75 | (have a4 := i75; unfold In at a4)); (first | have a5 := in_u j69_5 | (have a5 := j69_5; unfold In at a5)); (first | have a6 := in_u i110 | (have a6 := i110; unfold In at a6)))); have a7 := t_add e110 i75 (in_c 1 rfl) rfl; (first | have a8 := in_u ((in_c 1 rfl)) | (have a8 := (in_c 1 rfl); unfold In at a8)); omega); rw [ej]; exact bt_no e81x2 e81x4 i75 c81x6)) | (intro h1 h2 j hj; exfalso; have h9 := i91; unfold In at h9; omega) | (intro _ h; exact absurd h (by decide))
                      have n69a : cb y69_2 + (y69_5).toInt.toNat < k58 := by first | exact g69_1 | (first | exact g69_1 | (show cb y58_2 + 0 < k58; have h := j58_5; unfold In at h; omega) | (have h := cb_clr e102 e104 e105 i75 (bt_yes e81x2 e81x4 i75 c81x6); show cb z105 + 1 < k58; omega))
                      exact gg_w (by first | exact Nat.le_add_right _ _ | exact gw2 | exact gw3 | exact gwe rfl | exact gwf rfl | exact gwg rfl | exact gwh rfl | omega) (gg_f (gf_cons rfl (gf_cons rfl (gf_cons rfl (gf_cons rfl (gf_cons rfl (gf_cons rfl (gf_cons rfl gf_nil))))))) (ih69 sc69 y69_2 y69_5 z110 hIc69 hFc69 (in_w 0 1 j69_5 rfl) (in_w 0 32 i110 rfl) n69 n69a (m_up mm69 (t_add e110 i75 (in_c 1 rfl) rfl) (in_w 1 1 (in_c 1 rfl) rfl))))
                    · skip
                      refine g_iload_n 99 (gd rfl) rfl rfl ?_
                      refine g_iconst 1 100 (gd rfl) rfl rfl ?_
                      refine g_iload 102 (gd rfl) rfl rfl ?_
                      refine g_ishl 103 (gd rfl) rfl (fun z102 e102 => ?_)
                      refine g_iconst (-1) 104 (gd rfl) rfl rfl ?_
                      refine g_ixor 105 (gd rfl) rfl (fun z104 e104 => ?_)
                      refine g_iand 106 (gd rfl) rfl (fun z105 e105 => ?_)
                      refine g_istore_n 107 (gd rfl) rfl (Nat.le_of_ble_eq_true rfl) ?_
                      refine g_iconst 1 108 (gd rfl) rfl rfl ?_
                      refine g_istore 110 (gd rfl) rfl (Nat.le_of_ble_eq_true rfl) ?_
                      refine g_iinc 113 (gd rfl) rfl rfl (Nat.le_of_ble_eq_true rfl) (fun z110 e110 => ?_)
                      have i110 := in_add 1 32 e110 i75 (in_c 1 rfl) rfl rfl
                      refine g_goto 69 (gd rfl) rfl ?_
                      have n69 : 161 ≤ (y58_3).toInt → ((Int32.ofInt 1)).toInt = 0 → ∀ j : Nat, (j : Int) < (z110).toInt → bt z105 j = false := by first | (intro _ _ j hj; exfalso; have h0 : (Int32.ofInt 0).toInt = 0 := rfl; omega) | (intro h1 h2 j hj; by_cases hj2 : (j : Int) < y69_6.toInt; exact g69_0 h1 h2 j hj2; (have ej : j = y69_6.toNatClampNeg := (by show j = y69_6.toInt.toNat; (first | have a0 := oa7 j58_4 j58_3 j41_1 i75a i75 j69_5 i110 | ((first | have a0 := in_u j58_4 | (have a0 := j58_4; unfold In at a0)); (first | have a1 := in_u j58_3 | (have a1 := j58_3; unfold In at a1)); (first | have a2 := in_u j41_1 | (have a2 := j41_1; unfold In at a2)); (first | have a3 := in_u i75a | (have a3 := i75a; unfold In at a3)); (first | have a4 := in_u i75 | (have a4 := i75; unfold In at a4)); (first | have a5 := in_u j69_5 | (have a5 := j69_5; unfold In at a5)); (first | have a6 := in_u i110 | (have a6 := i110; unfold In at a6)))); have a7 := t_add e110 i75 (in_c 1 rfl) rfl; (first | have a8 := in_u ((in_c 1 rfl)) | (have a8 := (in_c 1 rfl); unfold In at a8)); omega); rw [ej]; exact bt_no e81x2 e81x4 i75 c81x6)) | (intro h1 h2 j hj; exfalso; have h9 := i91; unfold In at h9; omega) | (intro _ h; exact absurd h (by decide))
                      have n69a : cb z105 + ((Int32.ofInt 1)).toInt.toNat < k58 := by first | exact g69_1 | (show cb y58_2 + 0 < k58; have h := j58_5; unfold In at h; omega) | (have h := cb_clr e102 e104 e105 i75 (bt_yes e81x2 e81x4 i75 c81x6); show cb z105 + 1 < k58; omega)
                      exact gg_w (by first | exact Nat.le_add_right _ _ | exact gw2 | exact gw3 | exact gwe rfl | exact gwf rfl | exact gwg rfl | exact gwh rfl | omega) (gg_f (gf_cons rfl (gf_cons rfl (gf_cons rfl (gf_cons rfl (gf_cons rfl (gf_cons rfl (gf_cons rfl gf_nil))))))) (ih69 sc69 z105 (Int32.ofInt 1) z110 hIc69 hFc69 (in_w 0 1 (in_c 1 rfl) rfl) (in_w 0 32 i110 rfl) n69 n69a (m_up mm69 (t_add e110 i75 (in_c 1 rfl) rfl) (in_w 1 1 (in_c 1 rfl) rfl))))
          refine g_iload 60 (gd rfl) rfl rfl ?_
          refine g_if_eq 63 119 (gd rfl) rfl rfl (fun c60 => ?_) (fun c60 => ?_)
          · skip
            have i60 := z_eq 0 0 c60 j58_5 rfl
            refine g_goto 41 (gd rfl) rfl ?_
            have n41 : (x1).toInt < (u_109_20).toInt := by first | exact n41_0 | ((first | have a0 := oa5 j41_1 ro_109_20 i60 j58_4 j58_3 | ((first | have a0 := in_u j41_1 | (have a0 := j41_1; unfold In at a0)); (first | have a1 := in_u ro_109_20 | (have a1 := ro_109_20; unfold In at a1)); (first | have a2 := in_u i60 | (have a2 := i60; unfold In at a2)); (first | have a3 := in_u j58_4 | (have a3 := j58_4; unfold In at a3)); (first | have a4 := in_u j58_3 | (have a4 := j58_3; unfold In at a4)))); omega)
            have n41a : 0 ≤ (x1).toInt := by first | exact n41_1 | ((first | have a0 := oa5 j41_1 ro_109_20 i60 j58_4 j58_3 | ((first | have a0 := in_u j41_1 | (have a0 := j41_1; unfold In at a0)); (first | have a1 := in_u ro_109_20 | (have a1 := ro_109_20; unfold In at a1)); (first | have a2 := in_u i60 | (have a2 := i60; unfold In at a2)); (first | have a3 := in_u j58_4 | (have a3 := j58_4; unfold In at a3)); (first | have a4 := in_u j58_3 | (have a4 := j58_3; unfold In at a4)))); omega)
            have n41b : 161 ≤ (y58_3).toInt → ∀ j : Nat, (j : Int) < (u_109_20).toInt → bt y58_2 j = false := by first | exact fun h => g58_0 h c60 | (intro h; exfalso; have h0 : (Int32.ofInt 0).toInt = 0 := rfl; omega)
            have m41 : 200 - (y58_3).toInt < ((k41 : Nat) : Int) := by (first | have a0 := oa5 j41_1 ro_109_20 i60 j58_4 j58_3 | ((first | have a0 := in_u j41_1 | (have a0 := j41_1; unfold In at a0)); (first | have a1 := in_u ro_109_20 | (have a1 := ro_109_20; unfold In at a1)); (first | have a2 := in_u i60 | (have a2 := i60; unfold In at a2)); (first | have a3 := in_u j58_4 | (have a3 := j58_4; unfold In at a3)); (first | have a4 := in_u j58_3 | (have a4 := j58_3; unfold In at a4)))); omega
            exact gg_w (by first | exact Nat.le_add_right _ _ | exact gw2 | exact gw3 | exact gwe rfl | exact gwf rfl | exact gwg rfl | exact gwh rfl | omega) (gg_f (gf_cons rfl (gf_cons rfl (gf_cons rfl (gf_cons rfl (gf_cons rfl gf_nil))))) (ih41  sc58 y58_2 y58_3 y58_4 hIc58 hFc58 (in_w 0 31 j41_1 rfl) (in_w 0 161 j58_3 rfl) (in_w 0 160 j58_4 rfl) n41 n41a n41b m41))
          · skip
            have i60 := z_ne 1 1 c60 j58_5 rfl
            refine g_iconst 0 64 (gd rfl) rfl rfl ?_
            refine g_istore 66 (gd rfl) rfl (Nat.le_of_ble_eq_true rfl) ?_
            refine g_iconst 0 67 (gd rfl) rfl rfl ?_
            refine g_istore 69 (gd rfl) rfl (Nat.le_of_ble_eq_true rfl) ?_
            have n69 : 161 ≤ (y58_3).toInt → ((Int32.ofInt 0)).toInt = 0 → ∀ j : Nat, (j : Int) < ((Int32.ofInt 0)).toInt → bt y58_2 j = false := by first | (intro _ _ j hj; exfalso; have h0 : (Int32.ofInt 0).toInt = 0 := rfl; omega) | (intro h1 h2 j hj; by_cases hj2 : (j : Int) < y69_6.toInt; exact g69_0 h1 h2 j hj2; (have ej : j = y69_6.toNatClampNeg := (by show j = y69_6.toInt.toNat; (first | have a0 := oa6 j41_1 ro_109_20 i60 j58_4 j58_3 ((in_c 0 rfl)) | ((first | have a0 := in_u j41_1 | (have a0 := j41_1; unfold In at a0)); (first | have a1 := in_u ro_109_20 | (have a1 := ro_109_20; unfold In at a1)); (first | have a2 := in_u i60 | (have a2 := i60; unfold In at a2)); (first | have a3 := in_u j58_4 | (have a3 := j58_4; unfold In at a3)); (first | have a4 := in_u j58_3 | (have a4 := j58_3; unfold In at a4)); (first | have a5 := in_u ((in_c 0 rfl)) | (have a5 := (in_c 0 rfl); unfold In at a5)))); omega); rw [ej]; exact bt_no e81x2 e81x4 i75 c81x6)) | (intro h1 h2 j hj; exfalso; have h9 := i91; unfold In at h9; omega) | (intro _ h; exact absurd h (by decide))
            have n69a : cb y58_2 + ((Int32.ofInt 0)).toInt.toNat < k58 := by first | exact g69_1 | (show cb y58_2 + 0 < k58; have h := j58_5; unfold In at h; omega) | (have h := cb_clr e102 e104 e105 i75 (bt_yes e81x2 e81x4 i75 c81x6); show cb z105 + 1 < k58; omega)
            exact gg_w (by first | exact Nat.le_add_right _ _ | exact gw2 | exact gw3 | exact gwe rfl | exact gwf rfl | exact gwg rfl | exact gwh rfl | omega) (gg_f (gf_cons rfl (gf_cons rfl (gf_cons rfl (gf_cons rfl (gf_cons rfl (gf_cons rfl (gf_cons rfl gf_nil))))))) (ct69 33 sc58 y58_2 (Int32.ofInt 0) (Int32.ofInt 0) hIc58 hFc58 (in_w 0 1 (in_c 0 rfl) rfl) (in_w 0 32 (in_c 0 rfl) rfl) n69 n69a (m_in 33 (in_w 0 32 (in_c 0 rfl) rfl) rfl)))
      refine g_iload_n 42 (gd rfl) rfl rfl ?_
      refine g_iload_n 43 (gd rfl) rfl rfl ?_
      refine g_calls (As := [.int y41_2, .int x1]) (r := []) 46 (gd rfl) rfl rfl rfl rfl rfl (Nat.le_of_ble_eq_true rfl) (mc := 0) (ms := 0) (Nat.zero_le _) (Nat.zero_le _) (P := fun v u => _) ?_ (fun v u h => h)
      intro po43 xx43 hp43 hx43
      refine g_enter2 (k := 311) (N := 300) (by first | exact dq1 hd rfl | exact dq0 hd rfl | exact dq2 hd rfl | exact dq3 hd rfl | omega) rfl (Nat.le_of_ble_eq_true rfl) ?_
      refine g_iload_n 1 (gd rfl) rfl rfl ?_
      refine g_iload_n 2 (gd rfl) rfl rfl ?_
      refine g_ishr 3 (gd rfl) rfl (fun z43x2 e43x2 => ?_)
      refine g_iconst 1 4 (gd rfl) rfl rfl ?_
      refine g_iand 5 (gd rfl) rfl (fun z43x4 e43x4 => ?_)
      have i43x4 := in_and2 e43x4 (in_c 1 rfl) rfl
      refine g_iconst 1 6 (gd rfl) rfl rfl ?_
      refine g_cmp_ne 9 13 (gd rfl) rfl rfl (fun c43x6 => ?_) (fun c43x6 => ?_)
      · skip
        have i43x6 := r_ne1 0 0 c43x6 i43x4 (in_c 1 rfl) rfl
        refine g_iconst 0 14 (gd rfl) rfl rfl ?_
        refine g_ireturn (gd rfl) rfl (nb01 (in_w 0 1 (in_c 0 rfl) rfl)) (hp43 _ _ ?_)
        show GG _ _ _ _ _ _ _ _ [.int (Int32.ofInt 0)] _ _ _
        refine g_if_eq 49 122 (gd rfl) rfl rfl (fun c46 => ?_) (fun c46 => ?_)
        · skip
          refine g_iload 124 (gd rfl) rfl rfl ?_
          exact g_ireturn (gd rfl) rfl rfl (hP _ _ ⟨sc41, hIc41, hFc41, y41_4, rfl, rfl, in_w 0 160 j41_4 rfl⟩)
        · skip
          exact zn_ne c46 (in_c 0 rfl) rfl
      · skip
        have i43x6 := r_eq1 1 1 c43x6 i43x4 (in_c 1 rfl) rfl
        refine g_iconst 1 10 (gd rfl) rfl rfl ?_
        refine g_goto 14 (gd rfl) rfl ?_
        refine g_ireturn (gd rfl) rfl (nb01 (in_w 0 1 (in_c 1 rfl) rfl)) (hp43 _ _ ?_)
        show GG _ _ _ _ _ _ _ _ [.int (Int32.ofInt 1)] _ _ _
        refine g_if_eq 49 122 (gd rfl) rfl rfl (fun c46 => ?_) (fun c46 => ?_)
        · skip
          exact zn_eq c46 (in_c 1 rfl) rfl
        · skip
          have i49 : In y41_3 0 160 := by refine ⟨by (first | have a0 := oa4 j41_1 ro_109_20 j41_4 j41_3 | ((first | have a0 := in_u j41_1 | (have a0 := j41_1; unfold In at a0)); (first | have a1 := in_u ro_109_20 | (have a1 := ro_109_20; unfold In at a1)); (first | have a2 := in_u j41_4 | (have a2 := j41_4; unfold In at a2)); (first | have a3 := in_u j41_3 | (have a3 := j41_3; unfold In at a3)))); omega, Int.not_lt.mp fun h => ?_⟩; have hb := bt_yes e43x2 e43x4 j41_1 c43x6; have h2 := g41_0 (by omega) x1.toNatClampNeg (by show ((x1.toInt.toNat : Nat) : Int) < _; (first | have a0 := oa4 j41_1 ro_109_20 j41_4 j41_3 | ((first | have a0 := in_u j41_1 | (have a0 := j41_1; unfold In at a0)); (first | have a1 := in_u ro_109_20 | (have a1 := ro_109_20; unfold In at a1)); (first | have a2 := in_u j41_4 | (have a2 := j41_4; unfold In at a2)); (first | have a3 := in_u j41_3 | (have a3 := j41_3; unfold In at a3)))); omega); rw [hb] at h2; cases h2
          refine g_iload_n 50 (gd rfl) rfl rfl ?_
          refine g_istore 52 (gd rfl) rfl (Nat.le_of_ble_eq_true rfl) ?_
          refine g_iinc 55 (gd rfl) rfl rfl (Nat.le_of_ble_eq_true rfl) (fun z52 e52 => ?_)
          have i52 := in_add 1 161 e52 i49 (in_c 1 rfl) rfl rfl
          refine g_iconst 1 56 (gd rfl) rfl rfl ?_
          refine g_istore 58 (gd rfl) rfl (Nat.le_of_ble_eq_true rfl) ?_
          have n58 : (z52).toInt = y41_3.toInt + 1 := by (first | have a0 := oa6 j41_1 ro_109_20 j41_4 i49 ((in_c 1 rfl)) i52 | ((first | have a0 := in_u j41_1 | (have a0 := j41_1; unfold In at a0)); (first | have a1 := in_u ro_109_20 | (have a1 := ro_109_20; unfold In at a1)); (first | have a2 := in_u j41_4 | (have a2 := j41_4; unfold In at a2)); (first | have a3 := in_u i49 | (have a3 := i49; unfold In at a3)); (first | have a4 := in_u ((in_c 1 rfl)) | (have a4 := (in_c 1 rfl); unfold In at a4)); (first | have a5 := in_u i52 | (have a5 := i52; unfold In at a5)))); have a6 := t_add e52 i49 (in_c 1 rfl) rfl; omega
          have n58a : 161 ≤ (z52).toInt → ((Int32.ofInt 1)).toInt = 0 → ∀ j : Nat, (j : Int) < (u_109_20).toInt → bt y41_2 j = false := by first | (intro _ h; exact absurd h (by decide)) | (intro h1 h2 j hj; exact g69_0 h1 h2 j (by (first | have a0 := oa6 j41_1 ro_109_20 j41_4 i49 ((in_c 1 rfl)) i52 | ((first | have a0 := in_u j41_1 | (have a0 := j41_1; unfold In at a0)); (first | have a1 := in_u ro_109_20 | (have a1 := ro_109_20; unfold In at a1)); (first | have a2 := in_u j41_4 | (have a2 := j41_4; unfold In at a2)); (first | have a3 := in_u i49 | (have a3 := i49; unfold In at a3)); (first | have a4 := in_u ((in_c 1 rfl)) | (have a4 := (in_c 1 rfl); unfold In at a4)); (first | have a5 := in_u i52 | (have a5 := i52; unfold In at a5)))); have a6 := t_add e52 i49 (in_c 1 rfl) rfl; omega))
          have m58 : cb y41_2 + ((Int32.ofInt 1)).toInt.toNat < 100 := by have h := cb_le y41_2; have h3 := (in_c 1 rfl); unfold In at h3; omega
          exact gg_w (by first | exact Nat.le_add_right _ _ | exact gw2 | exact gw3 | exact gwe rfl | exact gwf rfl | exact gwg rfl | exact gwh rfl | omega) (gg_f (gf_cons rfl (gf_cons rfl (gf_cons rfl (gf_cons rfl (gf_cons rfl (gf_cons rfl gf_nil)))))) (ct58 (100) sc41 y41_2 z52 y41_3 (Int32.ofInt 1) hIc41 hFc41 (in_w 1 161 i52 rfl) (in_w 0 160 i49 rfl) (in_w 0 1 (in_c 1 rfl) rfl) n58 n58a m58))
  refine g_enter2 (k := 334) (N := 658135603) (by first | exact dq1 hd rfl | exact dq0 hd rfl | exact dq2 hd rfl | exact dq3 hd rfl | omega) rfl (Nat.le_of_ble_eq_true rfl) ?_
  refine g_aload_n 1 (gd rfl) rfl rfl ?_
  refine g_aload_n 2 (gd rfl) rfl rfl ?_
  refine g_iload_n 3 (gd rfl) rfl rfl ?_
  refine g_callv (X := _) (As := [.int x1]) (r := [.ref (A 109)]) (b := A 109) (q := 109) 6 (gd rfl) rfl rfl rfl rfl rfl (ww_o rfl) (Nat.le_of_ble_eq_true rfl) (mc := 0) (ms := 0) (Nat.zero_le _) (Nat.zero_le _) (P := fun v u => _) ?_ (fun e u h => h) (fun v u h => h)
  intro po3 xx3 hp3 hx3
  refine g_enter2 (k := 272) (N := 300) (by first | exact dq1 hd rfl | exact dq0 hd rfl | exact dq2 hd rfl | exact dq3 hd rfl | omega) rfl (Nat.le_of_ble_eq_true rfl) ?_
  refine g_iload_n 1 (gd rfl) rfl rfl ?_
  refine g_if_lt 4 16 (gd rfl) rfl rfl (fun c3x1 => ?_) (fun c3x1 => ?_)
  · skip
    have i3x1 := z_lt (-2147483648) (-1) c3x1 (i_rng x1) rfl
    refine g_iconst 0 17 (gd rfl) rfl rfl ?_
    refine g_ireturn (gd rfl) rfl (nb01 (in_w 0 1 (in_c 0 rfl) rfl)) (hp3 _ _ ?_)
    show GG _ _ _ _ _ _ _ _ [.int (Int32.ofInt 0), .ref (A 109)] _ _ _
    refine g_callv (X := _) (As := [.int (Int32.ofInt 0)]) (r := []) (b := A 109) (q := 109) 9 (gd rfl) rfl rfl rfl rfl rfl (ww_o rfl) (Nat.le_of_ble_eq_true rfl) (mc := 0) (ms := 0) (Nat.zero_le _) (Nat.zero_le _) (P := fun v u => _) ?_ (fun e u h => h) (fun v u h => h)
    intro po6 xx6 hp6 hx6
    refine g_enter2 (k := 271) (N := 300) (by first | exact dq1 hd rfl | exact dq0 hd rfl | exact dq2 hd rfl | exact dq3 hd rfl | omega) rfl (Nat.le_of_ble_eq_true rfl) ?_
    refine g_aload_n 1 (gd rfl) rfl rfl ?_
    refine g_iload_n 2 (gd rfl) rfl rfl ?_
    refine g_iconst 1 3 (gd rfl) rfl rfl ?_
    refine g_callv (X := _) (As := [.int (Int32.ofInt 0), .int (Int32.ofInt 1)]) (r := []) (b := A 109) (q := 109) 6 (gd rfl) rfl rfl rfl rfl rfl (ww_o rfl) (Nat.le_of_ble_eq_true rfl) (mc := 0) (ms := 0) (Nat.zero_le _) (Nat.zero_le _) (P := fun v u => _) ?_ (fun e u h => h) (fun v u h => h)
    intro po6x3 xx6x3 hp6x3 hx6x3
    refine g_enter2 (k := 270) (N := 300) (by first | exact dq1 hd rfl | exact dq0 hd rfl | exact dq2 hd rfl | exact dq3 hd rfl | omega) rfl (Nat.le_of_ble_eq_true rfl) ?_
    refine g_aload_n 1 (gd rfl) rfl rfl ?_
    refine g_iload_n 2 (gd rfl) rfl rfl ?_
    refine g_if_ne 5 9 (gd rfl) rfl rfl (fun c6x3x2 => ?_) (fun c6x3x2 => ?_)
    · skip
      exact zn_ne c6x3x2 (in_c 0 rfl) rfl
    · skip
      refine g_iconst 1 6 (gd rfl) rfl rfl ?_
      refine g_goto 18 (gd rfl) rfl ?_
      refine g_putI 21 (gd rfl) rfl rfl rfl rfl ?_
      have hI6x3x18 := inv_sF (q := 109) (j := 0) hI rfl (in_w 0 2 (in_c 1 rfl) rfl)
      refine g_aload_n 22 (gd rfl) rfl rfl ?_
      refine g_getI 25 (gd rfl) rfl rfl rfl (fun z6x3x22 e6x3x22 => ?_)
      have q6x3x22 : (Int32.ofInt 1) = z6x3x22 := (sF_get).trans e6x3x22.symm
      subst q6x3x22
      refine g_if_le 28 32 (gd rfl) rfl rfl (fun c6x3x25 => ?_) (fun c6x3x25 => ?_)
      · skip
        exact zn_le c6x3x25 (in_c 1 rfl) rfl
      · skip
        refine g_iconst 1 29 (gd rfl) rfl rfl ?_
        refine g_goto 33 (gd rfl) rfl ?_
        refine g_ireturn (gd rfl) rfl (nb01 (in_w 0 1 (in_c 1 rfl) rfl)) (hp6x3 _ _ ?_)
        show GG _ _ _ _ _ _ _ _ [.int (Int32.ofInt 1)] _ _ _
        refine g_ireturn (gd rfl) rfl (nb01 (in_w 0 1 (in_c 1 rfl) rfl)) (hp6 _ _ ?_)
        show GG _ _ _ _ _ _ _ _ [.int (Int32.ofInt 1)] _ _ _
        refine g_if_eq 12 14 (gd rfl) rfl rfl (fun c9 => ?_) (fun c9 => ?_)
        · skip
          exact zn_eq c9 (in_c 1 rfl) rfl
        · skip
          refine g_iconst 0 13 (gd rfl) rfl rfl ?_
          exact g_ireturn (gd rfl) rfl rfl (hP _ _ ⟨(sF s 109 0 (Int32.ofInt 1)), hI6x3x18, (fr_sF rfl fr_rf), (Int32.ofInt 0), rfl, rfl, in_w 0 160 (in_c 0 rfl) rfl⟩)
  · skip
    have i3x1 := z_ge 0 2147483647 c3x1 (i_rng x1) rfl
    refine g_iload_n 5 (gd rfl) rfl rfl ?_
    refine g_aload_n 6 (gd rfl) rfl rfl ?_
    refine g_getI 9 (gd rfl) rfl rfl rfl (fun z3x6 e3x6 => ?_)
    have q3x6 : u_109_20 = z3x6 := (e_109_20).trans e3x6.symm
    subst q3x6
    refine g_cmp_ge 12 16 (gd rfl) rfl rfl (fun c3x9 => ?_) (fun c3x9 => ?_)
    · skip
      refine g_iconst 0 17 (gd rfl) rfl rfl ?_
      refine g_ireturn (gd rfl) rfl (nb01 (in_w 0 1 (in_c 0 rfl) rfl)) (hp3 _ _ ?_)
      show GG _ _ _ _ _ _ _ _ [.int (Int32.ofInt 0), .ref (A 109)] _ _ _
      refine g_callv (X := _) (As := [.int (Int32.ofInt 0)]) (r := []) (b := A 109) (q := 109) 9 (gd rfl) rfl rfl rfl rfl rfl (ww_o rfl) (Nat.le_of_ble_eq_true rfl) (mc := 0) (ms := 0) (Nat.zero_le _) (Nat.zero_le _) (P := fun v u => _) ?_ (fun e u h => h) (fun v u h => h)
      intro po6 xx6 hp6 hx6
      refine g_enter2 (k := 271) (N := 300) (by first | exact dq1 hd rfl | exact dq0 hd rfl | exact dq2 hd rfl | exact dq3 hd rfl | omega) rfl (Nat.le_of_ble_eq_true rfl) ?_
      refine g_aload_n 1 (gd rfl) rfl rfl ?_
      refine g_iload_n 2 (gd rfl) rfl rfl ?_
      refine g_iconst 1 3 (gd rfl) rfl rfl ?_
      refine g_callv (X := _) (As := [.int (Int32.ofInt 0), .int (Int32.ofInt 1)]) (r := []) (b := A 109) (q := 109) 6 (gd rfl) rfl rfl rfl rfl rfl (ww_o rfl) (Nat.le_of_ble_eq_true rfl) (mc := 0) (ms := 0) (Nat.zero_le _) (Nat.zero_le _) (P := fun v u => _) ?_ (fun e u h => h) (fun v u h => h)
      intro po6x3 xx6x3 hp6x3 hx6x3
      refine g_enter2 (k := 270) (N := 300) (by first | exact dq1 hd rfl | exact dq0 hd rfl | exact dq2 hd rfl | exact dq3 hd rfl | omega) rfl (Nat.le_of_ble_eq_true rfl) ?_
      refine g_aload_n 1 (gd rfl) rfl rfl ?_
      refine g_iload_n 2 (gd rfl) rfl rfl ?_
      refine g_if_ne 5 9 (gd rfl) rfl rfl (fun c6x3x2 => ?_) (fun c6x3x2 => ?_)
      · skip
        exact zn_ne c6x3x2 (in_c 0 rfl) rfl
      · skip
        refine g_iconst 1 6 (gd rfl) rfl rfl ?_
        refine g_goto 18 (gd rfl) rfl ?_
        refine g_putI 21 (gd rfl) rfl rfl rfl rfl ?_
        have hI6x3x18 := inv_sF (q := 109) (j := 0) hI rfl (in_w 0 2 (in_c 1 rfl) rfl)
        refine g_aload_n 22 (gd rfl) rfl rfl ?_
        refine g_getI 25 (gd rfl) rfl rfl rfl (fun z6x3x22 e6x3x22 => ?_)
        have q6x3x22 : (Int32.ofInt 1) = z6x3x22 := (sF_get).trans e6x3x22.symm
        subst q6x3x22
        refine g_if_le 28 32 (gd rfl) rfl rfl (fun c6x3x25 => ?_) (fun c6x3x25 => ?_)
        · skip
          exact zn_le c6x3x25 (in_c 1 rfl) rfl
        · skip
          refine g_iconst 1 29 (gd rfl) rfl rfl ?_
          refine g_goto 33 (gd rfl) rfl ?_
          refine g_ireturn (gd rfl) rfl (nb01 (in_w 0 1 (in_c 1 rfl) rfl)) (hp6x3 _ _ ?_)
          show GG _ _ _ _ _ _ _ _ [.int (Int32.ofInt 1)] _ _ _
          refine g_ireturn (gd rfl) rfl (nb01 (in_w 0 1 (in_c 1 rfl) rfl)) (hp6 _ _ ?_)
          show GG _ _ _ _ _ _ _ _ [.int (Int32.ofInt 1)] _ _ _
          refine g_if_eq 12 14 (gd rfl) rfl rfl (fun c9 => ?_) (fun c9 => ?_)
          · skip
            exact zn_eq c9 (in_c 1 rfl) rfl
          · skip
            refine g_iconst 0 13 (gd rfl) rfl rfl ?_
            exact g_ireturn (gd rfl) rfl rfl (hP _ _ ⟨(sF s 109 0 (Int32.ofInt 1)), hI6x3x18, (fr_sF rfl fr_rf), (Int32.ofInt 0), rfl, rfl, in_w 0 160 (in_c 0 rfl) rfl⟩)
    · skip
      have i3x9 := r_lt1 0 31 c3x9 i3x1 ro_109_20 rfl
      have i3x9a := r_lt2 1 32 c3x9 i3x1 ro_109_20 rfl
      refine g_iconst 1 13 (gd rfl) rfl rfl ?_
      refine g_goto 17 (gd rfl) rfl ?_
      refine g_ireturn (gd rfl) rfl (nb01 (in_w 0 1 (in_c 1 rfl) rfl)) (hp3 _ _ ?_)
      show GG _ _ _ _ _ _ _ _ [.int (Int32.ofInt 1), .ref (A 109)] _ _ _
      refine g_callv (X := _) (As := [.int (Int32.ofInt 1)]) (r := []) (b := A 109) (q := 109) 9 (gd rfl) rfl rfl rfl rfl rfl (ww_o rfl) (Nat.le_of_ble_eq_true rfl) (mc := 0) (ms := 0) (Nat.zero_le _) (Nat.zero_le _) (P := fun v u => _) ?_ (fun e u h => h) (fun v u h => h)
      intro po6 xx6 hp6 hx6
      refine g_enter2 (k := 271) (N := 300) (by first | exact dq1 hd rfl | exact dq0 hd rfl | exact dq2 hd rfl | exact dq3 hd rfl | omega) rfl (Nat.le_of_ble_eq_true rfl) ?_
      refine g_aload_n 1 (gd rfl) rfl rfl ?_
      refine g_iload_n 2 (gd rfl) rfl rfl ?_
      refine g_iconst 1 3 (gd rfl) rfl rfl ?_
      refine g_callv (X := _) (As := [.int (Int32.ofInt 1), .int (Int32.ofInt 1)]) (r := []) (b := A 109) (q := 109) 6 (gd rfl) rfl rfl rfl rfl rfl (ww_o rfl) (Nat.le_of_ble_eq_true rfl) (mc := 0) (ms := 0) (Nat.zero_le _) (Nat.zero_le _) (P := fun v u => _) ?_ (fun e u h => h) (fun v u h => h)
      intro po6x3 xx6x3 hp6x3 hx6x3
      refine g_enter2 (k := 270) (N := 300) (by first | exact dq1 hd rfl | exact dq0 hd rfl | exact dq2 hd rfl | exact dq3 hd rfl | omega) rfl (Nat.le_of_ble_eq_true rfl) ?_
      refine g_aload_n 1 (gd rfl) rfl rfl ?_
      refine g_iload_n 2 (gd rfl) rfl rfl ?_
      refine g_if_ne 5 9 (gd rfl) rfl rfl (fun c6x3x2 => ?_) (fun c6x3x2 => ?_)
      · skip
        refine g_iload_n 10 (gd rfl) rfl rfl ?_
        refine g_if_ne 13 17 (gd rfl) rfl rfl (fun c6x3x10 => ?_) (fun c6x3x10 => ?_)
        · skip
          refine g_iconst 0 18 (gd rfl) rfl rfl ?_
          refine g_putI 21 (gd rfl) rfl rfl rfl rfl ?_
          have hI6x3x18 := inv_sF (q := 109) (j := 0) hI rfl (in_w 0 2 (in_c 0 rfl) rfl)
          refine g_aload_n 22 (gd rfl) rfl rfl ?_
          refine g_getI 25 (gd rfl) rfl rfl rfl (fun z6x3x22 e6x3x22 => ?_)
          have q6x3x22 : (Int32.ofInt 0) = z6x3x22 := (sF_get).trans e6x3x22.symm
          subst q6x3x22
          refine g_if_le 28 32 (gd rfl) rfl rfl (fun c6x3x25 => ?_) (fun c6x3x25 => ?_)
          · skip
            refine g_iconst 0 33 (gd rfl) rfl rfl ?_
            refine g_ireturn (gd rfl) rfl (nb01 (in_w 0 1 (in_c 0 rfl) rfl)) (hp6x3 _ _ ?_)
            show GG _ _ _ _ _ _ _ _ [.int (Int32.ofInt 0)] _ _ _
            refine g_ireturn (gd rfl) rfl (nb01 (in_w 0 1 (in_c 0 rfl) rfl)) (hp6 _ _ ?_)
            show GG _ _ _ _ _ _ _ _ [.int (Int32.ofInt 0)] _ _ _
            refine g_if_eq 12 14 (gd rfl) rfl rfl (fun c9 => ?_) (fun c9 => ?_)
            · skip
              refine g_aload_n 15 (gd rfl) rfl rfl ?_
              refine g_getI 18 (gd rfl) rfl rfl rfl (fun z15 e15 => ?_)
              have q15 : u_109_20 = z15 := (sF_ne rfl (e_109_20)).trans e15.symm
              subst q15
              refine g_bipush 32 20 (gd rfl) rfl rfl ?_
              refine g_cmp_ne 23 27 (gd rfl) rfl rfl (fun c20 => ?_) (fun c20 => ?_)
              · skip
                have i20 := r_ne1 1 31 c20 i3x9a (in_c 32 rfl) rfl
                refine g_iconst 1 28 (gd rfl) rfl rfl ?_
                refine g_aload_n 29 (gd rfl) rfl rfl ?_
                refine g_getI 32 (gd rfl) rfl rfl rfl (fun z29 e29 => ?_)
                have q29 : u_109_20 = z29 := (sF_ne rfl (e_109_20)).trans e29.symm
                subst q29
                refine g_ishl 33 (gd rfl) rfl (fun z32 e32 => ?_)
                refine g_iconst 1 34 (gd rfl) rfl rfl ?_
                refine g_isub 35 (gd rfl) rfl (fun z34 e34 => ?_)
                refine g_istore_n 36 (gd rfl) rfl (Nat.le_of_ble_eq_true rfl) ?_
                refine g_iconst 0 37 (gd rfl) rfl rfl ?_
                refine g_istore_n 38 (gd rfl) rfl (Nat.le_of_ble_eq_true rfl) ?_
                refine g_iconst 0 39 (gd rfl) rfl rfl ?_
                refine g_istore 41 (gd rfl) rfl (Nat.le_of_ble_eq_true rfl) ?_
                have n41 : (x1).toInt < (u_109_20).toInt := by (first | have a0 := oa3 i3x9 i20 ((in_c 0 rfl)) | ((first | have a0 := in_u i3x9 | (have a0 := i3x9; unfold In at a0)); (first | have a1 := in_u i20 | (have a1 := i20; unfold In at a1)); (first | have a2 := in_u ((in_c 0 rfl)) | (have a2 := (in_c 0 rfl); unfold In at a2)))); omega
                have n41a : 0 ≤ (x1).toInt := by (first | have a0 := oa3 i3x9 i20 ((in_c 0 rfl)) | ((first | have a0 := in_u i3x9 | (have a0 := i3x9; unfold In at a0)); (first | have a1 := in_u i20 | (have a1 := i20; unfold In at a1)); (first | have a2 := in_u ((in_c 0 rfl)) | (have a2 := (in_c 0 rfl); unfold In at a2)))); omega
                have n41b : 161 ≤ ((Int32.ofInt 0)).toInt → ∀ j : Nat, (j : Int) < (u_109_20).toInt → bt z34 j = false := by first | exact fun h => g58_0 h c60 | (intro h; exfalso; have h0 : (Int32.ofInt 0).toInt = 0 := rfl; omega)
                have m41 : 200 - ((Int32.ofInt 0)).toInt < ((201 : Nat) : Int) := by (first | have a0 := oa3 i3x9 i20 ((in_c 0 rfl)) | ((first | have a0 := in_u i3x9 | (have a0 := i3x9; unfold In at a0)); (first | have a1 := in_u i20 | (have a1 := i20; unfold In at a1)); (first | have a2 := in_u ((in_c 0 rfl)) | (have a2 := (in_c 0 rfl); unfold In at a2)))); omega
                exact gg_w (by first | exact Nat.le_of_ble_eq_true rfl | omega) (gg_f (gf_cons rfl (gf_cons rfl (gf_cons rfl (gf_cons rfl (gf_cons rfl gf_nil))))) (ct41 201 (sF s 109 0 (Int32.ofInt 0)) z34 (Int32.ofInt 0) (Int32.ofInt 0) hI6x3x18 (fr_sF rfl fr_rf) (in_w 0 31 i3x9 rfl) (in_w 0 161 (in_c 0 rfl) rfl) (in_w 0 160 (in_c 0 rfl) rfl) n41 n41a n41b m41))
              · skip
                have i20 := r_eq1 32 32 c20 i3x9a (in_c 32 rfl) rfl
                refine g_iconst (-1) 24 (gd rfl) rfl rfl ?_
                refine g_goto 35 (gd rfl) rfl ?_
                refine g_istore_n 36 (gd rfl) rfl (Nat.le_of_ble_eq_true rfl) ?_
                refine g_iconst 0 37 (gd rfl) rfl rfl ?_
                refine g_istore_n 38 (gd rfl) rfl (Nat.le_of_ble_eq_true rfl) ?_
                refine g_iconst 0 39 (gd rfl) rfl rfl ?_
                refine g_istore 41 (gd rfl) rfl (Nat.le_of_ble_eq_true rfl) ?_
                have n41 : (x1).toInt < (u_109_20).toInt := by (first | have a0 := oa4 i3x9 i20 ((in_c 0 rfl)) ((in_c (-1) rfl)) | ((first | have a0 := in_u i3x9 | (have a0 := i3x9; unfold In at a0)); (first | have a1 := in_u i20 | (have a1 := i20; unfold In at a1)); (first | have a2 := in_u ((in_c 0 rfl)) | (have a2 := (in_c 0 rfl); unfold In at a2)); (first | have a3 := in_u ((in_c (-1) rfl)) | (have a3 := (in_c (-1) rfl); unfold In at a3)))); omega
                have n41a : 0 ≤ (x1).toInt := by (first | have a0 := oa4 i3x9 i20 ((in_c 0 rfl)) ((in_c (-1) rfl)) | ((first | have a0 := in_u i3x9 | (have a0 := i3x9; unfold In at a0)); (first | have a1 := in_u i20 | (have a1 := i20; unfold In at a1)); (first | have a2 := in_u ((in_c 0 rfl)) | (have a2 := (in_c 0 rfl); unfold In at a2)); (first | have a3 := in_u ((in_c (-1) rfl)) | (have a3 := (in_c (-1) rfl); unfold In at a3)))); omega
                have n41b : 161 ≤ ((Int32.ofInt 0)).toInt → ∀ j : Nat, (j : Int) < (u_109_20).toInt → bt (Int32.ofInt (-1)) j = false := by first | exact fun h => g58_0 h c60 | (intro h; exfalso; have h0 : (Int32.ofInt 0).toInt = 0 := rfl; omega)
                have m41 : 200 - ((Int32.ofInt 0)).toInt < ((201 : Nat) : Int) := by (first | have a0 := oa4 i3x9 i20 ((in_c 0 rfl)) ((in_c (-1) rfl)) | ((first | have a0 := in_u i3x9 | (have a0 := i3x9; unfold In at a0)); (first | have a1 := in_u i20 | (have a1 := i20; unfold In at a1)); (first | have a2 := in_u ((in_c 0 rfl)) | (have a2 := (in_c 0 rfl); unfold In at a2)); (first | have a3 := in_u ((in_c (-1) rfl)) | (have a3 := (in_c (-1) rfl); unfold In at a3)))); omega
                exact gg_w (by first | exact Nat.le_of_ble_eq_true rfl | omega) (gg_f (gf_cons rfl (gf_cons rfl (gf_cons rfl (gf_cons rfl (gf_cons rfl gf_nil))))) (ct41 201 (sF s 109 0 (Int32.ofInt 0)) (Int32.ofInt (-1)) (Int32.ofInt 0) (Int32.ofInt 0) hI6x3x18 (fr_sF rfl fr_rf) (in_w 0 31 i3x9 rfl) (in_w 0 161 (in_c 0 rfl) rfl) (in_w 0 160 (in_c 0 rfl) rfl) n41 n41a n41b m41))
            · skip
              exact zn_ne c9 (in_c 0 rfl) rfl
          · skip
            exact zn_gt c6x3x25 (in_c 0 rfl) rfl
        · skip
          exact zn_eq c6x3x10 (in_c 1 rfl) rfl
      · skip
        exact zn_eq c6x3x2 (in_c 1 rfl) rfl

def fm_338 : FM := ([138, 139, 140], [], [(109, 0)], [])
/-- GraphHouseModel.clique -/
theorem k_338 {Z : AmZ} {A : Nat → Nat} {s : GS} {ex : va_W} {d : Nat} {X : AmX} {x1 : Int32} (hd : 5 ≤ d) (hI : Inv s)  : GC Z d 338 [.ref (A 109), .int x1] (WW Z A s ++ ex) 0 0 (fun v u => ∃ t : GS, Inv t ∧ Fr fm_338 s t ∧ ∃ z : Int32, v = some (.int z) ∧ u = WW Z A t ++ ex ∧ In z (-1) 31) X := by
  intro post xp hP hX
  obtain ⟨u_109_20, e_109_20⟩ : ∃ w, w = s.2.2.1 109 20 := ⟨_, rfl⟩
  have ro_109_20 := inv_F hI 0 32 rfl e_109_20
  have ct28 : ∀ (k28 : Nat) (sc28 : GS) (y28_2 : Int32) (y28_3 : Int32) (y28_4 : Int32), Inv sc28 → Fr fm_338 s sc28 → (In x1 0 2147483647) → (In y28_3 0 32) → (In y28_4 0 32) → ((y28_3).toInt ≤ (y28_4).toInt + 0) → 32 - (y28_4).toInt < (k28 : Int) → GG Z (d - 1) 338 post (gx xp) (1 + k28 * 900) 28 (fun j => xlook j [(0, .ref (A 109)), (1, .int x1), (2, .int y28_2), (3, .int y28_3), (4, .int y28_4)]) [] (WW Z A sc28 ++ ex) 0 0 := by
    intro k28
    induction k28 with
    | zero => intro sc28 y28_2 y28_3 y28_4 hIc28 hFc28 j28_1 j28_3 j28_4 l28_3 mm28; exact m_no mm28 j28_4 rfl
    | succ k28 ih28 =>
      intro sc28 y28_2 y28_3 y28_4 hIc28 hFc28 j28_1 j28_3 j28_4 l28_3 mm28
      refine gg_w (M := 1 + k28 * 900 + 900) gws ?_
      refine g_iload 30 (gd rfl) rfl rfl ?_
      refine g_aload_n 31 (gd rfl) rfl rfl ?_
      refine g_getI 34 (gd rfl) rfl rfl rfl (fun z31 e31 => ?_)
      have q31 : u_109_20 = z31 := (fr_F e_109_20 hFc28 rfl).trans e31.symm
      subst q31
      refine g_cmp_ge 37 63 (gd rfl) rfl rfl (fun c34 => ?_) (fun c34 => ?_)
      · skip
        refine g_iconst (-1) 64 (gd rfl) rfl rfl ?_
        exact g_ireturn (gd rfl) rfl rfl (hP _ _ ⟨sc28, hIc28, hFc28, (Int32.ofInt (-1)), rfl, rfl, in_w (-1) 31 (in_c (-1) rfl) rfl⟩)
      · skip
        have i34 := r_lt1 0 31 c34 j28_4 ro_109_20 rfl
        have i34a := r_lt2 1 32 c34 j28_4 ro_109_20 rfl
        refine g_iload_n 38 (gd rfl) rfl rfl ?_
        refine g_iload 40 (gd rfl) rfl rfl ?_
        refine g_calls (As := [.int y28_2, .int y28_4]) (r := []) 43 (gd rfl) rfl rfl rfl rfl rfl (Nat.le_of_ble_eq_true rfl) (mc := 0) (ms := 0) (Nat.zero_le _) (Nat.zero_le _) (P := fun v u => _) ?_ (fun v u h => h)
        intro po40 xx40 hp40 hx40
        refine g_enter2 (k := 311) (N := 300) (by first | exact dq1 hd rfl | exact dq0 hd rfl | exact dq2 hd rfl | exact dq3 hd rfl | omega) rfl (Nat.le_of_ble_eq_true rfl) ?_
        refine g_iload_n 1 (gd rfl) rfl rfl ?_
        refine g_iload_n 2 (gd rfl) rfl rfl ?_
        refine g_ishr 3 (gd rfl) rfl (fun z40x2 e40x2 => ?_)
        refine g_iconst 1 4 (gd rfl) rfl rfl ?_
        refine g_iand 5 (gd rfl) rfl (fun z40x4 e40x4 => ?_)
        have i40x4 := in_and2 e40x4 (in_c 1 rfl) rfl
        refine g_iconst 1 6 (gd rfl) rfl rfl ?_
        refine g_cmp_ne 9 13 (gd rfl) rfl rfl (fun c40x6 => ?_) (fun c40x6 => ?_)
        · skip
          have i40x6 := r_ne1 0 0 c40x6 i40x4 (in_c 1 rfl) rfl
          refine g_iconst 0 14 (gd rfl) rfl rfl ?_
          refine g_ireturn (gd rfl) rfl (nb01 (in_w 0 1 (in_c 0 rfl) rfl)) (hp40 _ _ ?_)
          show GG _ _ _ _ _ _ _ _ [.int (Int32.ofInt 0)] _ _ _
          refine g_if_eq 46 57 (gd rfl) rfl rfl (fun c43 => ?_) (fun c43 => ?_)
          · skip
            refine g_iinc 60 (gd rfl) rfl rfl (Nat.le_of_ble_eq_true rfl) (fun z57 e57 => ?_)
            have i57 := in_add 1 32 e57 i34 (in_c 1 rfl) rfl rfl
            refine g_goto 28 (gd rfl) rfl ?_
            have l28 := rl_0 l28_3 (t_add e57 i34 (in_c 1 rfl) rfl) (in_w 0 1 (in_c 1 rfl) rfl)
            exact gg_w (by first | exact Nat.le_add_right _ _ | exact gw2 | exact gw3 | exact gwe rfl | exact gwf rfl | exact gwg rfl | exact gwh rfl | omega) (gg_f (gf_cons rfl (gf_cons rfl (gf_cons rfl (gf_cons rfl (gf_cons rfl gf_nil))))) (ih28 sc28 y28_2 y28_3 z57 hIc28 hFc28 (in_w 0 2147483647 j28_1 rfl) (rl_w 0 32 l28 j28_3 (in_w 0 32 i57 rfl) rfl) (in_w 0 32 i57 rfl) l28 (m_up mm28 (t_add e57 i34 (in_c 1 rfl) rfl) (in_w 1 1 (in_c 1 rfl) rfl))))
          · skip
            exact zn_ne c43 (in_c 0 rfl) rfl
        · skip
          have i40x6 := r_eq1 1 1 c40x6 i40x4 (in_c 1 rfl) rfl
          refine g_iconst 1 10 (gd rfl) rfl rfl ?_
          refine g_goto 14 (gd rfl) rfl ?_
          refine g_ireturn (gd rfl) rfl (nb01 (in_w 0 1 (in_c 1 rfl) rfl)) (hp40 _ _ ?_)
          show GG _ _ _ _ _ _ _ _ [.int (Int32.ofInt 1)] _ _ _
          refine g_if_eq 46 57 (gd rfl) rfl rfl (fun c43 => ?_) (fun c43 => ?_)
          · skip
            exact zn_eq c43 (in_c 1 rfl) rfl
          · skip
            refine g_iload_n 47 (gd rfl) rfl rfl ?_
            refine g_iload_n 48 (gd rfl) rfl rfl ?_
            refine g_cmp_ne 51 54 (gd rfl) rfl rfl (fun c48 => ?_) (fun c48 => ?_)
            · skip
              refine g_iinc 57 (gd rfl) rfl rfl (Nat.le_of_ble_eq_true rfl) (fun z54 e54 => ?_)
              have i54 := in_add 1 33 e54 j28_3 (in_c 1 rfl) rfl rfl
              refine g_iinc 60 (gd rfl) rfl rfl (Nat.le_of_ble_eq_true rfl) (fun z57 e57 => ?_)
              have i57 := in_add 1 32 e57 i34 (in_c 1 rfl) rfl rfl
              refine g_goto 28 (gd rfl) rfl ?_
              have l28 := rl_1 l28_3 (t_add e54 j28_3 (in_c 1 rfl) rfl) (in_c 1 rfl) (t_add e57 i34 (in_c 1 rfl) rfl) (in_c 1 rfl) rfl
              exact gg_w (by first | exact Nat.le_add_right _ _ | exact gw2 | exact gw3 | exact gwe rfl | exact gwf rfl | exact gwg rfl | exact gwh rfl | omega) (gg_f (gf_cons rfl (gf_cons rfl (gf_cons rfl (gf_cons rfl (gf_cons rfl gf_nil))))) (ih28 sc28 y28_2 z54 z57 hIc28 hFc28 (in_w 0 2147483647 j28_1 rfl) (rl_w 0 32 l28 i54 (in_w 0 32 i57 rfl) rfl) (in_w 0 32 i57 rfl) l28 (m_up mm28 (t_add e57 i34 (in_c 1 rfl) rfl) (in_w 1 1 (in_c 1 rfl) rfl))))
            · skip
              have i48 := r_eq2 0 32 c48 j28_3 j28_1 rfl
              refine g_iload 53 (gd rfl) rfl rfl ?_
              exact g_ireturn (gd rfl) rfl rfl (hP _ _ ⟨sc28, hIc28, hFc28, y28_4, rfl, rfl, in_w (-1) 31 i34 rfl⟩)
  refine g_enter2 (k := 338) (N := 30601) (by first | exact dq1 hd rfl | exact dq0 hd rfl | exact dq2 hd rfl | exact dq3 hd rfl | omega) rfl (Nat.le_of_ble_eq_true rfl) ?_
  refine g_aload_n 1 (gd rfl) rfl rfl ?_
  refine g_iload_n 2 (gd rfl) rfl rfl ?_
  refine g_if_lt 5 9 (gd rfl) rfl rfl (fun c2 => ?_) (fun c2 => ?_)
  · skip
    have i2 := z_lt (-2147483648) (-1) c2 (i_rng x1) rfl
    refine g_iconst 0 10 (gd rfl) rfl rfl ?_
    refine g_callv (X := _) (As := [.int (Int32.ofInt 0)]) (r := []) (b := A 109) (q := 109) 13 (gd rfl) rfl rfl rfl rfl rfl (ww_o rfl) (Nat.le_of_ble_eq_true rfl) (mc := 0) (ms := 0) (Nat.zero_le _) (Nat.zero_le _) (P := fun v u => _) ?_ (fun e u h => h) (fun v u h => h)
    intro po10 xx10 hp10 hx10
    refine g_enter2 (k := 271) (N := 300) (by first | exact dq1 hd rfl | exact dq0 hd rfl | exact dq2 hd rfl | exact dq3 hd rfl | omega) rfl (Nat.le_of_ble_eq_true rfl) ?_
    refine g_aload_n 1 (gd rfl) rfl rfl ?_
    refine g_iload_n 2 (gd rfl) rfl rfl ?_
    refine g_iconst 1 3 (gd rfl) rfl rfl ?_
    refine g_callv (X := _) (As := [.int (Int32.ofInt 0), .int (Int32.ofInt 1)]) (r := []) (b := A 109) (q := 109) 6 (gd rfl) rfl rfl rfl rfl rfl (ww_o rfl) (Nat.le_of_ble_eq_true rfl) (mc := 0) (ms := 0) (Nat.zero_le _) (Nat.zero_le _) (P := fun v u => _) ?_ (fun e u h => h) (fun v u h => h)
    intro po10x3 xx10x3 hp10x3 hx10x3
    refine g_enter2 (k := 270) (N := 300) (by first | exact dq1 hd rfl | exact dq0 hd rfl | exact dq2 hd rfl | exact dq3 hd rfl | omega) rfl (Nat.le_of_ble_eq_true rfl) ?_
    refine g_aload_n 1 (gd rfl) rfl rfl ?_
    refine g_iload_n 2 (gd rfl) rfl rfl ?_
    refine g_if_ne 5 9 (gd rfl) rfl rfl (fun c10x3x2 => ?_) (fun c10x3x2 => ?_)
    · skip
      exact zn_ne c10x3x2 (in_c 0 rfl) rfl
    · skip
      refine g_iconst 1 6 (gd rfl) rfl rfl ?_
      refine g_goto 18 (gd rfl) rfl ?_
      refine g_putI 21 (gd rfl) rfl rfl rfl rfl ?_
      have hI10x3x18 := inv_sF (q := 109) (j := 0) hI rfl (in_w 0 2 (in_c 1 rfl) rfl)
      refine g_aload_n 22 (gd rfl) rfl rfl ?_
      refine g_getI 25 (gd rfl) rfl rfl rfl (fun z10x3x22 e10x3x22 => ?_)
      have q10x3x22 : (Int32.ofInt 1) = z10x3x22 := (sF_get).trans e10x3x22.symm
      subst q10x3x22
      refine g_if_le 28 32 (gd rfl) rfl rfl (fun c10x3x25 => ?_) (fun c10x3x25 => ?_)
      · skip
        exact zn_le c10x3x25 (in_c 1 rfl) rfl
      · skip
        refine g_iconst 1 29 (gd rfl) rfl rfl ?_
        refine g_goto 33 (gd rfl) rfl ?_
        refine g_ireturn (gd rfl) rfl (nb01 (in_w 0 1 (in_c 1 rfl) rfl)) (hp10x3 _ _ ?_)
        show GG _ _ _ _ _ _ _ _ [.int (Int32.ofInt 1)] _ _ _
        refine g_ireturn (gd rfl) rfl (nb01 (in_w 0 1 (in_c 1 rfl) rfl)) (hp10 _ _ ?_)
        show GG _ _ _ _ _ _ _ _ [.int (Int32.ofInt 1)] _ _ _
        refine g_if_eq 16 18 (gd rfl) rfl rfl (fun c13 => ?_) (fun c13 => ?_)
        · skip
          exact zn_eq c13 (in_c 1 rfl) rfl
        · skip
          refine g_iconst 0 17 (gd rfl) rfl rfl ?_
          exact g_ireturn (gd rfl) rfl rfl (hP _ _ ⟨(sF s 109 0 (Int32.ofInt 1)), hI10x3x18, (fr_sF rfl fr_rf), (Int32.ofInt 0), rfl, rfl, in_w (-1) 31 (in_c 0 rfl) rfl⟩)
  · skip
    have i2 := z_ge 0 2147483647 c2 (i_rng x1) rfl
    refine g_iconst 1 6 (gd rfl) rfl rfl ?_
    refine g_goto 10 (gd rfl) rfl ?_
    refine g_callv (X := _) (As := [.int (Int32.ofInt 1)]) (r := []) (b := A 109) (q := 109) 13 (gd rfl) rfl rfl rfl rfl rfl (ww_o rfl) (Nat.le_of_ble_eq_true rfl) (mc := 0) (ms := 0) (Nat.zero_le _) (Nat.zero_le _) (P := fun v u => _) ?_ (fun e u h => h) (fun v u h => h)
    intro po10 xx10 hp10 hx10
    refine g_enter2 (k := 271) (N := 300) (by first | exact dq1 hd rfl | exact dq0 hd rfl | exact dq2 hd rfl | exact dq3 hd rfl | omega) rfl (Nat.le_of_ble_eq_true rfl) ?_
    refine g_aload_n 1 (gd rfl) rfl rfl ?_
    refine g_iload_n 2 (gd rfl) rfl rfl ?_
    refine g_iconst 1 3 (gd rfl) rfl rfl ?_
    refine g_callv (X := _) (As := [.int (Int32.ofInt 1), .int (Int32.ofInt 1)]) (r := []) (b := A 109) (q := 109) 6 (gd rfl) rfl rfl rfl rfl rfl (ww_o rfl) (Nat.le_of_ble_eq_true rfl) (mc := 0) (ms := 0) (Nat.zero_le _) (Nat.zero_le _) (P := fun v u => _) ?_ (fun e u h => h) (fun v u h => h)
    intro po10x3 xx10x3 hp10x3 hx10x3
    refine g_enter2 (k := 270) (N := 300) (by first | exact dq1 hd rfl | exact dq0 hd rfl | exact dq2 hd rfl | exact dq3 hd rfl | omega) rfl (Nat.le_of_ble_eq_true rfl) ?_
    refine g_aload_n 1 (gd rfl) rfl rfl ?_
    refine g_iload_n 2 (gd rfl) rfl rfl ?_
    refine g_if_ne 5 9 (gd rfl) rfl rfl (fun c10x3x2 => ?_) (fun c10x3x2 => ?_)
    · skip
      refine g_iload_n 10 (gd rfl) rfl rfl ?_
      refine g_if_ne 13 17 (gd rfl) rfl rfl (fun c10x3x10 => ?_) (fun c10x3x10 => ?_)
      · skip
        refine g_iconst 0 18 (gd rfl) rfl rfl ?_
        refine g_putI 21 (gd rfl) rfl rfl rfl rfl ?_
        have hI10x3x18 := inv_sF (q := 109) (j := 0) hI rfl (in_w 0 2 (in_c 0 rfl) rfl)
        refine g_aload_n 22 (gd rfl) rfl rfl ?_
        refine g_getI 25 (gd rfl) rfl rfl rfl (fun z10x3x22 e10x3x22 => ?_)
        have q10x3x22 : (Int32.ofInt 0) = z10x3x22 := (sF_get).trans e10x3x22.symm
        subst q10x3x22
        refine g_if_le 28 32 (gd rfl) rfl rfl (fun c10x3x25 => ?_) (fun c10x3x25 => ?_)
        · skip
          refine g_iconst 0 33 (gd rfl) rfl rfl ?_
          refine g_ireturn (gd rfl) rfl (nb01 (in_w 0 1 (in_c 0 rfl) rfl)) (hp10x3 _ _ ?_)
          show GG _ _ _ _ _ _ _ _ [.int (Int32.ofInt 0)] _ _ _
          refine g_ireturn (gd rfl) rfl (nb01 (in_w 0 1 (in_c 0 rfl) rfl)) (hp10 _ _ ?_)
          show GG _ _ _ _ _ _ _ _ [.int (Int32.ofInt 0)] _ _ _
          refine g_if_eq 16 18 (gd rfl) rfl rfl (fun c13 => ?_) (fun c13 => ?_)
          · skip
            refine g_aload_n 19 (gd rfl) rfl rfl ?_
            refine g_callv (X := _) (As := []) (r := []) (b := A 109) (q := 109) 22 (gd rfl) rfl rfl rfl rfl rfl (ww_o rfl) (Nat.le_of_ble_eq_true rfl) (Nat.zero_le _) (Nat.zero_le _) (k_337 (by first | exact dq1 hd rfl | exact dq0 hd rfl | exact dq2 hd rfl | exact dq3 hd rfl | omega) hI10x3x18 ) (fun e u h => h) (fun v u h => ?_)
            obtain ⟨s19, hI19, hF19, z19, rfl, rfl, i19, p19⟩ := h
            show GG _ _ _ _ _ _ _ _ [.int z19] _ _ _
            refine g_istore_n 23 (gd rfl) rfl (Nat.le_of_ble_eq_true rfl) ?_
            refine g_iconst 0 24 (gd rfl) rfl rfl ?_
            refine g_istore_n 25 (gd rfl) rfl (Nat.le_of_ble_eq_true rfl) ?_
            refine g_iconst 0 26 (gd rfl) rfl rfl ?_
            refine g_istore 28 (gd rfl) rfl (Nat.le_of_ble_eq_true rfl) ?_
            have l28 := rl_in 0 (in_c 0 rfl) (in_c 0 rfl) rfl
            exact gg_w (by first | exact Nat.le_of_ble_eq_true rfl | omega) (gg_f (gf_cons rfl (gf_cons rfl (gf_cons rfl (gf_cons rfl (gf_cons rfl gf_nil))))) (ct28 33 s19 z19 (Int32.ofInt 0) (Int32.ofInt 0) hI19 (fr_tr rfl (fr_sF rfl fr_rf) hF19) (in_w 0 2147483647 i2 rfl) (rl_w 0 32 l28 (in_c 0 rfl) (in_w 0 32 (in_c 0 rfl) rfl) rfl) (in_w 0 32 (in_c 0 rfl) rfl) l28 (m_in 33 (in_w 0 32 (in_c 0 rfl) rfl) rfl)))
          · skip
            exact zn_ne c13 (in_c 0 rfl) rfl
        · skip
          exact zn_gt c10x3x25 (in_c 0 rfl) rfl
      · skip
        exact zn_eq c10x3x10 (in_c 1 rfl) rfl
    · skip
      exact zn_eq c10x3x2 (in_c 1 rfl) rfl
end
