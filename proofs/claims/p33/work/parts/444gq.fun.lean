/-! FUNCTIONAL CONTRACTS, by fgen.py -/
theorem oc_85_65 : (Int32.ofInt (-1)).toInt = (-1) ∧ (Int32.ofInt 0).toInt = 0 ∧ (Int32.ofInt 1).toInt = 1 ∧ (Int64.ofInt 0).toInt = 0 ∧ (Int64.ofInt 9223372036854775807).toInt = 9223372036854775807 := ⟨rfl, rfl, rfl, rfl, rfl⟩
/-- GraphHouse$Flows.nearestLack -/
theorem f_85_65 {Z : AmZ} {A : Nat → Nat} {s : GS} {ex : va_W} {d : Nat} {X : AmX} {x1 : Int32} {x2 : Int32} (hd : 3 ≤ d) (hI : Inv s) (h1 : In x1 0 32) (h2 : In x2 1 65536) (q_0 : NLP s (x2).toInt (x1).toNatClampNeg) : GC Z d 85 [.ref (A 65), .int x1, .int x2] (WW Z A s ++ ex) 0 0 (fun v u => ∃ t : GS, Inv t ∧ Fr fm_85_65 s t ∧ ∃ z : Int32, v = some (.int z) ∧ u = WW Z A t ++ ex ∧ In z (-1) 31 ∧ (∃ r : Nat → Nat, NLF (netC s) (fiC s) (x2).toInt (x1).toNatClampNeg (exC s) (faC t) (viC t) r) ∧ (NBT (exC s) (faC t) (x2).toInt (x1).toNatClampNeg (z).toInt)) X := by
  intro post xp hP hX
  have ct54 : ∀ (k54 : Nat) (sc54 : GS) (y54_3 : Int32) (y54_4 : Int32), Inv sc54 → Fr fm_85_65 s sc54 → (In y54_3 (-1) 31) → (In y54_4 0 32) → ((y54_4).toInt ≤ (x1).toInt) → (∃ r : Nat → Nat, NLF (netC s) (fiC s) (x2).toInt (x1).toNatClampNeg (exC s) (faC sc54) (viC sc54) r) → (NBT (exC s) (faC sc54) (x2).toInt (y54_4).toNatClampNeg (y54_3).toInt) → 32 - (y54_4).toInt < (k54 : Int) → GG Z (d - 1) 85 post (gx xp) (1 + k54 * 900) 54 (fun j => xlook j [(0, .ref (A 65)), (1, .int x1), (2, .int x2), (3, .int y54_3), (4, .int y54_4)]) [] (WW Z A sc54 ++ ex) 0 0 := by
    intro k54
    induction k54 with
    | zero => intro sc54 y54_3 y54_4 hIc54 hFc54 j54_3 j54_4 n54_0 g54_0 g54_1 mm54; exact m_no mm54 j54_4 rfl
    | succ k54 ih54 =>
      intro sc54 y54_3 y54_4 hIc54 hFc54 j54_3 j54_4 n54_0 g54_0 g54_1 mm54
      refine gg_w (M := 1 + k54 * 900 + 900) gws ?_
      refine g_iload 56 (gd rfl) rfl rfl ?_
      refine g_iload_n 57 (gd rfl) rfl rfl ?_
      refine g_cmp_ge 60 117 (gd rfl) rfl rfl (fun c57 => ?_) (fun c57 => ?_)
      · skip
        refine g_iload_n 118 (gd rfl) rfl rfl ?_
        have n118 : ∃ r : Nat → Nat, NLF (netC s) (fiC s) (x2).toInt (x1).toNatClampNeg (exC s) (faC sc54) (viC sc54) r := by exact g54_0
        have n118a : NBT (exC s) (faC sc54) (x2).toInt (x1).toNatClampNeg (y54_3).toInt := by rw [← (show (y54_4).toNatClampNeg = (x1).toNatClampNeg from (by show (y54_4).toInt.toNat = (x1).toInt.toNat; (first | have a0 := in_u h2 | (have a0 := h2; unfold In at a0)); (first | have a1 := in_u h1 | (have a1 := h1; unfold In at a1)); (first | have a2 := in_u j54_4 | (have a2 := j54_4; unfold In at a2)); (first | have a3 := in_u j54_3 | (have a3 := j54_3; unfold In at a3)); have oc := oc_85_65; omega))]; exact g54_1
        exact g_ireturn (gd rfl) rfl rfl (hP _ _ ⟨sc54, hIc54, hFc54, y54_3, rfl, rfl, in_w (-1) 31 j54_3 rfl, n118, n118a⟩)
      · skip
        have i57 := r_lt1 0 31 c57 j54_4 h1 rfl
        have i57a := r_lt2 1 32 c57 j54_4 h1 rfl
        refine g_aload_n 61 (gd rfl) rfl rfl ?_
        refine g_getA (q2 := 74) 64 (gd rfl) rfl rfl rfl rfl ?_
        refine g_iload 66 (gd rfl) rfl rfl ?_
        refine g_iaload 67 (gd rfl) rfl (n := 32) rfl (in_ix i57 rfl) (fun z66 e66 => ?_)
        refine g_iload_n 68 (gd rfl) rfl rfl ?_
        refine g_ineg 69 (gd rfl) rfl (fun z68 e68 => ?_)
        have i68 := in_neg (-65536) (-1) e68 h2 rfl
        refine g_cmp_gt 72 111 (gd rfl) rfl rfl (fun c69 => ?_) (fun c69 => ?_)
        · skip
          have i69 := r_lt2 (-65535) 2147483647 c69 i68 (i_rng z66) rfl
          refine g_iinc 114 (gd rfl) rfl rfl (Nat.le_of_ble_eq_true rfl) (fun z111 e111 => ?_)
          have i111 := in_add 1 32 e111 i57 (in_c 1 rfl) rfl rfl
          refine g_goto 54 (gd rfl) rfl ?_
          have n54 : (z111).toInt ≤ (x1).toInt := by (first | have a0 := in_u h2 | (have a0 := h2; unfold In at a0)); (first | have a1 := in_u i57a | (have a1 := i57a; unfold In at a1)); (first | have a2 := in_u i57 | (have a2 := i57; unfold In at a2)); (first | have a3 := in_u j54_3 | (have a3 := j54_3; unfold In at a3)); (first | have a4 := in_u i111 | (have a4 := i111; unfold In at a4)); have a5 := t_add e111 i57 (in_c 1 rfl) rfl; (first | have a6 := in_u ((in_c 1 rfl)) | (have a6 := (in_c 1 rfl); unfold In at a6)); have oc := oc_85_65; omega
          have n54a : ∃ r : Nat → Nat, NLF (netC s) (fiC s) (x2).toInt (x1).toNatClampNeg (exC s) (faC sc54) (viC sc54) r := by exact g54_0
          have n54b : NBT (exC s) (faC sc54) (x2).toInt (z111).toNatClampNeg (y54_3).toInt := by rw [(show (z111).toNatClampNeg = (y54_4).toNatClampNeg + 1 from (by show (z111).toInt.toNat = (y54_4).toInt.toNat + 1; (first | have a0 := in_u h2 | (have a0 := h2; unfold In at a0)); (first | have a1 := in_u i57a | (have a1 := i57a; unfold In at a1)); (first | have a2 := in_u i57 | (have a2 := i57; unfold In at a2)); (first | have a3 := in_u j54_3 | (have a3 := j54_3; unfold In at a3)); (first | have a4 := in_u i111 | (have a4 := i111; unfold In at a4)); have a5 := t_add e111 i57 (in_c 1 rfl) rfl; (first | have a6 := in_u ((in_c 1 rfl)) | (have a6 := (in_c 1 rfl); unfold In at a6)); have oc := oc_85_65; omega))]; exact nb_1 g54_1 e66 (hFc54.1 74 rfl) (show -(x2).toInt < (z66).toInt from (by have h9 := c69; have h8 := ineg_v e68 (by (first | have a0 := in_u h2 | (have a0 := h2; unfold In at a0)); (first | have a1 := in_u i57a | (have a1 := i57a; unfold In at a1)); (first | have a2 := in_u i57 | (have a2 := i57; unfold In at a2)); (first | have a3 := in_u j54_3 | (have a3 := j54_3; unfold In at a3)); (first | have a4 := in_u i111 | (have a4 := i111; unfold In at a4)); have a5 := t_add e111 i57 (in_c 1 rfl) rfl; (first | have a6 := in_u ((in_c 1 rfl)) | (have a6 := (in_c 1 rfl); unfold In at a6)); have oc := oc_85_65; omega); (first | have a0 := in_u h2 | (have a0 := h2; unfold In at a0)); (first | have a1 := in_u i57a | (have a1 := i57a; unfold In at a1)); (first | have a2 := in_u i57 | (have a2 := i57; unfold In at a2)); (first | have a3 := in_u j54_3 | (have a3 := j54_3; unfold In at a3)); (first | have a4 := in_u i111 | (have a4 := i111; unfold In at a4)); have a5 := t_add e111 i57 (in_c 1 rfl) rfl; (first | have a6 := in_u ((in_c 1 rfl)) | (have a6 := (in_c 1 rfl); unfold In at a6)); have oc := oc_85_65; omega))
          exact gg_w (by first | exact Nat.le_add_right _ _ | exact gw2 | exact gw3 | exact gwe rfl | exact gwf rfl | exact gwg rfl | exact gwh rfl | omega) (gg_f (gf_cons rfl (gf_cons rfl (gf_cons rfl (gf_cons rfl (gf_cons rfl gf_nil))))) (ih54 sc54 y54_3 z111 hIc54 hFc54 (in_w (-1) 31 j54_3 rfl) (in_w 0 32 i111 rfl) n54 n54a n54b (m_up mm54 (t_add e111 i57 (in_c 1 rfl) rfl) (in_w 1 1 (in_c 1 rfl) rfl))))
        · skip
          have i69 := r_le1 (-2147483648) (-1) c69 (i_rng z66) i68 rfl
          refine g_aload_n 73 (gd rfl) rfl rfl ?_
          refine g_getA (q2 := 75) 76 (gd rfl) rfl rfl rfl rfl ?_
          refine g_iload 78 (gd rfl) rfl rfl ?_
          refine g_laload 79 (gd rfl) rfl (n := 32) rfl (in_ix i57 rfl) (fun z78 e78 => ?_)
          refine g_ldc2_w 9223372036854775807 82 (gd rfl) rfl rfl ?_
          refine g_lcmp 83 (gd rfl) rfl (fun z82 e82 => ?_)
          have i82 := lc_in e82
          refine g_if_eq 86 111 (gd rfl) rfl rfl (fun c83 => ?_) (fun c83 => ?_)
          · skip
            have i83 := z_eq 0 0 c83 i82 rfl
            have c83a := lc_eq e82 c83
            have i83a := lr_eq1 9223372036854775807 9223372036854775807 c83a (l_rng z78) (l_c 9223372036854775807 rfl) rfl
            refine g_iinc 114 (gd rfl) rfl rfl (Nat.le_of_ble_eq_true rfl) (fun z111 e111 => ?_)
            have i111 := in_add 1 32 e111 i57 (in_c 1 rfl) rfl rfl
            refine g_goto 54 (gd rfl) rfl ?_
            have n54 : (z111).toInt ≤ (x1).toInt := by (first | have a0 := in_u h2 | (have a0 := h2; unfold In at a0)); (first | have a1 := in_u i57a | (have a1 := i57a; unfold In at a1)); (first | have a2 := in_u i57 | (have a2 := i57; unfold In at a2)); (first | have a3 := in_u j54_3 | (have a3 := j54_3; unfold In at a3)); (first | have a4 := in_u i111 | (have a4 := i111; unfold In at a4)); have a5 := t_add e111 i57 (in_c 1 rfl) rfl; (first | have a6 := in_u ((in_c 1 rfl)) | (have a6 := (in_c 1 rfl); unfold In at a6)); have oc := oc_85_65; omega
            have n54a : ∃ r : Nat → Nat, NLF (netC s) (fiC s) (x2).toInt (x1).toNatClampNeg (exC s) (faC sc54) (viC sc54) r := by exact g54_0
            have n54b : NBT (exC s) (faC sc54) (x2).toInt (z111).toNatClampNeg (y54_3).toInt := by rw [(show (z111).toNatClampNeg = (y54_4).toNatClampNeg + 1 from (by show (z111).toInt.toNat = (y54_4).toInt.toNat + 1; (first | have a0 := in_u h2 | (have a0 := h2; unfold In at a0)); (first | have a1 := in_u i57a | (have a1 := i57a; unfold In at a1)); (first | have a2 := in_u i57 | (have a2 := i57; unfold In at a2)); (first | have a3 := in_u j54_3 | (have a3 := j54_3; unfold In at a3)); (first | have a4 := in_u i111 | (have a4 := i111; unfold In at a4)); have a5 := t_add e111 i57 (in_c 1 rfl) rfl; (first | have a6 := in_u ((in_c 1 rfl)) | (have a6 := (in_c 1 rfl); unfold In at a6)); have oc := oc_85_65; omega))]; exact nb_2 g54_1 e78 c83a
            exact gg_w (by first | exact Nat.le_add_right _ _ | exact gw2 | exact gw3 | exact gwe rfl | exact gwf rfl | exact gwg rfl | exact gwh rfl | omega) (gg_f (gf_cons rfl (gf_cons rfl (gf_cons rfl (gf_cons rfl (gf_cons rfl gf_nil))))) (ih54 sc54 y54_3 z111 hIc54 hFc54 (in_w (-1) 31 j54_3 rfl) (in_w 0 32 i111 rfl) n54 n54a n54b (m_up mm54 (t_add e111 i57 (in_c 1 rfl) rfl) (in_w 1 1 (in_c 1 rfl) rfl))))
          · skip
            have c83a := lc_ne e82 c83
            have i83 := lr_ne1 (-9223372036854775808) 9223372036854775806 c83a (l_rng z78) (l_c 9223372036854775807 rfl) rfl
            refine g_iload_n 87 (gd rfl) rfl rfl ?_
            refine g_iconst (-1) 88 (gd rfl) rfl rfl ?_
            refine g_cmp_eq 91 108 (gd rfl) rfl rfl (fun c88 => ?_) (fun c88 => ?_)
            · skip
              have i88 := r_eq1 (-1) (-1) c88 j54_3 (in_c (-1) rfl) rfl
              refine g_iload 110 (gd rfl) rfl rfl ?_
              refine g_istore_n 111 (gd rfl) rfl (Nat.le_of_ble_eq_true rfl) ?_
              refine g_iinc 114 (gd rfl) rfl rfl (Nat.le_of_ble_eq_true rfl) (fun z111 e111 => ?_)
              have i111 := in_add 1 32 e111 i57 (in_c 1 rfl) rfl rfl
              refine g_goto 54 (gd rfl) rfl ?_
              have n54 : (z111).toInt ≤ (x1).toInt := by (first | have a0 := in_u h2 | (have a0 := h2; unfold In at a0)); (first | have a1 := in_u i57a | (have a1 := i57a; unfold In at a1)); (first | have a2 := in_u i57 | (have a2 := i57; unfold In at a2)); (first | have a3 := in_u i88 | (have a3 := i88; unfold In at a3)); (first | have a4 := in_u i111 | (have a4 := i111; unfold In at a4)); have a5 := t_add e111 i57 (in_c 1 rfl) rfl; (first | have a6 := in_u ((in_c 1 rfl)) | (have a6 := (in_c 1 rfl); unfold In at a6)); have oc := oc_85_65; omega
              have n54a : ∃ r : Nat → Nat, NLF (netC s) (fiC s) (x2).toInt (x1).toNatClampNeg (exC s) (faC sc54) (viC sc54) r := by exact g54_0
              have n54b : NBT (exC s) (faC sc54) (x2).toInt (z111).toNatClampNeg (y54_4).toInt := by rw [(show (z111).toNatClampNeg = (y54_4).toNatClampNeg + 1 from (by show (z111).toInt.toNat = (y54_4).toInt.toNat + 1; (first | have a0 := in_u h2 | (have a0 := h2; unfold In at a0)); (first | have a1 := in_u i57a | (have a1 := i57a; unfold In at a1)); (first | have a2 := in_u i57 | (have a2 := i57; unfold In at a2)); (first | have a3 := in_u i88 | (have a3 := i88; unfold In at a3)); (first | have a4 := in_u i111 | (have a4 := i111; unfold In at a4)); have a5 := t_add e111 i57 (in_c 1 rfl) rfl; (first | have a6 := in_u ((in_c 1 rfl)) | (have a6 := (in_c 1 rfl); unfold In at a6)); have oc := oc_85_65; omega))]; exact nb_3 g54_1 (show 0 ≤ (y54_4).toInt from (by (first | have a0 := in_u h2 | (have a0 := h2; unfold In at a0)); (first | have a1 := in_u i57a | (have a1 := i57a; unfold In at a1)); (first | have a2 := in_u i57 | (have a2 := i57; unfold In at a2)); (first | have a3 := in_u i88 | (have a3 := i88; unfold In at a3)); (first | have a4 := in_u i111 | (have a4 := i111; unfold In at a4)); have a5 := t_add e111 i57 (in_c 1 rfl) rfl; (first | have a6 := in_u ((in_c 1 rfl)) | (have a6 := (in_c 1 rfl); unfold In at a6)); have oc := oc_85_65; omega)) e66 (hFc54.1 74 rfl) (show (z66).toInt ≤ -(x2).toInt from (by have h9 := c69; have h8 := ineg_v e68 (by (first | have a0 := in_u h2 | (have a0 := h2; unfold In at a0)); (first | have a1 := in_u i57a | (have a1 := i57a; unfold In at a1)); (first | have a2 := in_u i57 | (have a2 := i57; unfold In at a2)); (first | have a3 := in_u i88 | (have a3 := i88; unfold In at a3)); (first | have a4 := in_u i111 | (have a4 := i111; unfold In at a4)); have a5 := t_add e111 i57 (in_c 1 rfl) rfl; (first | have a6 := in_u ((in_c 1 rfl)) | (have a6 := (in_c 1 rfl); unfold In at a6)); have oc := oc_85_65; omega); (first | have a0 := in_u h2 | (have a0 := h2; unfold In at a0)); (first | have a1 := in_u i57a | (have a1 := i57a; unfold In at a1)); (first | have a2 := in_u i57 | (have a2 := i57; unfold In at a2)); (first | have a3 := in_u i88 | (have a3 := i88; unfold In at a3)); (first | have a4 := in_u i111 | (have a4 := i111; unfold In at a4)); have a5 := t_add e111 i57 (in_c 1 rfl) rfl; (first | have a6 := in_u ((in_c 1 rfl)) | (have a6 := (in_c 1 rfl); unfold In at a6)); have oc := oc_85_65; omega)) e78 c83a c88
              exact gg_w (by first | exact Nat.le_add_right _ _ | exact gw2 | exact gw3 | exact gwe rfl | exact gwf rfl | exact gwg rfl | exact gwh rfl | omega) (gg_f (gf_cons rfl (gf_cons rfl (gf_cons rfl (gf_cons rfl (gf_cons rfl gf_nil))))) (ih54 sc54 y54_4 z111 hIc54 hFc54 (in_w (-1) 31 i57 rfl) (in_w 0 32 i111 rfl) n54 n54a n54b (m_up mm54 (t_add e111 i57 (in_c 1 rfl) rfl) (in_w 1 1 (in_c 1 rfl) rfl))))
            · skip
              have i88 := r_ne1 0 31 c88 j54_3 (in_c (-1) rfl) rfl
              refine g_aload_n 92 (gd rfl) rfl rfl ?_
              refine g_getA (q2 := 75) 95 (gd rfl) rfl rfl rfl rfl ?_
              refine g_iload 97 (gd rfl) rfl rfl ?_
              refine g_laload 98 (gd rfl) rfl (n := 32) rfl (in_ix i57 rfl) (fun z97 e97 => ?_)
              refine g_aload_n 99 (gd rfl) rfl rfl ?_
              refine g_getA (q2 := 75) 102 (gd rfl) rfl rfl rfl rfl ?_
              refine g_iload_n 103 (gd rfl) rfl rfl ?_
              refine g_laload 104 (gd rfl) rfl (n := 32) rfl (in_ix i88 rfl) (fun z103 e103 => ?_)
              refine g_lcmp 105 (gd rfl) rfl (fun z104 e104 => ?_)
              have i104 := lc_in e104
              refine g_if_ge 108 111 (gd rfl) rfl rfl (fun c105 => ?_) (fun c105 => ?_)
              · skip
                have i105 := z_ge 0 1 c105 i104 rfl
                have c105a := lc_ge e104 c105
                refine g_iinc 114 (gd rfl) rfl rfl (Nat.le_of_ble_eq_true rfl) (fun z111 e111 => ?_)
                have i111 := in_add 1 32 e111 i57 (in_c 1 rfl) rfl rfl
                refine g_goto 54 (gd rfl) rfl ?_
                have n54 : (z111).toInt ≤ (x1).toInt := by (first | have a0 := in_u h2 | (have a0 := h2; unfold In at a0)); (first | have a1 := in_u i57a | (have a1 := i57a; unfold In at a1)); (first | have a2 := in_u i57 | (have a2 := i57; unfold In at a2)); (first | have a3 := in_u i88 | (have a3 := i88; unfold In at a3)); (first | have a4 := in_u i111 | (have a4 := i111; unfold In at a4)); have a5 := t_add e111 i57 (in_c 1 rfl) rfl; (first | have a6 := in_u ((in_c 1 rfl)) | (have a6 := (in_c 1 rfl); unfold In at a6)); have oc := oc_85_65; omega
                have n54a : ∃ r : Nat → Nat, NLF (netC s) (fiC s) (x2).toInt (x1).toNatClampNeg (exC s) (faC sc54) (viC sc54) r := by exact g54_0
                have n54b : NBT (exC s) (faC sc54) (x2).toInt (z111).toNatClampNeg (y54_3).toInt := by rw [(show (z111).toNatClampNeg = (y54_4).toNatClampNeg + 1 from (by show (z111).toInt.toNat = (y54_4).toInt.toNat + 1; (first | have a0 := in_u h2 | (have a0 := h2; unfold In at a0)); (first | have a1 := in_u i57a | (have a1 := i57a; unfold In at a1)); (first | have a2 := in_u i57 | (have a2 := i57; unfold In at a2)); (first | have a3 := in_u i88 | (have a3 := i88; unfold In at a3)); (first | have a4 := in_u i111 | (have a4 := i111; unfold In at a4)); have a5 := t_add e111 i57 (in_c 1 rfl) rfl; (first | have a6 := in_u ((in_c 1 rfl)) | (have a6 := (in_c 1 rfl); unfold In at a6)); have oc := oc_85_65; omega))]; first | exact nb_4 g54_1 (show 0 ≤ (y54_4).toInt from (by (first | have a0 := in_u h2 | (have a0 := h2; unfold In at a0)); (first | have a1 := in_u i57a | (have a1 := i57a; unfold In at a1)); (first | have a2 := in_u i57 | (have a2 := i57; unfold In at a2)); (first | have a3 := in_u i88 | (have a3 := i88; unfold In at a3)); (first | have a4 := in_u i111 | (have a4 := i111; unfold In at a4)); have a5 := t_add e111 i57 (in_c 1 rfl) rfl; (first | have a6 := in_u ((in_c 1 rfl)) | (have a6 := (in_c 1 rfl); unfold In at a6)); have oc := oc_85_65; omega)) e66 (hFc54.1 74 rfl) (show (z66).toInt ≤ -(x2).toInt from (by have h9 := c69; have h8 := ineg_v e68 (by (first | have a0 := in_u h2 | (have a0 := h2; unfold In at a0)); (first | have a1 := in_u i57a | (have a1 := i57a; unfold In at a1)); (first | have a2 := in_u i57 | (have a2 := i57; unfold In at a2)); (first | have a3 := in_u i88 | (have a3 := i88; unfold In at a3)); (first | have a4 := in_u i111 | (have a4 := i111; unfold In at a4)); have a5 := t_add e111 i57 (in_c 1 rfl) rfl; (first | have a6 := in_u ((in_c 1 rfl)) | (have a6 := (in_c 1 rfl); unfold In at a6)); have oc := oc_85_65; omega); (first | have a0 := in_u h2 | (have a0 := h2; unfold In at a0)); (first | have a1 := in_u i57a | (have a1 := i57a; unfold In at a1)); (first | have a2 := in_u i57 | (have a2 := i57; unfold In at a2)); (first | have a3 := in_u i88 | (have a3 := i88; unfold In at a3)); (first | have a4 := in_u i111 | (have a4 := i111; unfold In at a4)); have a5 := t_add e111 i57 (in_c 1 rfl) rfl; (first | have a6 := in_u ((in_c 1 rfl)) | (have a6 := (in_c 1 rfl); unfold In at a6)); have oc := oc_85_65; omega)) e78 c83a e97 e103 c105a | exact nb_5 g54_1 (show 0 ≤ (y54_3).toInt from i88.1) e97 e103 c105a
                exact gg_w (by first | exact Nat.le_add_right _ _ | exact gw2 | exact gw3 | exact gwe rfl | exact gwf rfl | exact gwg rfl | exact gwh rfl | omega) (gg_f (gf_cons rfl (gf_cons rfl (gf_cons rfl (gf_cons rfl (gf_cons rfl gf_nil))))) (ih54 sc54 y54_3 z111 hIc54 hFc54 (in_w (-1) 31 i88 rfl) (in_w 0 32 i111 rfl) n54 n54a n54b (m_up mm54 (t_add e111 i57 (in_c 1 rfl) rfl) (in_w 1 1 (in_c 1 rfl) rfl))))
              · skip
                have i105 := z_lt (-1) (-1) c105 i104 rfl
                have c105a := lc_lt e104 c105
                have i105a := lr_lt1 (-9223372036854775808) 9223372036854775806 c105a (l_rng z97) (l_rng z103) rfl
                have i105b := lr_lt2 (-9223372036854775807) 9223372036854775807 c105a (l_rng z97) (l_rng z103) rfl
                refine g_iload 110 (gd rfl) rfl rfl ?_
                refine g_istore_n 111 (gd rfl) rfl (Nat.le_of_ble_eq_true rfl) ?_
                refine g_iinc 114 (gd rfl) rfl rfl (Nat.le_of_ble_eq_true rfl) (fun z111 e111 => ?_)
                have i111 := in_add 1 32 e111 i57 (in_c 1 rfl) rfl rfl
                refine g_goto 54 (gd rfl) rfl ?_
                have n54 : (z111).toInt ≤ (x1).toInt := by (first | have a0 := in_u h2 | (have a0 := h2; unfold In at a0)); (first | have a1 := in_u i57a | (have a1 := i57a; unfold In at a1)); (first | have a2 := in_u i57 | (have a2 := i57; unfold In at a2)); (first | have a3 := in_u i88 | (have a3 := i88; unfold In at a3)); (first | have a4 := in_u i111 | (have a4 := i111; unfold In at a4)); have a5 := t_add e111 i57 (in_c 1 rfl) rfl; (first | have a6 := in_u ((in_c 1 rfl)) | (have a6 := (in_c 1 rfl); unfold In at a6)); have oc := oc_85_65; omega
                have n54a : ∃ r : Nat → Nat, NLF (netC s) (fiC s) (x2).toInt (x1).toNatClampNeg (exC s) (faC sc54) (viC sc54) r := by exact g54_0
                have n54b : NBT (exC s) (faC sc54) (x2).toInt (z111).toNatClampNeg (y54_4).toInt := by rw [(show (z111).toNatClampNeg = (y54_4).toNatClampNeg + 1 from (by show (z111).toInt.toNat = (y54_4).toInt.toNat + 1; (first | have a0 := in_u h2 | (have a0 := h2; unfold In at a0)); (first | have a1 := in_u i57a | (have a1 := i57a; unfold In at a1)); (first | have a2 := in_u i57 | (have a2 := i57; unfold In at a2)); (first | have a3 := in_u i88 | (have a3 := i88; unfold In at a3)); (first | have a4 := in_u i111 | (have a4 := i111; unfold In at a4)); have a5 := t_add e111 i57 (in_c 1 rfl) rfl; (first | have a6 := in_u ((in_c 1 rfl)) | (have a6 := (in_c 1 rfl); unfold In at a6)); have oc := oc_85_65; omega))]; first | exact nb_4 g54_1 (show 0 ≤ (y54_4).toInt from (by (first | have a0 := in_u h2 | (have a0 := h2; unfold In at a0)); (first | have a1 := in_u i57a | (have a1 := i57a; unfold In at a1)); (first | have a2 := in_u i57 | (have a2 := i57; unfold In at a2)); (first | have a3 := in_u i88 | (have a3 := i88; unfold In at a3)); (first | have a4 := in_u i111 | (have a4 := i111; unfold In at a4)); have a5 := t_add e111 i57 (in_c 1 rfl) rfl; (first | have a6 := in_u ((in_c 1 rfl)) | (have a6 := (in_c 1 rfl); unfold In at a6)); have oc := oc_85_65; omega)) e66 (hFc54.1 74 rfl) (show (z66).toInt ≤ -(x2).toInt from (by have h9 := c69; have h8 := ineg_v e68 (by (first | have a0 := in_u h2 | (have a0 := h2; unfold In at a0)); (first | have a1 := in_u i57a | (have a1 := i57a; unfold In at a1)); (first | have a2 := in_u i57 | (have a2 := i57; unfold In at a2)); (first | have a3 := in_u i88 | (have a3 := i88; unfold In at a3)); (first | have a4 := in_u i111 | (have a4 := i111; unfold In at a4)); have a5 := t_add e111 i57 (in_c 1 rfl) rfl; (first | have a6 := in_u ((in_c 1 rfl)) | (have a6 := (in_c 1 rfl); unfold In at a6)); have oc := oc_85_65; omega); (first | have a0 := in_u h2 | (have a0 := h2; unfold In at a0)); (first | have a1 := in_u i57a | (have a1 := i57a; unfold In at a1)); (first | have a2 := in_u i57 | (have a2 := i57; unfold In at a2)); (first | have a3 := in_u i88 | (have a3 := i88; unfold In at a3)); (first | have a4 := in_u i111 | (have a4 := i111; unfold In at a4)); have a5 := t_add e111 i57 (in_c 1 rfl) rfl; (first | have a6 := in_u ((in_c 1 rfl)) | (have a6 := (in_c 1 rfl); unfold In at a6)); have oc := oc_85_65; omega)) e78 c83a e97 e103 c105a | exact nb_5 g54_1 (show 0 ≤ (y54_3).toInt from i88.1) e97 e103 c105a
                exact gg_w (by first | exact Nat.le_add_right _ _ | exact gw2 | exact gw3 | exact gwe rfl | exact gwf rfl | exact gwg rfl | exact gwh rfl | omega) (gg_f (gf_cons rfl (gf_cons rfl (gf_cons rfl (gf_cons rfl (gf_cons rfl gf_nil))))) (ih54 sc54 y54_4 z111 hIc54 hFc54 (in_w (-1) 31 i57 rfl) (in_w 0 32 i111 rfl) n54 n54a n54b (m_up mm54 (t_add e111 i57 (in_c 1 rfl) rfl) (in_w 1 1 (in_c 1 rfl) rfl))))
  have ct2 : ∀ (k2 : Nat) (sc2 : GS) (y2_3 : Int32), Inv sc2 → Fr fm_85_65 s sc2 → (In y2_3 0 32) → (NLI (exC s) (x2).toInt (faC sc2) (viC sc2) (y2_3).toNatClampNeg) → 32 - (y2_3).toInt < (k2 : Int) → GG Z (d - 1) 85 post (gx xp) (29702 + k2 * 900) 2 (fun j => xlook j [(0, .ref (A 65)), (1, .int x1), (2, .int x2), (3, .int y2_3)]) [] (WW Z A sc2 ++ ex) 0 0 := by
    intro k2
    induction k2 with
    | zero => intro sc2 y2_3 hIc2 hFc2 j2_3 g2_0 mm2; exact m_no mm2 j2_3 rfl
    | succ k2 ih2 =>
      intro sc2 y2_3 hIc2 hFc2 j2_3 g2_0 mm2
      refine gg_w (M := 29702 + k2 * 900 + 900) gws ?_
      refine g_iload_n 3 (gd rfl) rfl rfl ?_
      refine g_iload_n 4 (gd rfl) rfl rfl ?_
      refine g_cmp_ge 7 43 (gd rfl) rfl rfl (fun c4 => ?_) (fun c4 => ?_)
      · skip
        refine g_aload_n 44 (gd rfl) rfl rfl ?_
        refine g_iload_n 45 (gd rfl) rfl rfl ?_
        refine g_iload_n 46 (gd rfl) rfl rfl ?_
        have p46 : RXP sc2 (x2).toInt (x1).toNatClampNeg := by exact nlp_x q_0 (net_fr hFc2 rfl) (fi_fr hFc2 rfl) (nli_0 (show NLI (exC s) (x2).toInt (faC sc2) (viC sc2) (x1).toNatClampNeg from fun v hv => g2_0 v (Nat.lt_of_lt_of_le hv (show (x1).toNatClampNeg ≤ (y2_3).toNatClampNeg from (by show (x1).toInt.toNat ≤ (y2_3).toInt.toNat; (first | have a0 := in_u h2 | (have a0 := h2; unfold In at a0)); (first | have a1 := in_u h1 | (have a1 := h1; unfold In at a1)); (first | have a2 := in_u j2_3 | (have a2 := j2_3; unfold In at a2)); have oc := oc_85_65; omega)))))
        refine g_callv (X := _) (As := [.int x1, .int x2]) (r := []) (b := A 65) (q := 65) 49 (gd rfl) rfl rfl rfl rfl rfl (ww_o rfl) (Nat.le_of_ble_eq_true rfl) (Nat.zero_le _) (Nat.zero_le _) (f_86_65 (by first | exact dq1 hd rfl | exact dq0 hd rfl | exact dq2 hd rfl | exact dq3 hd rfl | omega) hIc2 (in_w 0 32 h1 rfl) (in_w 1 1048576 h2 rfl) p46) (fun e u h => h) (fun v u h => ?_)
        obtain ⟨s46, hI46, hF46, rfl, rfl, p46a⟩ := h
        show GG _ _ _ _ _ _ _ _ [] _ _ _
        refine g_iconst (-1) 50 (gd rfl) rfl rfl ?_
        refine g_istore_n 51 (gd rfl) rfl (Nat.le_of_ble_eq_true rfl) ?_
        refine g_iconst 0 52 (gd rfl) rfl rfl ?_
        refine g_istore 54 (gd rfl) rfl (Nat.le_of_ble_eq_true rfl) ?_
        have n54 : ((Int32.ofInt 0)).toInt ≤ (x1).toInt := by (first | have a0 := in_u h2 | (have a0 := h2; unfold In at a0)); (first | have a1 := in_u h1 | (have a1 := h1; unfold In at a1)); (first | have a2 := in_u j2_3 | (have a2 := j2_3; unfold In at a2)); (first | have a3 := in_u ((in_c 0 rfl)) | (have a3 := (in_c 0 rfl); unfold In at a3)); (first | have a4 := in_u ((in_c (-1) rfl)) | (have a4 := (in_c (-1) rfl); unfold In at a4)); have oc := oc_85_65; omega
        have n54a : ∃ r : Nat → Nat, NLF (netC s) (fiC s) (x2).toInt (x1).toNatClampNeg (exC s) (faC s46) (viC s46) r := by have r9 := p46a; rw [net_fr hFc2 rfl, fi_fr hFc2 rfl] at r9; exact nlf_i (show NLI (exC s) (x2).toInt (faC sc2) (viC sc2) (x1).toNatClampNeg from fun v hv => g2_0 v (Nat.lt_of_lt_of_le hv (show (x1).toNatClampNeg ≤ (y2_3).toNatClampNeg from (by show (x1).toInt.toNat ≤ (y2_3).toInt.toNat; (first | have a0 := in_u h2 | (have a0 := h2; unfold In at a0)); (first | have a1 := in_u h1 | (have a1 := h1; unfold In at a1)); (first | have a2 := in_u j2_3 | (have a2 := j2_3; unfold In at a2)); (first | have a3 := in_u ((in_c 0 rfl)) | (have a3 := (in_c 0 rfl); unfold In at a3)); (first | have a4 := in_u ((in_c (-1) rfl)) | (have a4 := (in_c (-1) rfl); unfold In at a4)); have oc := oc_85_65; omega)))) r9
        have n54b : NBT (exC s) (faC s46) (x2).toInt ((Int32.ofInt 0)).toNatClampNeg ((Int32.ofInt (-1))).toInt := by exact (show NBT _ _ _ 0 (-1) from nbt_0)
        exact gg_w (by first | exact Nat.le_add_right _ _ | exact gw2 | exact gw3 | exact gwe rfl | exact gwf rfl | exact gwg rfl | exact gwh rfl | omega) (gg_f (gf_cons rfl (gf_cons rfl (gf_cons rfl (gf_cons rfl (gf_cons rfl gf_nil))))) (ct54 33 s46 (Int32.ofInt (-1)) (Int32.ofInt 0) hI46 (fr_tr rfl hFc2 hF46) (in_w (-1) 31 (in_c (-1) rfl) rfl) (in_w 0 32 (in_c 0 rfl) rfl) n54 n54a n54b (m_in 33 (in_w 0 32 (in_c 0 rfl) rfl) rfl)))
      · skip
        have i4 := r_lt1 0 31 c4 j2_3 h1 rfl
        have i4a := r_lt2 1 32 c4 j2_3 h1 rfl
        refine g_aload_n 8 (gd rfl) rfl rfl ?_
        refine g_getA (q2 := 75) 11 (gd rfl) rfl rfl rfl rfl ?_
        refine g_iload_n 12 (gd rfl) rfl rfl ?_
        refine g_aload_n 13 (gd rfl) rfl rfl ?_
        refine g_getA (q2 := 74) 16 (gd rfl) rfl rfl rfl rfl ?_
        refine g_iload_n 17 (gd rfl) rfl rfl ?_
        refine g_iaload 18 (gd rfl) rfl (n := 32) rfl (in_ix i4 rfl) (fun z17 e17 => ?_)
        refine g_iload_n 19 (gd rfl) rfl rfl ?_
        refine g_cmp_lt 22 26 (gd rfl) rfl rfl (fun c19 => ?_) (fun c19 => ?_)
        · skip
          have i19 := r_lt1 (-2147483648) 65535 c19 (i_rng z17) h2 rfl
          refine g_ldc2_w 9223372036854775807 29 (gd rfl) rfl rfl ?_
          refine g_lastore 30 (gd rfl) rfl (n := 32) rfl (in_ix i4 rfl) ?_
          have hI29 := inv_sL (q := 75) (j := y2_3.toNatClampNeg) (x := (Int64.ofInt 9223372036854775807)) hIc2 rfl (l_rng (Int64.ofInt 9223372036854775807))
          refine g_aload_n 31 (gd rfl) rfl rfl ?_
          refine g_getA (q2 := 68) 34 (gd rfl) rfl rfl rfl rfl ?_
          refine g_iload_n 35 (gd rfl) rfl rfl ?_
          refine g_iconst (-1) 36 (gd rfl) rfl rfl ?_
          refine g_iastore 37 (gd rfl) rfl (n := 32) rfl (in_ix i4 rfl) ?_
          have hI36 := inv_sI (q := 68) (j := y2_3.toNatClampNeg) hI29 rfl (in_w (-1) 319 (in_c (-1) rfl) rfl)
          refine g_iinc 40 (gd rfl) rfl rfl (Nat.le_of_ble_eq_true rfl) (fun z37 e37 => ?_)
          have i37 := in_add 1 32 e37 i4 (in_c 1 rfl) rfl rfl
          refine g_goto 2 (gd rfl) rfl ?_
          have n2 : NLI (exC s) (x2).toInt (faC (sI (sL sc2 75 y2_3.toNatClampNeg (Int64.ofInt 9223372036854775807)) 68 y2_3.toNatClampNeg (Int32.ofInt (-1)))) (viC (sI (sL sc2 75 y2_3.toNatClampNeg (Int64.ofInt 9223372036854775807)) 68 y2_3.toNatClampNeg (Int32.ofInt (-1)))) (z37).toNatClampNeg := by rw [(show (z37).toNatClampNeg = (y2_3).toNatClampNeg + 1 from (by show (z37).toInt.toNat = (y2_3).toInt.toNat + 1; (first | have a0 := in_u h2 | (have a0 := h2; unfold In at a0)); (first | have a1 := in_u i4a | (have a1 := i4a; unfold In at a1)); (first | have a2 := in_u i4 | (have a2 := i4; unfold In at a2)); (first | have a3 := in_u i37 | (have a3 := i37; unfold In at a3)); have a4 := t_add e37 i4 (in_c 1 rfl) rfl; (first | have a5 := in_u ((in_c 1 rfl)) | (have a5 := (in_c 1 rfl); unfold In at a5)); have oc := oc_85_65; omega))]; first | exact nl_a g2_0 e17 (hFc2.1 74 rfl) c19 | exact nl_b g2_0 e17 (hFc2.1 74 rfl) c19
          exact gg_w (by first | exact Nat.le_add_right _ _ | exact gw2 | exact gw3 | exact gwe rfl | exact gwf rfl | exact gwg rfl | exact gwh rfl | omega) (gg_f (gf_cons rfl (gf_cons rfl (gf_cons rfl (gf_cons rfl gf_nil)))) (ih2 (sI (sL sc2 75 y2_3.toNatClampNeg (Int64.ofInt 9223372036854775807)) 68 y2_3.toNatClampNeg (Int32.ofInt (-1))) z37 hI36 (fr_sI rfl (fr_sL rfl hFc2)) (in_w 0 32 i37 rfl) n2 (m_up mm2 (t_add e37 i4 (in_c 1 rfl) rfl) (in_w 1 1 (in_c 1 rfl) rfl))))
        · skip
          have i19 := r_le2 1 2147483647 c19 h2 (i_rng z17) rfl
          refine g_lconst 0 23 (gd rfl) rfl rfl ?_
          refine g_goto 29 (gd rfl) rfl ?_
          refine g_lastore 30 (gd rfl) rfl (n := 32) rfl (in_ix i4 rfl) ?_
          have hI29 := inv_sL (q := 75) (j := y2_3.toNatClampNeg) (x := (Int64.ofInt 0)) hIc2 rfl (l_rng (Int64.ofInt 0))
          refine g_aload_n 31 (gd rfl) rfl rfl ?_
          refine g_getA (q2 := 68) 34 (gd rfl) rfl rfl rfl rfl ?_
          refine g_iload_n 35 (gd rfl) rfl rfl ?_
          refine g_iconst (-1) 36 (gd rfl) rfl rfl ?_
          refine g_iastore 37 (gd rfl) rfl (n := 32) rfl (in_ix i4 rfl) ?_
          have hI36 := inv_sI (q := 68) (j := y2_3.toNatClampNeg) hI29 rfl (in_w (-1) 319 (in_c (-1) rfl) rfl)
          refine g_iinc 40 (gd rfl) rfl rfl (Nat.le_of_ble_eq_true rfl) (fun z37 e37 => ?_)
          have i37 := in_add 1 32 e37 i4 (in_c 1 rfl) rfl rfl
          refine g_goto 2 (gd rfl) rfl ?_
          have n2 : NLI (exC s) (x2).toInt (faC (sI (sL sc2 75 y2_3.toNatClampNeg (Int64.ofInt 0)) 68 y2_3.toNatClampNeg (Int32.ofInt (-1)))) (viC (sI (sL sc2 75 y2_3.toNatClampNeg (Int64.ofInt 0)) 68 y2_3.toNatClampNeg (Int32.ofInt (-1)))) (z37).toNatClampNeg := by rw [(show (z37).toNatClampNeg = (y2_3).toNatClampNeg + 1 from (by show (z37).toInt.toNat = (y2_3).toInt.toNat + 1; (first | have a0 := in_u h2 | (have a0 := h2; unfold In at a0)); (first | have a1 := in_u i4a | (have a1 := i4a; unfold In at a1)); (first | have a2 := in_u i4 | (have a2 := i4; unfold In at a2)); (first | have a3 := in_u i37 | (have a3 := i37; unfold In at a3)); have a4 := t_add e37 i4 (in_c 1 rfl) rfl; (first | have a5 := in_u ((in_c 1 rfl)) | (have a5 := (in_c 1 rfl); unfold In at a5)); have oc := oc_85_65; omega))]; first | exact nl_a g2_0 e17 (hFc2.1 74 rfl) c19 | exact nl_b g2_0 e17 (hFc2.1 74 rfl) c19
          exact gg_w (by first | exact Nat.le_add_right _ _ | exact gw2 | exact gw3 | exact gwe rfl | exact gwf rfl | exact gwg rfl | exact gwh rfl | omega) (gg_f (gf_cons rfl (gf_cons rfl (gf_cons rfl (gf_cons rfl gf_nil)))) (ih2 (sI (sL sc2 75 y2_3.toNatClampNeg (Int64.ofInt 0)) 68 y2_3.toNatClampNeg (Int32.ofInt (-1))) z37 hI36 (fr_sI rfl (fr_sL rfl hFc2)) (in_w 0 32 i37 rfl) n2 (m_up mm2 (t_add e37 i4 (in_c 1 rfl) rfl) (in_w 1 1 (in_c 1 rfl) rfl))))
  refine g_enter2 (k := 85) (N := 60302) (by first | exact dq1 hd rfl | exact dq0 hd rfl | exact dq2 hd rfl | exact dq3 hd rfl | omega) rfl (Nat.le_of_ble_eq_true rfl) ?_
  refine g_iconst 0 1 (gd rfl) rfl rfl ?_
  refine g_istore_n 2 (gd rfl) rfl (Nat.le_of_ble_eq_true rfl) ?_
  have n2 : NLI (exC s) (x2).toInt (faC s) (viC s) ((Int32.ofInt 0)).toNatClampNeg := by exact (show NLI _ _ _ _ 0 from fun v hv => absurd hv (Nat.not_lt_zero v))
  exact gg_w (by first | exact Nat.le_of_ble_eq_true rfl | omega) (gg_f (gf_cons rfl (gf_cons rfl (gf_cons rfl (gf_cons rfl gf_nil)))) (ct2 33 s (Int32.ofInt 0) hI fr_rf (in_w 0 32 (in_c 0 rfl) rfl) n2 (m_in 33 (in_w 0 32 (in_c 0 rfl) rfl) rfl)))

theorem oc_88_65 : (Int32.ofInt (-1)).toInt = (-1) ∧ (Int32.ofInt 0).toInt = 0 ∧ (Int32.ofInt 1).toInt = 1 ∧ (Int32.ofInt 32).toInt = 32 := ⟨rfl, rfl, rfl, rfl⟩
set_option maxHeartbeats 2000000 in
/-- GraphHouse$Flows.carryTo -/
theorem f_88_65 {Z : AmZ} {A : Nat → Nat} {s : GS} {ex : va_W} {d : Nat} {X : AmX} {x1 : Int32} (hd : 3 ≤ d) (hI : Inv s) (h1 : In x1 0 31) : GC Z d 88 [.ref (A 65), .int x1] (WW Z A s ++ ex) 0 0 (fun v u => ∃ t : GS, Inv t ∧ Fr fm_88_65 s t ∧ ∃ z : Int64, v = some (.long z) ∧ u = WW Z A t ++ ex ∧ (∀ (σ : Int) (n : Nat) (r : Nat → Nat), CTP σ n r s (x1).toNatClampNeg → CTO σ n s t (x1).toNatClampNeg (z).toInt)) X := by
  intro post xp hP hX
  have ct158 : ∀ (k158 : Nat) (sc158 : GS) (y158_2 : Int32) (y158_3 : Int32) (y158_4 : Int32), Inv sc158 → Fr fm_88_65 s sc158 → (In y158_3 0 31) → (In y158_4 0 32) → (∀ (σ : Int) (n : Nat) (r : Nat → Nat), CTP σ n r s (x1).toNatClampNeg → CTX σ n r s sc158 (x1).toNatClampNeg (y158_3).toNatClampNeg (y158_4).toNatClampNeg (y158_2).toInt) → 32 - (y158_4).toInt < (k158 : Int) → GG Z (d - 1) 88 post (gx xp) (1 + k158 * 900) 158 (fun j => xlook j [(0, .ref (A 65)), (1, .int x1), (2, .int y158_2), (3, .int y158_3), (4, .int y158_4)]) [] (WW Z A sc158 ++ ex) 0 0 := by
    intro k158
    induction k158 with
    | zero => intro sc158 y158_2 y158_3 y158_4 hIc158 hFc158 j158_3 j158_4 g158_0 mm158; exact m_no mm158 j158_4 rfl
    | succ k158 ih158 =>
      intro sc158 y158_2 y158_3 y158_4 hIc158 hFc158 j158_3 j158_4 g158_0 mm158
      refine gg_w (M := 1 + k158 * 900 + 900) gws ?_
      refine g_iload 160 (gd rfl) rfl rfl ?_
      refine g_bipush 32 162 (gd rfl) rfl rfl ?_
      refine g_cmp_ge 165 253 (gd rfl) rfl rfl (fun c162 => ?_) (fun c162 => ?_)
      · skip
        have i162 := r_le2 32 32 c162 (in_c 32 rfl) j158_4 rfl
        refine g_aload_n 254 (gd rfl) rfl rfl ?_
        refine g_getA (q2 := 75) 257 (gd rfl) rfl rfl rfl rfl ?_
        refine g_iload_n 258 (gd rfl) rfl rfl ?_
        refine g_laload 259 (gd rfl) rfl (n := 32) rfl (in_ix h1 rfl) (fun z258 e258 => ?_)
        refine g_iload_n 260 (gd rfl) rfl rfl ?_
        refine g_i2l 261 (gd rfl) rfl (fun z260 e260 => ?_)
        have i260 := l_i e260 (i_rng y158_2)
        refine g_lmul 262 (gd rfl) rfl (fun z261 e261 => ?_)
        have n262 : ∀ (σ : Int) (n : Nat) (r : Nat → Nat), CTP σ n r s (x1).toNatClampNeg → CTO σ n s sc158 (x1).toNatClampNeg (z261).toInt := by intro σ n r hC; exact ct_h hC (g158_0 σ n r hC) (hFc158.2.1 75 rfl) (Or.inr (show 32 ≤ (y158_4).toNatClampNeg from (by show 32 ≤ (y158_4).toInt.toNat; (first | have a0 := in_u h1 | (have a0 := h1; unfold In at a0)); (first | have a1 := in_u i162 | (have a1 := i162; unfold In at a1)); (first | have a2 := in_u j158_3 | (have a2 := j158_3; unfold In at a2)); have a3 := tx_i2l e260; have oc := oc_88_65; omega))) e258 e260 e261
        exact g_lreturn (gd rfl) rfl (hP _ _ ⟨sc158, hIc158, hFc158, z261, rfl, rfl, n262⟩)
      · skip
        have i162 := r_lt1 0 31 c162 j158_4 (in_c 32 rfl) rfl
        refine g_aload_n 166 (gd rfl) rfl rfl ?_
        refine g_getA (q2 := 68) 169 (gd rfl) rfl rfl rfl rfl ?_
        refine g_iload_n 170 (gd rfl) rfl rfl ?_
        refine g_iaload 171 (gd rfl) rfl (n := 32) rfl (in_ix j158_3 rfl) (fun z170 e170 => ?_)
        have i170 := inv_I hIc158 (n := 32) (t := 0) (-1) 319 rfl (in_ix j158_3 rfl) rfl e170
        refine g_iconst (-1) 172 (gd rfl) rfl rfl ?_
        refine g_cmp_eq 175 253 (gd rfl) rfl rfl (fun c172 => ?_) (fun c172 => ?_)
        · skip
          have i172 := r_eq1 (-1) (-1) c172 i170 (in_c (-1) rfl) rfl
          refine g_aload_n 254 (gd rfl) rfl rfl ?_
          refine g_getA (q2 := 75) 257 (gd rfl) rfl rfl rfl rfl ?_
          refine g_iload_n 258 (gd rfl) rfl rfl ?_
          refine g_laload 259 (gd rfl) rfl (n := 32) rfl (in_ix h1 rfl) (fun z258 e258 => ?_)
          refine g_iload_n 260 (gd rfl) rfl rfl ?_
          refine g_i2l 261 (gd rfl) rfl (fun z260 e260 => ?_)
          have i260 := l_i e260 (i_rng y158_2)
          refine g_lmul 262 (gd rfl) rfl (fun z261 e261 => ?_)
          have n262 : ∀ (σ : Int) (n : Nat) (r : Nat → Nat), CTP σ n r s (x1).toNatClampNeg → CTO σ n s sc158 (x1).toNatClampNeg (z261).toInt := by intro σ n r hC; exact ct_h hC (g158_0 σ n r hC) (hFc158.2.1 75 rfl) (Or.inl (show viC s (y158_3).toNatClampNeg = -1 from (ct_vi (hFc158.1 68 rfl) e170).trans c172)) e258 e260 e261
          exact g_lreturn (gd rfl) rfl (hP _ _ ⟨sc158, hIc158, hFc158, z261, rfl, rfl, n262⟩)
        · skip
          have i172 := r_ne1 0 319 c172 i170 (in_c (-1) rfl) rfl
          refine g_aload_n 176 (gd rfl) rfl rfl ?_
          refine g_getA (q2 := 68) 179 (gd rfl) rfl rfl rfl rfl ?_
          refine g_iload_n 180 (gd rfl) rfl rfl ?_
          refine g_iaload 181 (gd rfl) rfl (n := 32) rfl (in_ix j158_3 rfl) (fun z180 e180 => ?_)
          have q180 : z170 = z180 := (e170).trans e180.symm
          subst q180
          refine g_iconst 1 182 (gd rfl) rfl rfl ?_
          refine g_ishr 183 (gd rfl) rfl (fun z182 e182 => ?_)
          have i182 := in_shrc 1 0 159 e182 i172 rfl rfl
          refine g_istore 185 (gd rfl) rfl (Nat.le_of_ble_eq_true rfl) ?_
          refine g_aload_n 186 (gd rfl) rfl rfl ?_
          refine g_getA (q2 := 68) 189 (gd rfl) rfl rfl rfl rfl ?_
          refine g_iload_n 190 (gd rfl) rfl rfl ?_
          refine g_iaload 191 (gd rfl) rfl (n := 32) rfl (in_ix j158_3 rfl) (fun z190 e190 => ?_)
          have q190 : z170 = z190 := (e170).trans e190.symm
          subst q190
          refine g_iconst 1 192 (gd rfl) rfl rfl ?_
          refine g_iand 193 (gd rfl) rfl (fun z192 e192 => ?_)
          have i192 := in_and2 e192 (in_c 1 rfl) rfl
          refine g_if_ne 196 200 (gd rfl) rfl rfl (fun c193 => ?_) (fun c193 => ?_)
          · skip
            have i193 := z_ne 1 1 c193 i192 rfl
            refine g_iconst 0 201 (gd rfl) rfl rfl ?_
            refine g_istore 203 (gd rfl) rfl (Nat.le_of_ble_eq_true rfl) ?_
            refine g_aload_n 204 (gd rfl) rfl rfl ?_
            refine g_getA (q2 := 73) 207 (gd rfl) rfl rfl rfl rfl ?_
            refine g_iload 209 (gd rfl) rfl rfl ?_
            refine g_dup2 210 (gd rfl) rfl rfl rfl ?_
            refine g_iaload 211 (gd rfl) rfl (n := 160) rfl (in_ix i182 rfl) (fun z210 e210 => ?_)
            refine g_iload 213 (gd rfl) rfl rfl ?_
            refine g_if_eq 216 220 (gd rfl) rfl rfl (fun c213 => ?_) (fun c213 => ?_)
            · skip
              refine g_iload_n 221 (gd rfl) rfl rfl ?_
              refine g_ineg 222 (gd rfl) rfl (fun z221 e221 => ?_)
              refine g_iadd 223 (gd rfl) rfl (fun z222 e222 => ?_)
              refine g_iastore 224 (gd rfl) rfl (n := 160) rfl (in_ix i182 rfl) ?_
              have hI223 := inv_sI (q := 73) (j := z182.toNatClampNeg) hIc158 rfl (in_w (-2147483648) 2147483647 (i_rng z222) rfl)
              refine g_iload 226 (gd rfl) rfl rfl ?_
              refine g_if_eq 229 239 (gd rfl) rfl rfl (fun c226 => ?_) (fun c226 => ?_)
              · skip
                refine g_aload_n 240 (gd rfl) rfl rfl ?_
                refine g_getA (q2 := 70) 243 (gd rfl) rfl rfl rfl rfl ?_
                refine g_iload 245 (gd rfl) rfl rfl ?_
                refine g_iaload 246 (gd rfl) rfl (n := 160) rfl (in_ix i182 rfl) (fun z245 e245 => ?_)
                have i245 := inv_I hI223 (n := 160) (t := 0) 0 31 rfl (in_ix i182 rfl) rfl e245
                refine g_istore_n 247 (gd rfl) rfl (Nat.le_of_ble_eq_true rfl) ?_
                refine g_iinc 250 (gd rfl) rfl rfl (Nat.le_of_ble_eq_true rfl) (fun z247 e247 => ?_)
                have i247 := in_add 1 32 e247 i162 (in_c 1 rfl) rfl rfl
                refine g_goto 158 (gd rfl) rfl ?_
                have n158 : ∀ (σ : Int) (n : Nat) (r : Nat → Nat), CTP σ n r s (x1).toNatClampNeg → CTX σ n r s (sI sc158 73 z182.toNatClampNeg z222) (x1).toNatClampNeg (z245).toNatClampNeg (z247).toNatClampNeg (y158_2).toInt := by rw [(show (z247).toNatClampNeg = (y158_4).toNatClampNeg + 1 from (by show (z247).toInt.toNat = (y158_4).toInt.toNat + 1; (first | have a0 := in_u h1 | (have a0 := h1; unfold In at a0)); (first | have a1 := in_u i162 | (have a1 := i162; unfold In at a1)); (first | have a2 := in_u j158_3 | (have a2 := j158_3; unfold In at a2)); (first | have a3 := in_u ((in_c 0 rfl)) | (have a3 := (in_c 0 rfl); unfold In at a3)); (first | have a4 := in_u i182 | (have a4 := i182; unfold In at a4)); (first | have a5 := in_u i247 | (have a5 := i247; unfold In at a5)); have a6 := t_add e247 i162 (in_c 1 rfl) rfl; (first | have a7 := in_u ((in_c 1 rfl)) | (have a7 := (in_c 1 rfl); unfold In at a7)); (first | have a8 := in_u i245 | (have a8 := i245; unfold In at a8)); have oc := oc_88_65; omega))]; intro σ n r hC; exact ct_g2 hC (g158_0 σ n r hC) (hFc158.1 68 rfl) (hFc158.1 70 rfl) e170 i172 e182 e192 c193 e210 e221 e222 e245
                exact gg_w (by first | exact Nat.le_add_right _ _ | exact gw2 | exact gw3 | exact gwe rfl | exact gwf rfl | exact gwg rfl | exact gwh rfl | omega) (gg_f (gf_cons rfl (gf_cons rfl (gf_cons rfl (gf_cons rfl (gf_cons rfl gf_nil))))) (ih158 (sI sc158 73 z182.toNatClampNeg z222) y158_2 z245 z247 hI223 (fr_sI rfl hFc158) (in_w 0 31 i245 rfl) (in_w 0 32 i247 rfl) n158 (m_up mm158 (t_add e247 i162 (in_c 1 rfl) rfl) (in_w 1 1 (in_c 1 rfl) rfl))))
              · skip
                exact zn_ne c226 (in_c 0 rfl) rfl
            · skip
              exact zn_ne c213 (in_c 0 rfl) rfl
          · skip
            have i193 := z_eq 0 0 c193 i192 rfl
            refine g_iconst 1 197 (gd rfl) rfl rfl ?_
            refine g_goto 201 (gd rfl) rfl ?_
            refine g_istore 203 (gd rfl) rfl (Nat.le_of_ble_eq_true rfl) ?_
            refine g_aload_n 204 (gd rfl) rfl rfl ?_
            refine g_getA (q2 := 73) 207 (gd rfl) rfl rfl rfl rfl ?_
            refine g_iload 209 (gd rfl) rfl rfl ?_
            refine g_dup2 210 (gd rfl) rfl rfl rfl ?_
            refine g_iaload 211 (gd rfl) rfl (n := 160) rfl (in_ix i182 rfl) (fun z210 e210 => ?_)
            refine g_iload 213 (gd rfl) rfl rfl ?_
            refine g_if_eq 216 220 (gd rfl) rfl rfl (fun c213 => ?_) (fun c213 => ?_)
            · skip
              exact zn_eq c213 (in_c 1 rfl) rfl
            · skip
              refine g_iload_n 217 (gd rfl) rfl rfl ?_
              refine g_goto 222 (gd rfl) rfl ?_
              refine g_iadd 223 (gd rfl) rfl (fun z222 e222 => ?_)
              refine g_iastore 224 (gd rfl) rfl (n := 160) rfl (in_ix i182 rfl) ?_
              have hI223 := inv_sI (q := 73) (j := z182.toNatClampNeg) hIc158 rfl (in_w (-2147483648) 2147483647 (i_rng z222) rfl)
              refine g_iload 226 (gd rfl) rfl rfl ?_
              refine g_if_eq 229 239 (gd rfl) rfl rfl (fun c226 => ?_) (fun c226 => ?_)
              · skip
                exact zn_eq c226 (in_c 1 rfl) rfl
              · skip
                refine g_aload_n 230 (gd rfl) rfl rfl ?_
                refine g_getA (q2 := 69) 233 (gd rfl) rfl rfl rfl rfl ?_
                refine g_iload 235 (gd rfl) rfl rfl ?_
                refine g_iaload 236 (gd rfl) rfl (n := 160) rfl (in_ix i182 rfl) (fun z235 e235 => ?_)
                have i235 := inv_I hI223 (n := 160) (t := 0) 0 31 rfl (in_ix i182 rfl) rfl e235
                refine g_goto 246 (gd rfl) rfl ?_
                refine g_istore_n 247 (gd rfl) rfl (Nat.le_of_ble_eq_true rfl) ?_
                refine g_iinc 250 (gd rfl) rfl rfl (Nat.le_of_ble_eq_true rfl) (fun z247 e247 => ?_)
                have i247 := in_add 1 32 e247 i162 (in_c 1 rfl) rfl rfl
                refine g_goto 158 (gd rfl) rfl ?_
                have n158 : ∀ (σ : Int) (n : Nat) (r : Nat → Nat), CTP σ n r s (x1).toNatClampNeg → CTX σ n r s (sI sc158 73 z182.toNatClampNeg z222) (x1).toNatClampNeg (z235).toNatClampNeg (z247).toNatClampNeg (y158_2).toInt := by rw [(show (z247).toNatClampNeg = (y158_4).toNatClampNeg + 1 from (by show (z247).toInt.toNat = (y158_4).toInt.toNat + 1; (first | have a0 := in_u h1 | (have a0 := h1; unfold In at a0)); (first | have a1 := in_u i162 | (have a1 := i162; unfold In at a1)); (first | have a2 := in_u j158_3 | (have a2 := j158_3; unfold In at a2)); (first | have a3 := in_u ((in_c 1 rfl)) | (have a3 := (in_c 1 rfl); unfold In at a3)); (first | have a4 := in_u i182 | (have a4 := i182; unfold In at a4)); (first | have a5 := in_u i247 | (have a5 := i247; unfold In at a5)); have a6 := t_add e247 i162 (in_c 1 rfl) rfl; (first | have a7 := in_u i235 | (have a7 := i235; unfold In at a7)); have oc := oc_88_65; omega))]; intro σ n r hC; exact ct_g hC (g158_0 σ n r hC) (hFc158.1 68 rfl) (hFc158.1 69 rfl) e170 i172 e182 e192 c193 e210 e222 e235
                exact gg_w (by first | exact Nat.le_add_right _ _ | exact gw2 | exact gw3 | exact gwe rfl | exact gwf rfl | exact gwg rfl | exact gwh rfl | omega) (gg_f (gf_cons rfl (gf_cons rfl (gf_cons rfl (gf_cons rfl (gf_cons rfl gf_nil))))) (ih158 (sI sc158 73 z182.toNatClampNeg z222) y158_2 z235 z247 hI223 (fr_sI rfl hFc158) (in_w 0 31 i235 rfl) (in_w 0 32 i247 rfl) n158 (m_up mm158 (t_add e247 i162 (in_c 1 rfl) rfl) (in_w 1 1 (in_c 1 rfl) rfl))))
  have ct13 : ∀ (k13 : Nat) (sc13 : GS) (y13_2 : Int32) (y13_3 : Int32) (y13_4 : Int32), Inv sc13 → Fr fm_88_65 s sc13 → (In y13_3 0 31) → (In y13_4 0 32) → (∀ (σ : Int) (n : Nat) (r : Nat → Nat), CTP σ n r s (x1).toNatClampNeg → CTA σ n r s (x1).toNatClampNeg (y13_3).toNatClampNeg (y13_4).toNatClampNeg (y13_2).toInt) → ((sc13).1 73 = s.1 73 ∧ (sc13).1 74 = s.1 74) → 32 - (y13_4).toInt < (k13 : Int) → GG Z (d - 1) 88 post (gx xp) (29702 + k13 * 900) 13 (fun j => xlook j [(0, .ref (A 65)), (1, .int x1), (2, .int y13_2), (3, .int y13_3), (4, .int y13_4)]) [] (WW Z A sc13 ++ ex) 0 0 := by
    intro k13
    induction k13 with
    | zero => intro sc13 y13_2 y13_3 y13_4 hIc13 hFc13 j13_3 j13_4 g13_0 g13_1 mm13; exact m_no mm13 j13_4 rfl
    | succ k13 ih13 =>
      intro sc13 y13_2 y13_3 y13_4 hIc13 hFc13 j13_3 j13_4 g13_0 g13_1 mm13
      refine gg_w (M := 29702 + k13 * 900 + 900) gws ?_
      refine g_iload 15 (gd rfl) rfl rfl ?_
      refine g_bipush 32 17 (gd rfl) rfl rfl ?_
      refine g_cmp_ge 20 122 (gd rfl) rfl rfl (fun c17 => ?_) (fun c17 => ?_)
      · skip
        have i17 := r_le2 32 32 c17 (in_c 32 rfl) j13_4 rfl
        refine g_iload_n 123 (gd rfl) rfl rfl ?_
        refine g_aload_n 124 (gd rfl) rfl rfl ?_
        refine g_getA (q2 := 74) 127 (gd rfl) rfl rfl rfl rfl ?_
        refine g_iload_n 128 (gd rfl) rfl rfl ?_
        refine g_iaload 129 (gd rfl) rfl (n := 32) rfl (in_ix j13_3 rfl) (fun z128 e128 => ?_)
        refine g_calls (As := [.int y13_2, .int z128]) (r := []) 132 (gd rfl) rfl rfl rfl rfl rfl (Nat.le_of_ble_eq_true rfl) (mc := 0) (ms := 0) (Nat.zero_le _) (Nat.zero_le _) (P := fun v u => _) ?_ (fun v u h => h)
        intro po129 xx129 hp129 hx129
        refine g_enter2 (k := 424) (N := 300) (by first | exact dq1 hd rfl | exact dq0 hd rfl | exact dq2 hd rfl | exact dq3 hd rfl | omega) rfl (Nat.le_of_ble_eq_true rfl) ?_
        refine g_iload_n 1 (gd rfl) rfl rfl ?_
        refine g_iload_n 2 (gd rfl) rfl rfl ?_
        refine g_cmp_gt 5 9 (gd rfl) rfl rfl (fun c129x2 => ?_) (fun c129x2 => ?_)
        · skip
          have i129x2 := r_lt1 (-2147483648) 2147483646 c129x2 (i_rng z128) (i_rng y13_2) rfl
          have i129x2a := r_lt2 (-2147483647) 2147483647 c129x2 (i_rng z128) (i_rng y13_2) rfl
          refine g_iload_n 10 (gd rfl) rfl rfl ?_
          refine g_ireturn (gd rfl) rfl rfl (hp129 _ _ ?_)
          show GG _ _ _ _ _ _ _ _ [.int z128] _ _ _
          refine g_istore_n 133 (gd rfl) rfl (Nat.le_of_ble_eq_true rfl) ?_
          refine g_aload_n 134 (gd rfl) rfl rfl ?_
          refine g_getA (q2 := 74) 137 (gd rfl) rfl rfl rfl rfl ?_
          refine g_iload_n 138 (gd rfl) rfl rfl ?_
          refine g_dup2 139 (gd rfl) rfl rfl rfl ?_
          refine g_iaload 140 (gd rfl) rfl (n := 32) rfl (in_ix j13_3 rfl) (fun z139 e139 => ?_)
          have q139 : z128 = z139 := (e128).trans e139.symm
          subst q139
          refine g_iload_n 141 (gd rfl) rfl rfl ?_
          refine g_isub 142 (gd rfl) rfl (fun z141 e141 => ?_)
          refine g_iastore 143 (gd rfl) rfl (n := 32) rfl (in_ix j13_3 rfl) ?_
          have hI142 := inv_sI (q := 74) (j := y13_3.toNatClampNeg) hIc13 rfl (in_w (-2147483648) 2147483647 (i_rng z141) rfl)
          refine g_aload_n 144 (gd rfl) rfl rfl ?_
          refine g_getA (q2 := 74) 147 (gd rfl) rfl rfl rfl rfl ?_
          refine g_iload_n 148 (gd rfl) rfl rfl ?_
          refine g_dup2 149 (gd rfl) rfl rfl rfl ?_
          refine g_iaload 150 (gd rfl) rfl (n := 32) rfl (in_ix h1 rfl) (fun z149 e149 => ?_)
          refine g_iload_n 151 (gd rfl) rfl rfl ?_
          refine g_iadd 152 (gd rfl) rfl (fun z151 e151 => ?_)
          refine g_iastore 153 (gd rfl) rfl (n := 32) rfl (in_ix h1 rfl) ?_
          have hI152 := inv_sI (q := 74) (j := x1.toNatClampNeg) hI142 rfl (in_w (-2147483648) 2147483647 (i_rng z151) rfl)
          refine g_iload_n 154 (gd rfl) rfl rfl ?_
          refine g_istore_n 155 (gd rfl) rfl (Nat.le_of_ble_eq_true rfl) ?_
          refine g_iconst 0 156 (gd rfl) rfl rfl ?_
          refine g_istore 158 (gd rfl) rfl (Nat.le_of_ble_eq_true rfl) ?_
          have n158 : ∀ (σ : Int) (n : Nat) (r : Nat → Nat), CTP σ n r s (x1).toNatClampNeg → CTX σ n r s (sI (sI sc13 74 y13_3.toNatClampNeg z141) 74 x1.toNatClampNeg z151) (x1).toNatClampNeg (x1).toNatClampNeg ((Int32.ofInt 0)).toNatClampNeg (z128).toInt := by intro σ n r hC; exact (show CTX _ _ _ _ _ _ _ 0 _ from ct_e hC (g13_0 σ n r hC) (Or.inr (show 32 ≤ (y13_4).toNatClampNeg from (by show 32 ≤ (y13_4).toInt.toNat; (first | have a0 := in_u h1 | (have a0 := h1; unfold In at a0)); (first | have a1 := in_u i17 | (have a1 := i17; unfold In at a1)); (first | have a2 := in_u j13_3 | (have a2 := j13_3; unfold In at a2)); (first | have a3 := in_u ((in_c 0 rfl)) | (have a3 := (in_c 0 rfl); unfold In at a3)); (first | have a4 := in_u i129x2 | (have a4 := i129x2; unfold In at a4)); have oc := oc_88_65; omega))) g13_1.1 g13_1.2 e128 ⟨by (first | have a0 := in_u h1 | (have a0 := h1; unfold In at a0)); (first | have a1 := in_u i17 | (have a1 := i17; unfold In at a1)); (first | have a2 := in_u j13_3 | (have a2 := j13_3; unfold In at a2)); (first | have a3 := in_u ((in_c 0 rfl)) | (have a3 := (in_c 0 rfl); unfold In at a3)); (first | have a4 := in_u i129x2 | (have a4 := i129x2; unfold In at a4)); have oc := oc_88_65; omega, by (first | have a0 := in_u h1 | (have a0 := h1; unfold In at a0)); (first | have a1 := in_u i17 | (have a1 := i17; unfold In at a1)); (first | have a2 := in_u j13_3 | (have a2 := j13_3; unfold In at a2)); (first | have a3 := in_u ((in_c 0 rfl)) | (have a3 := (in_c 0 rfl); unfold In at a3)); (first | have a4 := in_u i129x2 | (have a4 := i129x2; unfold In at a4)); have oc := oc_88_65; omega, by (first | have a0 := in_u h1 | (have a0 := h1; unfold In at a0)); (first | have a1 := in_u i17 | (have a1 := i17; unfold In at a1)); (first | have a2 := in_u j13_3 | (have a2 := j13_3; unfold In at a2)); (first | have a3 := in_u ((in_c 0 rfl)) | (have a3 := (in_c 0 rfl); unfold In at a3)); (first | have a4 := in_u i129x2 | (have a4 := i129x2; unfold In at a4)); have oc := oc_88_65; omega⟩ e141 e149 e151)
          exact gg_w (by first | exact Nat.le_add_right _ _ | exact gw2 | exact gw3 | exact gwe rfl | exact gwf rfl | exact gwg rfl | exact gwh rfl | omega) (gg_f (gf_cons rfl (gf_cons rfl (gf_cons rfl (gf_cons rfl (gf_cons rfl gf_nil))))) (ct158 33 (sI (sI sc13 74 y13_3.toNatClampNeg z141) 74 x1.toNatClampNeg z151) z128 x1 (Int32.ofInt 0) hI152 (fr_sI rfl (fr_sI rfl hFc13)) (in_w 0 31 h1 rfl) (in_w 0 32 (in_c 0 rfl) rfl) n158 (m_in 33 (in_w 0 32 (in_c 0 rfl) rfl) rfl)))
        · skip
          refine g_iload_n 6 (gd rfl) rfl rfl ?_
          refine g_goto 10 (gd rfl) rfl ?_
          refine g_ireturn (gd rfl) rfl rfl (hp129 _ _ ?_)
          show GG _ _ _ _ _ _ _ _ [.int y13_2] _ _ _
          refine g_istore_n 133 (gd rfl) rfl (Nat.le_of_ble_eq_true rfl) ?_
          refine g_aload_n 134 (gd rfl) rfl rfl ?_
          refine g_getA (q2 := 74) 137 (gd rfl) rfl rfl rfl rfl ?_
          refine g_iload_n 138 (gd rfl) rfl rfl ?_
          refine g_dup2 139 (gd rfl) rfl rfl rfl ?_
          refine g_iaload 140 (gd rfl) rfl (n := 32) rfl (in_ix j13_3 rfl) (fun z139 e139 => ?_)
          have q139 : z128 = z139 := (e128).trans e139.symm
          subst q139
          refine g_iload_n 141 (gd rfl) rfl rfl ?_
          refine g_isub 142 (gd rfl) rfl (fun z141 e141 => ?_)
          refine g_iastore 143 (gd rfl) rfl (n := 32) rfl (in_ix j13_3 rfl) ?_
          have hI142 := inv_sI (q := 74) (j := y13_3.toNatClampNeg) hIc13 rfl (in_w (-2147483648) 2147483647 (i_rng z141) rfl)
          refine g_aload_n 144 (gd rfl) rfl rfl ?_
          refine g_getA (q2 := 74) 147 (gd rfl) rfl rfl rfl rfl ?_
          refine g_iload_n 148 (gd rfl) rfl rfl ?_
          refine g_dup2 149 (gd rfl) rfl rfl rfl ?_
          refine g_iaload 150 (gd rfl) rfl (n := 32) rfl (in_ix h1 rfl) (fun z149 e149 => ?_)
          refine g_iload_n 151 (gd rfl) rfl rfl ?_
          refine g_iadd 152 (gd rfl) rfl (fun z151 e151 => ?_)
          refine g_iastore 153 (gd rfl) rfl (n := 32) rfl (in_ix h1 rfl) ?_
          have hI152 := inv_sI (q := 74) (j := x1.toNatClampNeg) hI142 rfl (in_w (-2147483648) 2147483647 (i_rng z151) rfl)
          refine g_iload_n 154 (gd rfl) rfl rfl ?_
          refine g_istore_n 155 (gd rfl) rfl (Nat.le_of_ble_eq_true rfl) ?_
          refine g_iconst 0 156 (gd rfl) rfl rfl ?_
          refine g_istore 158 (gd rfl) rfl (Nat.le_of_ble_eq_true rfl) ?_
          have n158 : ∀ (σ : Int) (n : Nat) (r : Nat → Nat), CTP σ n r s (x1).toNatClampNeg → CTX σ n r s (sI (sI sc13 74 y13_3.toNatClampNeg z141) 74 x1.toNatClampNeg z151) (x1).toNatClampNeg (x1).toNatClampNeg ((Int32.ofInt 0)).toNatClampNeg (y13_2).toInt := by intro σ n r hC; exact (show CTX _ _ _ _ _ _ _ 0 _ from ct_e hC (g13_0 σ n r hC) (Or.inr (show 32 ≤ (y13_4).toNatClampNeg from (by show 32 ≤ (y13_4).toInt.toNat; (first | have a0 := in_u h1 | (have a0 := h1; unfold In at a0)); (first | have a1 := in_u i17 | (have a1 := i17; unfold In at a1)); (first | have a2 := in_u j13_3 | (have a2 := j13_3; unfold In at a2)); (first | have a3 := in_u ((in_c 0 rfl)) | (have a3 := (in_c 0 rfl); unfold In at a3)); have oc := oc_88_65; omega))) g13_1.1 g13_1.2 e128 ⟨by (first | have a0 := in_u h1 | (have a0 := h1; unfold In at a0)); (first | have a1 := in_u i17 | (have a1 := i17; unfold In at a1)); (first | have a2 := in_u j13_3 | (have a2 := j13_3; unfold In at a2)); (first | have a3 := in_u ((in_c 0 rfl)) | (have a3 := (in_c 0 rfl); unfold In at a3)); have oc := oc_88_65; omega, by (first | have a0 := in_u h1 | (have a0 := h1; unfold In at a0)); (first | have a1 := in_u i17 | (have a1 := i17; unfold In at a1)); (first | have a2 := in_u j13_3 | (have a2 := j13_3; unfold In at a2)); (first | have a3 := in_u ((in_c 0 rfl)) | (have a3 := (in_c 0 rfl); unfold In at a3)); have oc := oc_88_65; omega, by (first | have a0 := in_u h1 | (have a0 := h1; unfold In at a0)); (first | have a1 := in_u i17 | (have a1 := i17; unfold In at a1)); (first | have a2 := in_u j13_3 | (have a2 := j13_3; unfold In at a2)); (first | have a3 := in_u ((in_c 0 rfl)) | (have a3 := (in_c 0 rfl); unfold In at a3)); have oc := oc_88_65; omega⟩ e141 e149 e151)
          exact gg_w (by first | exact Nat.le_add_right _ _ | exact gw2 | exact gw3 | exact gwe rfl | exact gwf rfl | exact gwg rfl | exact gwh rfl | omega) (gg_f (gf_cons rfl (gf_cons rfl (gf_cons rfl (gf_cons rfl (gf_cons rfl gf_nil))))) (ct158 33 (sI (sI sc13 74 y13_3.toNatClampNeg z141) 74 x1.toNatClampNeg z151) y13_2 x1 (Int32.ofInt 0) hI152 (fr_sI rfl (fr_sI rfl hFc13)) (in_w 0 31 h1 rfl) (in_w 0 32 (in_c 0 rfl) rfl) n158 (m_in 33 (in_w 0 32 (in_c 0 rfl) rfl) rfl)))
      · skip
        have i17 := r_lt1 0 31 c17 j13_4 (in_c 32 rfl) rfl
        refine g_aload_n 21 (gd rfl) rfl rfl ?_
        refine g_getA (q2 := 68) 24 (gd rfl) rfl rfl rfl rfl ?_
        refine g_iload_n 25 (gd rfl) rfl rfl ?_
        refine g_iaload 26 (gd rfl) rfl (n := 32) rfl (in_ix j13_3 rfl) (fun z25 e25 => ?_)
        have i25 := inv_I hIc13 (n := 32) (t := 0) (-1) 319 rfl (in_ix j13_3 rfl) rfl e25
        refine g_iconst (-1) 27 (gd rfl) rfl rfl ?_
        refine g_cmp_eq 30 122 (gd rfl) rfl rfl (fun c27 => ?_) (fun c27 => ?_)
        · skip
          have i27 := r_eq1 (-1) (-1) c27 i25 (in_c (-1) rfl) rfl
          refine g_iload_n 123 (gd rfl) rfl rfl ?_
          refine g_aload_n 124 (gd rfl) rfl rfl ?_
          refine g_getA (q2 := 74) 127 (gd rfl) rfl rfl rfl rfl ?_
          refine g_iload_n 128 (gd rfl) rfl rfl ?_
          refine g_iaload 129 (gd rfl) rfl (n := 32) rfl (in_ix j13_3 rfl) (fun z128 e128 => ?_)
          refine g_calls (As := [.int y13_2, .int z128]) (r := []) 132 (gd rfl) rfl rfl rfl rfl rfl (Nat.le_of_ble_eq_true rfl) (mc := 0) (ms := 0) (Nat.zero_le _) (Nat.zero_le _) (P := fun v u => _) ?_ (fun v u h => h)
          intro po129 xx129 hp129 hx129
          refine g_enter2 (k := 424) (N := 300) (by first | exact dq1 hd rfl | exact dq0 hd rfl | exact dq2 hd rfl | exact dq3 hd rfl | omega) rfl (Nat.le_of_ble_eq_true rfl) ?_
          refine g_iload_n 1 (gd rfl) rfl rfl ?_
          refine g_iload_n 2 (gd rfl) rfl rfl ?_
          refine g_cmp_gt 5 9 (gd rfl) rfl rfl (fun c129x2 => ?_) (fun c129x2 => ?_)
          · skip
            have i129x2 := r_lt1 (-2147483648) 2147483646 c129x2 (i_rng z128) (i_rng y13_2) rfl
            have i129x2a := r_lt2 (-2147483647) 2147483647 c129x2 (i_rng z128) (i_rng y13_2) rfl
            refine g_iload_n 10 (gd rfl) rfl rfl ?_
            refine g_ireturn (gd rfl) rfl rfl (hp129 _ _ ?_)
            show GG _ _ _ _ _ _ _ _ [.int z128] _ _ _
            refine g_istore_n 133 (gd rfl) rfl (Nat.le_of_ble_eq_true rfl) ?_
            refine g_aload_n 134 (gd rfl) rfl rfl ?_
            refine g_getA (q2 := 74) 137 (gd rfl) rfl rfl rfl rfl ?_
            refine g_iload_n 138 (gd rfl) rfl rfl ?_
            refine g_dup2 139 (gd rfl) rfl rfl rfl ?_
            refine g_iaload 140 (gd rfl) rfl (n := 32) rfl (in_ix j13_3 rfl) (fun z139 e139 => ?_)
            have q139 : z128 = z139 := (e128).trans e139.symm
            subst q139
            refine g_iload_n 141 (gd rfl) rfl rfl ?_
            refine g_isub 142 (gd rfl) rfl (fun z141 e141 => ?_)
            refine g_iastore 143 (gd rfl) rfl (n := 32) rfl (in_ix j13_3 rfl) ?_
            have hI142 := inv_sI (q := 74) (j := y13_3.toNatClampNeg) hIc13 rfl (in_w (-2147483648) 2147483647 (i_rng z141) rfl)
            refine g_aload_n 144 (gd rfl) rfl rfl ?_
            refine g_getA (q2 := 74) 147 (gd rfl) rfl rfl rfl rfl ?_
            refine g_iload_n 148 (gd rfl) rfl rfl ?_
            refine g_dup2 149 (gd rfl) rfl rfl rfl ?_
            refine g_iaload 150 (gd rfl) rfl (n := 32) rfl (in_ix h1 rfl) (fun z149 e149 => ?_)
            refine g_iload_n 151 (gd rfl) rfl rfl ?_
            refine g_iadd 152 (gd rfl) rfl (fun z151 e151 => ?_)
            refine g_iastore 153 (gd rfl) rfl (n := 32) rfl (in_ix h1 rfl) ?_
            have hI152 := inv_sI (q := 74) (j := x1.toNatClampNeg) hI142 rfl (in_w (-2147483648) 2147483647 (i_rng z151) rfl)
            refine g_iload_n 154 (gd rfl) rfl rfl ?_
            refine g_istore_n 155 (gd rfl) rfl (Nat.le_of_ble_eq_true rfl) ?_
            refine g_iconst 0 156 (gd rfl) rfl rfl ?_
            refine g_istore 158 (gd rfl) rfl (Nat.le_of_ble_eq_true rfl) ?_
            have n158 : ∀ (σ : Int) (n : Nat) (r : Nat → Nat), CTP σ n r s (x1).toNatClampNeg → CTX σ n r s (sI (sI sc13 74 y13_3.toNatClampNeg z141) 74 x1.toNatClampNeg z151) (x1).toNatClampNeg (x1).toNatClampNeg ((Int32.ofInt 0)).toNatClampNeg (z128).toInt := by intro σ n r hC; exact (show CTX _ _ _ _ _ _ _ 0 _ from ct_e hC (g13_0 σ n r hC) (Or.inl (show viC s (y13_3).toNatClampNeg = -1 from (ct_vi (hFc13.1 68 rfl) e25).trans c27)) g13_1.1 g13_1.2 e128 ⟨by (first | have a0 := in_u h1 | (have a0 := h1; unfold In at a0)); (first | have a1 := in_u i17 | (have a1 := i17; unfold In at a1)); (first | have a2 := in_u j13_3 | (have a2 := j13_3; unfold In at a2)); (first | have a3 := in_u ((in_c 0 rfl)) | (have a3 := (in_c 0 rfl); unfold In at a3)); (first | have a4 := in_u i129x2 | (have a4 := i129x2; unfold In at a4)); have oc := oc_88_65; omega, by (first | have a0 := in_u h1 | (have a0 := h1; unfold In at a0)); (first | have a1 := in_u i17 | (have a1 := i17; unfold In at a1)); (first | have a2 := in_u j13_3 | (have a2 := j13_3; unfold In at a2)); (first | have a3 := in_u ((in_c 0 rfl)) | (have a3 := (in_c 0 rfl); unfold In at a3)); (first | have a4 := in_u i129x2 | (have a4 := i129x2; unfold In at a4)); have oc := oc_88_65; omega, by (first | have a0 := in_u h1 | (have a0 := h1; unfold In at a0)); (first | have a1 := in_u i17 | (have a1 := i17; unfold In at a1)); (first | have a2 := in_u j13_3 | (have a2 := j13_3; unfold In at a2)); (first | have a3 := in_u ((in_c 0 rfl)) | (have a3 := (in_c 0 rfl); unfold In at a3)); (first | have a4 := in_u i129x2 | (have a4 := i129x2; unfold In at a4)); have oc := oc_88_65; omega⟩ e141 e149 e151)
            exact gg_w (by first | exact Nat.le_add_right _ _ | exact gw2 | exact gw3 | exact gwe rfl | exact gwf rfl | exact gwg rfl | exact gwh rfl | omega) (gg_f (gf_cons rfl (gf_cons rfl (gf_cons rfl (gf_cons rfl (gf_cons rfl gf_nil))))) (ct158 33 (sI (sI sc13 74 y13_3.toNatClampNeg z141) 74 x1.toNatClampNeg z151) z128 x1 (Int32.ofInt 0) hI152 (fr_sI rfl (fr_sI rfl hFc13)) (in_w 0 31 h1 rfl) (in_w 0 32 (in_c 0 rfl) rfl) n158 (m_in 33 (in_w 0 32 (in_c 0 rfl) rfl) rfl)))
          · skip
            refine g_iload_n 6 (gd rfl) rfl rfl ?_
            refine g_goto 10 (gd rfl) rfl ?_
            refine g_ireturn (gd rfl) rfl rfl (hp129 _ _ ?_)
            show GG _ _ _ _ _ _ _ _ [.int y13_2] _ _ _
            refine g_istore_n 133 (gd rfl) rfl (Nat.le_of_ble_eq_true rfl) ?_
            refine g_aload_n 134 (gd rfl) rfl rfl ?_
            refine g_getA (q2 := 74) 137 (gd rfl) rfl rfl rfl rfl ?_
            refine g_iload_n 138 (gd rfl) rfl rfl ?_
            refine g_dup2 139 (gd rfl) rfl rfl rfl ?_
            refine g_iaload 140 (gd rfl) rfl (n := 32) rfl (in_ix j13_3 rfl) (fun z139 e139 => ?_)
            have q139 : z128 = z139 := (e128).trans e139.symm
            subst q139
            refine g_iload_n 141 (gd rfl) rfl rfl ?_
            refine g_isub 142 (gd rfl) rfl (fun z141 e141 => ?_)
            refine g_iastore 143 (gd rfl) rfl (n := 32) rfl (in_ix j13_3 rfl) ?_
            have hI142 := inv_sI (q := 74) (j := y13_3.toNatClampNeg) hIc13 rfl (in_w (-2147483648) 2147483647 (i_rng z141) rfl)
            refine g_aload_n 144 (gd rfl) rfl rfl ?_
            refine g_getA (q2 := 74) 147 (gd rfl) rfl rfl rfl rfl ?_
            refine g_iload_n 148 (gd rfl) rfl rfl ?_
            refine g_dup2 149 (gd rfl) rfl rfl rfl ?_
            refine g_iaload 150 (gd rfl) rfl (n := 32) rfl (in_ix h1 rfl) (fun z149 e149 => ?_)
            refine g_iload_n 151 (gd rfl) rfl rfl ?_
            refine g_iadd 152 (gd rfl) rfl (fun z151 e151 => ?_)
            refine g_iastore 153 (gd rfl) rfl (n := 32) rfl (in_ix h1 rfl) ?_
            have hI152 := inv_sI (q := 74) (j := x1.toNatClampNeg) hI142 rfl (in_w (-2147483648) 2147483647 (i_rng z151) rfl)
            refine g_iload_n 154 (gd rfl) rfl rfl ?_
            refine g_istore_n 155 (gd rfl) rfl (Nat.le_of_ble_eq_true rfl) ?_
            refine g_iconst 0 156 (gd rfl) rfl rfl ?_
            refine g_istore 158 (gd rfl) rfl (Nat.le_of_ble_eq_true rfl) ?_
            have n158 : ∀ (σ : Int) (n : Nat) (r : Nat → Nat), CTP σ n r s (x1).toNatClampNeg → CTX σ n r s (sI (sI sc13 74 y13_3.toNatClampNeg z141) 74 x1.toNatClampNeg z151) (x1).toNatClampNeg (x1).toNatClampNeg ((Int32.ofInt 0)).toNatClampNeg (y13_2).toInt := by intro σ n r hC; exact (show CTX _ _ _ _ _ _ _ 0 _ from ct_e hC (g13_0 σ n r hC) (Or.inl (show viC s (y13_3).toNatClampNeg = -1 from (ct_vi (hFc13.1 68 rfl) e25).trans c27)) g13_1.1 g13_1.2 e128 ⟨by (first | have a0 := in_u h1 | (have a0 := h1; unfold In at a0)); (first | have a1 := in_u i17 | (have a1 := i17; unfold In at a1)); (first | have a2 := in_u j13_3 | (have a2 := j13_3; unfold In at a2)); (first | have a3 := in_u ((in_c 0 rfl)) | (have a3 := (in_c 0 rfl); unfold In at a3)); have oc := oc_88_65; omega, by (first | have a0 := in_u h1 | (have a0 := h1; unfold In at a0)); (first | have a1 := in_u i17 | (have a1 := i17; unfold In at a1)); (first | have a2 := in_u j13_3 | (have a2 := j13_3; unfold In at a2)); (first | have a3 := in_u ((in_c 0 rfl)) | (have a3 := (in_c 0 rfl); unfold In at a3)); have oc := oc_88_65; omega, by (first | have a0 := in_u h1 | (have a0 := h1; unfold In at a0)); (first | have a1 := in_u i17 | (have a1 := i17; unfold In at a1)); (first | have a2 := in_u j13_3 | (have a2 := j13_3; unfold In at a2)); (first | have a3 := in_u ((in_c 0 rfl)) | (have a3 := (in_c 0 rfl); unfold In at a3)); have oc := oc_88_65; omega⟩ e141 e149 e151)
            exact gg_w (by first | exact Nat.le_add_right _ _ | exact gw2 | exact gw3 | exact gwe rfl | exact gwf rfl | exact gwg rfl | exact gwh rfl | omega) (gg_f (gf_cons rfl (gf_cons rfl (gf_cons rfl (gf_cons rfl (gf_cons rfl gf_nil))))) (ct158 33 (sI (sI sc13 74 y13_3.toNatClampNeg z141) 74 x1.toNatClampNeg z151) y13_2 x1 (Int32.ofInt 0) hI152 (fr_sI rfl (fr_sI rfl hFc13)) (in_w 0 31 h1 rfl) (in_w 0 32 (in_c 0 rfl) rfl) n158 (m_in 33 (in_w 0 32 (in_c 0 rfl) rfl) rfl)))
        · skip
          have i27 := r_ne1 0 319 c27 i25 (in_c (-1) rfl) rfl
          refine g_aload_n 31 (gd rfl) rfl rfl ?_
          refine g_getA (q2 := 68) 34 (gd rfl) rfl rfl rfl rfl ?_
          refine g_iload_n 35 (gd rfl) rfl rfl ?_
          refine g_iaload 36 (gd rfl) rfl (n := 32) rfl (in_ix j13_3 rfl) (fun z35 e35 => ?_)
          have q35 : z25 = z35 := (e25).trans e35.symm
          subst q35
          refine g_iconst 1 37 (gd rfl) rfl rfl ?_
          refine g_ishr 38 (gd rfl) rfl (fun z37 e37 => ?_)
          have i37 := in_shrc 1 0 159 e37 i27 rfl rfl
          refine g_istore 40 (gd rfl) rfl (Nat.le_of_ble_eq_true rfl) ?_
          refine g_aload_n 41 (gd rfl) rfl rfl ?_
          refine g_getA (q2 := 68) 44 (gd rfl) rfl rfl rfl rfl ?_
          refine g_iload_n 45 (gd rfl) rfl rfl ?_
          refine g_iaload 46 (gd rfl) rfl (n := 32) rfl (in_ix j13_3 rfl) (fun z45 e45 => ?_)
          have q45 : z25 = z45 := (e25).trans e45.symm
          subst q45
          refine g_iconst 1 47 (gd rfl) rfl rfl ?_
          refine g_iand 48 (gd rfl) rfl (fun z47 e47 => ?_)
          have i47 := in_and2 e47 (in_c 1 rfl) rfl
          refine g_if_ne 51 55 (gd rfl) rfl rfl (fun c48 => ?_) (fun c48 => ?_)
          · skip
            have i48 := z_ne 1 1 c48 i47 rfl
            refine g_iconst 0 56 (gd rfl) rfl rfl ?_
            refine g_istore 58 (gd rfl) rfl (Nat.le_of_ble_eq_true rfl) ?_
            refine g_iload_n 59 (gd rfl) rfl rfl ?_
            refine g_iload 61 (gd rfl) rfl rfl ?_
            refine g_if_eq 64 82 (gd rfl) rfl rfl (fun c61 => ?_) (fun c61 => ?_)
            · skip
              refine g_aload_n 83 (gd rfl) rfl rfl ?_
              refine g_getA (q2 := 73) 86 (gd rfl) rfl rfl rfl rfl ?_
              refine g_iload 88 (gd rfl) rfl rfl ?_
              refine g_iaload 89 (gd rfl) rfl (n := 160) rfl (in_ix i37 rfl) (fun z88 e88 => ?_)
              refine g_calls (As := [.int y13_2, .int z88]) (r := []) 92 (gd rfl) rfl rfl rfl rfl rfl (Nat.le_of_ble_eq_true rfl) (mc := 0) (ms := 0) (Nat.zero_le _) (Nat.zero_le _) (P := fun v u => _) ?_ (fun v u h => h)
              intro po89 xx89 hp89 hx89
              refine g_enter2 (k := 424) (N := 300) (by first | exact dq1 hd rfl | exact dq0 hd rfl | exact dq2 hd rfl | exact dq3 hd rfl | omega) rfl (Nat.le_of_ble_eq_true rfl) ?_
              refine g_iload_n 1 (gd rfl) rfl rfl ?_
              refine g_iload_n 2 (gd rfl) rfl rfl ?_
              refine g_cmp_gt 5 9 (gd rfl) rfl rfl (fun c89x2 => ?_) (fun c89x2 => ?_)
              · skip
                have i89x2 := r_lt1 (-2147483648) 2147483646 c89x2 (i_rng z88) (i_rng y13_2) rfl
                have i89x2a := r_lt2 (-2147483647) 2147483647 c89x2 (i_rng z88) (i_rng y13_2) rfl
                refine g_iload_n 10 (gd rfl) rfl rfl ?_
                refine g_ireturn (gd rfl) rfl rfl (hp89 _ _ ?_)
                show GG _ _ _ _ _ _ _ _ [.int z88] _ _ _
                refine g_istore_n 93 (gd rfl) rfl (Nat.le_of_ble_eq_true rfl) ?_
                refine g_iload 95 (gd rfl) rfl rfl ?_
                refine g_if_eq 98 108 (gd rfl) rfl rfl (fun c95 => ?_) (fun c95 => ?_)
                · skip
                  refine g_aload_n 109 (gd rfl) rfl rfl ?_
                  refine g_getA (q2 := 70) 112 (gd rfl) rfl rfl rfl rfl ?_
                  refine g_iload 114 (gd rfl) rfl rfl ?_
                  refine g_iaload 115 (gd rfl) rfl (n := 160) rfl (in_ix i37 rfl) (fun z114 e114 => ?_)
                  have i114 := inv_I hIc13 (n := 160) (t := 0) 0 31 rfl (in_ix i37 rfl) rfl e114
                  refine g_istore_n 116 (gd rfl) rfl (Nat.le_of_ble_eq_true rfl) ?_
                  refine g_iinc 119 (gd rfl) rfl rfl (Nat.le_of_ble_eq_true rfl) (fun z116 e116 => ?_)
                  have i116 := in_add 1 32 e116 i17 (in_c 1 rfl) rfl rfl
                  refine g_goto 13 (gd rfl) rfl ?_
                  have n13 : ∀ (σ : Int) (n : Nat) (r : Nat → Nat), CTP σ n r s (x1).toNatClampNeg → CTA σ n r s (x1).toNatClampNeg (z114).toNatClampNeg (z116).toNatClampNeg (z88).toInt := by rw [(show (z116).toNatClampNeg = (y13_4).toNatClampNeg + 1 from (by show (z116).toInt.toNat = (y13_4).toInt.toNat + 1; (first | have a0 := in_u h1 | (have a0 := h1; unfold In at a0)); (first | have a1 := in_u i17 | (have a1 := i17; unfold In at a1)); (first | have a2 := in_u j13_3 | (have a2 := j13_3; unfold In at a2)); (first | have a3 := in_u ((in_c 0 rfl)) | (have a3 := (in_c 0 rfl); unfold In at a3)); (first | have a4 := in_u i37 | (have a4 := i37; unfold In at a4)); (first | have a5 := in_u i116 | (have a5 := i116; unfold In at a5)); have a6 := t_add e116 i17 (in_c 1 rfl) rfl; (first | have a7 := in_u ((in_c 1 rfl)) | (have a7 := (in_c 1 rfl); unfold In at a7)); (first | have a8 := in_u i114 | (have a8 := i114; unfold In at a8)); (first | have a9 := in_u i89x2 | (have a9 := i89x2; unfold In at a9)); have oc := oc_88_65; omega))]; intro σ n r hC; exact ct_f2 hC (g13_0 σ n r hC) (hFc13.1 68 rfl) (hFc13.1 70 rfl) g13_1.1 e25 i27 e37 e47 c48 e88 e114 ⟨by (first | have a0 := in_u h1 | (have a0 := h1; unfold In at a0)); (first | have a1 := in_u i17 | (have a1 := i17; unfold In at a1)); (first | have a2 := in_u j13_3 | (have a2 := j13_3; unfold In at a2)); (first | have a3 := in_u ((in_c 0 rfl)) | (have a3 := (in_c 0 rfl); unfold In at a3)); (first | have a4 := in_u i37 | (have a4 := i37; unfold In at a4)); (first | have a5 := in_u i116 | (have a5 := i116; unfold In at a5)); have a6 := t_add e116 i17 (in_c 1 rfl) rfl; (first | have a7 := in_u ((in_c 1 rfl)) | (have a7 := (in_c 1 rfl); unfold In at a7)); (first | have a8 := in_u i114 | (have a8 := i114; unfold In at a8)); (first | have a9 := in_u i89x2 | (have a9 := i89x2; unfold In at a9)); have oc := oc_88_65; omega, by (first | have a0 := in_u h1 | (have a0 := h1; unfold In at a0)); (first | have a1 := in_u i17 | (have a1 := i17; unfold In at a1)); (first | have a2 := in_u j13_3 | (have a2 := j13_3; unfold In at a2)); (first | have a3 := in_u ((in_c 0 rfl)) | (have a3 := (in_c 0 rfl); unfold In at a3)); (first | have a4 := in_u i37 | (have a4 := i37; unfold In at a4)); (first | have a5 := in_u i116 | (have a5 := i116; unfold In at a5)); have a6 := t_add e116 i17 (in_c 1 rfl) rfl; (first | have a7 := in_u ((in_c 1 rfl)) | (have a7 := (in_c 1 rfl); unfold In at a7)); (first | have a8 := in_u i114 | (have a8 := i114; unfold In at a8)); (first | have a9 := in_u i89x2 | (have a9 := i89x2; unfold In at a9)); have oc := oc_88_65; omega, by (first | have a0 := in_u h1 | (have a0 := h1; unfold In at a0)); (first | have a1 := in_u i17 | (have a1 := i17; unfold In at a1)); (first | have a2 := in_u j13_3 | (have a2 := j13_3; unfold In at a2)); (first | have a3 := in_u ((in_c 0 rfl)) | (have a3 := (in_c 0 rfl); unfold In at a3)); (first | have a4 := in_u i37 | (have a4 := i37; unfold In at a4)); (first | have a5 := in_u i116 | (have a5 := i116; unfold In at a5)); have a6 := t_add e116 i17 (in_c 1 rfl) rfl; (first | have a7 := in_u ((in_c 1 rfl)) | (have a7 := (in_c 1 rfl); unfold In at a7)); (first | have a8 := in_u i114 | (have a8 := i114; unfold In at a8)); (first | have a9 := in_u i89x2 | (have a9 := i89x2; unfold In at a9)); have oc := oc_88_65; omega⟩
                  have n13a : (sc13).1 73 = s.1 73 ∧ (sc13).1 74 = s.1 74 := by exact g13_1
                  exact gg_w (by first | exact Nat.le_add_right _ _ | exact gw2 | exact gw3 | exact gwe rfl | exact gwf rfl | exact gwg rfl | exact gwh rfl | omega) (gg_f (gf_cons rfl (gf_cons rfl (gf_cons rfl (gf_cons rfl (gf_cons rfl gf_nil))))) (ih13 sc13 z88 z114 z116 hIc13 hFc13 (in_w 0 31 i114 rfl) (in_w 0 32 i116 rfl) n13 n13a (m_up mm13 (t_add e116 i17 (in_c 1 rfl) rfl) (in_w 1 1 (in_c 1 rfl) rfl))))
                · skip
                  exact zn_ne c95 (in_c 0 rfl) rfl
              · skip
                refine g_iload_n 6 (gd rfl) rfl rfl ?_
                refine g_goto 10 (gd rfl) rfl ?_
                refine g_ireturn (gd rfl) rfl rfl (hp89 _ _ ?_)
                show GG _ _ _ _ _ _ _ _ [.int y13_2] _ _ _
                refine g_istore_n 93 (gd rfl) rfl (Nat.le_of_ble_eq_true rfl) ?_
                refine g_iload 95 (gd rfl) rfl rfl ?_
                refine g_if_eq 98 108 (gd rfl) rfl rfl (fun c95 => ?_) (fun c95 => ?_)
                · skip
                  refine g_aload_n 109 (gd rfl) rfl rfl ?_
                  refine g_getA (q2 := 70) 112 (gd rfl) rfl rfl rfl rfl ?_
                  refine g_iload 114 (gd rfl) rfl rfl ?_
                  refine g_iaload 115 (gd rfl) rfl (n := 160) rfl (in_ix i37 rfl) (fun z114 e114 => ?_)
                  have i114 := inv_I hIc13 (n := 160) (t := 0) 0 31 rfl (in_ix i37 rfl) rfl e114
                  refine g_istore_n 116 (gd rfl) rfl (Nat.le_of_ble_eq_true rfl) ?_
                  refine g_iinc 119 (gd rfl) rfl rfl (Nat.le_of_ble_eq_true rfl) (fun z116 e116 => ?_)
                  have i116 := in_add 1 32 e116 i17 (in_c 1 rfl) rfl rfl
                  refine g_goto 13 (gd rfl) rfl ?_
                  have n13 : ∀ (σ : Int) (n : Nat) (r : Nat → Nat), CTP σ n r s (x1).toNatClampNeg → CTA σ n r s (x1).toNatClampNeg (z114).toNatClampNeg (z116).toNatClampNeg (y13_2).toInt := by rw [(show (z116).toNatClampNeg = (y13_4).toNatClampNeg + 1 from (by show (z116).toInt.toNat = (y13_4).toInt.toNat + 1; (first | have a0 := in_u h1 | (have a0 := h1; unfold In at a0)); (first | have a1 := in_u i17 | (have a1 := i17; unfold In at a1)); (first | have a2 := in_u j13_3 | (have a2 := j13_3; unfold In at a2)); (first | have a3 := in_u ((in_c 0 rfl)) | (have a3 := (in_c 0 rfl); unfold In at a3)); (first | have a4 := in_u i37 | (have a4 := i37; unfold In at a4)); (first | have a5 := in_u i116 | (have a5 := i116; unfold In at a5)); have a6 := t_add e116 i17 (in_c 1 rfl) rfl; (first | have a7 := in_u ((in_c 1 rfl)) | (have a7 := (in_c 1 rfl); unfold In at a7)); (first | have a8 := in_u i114 | (have a8 := i114; unfold In at a8)); have oc := oc_88_65; omega))]; intro σ n r hC; exact ct_f2 hC (g13_0 σ n r hC) (hFc13.1 68 rfl) (hFc13.1 70 rfl) g13_1.1 e25 i27 e37 e47 c48 e88 e114 ⟨by (first | have a0 := in_u h1 | (have a0 := h1; unfold In at a0)); (first | have a1 := in_u i17 | (have a1 := i17; unfold In at a1)); (first | have a2 := in_u j13_3 | (have a2 := j13_3; unfold In at a2)); (first | have a3 := in_u ((in_c 0 rfl)) | (have a3 := (in_c 0 rfl); unfold In at a3)); (first | have a4 := in_u i37 | (have a4 := i37; unfold In at a4)); (first | have a5 := in_u i116 | (have a5 := i116; unfold In at a5)); have a6 := t_add e116 i17 (in_c 1 rfl) rfl; (first | have a7 := in_u ((in_c 1 rfl)) | (have a7 := (in_c 1 rfl); unfold In at a7)); (first | have a8 := in_u i114 | (have a8 := i114; unfold In at a8)); have oc := oc_88_65; omega, by (first | have a0 := in_u h1 | (have a0 := h1; unfold In at a0)); (first | have a1 := in_u i17 | (have a1 := i17; unfold In at a1)); (first | have a2 := in_u j13_3 | (have a2 := j13_3; unfold In at a2)); (first | have a3 := in_u ((in_c 0 rfl)) | (have a3 := (in_c 0 rfl); unfold In at a3)); (first | have a4 := in_u i37 | (have a4 := i37; unfold In at a4)); (first | have a5 := in_u i116 | (have a5 := i116; unfold In at a5)); have a6 := t_add e116 i17 (in_c 1 rfl) rfl; (first | have a7 := in_u ((in_c 1 rfl)) | (have a7 := (in_c 1 rfl); unfold In at a7)); (first | have a8 := in_u i114 | (have a8 := i114; unfold In at a8)); have oc := oc_88_65; omega, by (first | have a0 := in_u h1 | (have a0 := h1; unfold In at a0)); (first | have a1 := in_u i17 | (have a1 := i17; unfold In at a1)); (first | have a2 := in_u j13_3 | (have a2 := j13_3; unfold In at a2)); (first | have a3 := in_u ((in_c 0 rfl)) | (have a3 := (in_c 0 rfl); unfold In at a3)); (first | have a4 := in_u i37 | (have a4 := i37; unfold In at a4)); (first | have a5 := in_u i116 | (have a5 := i116; unfold In at a5)); have a6 := t_add e116 i17 (in_c 1 rfl) rfl; (first | have a7 := in_u ((in_c 1 rfl)) | (have a7 := (in_c 1 rfl); unfold In at a7)); (first | have a8 := in_u i114 | (have a8 := i114; unfold In at a8)); have oc := oc_88_65; omega⟩
                  have n13a : (sc13).1 73 = s.1 73 ∧ (sc13).1 74 = s.1 74 := by exact g13_1
                  exact gg_w (by first | exact Nat.le_add_right _ _ | exact gw2 | exact gw3 | exact gwe rfl | exact gwf rfl | exact gwg rfl | exact gwh rfl | omega) (gg_f (gf_cons rfl (gf_cons rfl (gf_cons rfl (gf_cons rfl (gf_cons rfl gf_nil))))) (ih13 sc13 y13_2 z114 z116 hIc13 hFc13 (in_w 0 31 i114 rfl) (in_w 0 32 i116 rfl) n13 n13a (m_up mm13 (t_add e116 i17 (in_c 1 rfl) rfl) (in_w 1 1 (in_c 1 rfl) rfl))))
                · skip
                  exact zn_ne c95 (in_c 0 rfl) rfl
            · skip
              exact zn_ne c61 (in_c 0 rfl) rfl
          · skip
            have i48 := z_eq 0 0 c48 i47 rfl
            refine g_iconst 1 52 (gd rfl) rfl rfl ?_
            refine g_goto 56 (gd rfl) rfl ?_
            refine g_istore 58 (gd rfl) rfl (Nat.le_of_ble_eq_true rfl) ?_
            refine g_iload_n 59 (gd rfl) rfl rfl ?_
            refine g_iload 61 (gd rfl) rfl rfl ?_
            refine g_if_eq 64 82 (gd rfl) rfl rfl (fun c61 => ?_) (fun c61 => ?_)
            · skip
              exact zn_eq c61 (in_c 1 rfl) rfl
            · skip
              refine g_aload_n 65 (gd rfl) rfl rfl ?_
              refine g_getA (q2 := 72) 68 (gd rfl) rfl rfl rfl rfl ?_
              refine g_iload 70 (gd rfl) rfl rfl ?_
              refine g_iaload 71 (gd rfl) rfl (n := 160) rfl (in_ix i37 rfl) (fun z70 e70 => ?_)
              have i70 := inv_I hIc13 (n := 160) (t := 0) 0 1000000 rfl (in_ix i37 rfl) rfl e70
              refine g_aload_n 72 (gd rfl) rfl rfl ?_
              refine g_getA (q2 := 73) 75 (gd rfl) rfl rfl rfl rfl ?_
              refine g_iload 77 (gd rfl) rfl rfl ?_
              refine g_iaload 78 (gd rfl) rfl (n := 160) rfl (in_ix i37 rfl) (fun z77 e77 => ?_)
              refine g_isub 79 (gd rfl) rfl (fun z78 e78 => ?_)
              refine g_goto 89 (gd rfl) rfl ?_
              refine g_calls (As := [.int y13_2, .int z78]) (r := []) 92 (gd rfl) rfl rfl rfl rfl rfl (Nat.le_of_ble_eq_true rfl) (mc := 0) (ms := 0) (Nat.zero_le _) (Nat.zero_le _) (P := fun v u => _) ?_ (fun v u h => h)
              intro po89 xx89 hp89 hx89
              refine g_enter2 (k := 424) (N := 300) (by first | exact dq1 hd rfl | exact dq0 hd rfl | exact dq2 hd rfl | exact dq3 hd rfl | omega) rfl (Nat.le_of_ble_eq_true rfl) ?_
              refine g_iload_n 1 (gd rfl) rfl rfl ?_
              refine g_iload_n 2 (gd rfl) rfl rfl ?_
              refine g_cmp_gt 5 9 (gd rfl) rfl rfl (fun c89x2 => ?_) (fun c89x2 => ?_)
              · skip
                have i89x2 := r_lt1 (-2147483648) 2147483646 c89x2 (i_rng z78) (i_rng y13_2) rfl
                have i89x2a := r_lt2 (-2147483647) 2147483647 c89x2 (i_rng z78) (i_rng y13_2) rfl
                refine g_iload_n 10 (gd rfl) rfl rfl ?_
                refine g_ireturn (gd rfl) rfl rfl (hp89 _ _ ?_)
                show GG _ _ _ _ _ _ _ _ [.int z78] _ _ _
                refine g_istore_n 93 (gd rfl) rfl (Nat.le_of_ble_eq_true rfl) ?_
                refine g_iload 95 (gd rfl) rfl rfl ?_
                refine g_if_eq 98 108 (gd rfl) rfl rfl (fun c95 => ?_) (fun c95 => ?_)
                · skip
                  exact zn_eq c95 (in_c 1 rfl) rfl
                · skip
                  refine g_aload_n 99 (gd rfl) rfl rfl ?_
                  refine g_getA (q2 := 69) 102 (gd rfl) rfl rfl rfl rfl ?_
                  refine g_iload 104 (gd rfl) rfl rfl ?_
                  refine g_iaload 105 (gd rfl) rfl (n := 160) rfl (in_ix i37 rfl) (fun z104 e104 => ?_)
                  have i104 := inv_I hIc13 (n := 160) (t := 0) 0 31 rfl (in_ix i37 rfl) rfl e104
                  refine g_goto 115 (gd rfl) rfl ?_
                  refine g_istore_n 116 (gd rfl) rfl (Nat.le_of_ble_eq_true rfl) ?_
                  refine g_iinc 119 (gd rfl) rfl rfl (Nat.le_of_ble_eq_true rfl) (fun z116 e116 => ?_)
                  have i116 := in_add 1 32 e116 i17 (in_c 1 rfl) rfl rfl
                  refine g_goto 13 (gd rfl) rfl ?_
                  have n13 : ∀ (σ : Int) (n : Nat) (r : Nat → Nat), CTP σ n r s (x1).toNatClampNeg → CTA σ n r s (x1).toNatClampNeg (z104).toNatClampNeg (z116).toNatClampNeg (z78).toInt := by rw [(show (z116).toNatClampNeg = (y13_4).toNatClampNeg + 1 from (by show (z116).toInt.toNat = (y13_4).toInt.toNat + 1; (first | have a0 := in_u h1 | (have a0 := h1; unfold In at a0)); (first | have a1 := in_u i17 | (have a1 := i17; unfold In at a1)); (first | have a2 := in_u j13_3 | (have a2 := j13_3; unfold In at a2)); (first | have a3 := in_u ((in_c 1 rfl)) | (have a3 := (in_c 1 rfl); unfold In at a3)); (first | have a4 := in_u i37 | (have a4 := i37; unfold In at a4)); (first | have a5 := in_u i116 | (have a5 := i116; unfold In at a5)); have a6 := t_add e116 i17 (in_c 1 rfl) rfl; (first | have a7 := in_u i104 | (have a7 := i104; unfold In at a7)); (first | have a8 := in_u i89x2 | (have a8 := i89x2; unfold In at a8)); have oc := oc_88_65; omega))]; intro σ n r hC; exact ct_f hC (g13_0 σ n r hC) (hFc13.1 68 rfl) (hFc13.1 69 rfl) (hFc13.1 72 rfl) g13_1.1 e25 i27 e37 e47 c48 e70 e77 e78 e104 ⟨by (first | have a0 := in_u h1 | (have a0 := h1; unfold In at a0)); (first | have a1 := in_u i17 | (have a1 := i17; unfold In at a1)); (first | have a2 := in_u j13_3 | (have a2 := j13_3; unfold In at a2)); (first | have a3 := in_u ((in_c 1 rfl)) | (have a3 := (in_c 1 rfl); unfold In at a3)); (first | have a4 := in_u i37 | (have a4 := i37; unfold In at a4)); (first | have a5 := in_u i116 | (have a5 := i116; unfold In at a5)); have a6 := t_add e116 i17 (in_c 1 rfl) rfl; (first | have a7 := in_u i104 | (have a7 := i104; unfold In at a7)); (first | have a8 := in_u i89x2 | (have a8 := i89x2; unfold In at a8)); have oc := oc_88_65; omega, by (first | have a0 := in_u h1 | (have a0 := h1; unfold In at a0)); (first | have a1 := in_u i17 | (have a1 := i17; unfold In at a1)); (first | have a2 := in_u j13_3 | (have a2 := j13_3; unfold In at a2)); (first | have a3 := in_u ((in_c 1 rfl)) | (have a3 := (in_c 1 rfl); unfold In at a3)); (first | have a4 := in_u i37 | (have a4 := i37; unfold In at a4)); (first | have a5 := in_u i116 | (have a5 := i116; unfold In at a5)); have a6 := t_add e116 i17 (in_c 1 rfl) rfl; (first | have a7 := in_u i104 | (have a7 := i104; unfold In at a7)); (first | have a8 := in_u i89x2 | (have a8 := i89x2; unfold In at a8)); have oc := oc_88_65; omega, by (first | have a0 := in_u h1 | (have a0 := h1; unfold In at a0)); (first | have a1 := in_u i17 | (have a1 := i17; unfold In at a1)); (first | have a2 := in_u j13_3 | (have a2 := j13_3; unfold In at a2)); (first | have a3 := in_u ((in_c 1 rfl)) | (have a3 := (in_c 1 rfl); unfold In at a3)); (first | have a4 := in_u i37 | (have a4 := i37; unfold In at a4)); (first | have a5 := in_u i116 | (have a5 := i116; unfold In at a5)); have a6 := t_add e116 i17 (in_c 1 rfl) rfl; (first | have a7 := in_u i104 | (have a7 := i104; unfold In at a7)); (first | have a8 := in_u i89x2 | (have a8 := i89x2; unfold In at a8)); have oc := oc_88_65; omega⟩
                  have n13a : (sc13).1 73 = s.1 73 ∧ (sc13).1 74 = s.1 74 := by exact g13_1
                  exact gg_w (by first | exact Nat.le_add_right _ _ | exact gw2 | exact gw3 | exact gwe rfl | exact gwf rfl | exact gwg rfl | exact gwh rfl | omega) (gg_f (gf_cons rfl (gf_cons rfl (gf_cons rfl (gf_cons rfl (gf_cons rfl gf_nil))))) (ih13 sc13 z78 z104 z116 hIc13 hFc13 (in_w 0 31 i104 rfl) (in_w 0 32 i116 rfl) n13 n13a (m_up mm13 (t_add e116 i17 (in_c 1 rfl) rfl) (in_w 1 1 (in_c 1 rfl) rfl))))
              · skip
                refine g_iload_n 6 (gd rfl) rfl rfl ?_
                refine g_goto 10 (gd rfl) rfl ?_
                refine g_ireturn (gd rfl) rfl rfl (hp89 _ _ ?_)
                show GG _ _ _ _ _ _ _ _ [.int y13_2] _ _ _
                refine g_istore_n 93 (gd rfl) rfl (Nat.le_of_ble_eq_true rfl) ?_
                refine g_iload 95 (gd rfl) rfl rfl ?_
                refine g_if_eq 98 108 (gd rfl) rfl rfl (fun c95 => ?_) (fun c95 => ?_)
                · skip
                  exact zn_eq c95 (in_c 1 rfl) rfl
                · skip
                  refine g_aload_n 99 (gd rfl) rfl rfl ?_
                  refine g_getA (q2 := 69) 102 (gd rfl) rfl rfl rfl rfl ?_
                  refine g_iload 104 (gd rfl) rfl rfl ?_
                  refine g_iaload 105 (gd rfl) rfl (n := 160) rfl (in_ix i37 rfl) (fun z104 e104 => ?_)
                  have i104 := inv_I hIc13 (n := 160) (t := 0) 0 31 rfl (in_ix i37 rfl) rfl e104
                  refine g_goto 115 (gd rfl) rfl ?_
                  refine g_istore_n 116 (gd rfl) rfl (Nat.le_of_ble_eq_true rfl) ?_
                  refine g_iinc 119 (gd rfl) rfl rfl (Nat.le_of_ble_eq_true rfl) (fun z116 e116 => ?_)
                  have i116 := in_add 1 32 e116 i17 (in_c 1 rfl) rfl rfl
                  refine g_goto 13 (gd rfl) rfl ?_
                  have n13 : ∀ (σ : Int) (n : Nat) (r : Nat → Nat), CTP σ n r s (x1).toNatClampNeg → CTA σ n r s (x1).toNatClampNeg (z104).toNatClampNeg (z116).toNatClampNeg (y13_2).toInt := by rw [(show (z116).toNatClampNeg = (y13_4).toNatClampNeg + 1 from (by show (z116).toInt.toNat = (y13_4).toInt.toNat + 1; (first | have a0 := in_u h1 | (have a0 := h1; unfold In at a0)); (first | have a1 := in_u i17 | (have a1 := i17; unfold In at a1)); (first | have a2 := in_u j13_3 | (have a2 := j13_3; unfold In at a2)); (first | have a3 := in_u ((in_c 1 rfl)) | (have a3 := (in_c 1 rfl); unfold In at a3)); (first | have a4 := in_u i37 | (have a4 := i37; unfold In at a4)); (first | have a5 := in_u i116 | (have a5 := i116; unfold In at a5)); have a6 := t_add e116 i17 (in_c 1 rfl) rfl; (first | have a7 := in_u i104 | (have a7 := i104; unfold In at a7)); have oc := oc_88_65; omega))]; intro σ n r hC; exact ct_f hC (g13_0 σ n r hC) (hFc13.1 68 rfl) (hFc13.1 69 rfl) (hFc13.1 72 rfl) g13_1.1 e25 i27 e37 e47 c48 e70 e77 e78 e104 ⟨by (first | have a0 := in_u h1 | (have a0 := h1; unfold In at a0)); (first | have a1 := in_u i17 | (have a1 := i17; unfold In at a1)); (first | have a2 := in_u j13_3 | (have a2 := j13_3; unfold In at a2)); (first | have a3 := in_u ((in_c 1 rfl)) | (have a3 := (in_c 1 rfl); unfold In at a3)); (first | have a4 := in_u i37 | (have a4 := i37; unfold In at a4)); (first | have a5 := in_u i116 | (have a5 := i116; unfold In at a5)); have a6 := t_add e116 i17 (in_c 1 rfl) rfl; (first | have a7 := in_u i104 | (have a7 := i104; unfold In at a7)); have oc := oc_88_65; omega, by (first | have a0 := in_u h1 | (have a0 := h1; unfold In at a0)); (first | have a1 := in_u i17 | (have a1 := i17; unfold In at a1)); (first | have a2 := in_u j13_3 | (have a2 := j13_3; unfold In at a2)); (first | have a3 := in_u ((in_c 1 rfl)) | (have a3 := (in_c 1 rfl); unfold In at a3)); (first | have a4 := in_u i37 | (have a4 := i37; unfold In at a4)); (first | have a5 := in_u i116 | (have a5 := i116; unfold In at a5)); have a6 := t_add e116 i17 (in_c 1 rfl) rfl; (first | have a7 := in_u i104 | (have a7 := i104; unfold In at a7)); have oc := oc_88_65; omega, by (first | have a0 := in_u h1 | (have a0 := h1; unfold In at a0)); (first | have a1 := in_u i17 | (have a1 := i17; unfold In at a1)); (first | have a2 := in_u j13_3 | (have a2 := j13_3; unfold In at a2)); (first | have a3 := in_u ((in_c 1 rfl)) | (have a3 := (in_c 1 rfl); unfold In at a3)); (first | have a4 := in_u i37 | (have a4 := i37; unfold In at a4)); (first | have a5 := in_u i116 | (have a5 := i116; unfold In at a5)); have a6 := t_add e116 i17 (in_c 1 rfl) rfl; (first | have a7 := in_u i104 | (have a7 := i104; unfold In at a7)); have oc := oc_88_65; omega⟩
                  have n13a : (sc13).1 73 = s.1 73 ∧ (sc13).1 74 = s.1 74 := by exact g13_1
                  exact gg_w (by first | exact Nat.le_add_right _ _ | exact gw2 | exact gw3 | exact gwe rfl | exact gwf rfl | exact gwg rfl | exact gwh rfl | omega) (gg_f (gf_cons rfl (gf_cons rfl (gf_cons rfl (gf_cons rfl (gf_cons rfl gf_nil))))) (ih13 sc13 y13_2 z104 z116 hIc13 hFc13 (in_w 0 31 i104 rfl) (in_w 0 32 i116 rfl) n13 n13a (m_up mm13 (t_add e116 i17 (in_c 1 rfl) rfl) (in_w 1 1 (in_c 1 rfl) rfl))))
  refine g_enter2 (k := 88) (N := 60302) (by first | exact dq1 hd rfl | exact dq0 hd rfl | exact dq2 hd rfl | exact dq3 hd rfl | omega) rfl (Nat.le_of_ble_eq_true rfl) ?_
  refine g_aload_n 1 (gd rfl) rfl rfl ?_
  refine g_getA (q2 := 74) 4 (gd rfl) rfl rfl rfl rfl ?_
  refine g_iload_n 5 (gd rfl) rfl rfl ?_
  refine g_iaload 6 (gd rfl) rfl (n := 32) rfl (in_ix h1 rfl) (fun z5 e5 => ?_)
  refine g_ineg 7 (gd rfl) rfl (fun z6 e6 => ?_)
  refine g_istore_n 8 (gd rfl) rfl (Nat.le_of_ble_eq_true rfl) ?_
  refine g_iload_n 9 (gd rfl) rfl rfl ?_
  refine g_istore_n 10 (gd rfl) rfl (Nat.le_of_ble_eq_true rfl) ?_
  refine g_iconst 0 11 (gd rfl) rfl rfl ?_
  refine g_istore 13 (gd rfl) rfl (Nat.le_of_ble_eq_true rfl) ?_
  have n13 : ∀ (σ : Int) (n : Nat) (r : Nat → Nat), CTP σ n r s (x1).toNatClampNeg → CTA σ n r s (x1).toNatClampNeg (x1).toNatClampNeg ((Int32.ofInt 0)).toNatClampNeg (z6).toInt := by intro σ n r hC; exact (show CTA _ _ _ _ _ _ 0 _ from cta_0 hC ((ineg_v e6 (by have h9 := hC.2.2.2.2.2.2.2 _ hC.2.2.2.2.1; rw [e5]; exact Int.le_trans (by decide) h9.1)).trans (by rw [e5]; rfl)))
  have n13a : (s).1 73 = s.1 73 ∧ (s).1 74 = s.1 74 := by exact ⟨rfl, rfl⟩
  exact gg_w (by first | exact Nat.le_of_ble_eq_true rfl | omega) (gg_f (gf_cons rfl (gf_cons rfl (gf_cons rfl (gf_cons rfl (gf_cons rfl gf_nil))))) (ct13 33 s z6 x1 (Int32.ofInt 0) hI fr_rf (in_w 0 31 h1 rfl) (in_w 0 32 (in_c 0 rfl) rfl) n13 n13a (m_in 33 (in_w 0 32 (in_c 0 rfl) rfl) rfl)))

theorem oc_84_65 : (Int32.ofInt (-1)).toInt = (-1) ∧ (Int32.ofInt 0).toInt = 0 ∧ (Int32.ofInt 1).toInt = 1 ∧ (Int32.ofInt 160).toInt = 160 := ⟨rfl, rfl, rfl, rfl⟩
/-- GraphHouse$Flows.lay -/
theorem f_84_65 {Z : AmZ} {A : Nat → Nat} {s : GS} {ex : va_W} {d : Nat} {X : AmX} {x1 : Int32} {x2 : Int32} {x3 : Int32} {x4 : Int32} (hd : 1 ≤ d) (hI : Inv s) (h1 : In x1 0 31) (h2 : In x2 0 31) (h3 : In x3 (-1000000) 1000000) (h4 : In x4 0 1000000) : GC Z d 84 [.ref (A 65), .int x1, .int x2, .int x3, .int x4] (WW Z A s ++ ex) 0 0 (fun v u => ∃ t : GS, Inv t ∧ Fr fm_84_65 s t ∧ v = none ∧ u = WW Z A t ++ ex ∧ ((s.2.2.1 65 8).toInt < 160 → LYD s t x1 x2 x3 x4)) X := by
  intro post xp hP hX
  refine g_enter2 (k := 84) (N := 900) (by first | exact dq1 hd rfl | exact dq0 hd rfl | exact dq2 hd rfl | exact dq3 hd rfl | omega) rfl (Nat.le_of_ble_eq_true rfl) ?_
  refine g_aload_n 1 (gd rfl) rfl rfl ?_
  refine g_getI 4 (gd rfl) rfl rfl rfl (fun z1 e1 => ?_)
  have i1 := inv_F hI 0 160 rfl e1
  refine g_sipush 160 7 (gd rfl) rfl rfl ?_
  refine g_cmp_ge 10 71 (gd rfl) rfl rfl (fun c7 => ?_) (fun c7 => ?_)
  · skip
    have i7 := r_le2 160 160 c7 (in_c 160 rfl) i1 rfl
    have n71 : (s.2.2.1 65 8).toInt < 160 → LYD s s x1 x2 x3 x4 := by intro h9; exfalso; rw [← e1] at h9; (first | have a0 := in_u h4 | (have a0 := h4; unfold In at a0)); (first | have a1 := in_u h3 | (have a1 := h3; unfold In at a1)); (first | have a2 := in_u h2 | (have a2 := h2; unfold In at a2)); (first | have a3 := in_u h1 | (have a3 := h1; unfold In at a3)); (first | have a4 := in_u i7 | (have a4 := i7; unfold In at a4)); have oc := oc_84_65; omega
    exact g_return (gd rfl) rfl (hP _ _ ⟨s, hI, fr_rf, rfl, rfl, n71⟩)
  · skip
    have i7 := r_lt1 0 159 c7 i1 (in_c 160 rfl) rfl
    refine g_aload_n 11 (gd rfl) rfl rfl ?_
    refine g_getA (q2 := 69) 14 (gd rfl) rfl rfl rfl rfl ?_
    refine g_aload_n 15 (gd rfl) rfl rfl ?_
    refine g_getI 18 (gd rfl) rfl rfl rfl (fun z15 e15 => ?_)
    have q15 : z1 = z15 := (e1).trans e15.symm
    subst q15
    refine g_iload_n 19 (gd rfl) rfl rfl ?_
    refine g_iastore 20 (gd rfl) rfl (n := 160) rfl (in_ix i7 rfl) ?_
    have hI19 := inv_sI (q := 69) (j := z1.toNatClampNeg) hI rfl (in_w 0 31 h1 rfl)
    refine g_aload_n 21 (gd rfl) rfl rfl ?_
    refine g_getA (q2 := 70) 24 (gd rfl) rfl rfl rfl rfl ?_
    refine g_aload_n 25 (gd rfl) rfl rfl ?_
    refine g_getI 28 (gd rfl) rfl rfl rfl (fun z25 e25 => ?_)
    have q25 : z1 = z25 := (sI_F (e1)).trans e25.symm
    subst q25
    refine g_iload_n 29 (gd rfl) rfl rfl ?_
    refine g_iastore 30 (gd rfl) rfl (n := 160) rfl (in_ix i7 rfl) ?_
    have hI29 := inv_sI (q := 70) (j := z1.toNatClampNeg) hI19 rfl (in_w 0 31 h2 rfl)
    refine g_aload_n 31 (gd rfl) rfl rfl ?_
    refine g_getA (q2 := 71) 34 (gd rfl) rfl rfl rfl rfl ?_
    refine g_aload_n 35 (gd rfl) rfl rfl ?_
    refine g_getI 38 (gd rfl) rfl rfl rfl (fun z35 e35 => ?_)
    have q35 : z1 = z35 := (sI_F (sI_F (e1))).trans e35.symm
    subst q35
    refine g_iload_n 39 (gd rfl) rfl rfl ?_
    refine g_iastore 40 (gd rfl) rfl (n := 160) rfl (in_ix i7 rfl) ?_
    have hI39 := inv_sI (q := 71) (j := z1.toNatClampNeg) hI29 rfl (in_w (-1000000) 1000000 h3 rfl)
    refine g_aload_n 41 (gd rfl) rfl rfl ?_
    refine g_getA (q2 := 72) 44 (gd rfl) rfl rfl rfl rfl ?_
    refine g_aload_n 45 (gd rfl) rfl rfl ?_
    refine g_getI 48 (gd rfl) rfl rfl rfl (fun z45 e45 => ?_)
    have q45 : z1 = z45 := (sI_F (sI_F (sI_F (e1)))).trans e45.symm
    subst q45
    refine g_iload 50 (gd rfl) rfl rfl ?_
    refine g_iastore 51 (gd rfl) rfl (n := 160) rfl (in_ix i7 rfl) ?_
    have hI50 := inv_sI (q := 72) (j := z1.toNatClampNeg) hI39 rfl (in_w 0 1000000 h4 rfl)
    refine g_aload_n 52 (gd rfl) rfl rfl ?_
    refine g_getA (q2 := 73) 55 (gd rfl) rfl rfl rfl rfl ?_
    refine g_aload_n 56 (gd rfl) rfl rfl ?_
    refine g_getI 59 (gd rfl) rfl rfl rfl (fun z56 e56 => ?_)
    have q56 : z1 = z56 := (sI_F (sI_F (sI_F (sI_F (e1))))).trans e56.symm
    subst q56
    refine g_iconst 0 60 (gd rfl) rfl rfl ?_
    refine g_iastore 61 (gd rfl) rfl (n := 160) rfl (in_ix i7 rfl) ?_
    have hI60 := inv_sI (q := 73) (j := z1.toNatClampNeg) hI50 rfl (in_w (-2147483648) 2147483647 (in_c 0 rfl) rfl)
    refine g_aload_n 62 (gd rfl) rfl rfl ?_
    refine g_dup 63 (gd rfl) rfl rfl ?_
    refine g_getI 66 (gd rfl) rfl rfl rfl (fun z63 e63 => ?_)
    have q63 : z1 = z63 := (sI_F (sI_F (sI_F (sI_F (sI_F (e1)))))).trans e63.symm
    subst q63
    refine g_iconst 1 67 (gd rfl) rfl rfl ?_
    refine g_iadd 68 (gd rfl) rfl (fun z67 e67 => ?_)
    have i67 := in_add 1 160 e67 i7 (in_c 1 rfl) rfl rfl
    refine g_putI 71 (gd rfl) rfl rfl rfl rfl ?_
    have hI68 := inv_sF (q := 65) (j := 8) hI60 rfl (in_w 0 160 i67 rfl)
    have n71 : (s.2.2.1 65 8).toInt < 160 → LYD s (sF (sI (sI (sI (sI (sI s 69 z1.toNatClampNeg x1) 70 z1.toNatClampNeg x2) 71 z1.toNatClampNeg x3) 72 z1.toNatClampNeg x4) 73 z1.toNatClampNeg (Int32.ofInt 0)) 65 8 z67) x1 x2 x3 x4 := by intro _; exact lyd_i e1 (by (first | have a0 := in_u h4 | (have a0 := h4; unfold In at a0)); (first | have a1 := in_u h3 | (have a1 := h3; unfold In at a1)); (first | have a2 := in_u h2 | (have a2 := h2; unfold In at a2)); (first | have a3 := in_u h1 | (have a3 := h1; unfold In at a3)); (first | have a4 := in_u i67 | (have a4 := i67; unfold In at a4)); have a5 := t_add e67 i7 (in_c 1 rfl) rfl; (first | have a6 := in_u ((in_c 1 rfl)) | (have a6 := (in_c 1 rfl); unfold In at a6)); (first | have a7 := in_u i7 | (have a7 := i7; unfold In at a7)); have oc := oc_84_65; omega)
    exact g_return (gd rfl) rfl (hP _ _ ⟨(sF (sI (sI (sI (sI (sI s 69 z1.toNatClampNeg x1) 70 z1.toNatClampNeg x2) 71 z1.toNatClampNeg x3) 72 z1.toNatClampNeg x4) 73 z1.toNatClampNeg (Int32.ofInt 0)) 65 8 z67), hI68, (fr_sF rfl (fr_sI rfl (fr_sI rfl (fr_sI rfl (fr_sI rfl (fr_sI rfl fr_rf)))))), rfl, rfl, n71⟩)

theorem oc_81_65 : (Int32.ofInt (-1)).toInt = (-1) ∧ (Int32.ofInt 0).toInt = 0 ∧ (Int32.ofInt 1).toInt = 1 ∧ (Int64.ofInt 0).toInt = 0 := ⟨rfl, rfl, rfl, rfl⟩
set_option maxHeartbeats 2000000 in
/-- GraphHouse$Flows.turnEarners -/
theorem f_81_65 {Z : AmZ} {A : Nat → Nat} {s : GS} {ex : va_W} {d : Nat} {X : AmX} {x1 : Int32} {x2 : Int32} {x3 : Int32} (hd : 3 ≤ d) (hI : Inv s) (h1 : In x1 0 32) (h2 : In x2 1 1048576) (h3 : In x3 1 65536) (q_0 : TEP s (x2).toInt (x1).toNatClampNeg) : GC Z d 81 [.ref (A 65), .int x1, .int x2, .int x3] (WW Z A s ++ ex) 0 0 (fun v u => ∃ t : GS, Inv t ∧ Fr fm_81_65 s t ∧ v = none ∧ u = WW Z A t ++ ex ∧ (TEO s t (x2).toInt (x3).toInt)) X := by
  intro post xp hP hX
  obtain ⟨u_65_8, e_65_8⟩ : ∃ w, w = s.2.2.1 65 8 := ⟨_, rfl⟩
  have ro_65_8 := inv_F hI 0 160 rfl e_65_8
  have ct17 : ∀ (k17 : Nat) (sc17 : GS) (y17_4 : Int32), Inv sc17 → Fr fm_81_65 s sc17 → (In y17_4 0 160) → (TNJ (netC s) (x3).toInt ((x2).toInt - 1) (faC sc17) (fiC s) (exC s) (fiC sc17) (exC sc17) (y17_4).toNatClampNeg) → (TFA (netC s) (fiC s) (x2).toInt (x1).toNatClampNeg (faC sc17)) → 160 - (y17_4).toInt < (k17 : Int) → GG Z (d - 1) 81 post (gx xp) (1 + k17 * 900) 17 (fun j => xlook j [(0, .ref (A 65)), (1, .int x1), (2, .int x2), (3, .int x3), (4, .int y17_4)]) [] (WW Z A sc17 ++ ex) 0 0 := by
    intro k17
    induction k17 with
    | zero => intro sc17 y17_4 hIc17 hFc17 j17_4 g17_0 g17_1 mm17; exact m_no mm17 j17_4 rfl
    | succ k17 ih17 =>
      intro sc17 y17_4 hIc17 hFc17 j17_4 g17_0 g17_1 mm17
      refine gg_w (M := 1 + k17 * 900 + 900) gws ?_
      refine g_iload 19 (gd rfl) rfl rfl ?_
      refine g_aload_n 20 (gd rfl) rfl rfl ?_
      refine g_getI 23 (gd rfl) rfl rfl rfl (fun z20 e20 => ?_)
      have q20 : u_65_8 = z20 := (fr_F e_65_8 hFc17 rfl).trans e20.symm
      subst q20
      refine g_cmp_ge 26 141 (gd rfl) rfl rfl (fun c23 => ?_) (fun c23 => ?_)
      · skip
        have n141 : TEO s sc17 (x2).toInt (x3).toInt := by exact teo_i g17_0 (show (netC s).1 ≤ (y17_4).toNatClampNeg from (by show (s.2.2.1 65 8).toInt.toNat ≤ (y17_4).toInt.toNat; rw [← e_65_8]; (first | have a0 := in_u h3 | (have a0 := h3; unfold In at a0)); (first | have a1 := in_u h2 | (have a1 := h2; unfold In at a1)); (first | have a2 := in_u h1 | (have a2 := h1; unfold In at a2)); (first | have a3 := in_u ro_65_8 | (have a3 := ro_65_8; unfold In at a3)); (first | have a4 := in_u j17_4 | (have a4 := j17_4; unfold In at a4)); have oc := oc_81_65; omega)) (show (y17_4).toNatClampNeg ≤ 160 from (by show (y17_4).toInt.toNat ≤ 160; (first | have a0 := in_u h3 | (have a0 := h3; unfold In at a0)); (first | have a1 := in_u h2 | (have a1 := h2; unfold In at a1)); (first | have a2 := in_u h1 | (have a2 := h1; unfold In at a2)); (first | have a3 := in_u ro_65_8 | (have a3 := ro_65_8; unfold In at a3)); (first | have a4 := in_u j17_4 | (have a4 := j17_4; unfold In at a4)); have oc := oc_81_65; omega)) (show 1 ≤ (x2).toInt from h2.1)
        exact g_return (gd rfl) rfl (hP _ _ ⟨sc17, hIc17, hFc17, rfl, rfl, n141⟩)
      · skip
        have i23 := r_lt1 0 159 c23 j17_4 ro_65_8 rfl
        have i23a := r_lt2 1 160 c23 j17_4 ro_65_8 rfl
        refine g_aload_n 27 (gd rfl) rfl rfl ?_
        refine g_getA (q2 := 75) 30 (gd rfl) rfl rfl rfl rfl ?_
        refine g_aload_n 31 (gd rfl) rfl rfl ?_
        refine g_getA (q2 := 69) 34 (gd rfl) rfl rfl rfl rfl ?_
        refine g_iload 36 (gd rfl) rfl rfl ?_
        refine g_iaload 37 (gd rfl) rfl (n := 160) rfl (in_ix i23 rfl) (fun z36 e36 => ?_)
        have i36 := inv_I hIc17 (n := 160) (t := 0) 0 31 rfl (in_ix i23 rfl) rfl e36
        refine g_laload 38 (gd rfl) rfl (n := 32) rfl (in_ix i36 rfl) (fun z37 e37 => ?_)
        refine g_aload_n 39 (gd rfl) rfl rfl ?_
        refine g_getA (q2 := 71) 42 (gd rfl) rfl rfl rfl rfl ?_
        refine g_iload 44 (gd rfl) rfl rfl ?_
        refine g_iaload 45 (gd rfl) rfl (n := 160) rfl (in_ix i23 rfl) (fun z44 e44 => ?_)
        have i44 := inv_I hIc17 (n := 160) (t := 0) (-1000000) 1000000 rfl (in_ix i23 rfl) rfl e44
        refine g_i2l 46 (gd rfl) rfl (fun z45 e45 => ?_)
        have i45 := l_i e45 i44
        refine g_ladd 47 (gd rfl) rfl (fun z46 e46 => ?_)
        refine g_aload_n 48 (gd rfl) rfl rfl ?_
        refine g_getA (q2 := 75) 51 (gd rfl) rfl rfl rfl rfl ?_
        refine g_aload_n 52 (gd rfl) rfl rfl ?_
        refine g_getA (q2 := 70) 55 (gd rfl) rfl rfl rfl rfl ?_
        refine g_iload 57 (gd rfl) rfl rfl ?_
        refine g_iaload 58 (gd rfl) rfl (n := 160) rfl (in_ix i23 rfl) (fun z57 e57 => ?_)
        have i57 := inv_I hIc17 (n := 160) (t := 0) 0 31 rfl (in_ix i23 rfl) rfl e57
        refine g_laload 59 (gd rfl) rfl (n := 32) rfl (in_ix i57 rfl) (fun z58 e58 => ?_)
        refine g_lsub 60 (gd rfl) rfl (fun z59 e59 => ?_)
        refine g_lstore 62 (gd rfl) rfl (Nat.le_of_ble_eq_true rfl) ?_
        refine g_aload_n 63 (gd rfl) rfl rfl ?_
        refine g_getA (q2 := 72) 66 (gd rfl) rfl rfl rfl rfl ?_
        refine g_iload 68 (gd rfl) rfl rfl ?_
        refine g_iaload 69 (gd rfl) rfl (n := 160) rfl (in_ix i23 rfl) (fun z68 e68 => ?_)
        have i68 := inv_I hIc17 (n := 160) (t := 0) 0 1000000 rfl (in_ix i23 rfl) rfl e68
        refine g_aload_n 70 (gd rfl) rfl rfl ?_
        refine g_getA (q2 := 73) 73 (gd rfl) rfl rfl rfl rfl ?_
        refine g_iload 75 (gd rfl) rfl rfl ?_
        refine g_iaload 76 (gd rfl) rfl (n := 160) rfl (in_ix i23 rfl) (fun z75 e75 => ?_)
        refine g_isub 77 (gd rfl) rfl (fun z76 e76 => ?_)
        refine g_istore 79 (gd rfl) rfl (Nat.le_of_ble_eq_true rfl) ?_
        refine g_lload 81 (gd rfl) rfl rfl ?_
        refine g_lconst 0 82 (gd rfl) rfl rfl ?_
        refine g_lcmp 83 (gd rfl) rfl (fun z82 e82 => ?_)
        have i82 := lc_in e82
        refine g_if_ge 86 103 (gd rfl) rfl rfl (fun c83 => ?_) (fun c83 => ?_)
        · skip
          have i83 := z_ge 0 1 c83 i82 rfl
          have c83a := lc_ge e82 c83
          have i83a := lr_le2 0 9223372036854775807 c83a (l_c 0 rfl) (l_rng z59) rfl
          refine g_lload 105 (gd rfl) rfl rfl ?_
          refine g_lconst 0 106 (gd rfl) rfl rfl ?_
          refine g_lcmp 107 (gd rfl) rfl (fun z106 e106 => ?_)
          have i106 := lc_in e106
          refine g_if_le 110 135 (gd rfl) rfl rfl (fun c107 => ?_) (fun c107 => ?_)
          · skip
            have i107 := z_le (-1) 0 c107 i106 rfl
            have c107a := lc_le e106 c107
            have i107a := lr_le1 0 0 c107a i83a (l_c 0 rfl) rfl
            refine g_iinc 138 (gd rfl) rfl rfl (Nat.le_of_ble_eq_true rfl) (fun z135 e135 => ?_)
            have i135 := in_add 1 160 e135 i23 (in_c 1 rfl) rfl rfl
            refine g_goto 17 (gd rfl) rfl ?_
            have n17 : TNJ (netC s) (x3).toInt ((x2).toInt - 1) (faC sc17) (fiC s) (exC s) (fiC sc17) (exC sc17) (z135).toNatClampNeg := by rw [(show (z135).toNatClampNeg = (y17_4).toNatClampNeg + 1 from (by show (z135).toInt.toNat = (y17_4).toInt.toNat + 1; (first | have a0 := in_u h3 | (have a0 := h3; unfold In at a0)); (first | have a1 := in_u h2 | (have a1 := h2; unfold In at a1)); (first | have a2 := in_u h1 | (have a2 := h1; unfold In at a2)); (first | have a3 := in_u i23a | (have a3 := i23a; unfold In at a3)); (first | have a4 := in_u i23 | (have a4 := i23; unfold In at a4)); (first | have a5 := in_u i135 | (have a5 := i135; unfold In at a5)); have a6 := t_add e135 i23 (in_c 1 rfl) rfl; (first | have a7 := in_u ((in_c 1 rfl)) | (have a7 := (in_c 1 rfl); unfold In at a7)); have a8 := tx_i2l e45; (first | have a9 := in_u i44 | (have a9 := i44; unfold In at a9)); have oc := oc_81_65; omega))]; exact te_n q_0.1 (show (y17_4).toNatClampNeg < (netC s).1 from (by show (y17_4).toInt.toNat < (s.2.2.1 65 8).toInt.toNat; rw [← e_65_8]; (first | have a0 := in_u h3 | (have a0 := h3; unfold In at a0)); (first | have a1 := in_u h2 | (have a1 := h2; unfold In at a1)); (first | have a2 := in_u h1 | (have a2 := h1; unfold In at a2)); (first | have a3 := in_u i23a | (have a3 := i23a; unfold In at a3)); (first | have a4 := in_u i23 | (have a4 := i23; unfold In at a4)); (first | have a5 := in_u i135 | (have a5 := i135; unfold In at a5)); have a6 := t_add e135 i23 (in_c 1 rfl) rfl; (first | have a7 := in_u ((in_c 1 rfl)) | (have a7 := (in_c 1 rfl); unfold In at a7)); have a8 := tx_i2l e45; (first | have a9 := in_u i44 | (have a9 := i44; unfold In at a9)); have oc := oc_81_65; omega)) (show 1 ≤ (x2).toInt from h2.1) g17_1 g17_0 (te_m q_0.1 (show (y17_4).toNatClampNeg < (netC s).1 from (by show (y17_4).toInt.toNat < (s.2.2.1 65 8).toInt.toNat; rw [← e_65_8]; (first | have a0 := in_u h3 | (have a0 := h3; unfold In at a0)); (first | have a1 := in_u h2 | (have a1 := h2; unfold In at a1)); (first | have a2 := in_u h1 | (have a2 := h1; unfold In at a2)); (first | have a3 := in_u i23a | (have a3 := i23a; unfold In at a3)); (first | have a4 := in_u i23 | (have a4 := i23; unfold In at a4)); (first | have a5 := in_u i135 | (have a5 := i135; unfold In at a5)); have a6 := t_add e135 i23 (in_c 1 rfl) rfl; (first | have a7 := in_u ((in_c 1 rfl)) | (have a7 := (in_c 1 rfl); unfold In at a7)); have a8 := tx_i2l e45; (first | have a9 := in_u i44 | (have a9 := i44; unfold In at a9)); have oc := oc_81_65; omega)) g17_1 (e36.trans (congrFun (hFc17.1 69 rfl) _)) (e57.trans (congrFun (hFc17.1 70 rfl) _)) (e44.trans (congrFun (hFc17.1 71 rfl) _)) e37 e45 e46 e58 e59) (te_r g17_0.1 (show (y17_4).toNatClampNeg < (netC s).1 from (by show (y17_4).toInt.toNat < (s.2.2.1 65 8).toInt.toNat; rw [← e_65_8]; (first | have a0 := in_u h3 | (have a0 := h3; unfold In at a0)); (first | have a1 := in_u h2 | (have a1 := h2; unfold In at a1)); (first | have a2 := in_u h1 | (have a2 := h1; unfold In at a2)); (first | have a3 := in_u i23a | (have a3 := i23a; unfold In at a3)); (first | have a4 := in_u i23 | (have a4 := i23; unfold In at a4)); (first | have a5 := in_u i135 | (have a5 := i135; unfold In at a5)); have a6 := t_add e135 i23 (in_c 1 rfl) rfl; (first | have a7 := in_u ((in_c 1 rfl)) | (have a7 := (in_c 1 rfl); unfold In at a7)); have a8 := tx_i2l e45; (first | have a9 := in_u i44 | (have a9 := i44; unfold In at a9)); have oc := oc_81_65; omega)) (e68.trans (congrFun (hFc17.1 72 rfl) _)) e75 e76) (fun h9 => by have o1 : (Int64.ofInt 0).toInt = 0 := rfl; first | (have c9 := c83a; omega) | (have c9 := c89; omega)) (fun h9 => by have o1 : (Int64.ofInt 0).toInt = 0 := rfl; first | (have c9 := c107a; omega) | (have c9 := c118; omega))
            have n17a : TFA (netC s) (fiC s) (x2).toInt (x1).toNatClampNeg (faC sc17) := by exact g17_1
            exact gg_w (by first | exact Nat.le_add_right _ _ | exact gw2 | exact gw3 | exact gwe rfl | exact gwf rfl | exact gwg rfl | exact gwh rfl | omega) (gg_f (gf_cons rfl (gf_cons rfl (gf_cons rfl (gf_cons rfl (gf_cons rfl gf_nil))))) (ih17 sc17 z135 hIc17 hFc17 (in_w 0 160 i135 rfl) n17 n17a (m_up mm17 (t_add e135 i23 (in_c 1 rfl) rfl) (in_w 1 1 (in_c 1 rfl) rfl))))
          · skip
            have i107 := z_gt 1 1 c107 i106 rfl
            have c107a := lc_gt e106 c107
            have i107a := lr_lt2 1 9223372036854775807 c107a (l_c 0 rfl) i83a rfl
            refine g_aload_n 111 (gd rfl) rfl rfl ?_
            refine g_getA (q2 := 73) 114 (gd rfl) rfl rfl rfl rfl ?_
            refine g_iload 116 (gd rfl) rfl rfl ?_
            refine g_iaload 117 (gd rfl) rfl (n := 160) rfl (in_ix i23 rfl) (fun z116 e116 => ?_)
            have q116 : z75 = z116 := (e75).trans e116.symm
            subst q116
            refine g_iload_n 118 (gd rfl) rfl rfl ?_
            refine g_cmp_lt 121 135 (gd rfl) rfl rfl (fun c118 => ?_) (fun c118 => ?_)
            · skip
              have i118 := r_lt1 (-2147483648) 65535 c118 (i_rng z75) h3 rfl
              refine g_iinc 138 (gd rfl) rfl rfl (Nat.le_of_ble_eq_true rfl) (fun z135 e135 => ?_)
              have i135 := in_add 1 160 e135 i23 (in_c 1 rfl) rfl rfl
              refine g_goto 17 (gd rfl) rfl ?_
              have n17 : TNJ (netC s) (x3).toInt ((x2).toInt - 1) (faC sc17) (fiC s) (exC s) (fiC sc17) (exC sc17) (z135).toNatClampNeg := by rw [(show (z135).toNatClampNeg = (y17_4).toNatClampNeg + 1 from (by show (z135).toInt.toNat = (y17_4).toInt.toNat + 1; (first | have a0 := in_u h3 | (have a0 := h3; unfold In at a0)); (first | have a1 := in_u h2 | (have a1 := h2; unfold In at a1)); (first | have a2 := in_u h1 | (have a2 := h1; unfold In at a2)); (first | have a3 := in_u i23a | (have a3 := i23a; unfold In at a3)); (first | have a4 := in_u i23 | (have a4 := i23; unfold In at a4)); (first | have a5 := in_u i135 | (have a5 := i135; unfold In at a5)); have a6 := t_add e135 i23 (in_c 1 rfl) rfl; (first | have a7 := in_u ((in_c 1 rfl)) | (have a7 := (in_c 1 rfl); unfold In at a7)); have a8 := tx_i2l e45; (first | have a9 := in_u i44 | (have a9 := i44; unfold In at a9)); have oc := oc_81_65; omega))]; exact te_n q_0.1 (show (y17_4).toNatClampNeg < (netC s).1 from (by show (y17_4).toInt.toNat < (s.2.2.1 65 8).toInt.toNat; rw [← e_65_8]; (first | have a0 := in_u h3 | (have a0 := h3; unfold In at a0)); (first | have a1 := in_u h2 | (have a1 := h2; unfold In at a1)); (first | have a2 := in_u h1 | (have a2 := h1; unfold In at a2)); (first | have a3 := in_u i23a | (have a3 := i23a; unfold In at a3)); (first | have a4 := in_u i23 | (have a4 := i23; unfold In at a4)); (first | have a5 := in_u i135 | (have a5 := i135; unfold In at a5)); have a6 := t_add e135 i23 (in_c 1 rfl) rfl; (first | have a7 := in_u ((in_c 1 rfl)) | (have a7 := (in_c 1 rfl); unfold In at a7)); have a8 := tx_i2l e45; (first | have a9 := in_u i44 | (have a9 := i44; unfold In at a9)); have oc := oc_81_65; omega)) (show 1 ≤ (x2).toInt from h2.1) g17_1 g17_0 (te_m q_0.1 (show (y17_4).toNatClampNeg < (netC s).1 from (by show (y17_4).toInt.toNat < (s.2.2.1 65 8).toInt.toNat; rw [← e_65_8]; (first | have a0 := in_u h3 | (have a0 := h3; unfold In at a0)); (first | have a1 := in_u h2 | (have a1 := h2; unfold In at a1)); (first | have a2 := in_u h1 | (have a2 := h1; unfold In at a2)); (first | have a3 := in_u i23a | (have a3 := i23a; unfold In at a3)); (first | have a4 := in_u i23 | (have a4 := i23; unfold In at a4)); (first | have a5 := in_u i135 | (have a5 := i135; unfold In at a5)); have a6 := t_add e135 i23 (in_c 1 rfl) rfl; (first | have a7 := in_u ((in_c 1 rfl)) | (have a7 := (in_c 1 rfl); unfold In at a7)); have a8 := tx_i2l e45; (first | have a9 := in_u i44 | (have a9 := i44; unfold In at a9)); have oc := oc_81_65; omega)) g17_1 (e36.trans (congrFun (hFc17.1 69 rfl) _)) (e57.trans (congrFun (hFc17.1 70 rfl) _)) (e44.trans (congrFun (hFc17.1 71 rfl) _)) e37 e45 e46 e58 e59) (te_r g17_0.1 (show (y17_4).toNatClampNeg < (netC s).1 from (by show (y17_4).toInt.toNat < (s.2.2.1 65 8).toInt.toNat; rw [← e_65_8]; (first | have a0 := in_u h3 | (have a0 := h3; unfold In at a0)); (first | have a1 := in_u h2 | (have a1 := h2; unfold In at a1)); (first | have a2 := in_u h1 | (have a2 := h1; unfold In at a2)); (first | have a3 := in_u i23a | (have a3 := i23a; unfold In at a3)); (first | have a4 := in_u i23 | (have a4 := i23; unfold In at a4)); (first | have a5 := in_u i135 | (have a5 := i135; unfold In at a5)); have a6 := t_add e135 i23 (in_c 1 rfl) rfl; (first | have a7 := in_u ((in_c 1 rfl)) | (have a7 := (in_c 1 rfl); unfold In at a7)); have a8 := tx_i2l e45; (first | have a9 := in_u i44 | (have a9 := i44; unfold In at a9)); have oc := oc_81_65; omega)) (e68.trans (congrFun (hFc17.1 72 rfl) _)) e75 e76) (fun h9 => by have o1 : (Int64.ofInt 0).toInt = 0 := rfl; first | (have c9 := c83a; omega) | (have c9 := c89; omega)) (fun h9 => by have o1 : (Int64.ofInt 0).toInt = 0 := rfl; first | (have c9 := c107a; omega) | (have c9 := c118; omega))
              have n17a : TFA (netC s) (fiC s) (x2).toInt (x1).toNatClampNeg (faC sc17) := by exact g17_1
              exact gg_w (by first | exact Nat.le_add_right _ _ | exact gw2 | exact gw3 | exact gwe rfl | exact gwf rfl | exact gwg rfl | exact gwh rfl | omega) (gg_f (gf_cons rfl (gf_cons rfl (gf_cons rfl (gf_cons rfl (gf_cons rfl gf_nil))))) (ih17 sc17 z135 hIc17 hFc17 (in_w 0 160 i135 rfl) n17 n17a (m_up mm17 (t_add e135 i23 (in_c 1 rfl) rfl) (in_w 1 1 (in_c 1 rfl) rfl))))
            · skip
              have i118 := r_le2 1 2147483647 c118 h3 (i_rng z75) rfl
              refine g_aload_n 122 (gd rfl) rfl rfl ?_
              refine g_iload 124 (gd rfl) rfl rfl ?_
              refine g_aload_n 125 (gd rfl) rfl rfl ?_
              refine g_getA (q2 := 73) 128 (gd rfl) rfl rfl rfl rfl ?_
              refine g_iload 130 (gd rfl) rfl rfl ?_
              refine g_iaload 131 (gd rfl) rfl (n := 160) rfl (in_ix i23 rfl) (fun z130 e130 => ?_)
              have q130 : z75 = z130 := (e75).trans e130.symm
              subst q130
              refine g_ineg 132 (gd rfl) rfl (fun z131 e131 => ?_)
              have i131 := in_neg (-2147483647) (-1) e131 i118 rfl
              refine g_callv (X := _) (As := [.int y17_4, .int z131]) (r := []) (b := A 65) (q := 65) 135 (gd rfl) rfl rfl rfl rfl rfl (ww_o rfl) (Nat.le_of_ble_eq_true rfl) (mc := 0) (ms := 0) (Nat.zero_le _) (Nat.zero_le _) (P := fun v u => _) ?_ (fun e u h => h) (fun v u h => h)
              intro po132 xx132 hp132 hx132
              refine g_enter2 (k := 82) (N := 300) (by first | exact dq1 hd rfl | exact dq0 hd rfl | exact dq2 hd rfl | exact dq3 hd rfl | omega) rfl (Nat.le_of_ble_eq_true rfl) ?_
              refine g_aload_n 1 (gd rfl) rfl rfl ?_
              refine g_getA (q2 := 73) 4 (gd rfl) rfl rfl rfl rfl ?_
              refine g_iload_n 5 (gd rfl) rfl rfl ?_
              refine g_dup2 6 (gd rfl) rfl rfl rfl ?_
              refine g_iaload 7 (gd rfl) rfl (n := 160) rfl (in_ix i23 rfl) (fun z132x6 e132x6 => ?_)
              have q132x6 : z75 = z132x6 := (e75).trans e132x6.symm
              subst q132x6
              refine g_iload_n 8 (gd rfl) rfl rfl ?_
              refine g_iadd 9 (gd rfl) rfl (fun z132x8 e132x8 => ?_)
              have i132x8 := in_add (-2147483646) 2147483646 e132x8 i118 i131 rfl rfl
              refine g_iastore 10 (gd rfl) rfl (n := 160) rfl (in_ix i23 rfl) ?_
              have hI132x9 := inv_sI (q := 73) (j := y17_4.toNatClampNeg) hIc17 rfl (in_w (-2147483648) 2147483647 i132x8 rfl)
              refine g_aload_n 11 (gd rfl) rfl rfl ?_
              refine g_getA (q2 := 74) 14 (gd rfl) rfl rfl rfl rfl ?_
              refine g_aload_n 15 (gd rfl) rfl rfl ?_
              refine g_getA (q2 := 70) 18 (gd rfl) rfl rfl rfl rfl ?_
              refine g_iload_n 19 (gd rfl) rfl rfl ?_
              refine g_iaload 20 (gd rfl) rfl (n := 160) rfl (in_ix i23 rfl) (fun z132x19 e132x19 => ?_)
              have q132x19 : z57 = z132x19 := (sI_ne rfl (e57)).trans e132x19.symm
              subst q132x19
              refine g_dup2 21 (gd rfl) rfl rfl rfl ?_
              refine g_iaload 22 (gd rfl) rfl (n := 32) rfl (in_ix i57 rfl) (fun z132x21 e132x21 => ?_)
              refine g_iload_n 23 (gd rfl) rfl rfl ?_
              refine g_iadd 24 (gd rfl) rfl (fun z132x23 e132x23 => ?_)
              refine g_iastore 25 (gd rfl) rfl (n := 32) rfl (in_ix i57 rfl) ?_
              have hI132x24 := inv_sI (q := 74) (j := z57.toNatClampNeg) hI132x9 rfl (in_w (-2147483648) 2147483647 (i_rng z132x23) rfl)
              refine g_aload_n 26 (gd rfl) rfl rfl ?_
              refine g_getA (q2 := 74) 29 (gd rfl) rfl rfl rfl rfl ?_
              refine g_aload_n 30 (gd rfl) rfl rfl ?_
              refine g_getA (q2 := 69) 33 (gd rfl) rfl rfl rfl rfl ?_
              refine g_iload_n 34 (gd rfl) rfl rfl ?_
              refine g_iaload 35 (gd rfl) rfl (n := 160) rfl (in_ix i23 rfl) (fun z132x34 e132x34 => ?_)
              have q132x34 : z36 = z132x34 := (sI_ne rfl (sI_ne rfl (e36))).trans e132x34.symm
              subst q132x34
              refine g_dup2 36 (gd rfl) rfl rfl rfl ?_
              refine g_iaload 37 (gd rfl) rfl (n := 32) rfl (in_ix i36 rfl) (fun z132x36 e132x36 => ?_)
              refine g_iload_n 38 (gd rfl) rfl rfl ?_
              refine g_isub 39 (gd rfl) rfl (fun z132x38 e132x38 => ?_)
              refine g_iastore 40 (gd rfl) rfl (n := 32) rfl (in_ix i36 rfl) ?_
              have hI132x39 := inv_sI (q := 74) (j := z36.toNatClampNeg) hI132x24 rfl (in_w (-2147483648) 2147483647 (i_rng z132x38) rfl)
              refine g_return (gd rfl) rfl (hp132 _ _ ?_)
              show GG _ _ _ _ _ _ _ _ [] _ _ _
              refine g_iinc 138 (gd rfl) rfl rfl (Nat.le_of_ble_eq_true rfl) (fun z135 e135 => ?_)
              have i135 := in_add 1 160 e135 i23 (in_c 1 rfl) rfl rfl
              refine g_goto 17 (gd rfl) rfl ?_
              have n17 : TNJ (netC s) (x3).toInt ((x2).toInt - 1) (faC (sI (sI (sI sc17 73 y17_4.toNatClampNeg z132x8) 74 z57.toNatClampNeg z132x23) 74 z36.toNatClampNeg z132x38)) (fiC s) (exC s) (fiC (sI (sI (sI sc17 73 y17_4.toNatClampNeg z132x8) 74 z57.toNatClampNeg z132x23) 74 z36.toNatClampNeg z132x38)) (exC (sI (sI (sI sc17 73 y17_4.toNatClampNeg z132x8) 74 z57.toNatClampNeg z132x23) 74 z36.toNatClampNeg z132x38)) (z135).toNatClampNeg := by rw [(show (z135).toNatClampNeg = (y17_4).toNatClampNeg + 1 from (by show (z135).toInt.toNat = (y17_4).toInt.toNat + 1; (first | have a0 := in_u h3 | (have a0 := h3; unfold In at a0)); (first | have a1 := in_u h2 | (have a1 := h2; unfold In at a1)); (first | have a2 := in_u h1 | (have a2 := h1; unfold In at a2)); (first | have a3 := in_u i23a | (have a3 := i23a; unfold In at a3)); (first | have a4 := in_u i23 | (have a4 := i23; unfold In at a4)); (first | have a5 := in_u i135 | (have a5 := i135; unfold In at a5)); have a6 := t_add e135 i23 (in_c 1 rfl) rfl; (first | have a7 := in_u ((in_c 1 rfl)) | (have a7 := (in_c 1 rfl); unfold In at a7)); (first | have a8 := in_u i132x8 | (have a8 := i132x8; unfold In at a8)); have a9 := t_add e132x8 i118 i131 rfl; (first | have a10 := in_u i131 | (have a10 := i131; unfold In at a10)); (first | have a11 := in_u i118 | (have a11 := i118; unfold In at a11)); have a12 := tx_i2l e45; (first | have a13 := in_u i44 | (have a13 := i44; unfold In at a13)); have oc := oc_81_65; omega))]; have o1 : (Int64.ofInt 0).toInt = 0 := rfl; exact (show TNJ _ _ _ (faC sc17) _ _ _ _ _ from te_y (sc := sc17) (d := z131) q_0.1 (show (y17_4).toNatClampNeg < (netC s).1 from (by show (y17_4).toInt.toNat < (s.2.2.1 65 8).toInt.toNat; rw [← e_65_8]; (first | have a0 := in_u h3 | (have a0 := h3; unfold In at a0)); (first | have a1 := in_u h2 | (have a1 := h2; unfold In at a1)); (first | have a2 := in_u h1 | (have a2 := h1; unfold In at a2)); (first | have a3 := in_u i23a | (have a3 := i23a; unfold In at a3)); (first | have a4 := in_u i23 | (have a4 := i23; unfold In at a4)); (first | have a5 := in_u i135 | (have a5 := i135; unfold In at a5)); have a6 := t_add e135 i23 (in_c 1 rfl) rfl; (first | have a7 := in_u ((in_c 1 rfl)) | (have a7 := (in_c 1 rfl); unfold In at a7)); (first | have a8 := in_u i132x8 | (have a8 := i132x8; unfold In at a8)); have a9 := t_add e132x8 i118 i131 rfl; (first | have a10 := in_u i131 | (have a10 := i131; unfold In at a10)); (first | have a11 := in_u i118 | (have a11 := i118; unfold In at a11)); have a12 := tx_i2l e45; (first | have a13 := in_u i44 | (have a13 := i44; unfold In at a13)); have oc := oc_81_65; omega)) (show 1 ≤ (x3).toInt from h3.1) ⟨h2.1, h2.2⟩ g17_1 g17_0 (show (netC s).1 ≤ 160 from (by show (s.2.2.1 65 8).toInt.toNat ≤ 160; rw [← e_65_8]; (first | have a0 := in_u h3 | (have a0 := h3; unfold In at a0)); (first | have a1 := in_u h2 | (have a1 := h2; unfold In at a1)); (first | have a2 := in_u h1 | (have a2 := h1; unfold In at a2)); (first | have a3 := in_u i23a | (have a3 := i23a; unfold In at a3)); (first | have a4 := in_u i23 | (have a4 := i23; unfold In at a4)); (first | have a5 := in_u i135 | (have a5 := i135; unfold In at a5)); have a6 := t_add e135 i23 (in_c 1 rfl) rfl; (first | have a7 := in_u ((in_c 1 rfl)) | (have a7 := (in_c 1 rfl); unfold In at a7)); (first | have a8 := in_u i132x8 | (have a8 := i132x8; unfold In at a8)); have a9 := t_add e132x8 i118 i131 rfl; (first | have a10 := in_u i131 | (have a10 := i131; unfold In at a10)); (first | have a11 := in_u i118 | (have a11 := i118; unfold In at a11)); have a12 := tx_i2l e45; (first | have a13 := in_u i44 | (have a13 := i44; unfold In at a13)); have oc := oc_81_65; omega)) (te_m q_0.1 (show (y17_4).toNatClampNeg < (netC s).1 from (by show (y17_4).toInt.toNat < (s.2.2.1 65 8).toInt.toNat; rw [← e_65_8]; (first | have a0 := in_u h3 | (have a0 := h3; unfold In at a0)); (first | have a1 := in_u h2 | (have a1 := h2; unfold In at a1)); (first | have a2 := in_u h1 | (have a2 := h1; unfold In at a2)); (first | have a3 := in_u i23a | (have a3 := i23a; unfold In at a3)); (first | have a4 := in_u i23 | (have a4 := i23; unfold In at a4)); (first | have a5 := in_u i135 | (have a5 := i135; unfold In at a5)); have a6 := t_add e135 i23 (in_c 1 rfl) rfl; (first | have a7 := in_u ((in_c 1 rfl)) | (have a7 := (in_c 1 rfl); unfold In at a7)); (first | have a8 := in_u i132x8 | (have a8 := i132x8; unfold In at a8)); have a9 := t_add e132x8 i118 i131 rfl; (first | have a10 := in_u i131 | (have a10 := i131; unfold In at a10)); (first | have a11 := in_u i118 | (have a11 := i118; unfold In at a11)); have a12 := tx_i2l e45; (first | have a13 := in_u i44 | (have a13 := i44; unfold In at a13)); have oc := oc_81_65; omega)) g17_1 (e36.trans (congrFun (hFc17.1 69 rfl) _)) (e57.trans (congrFun (hFc17.1 70 rfl) _)) (e44.trans (congrFun (hFc17.1 71 rfl) _)) e37 e45 e46 e58 e59) (e36.trans (congrFun (hFc17.1 69 rfl) _)) (e57.trans (congrFun (hFc17.1 70 rfl) _)) e75 (Or.inr ⟨by have c9 := c107a; omega, by have r9 := (te_r g17_0.1 (show (y17_4).toNatClampNeg < (netC s).1 from (by show (y17_4).toInt.toNat < (s.2.2.1 65 8).toInt.toNat; rw [← e_65_8]; (first | have a0 := in_u h3 | (have a0 := h3; unfold In at a0)); (first | have a1 := in_u h2 | (have a1 := h2; unfold In at a1)); (first | have a2 := in_u h1 | (have a2 := h1; unfold In at a2)); (first | have a3 := in_u i23a | (have a3 := i23a; unfold In at a3)); (first | have a4 := in_u i23 | (have a4 := i23; unfold In at a4)); (first | have a5 := in_u i135 | (have a5 := i135; unfold In at a5)); have a6 := t_add e135 i23 (in_c 1 rfl) rfl; (first | have a7 := in_u ((in_c 1 rfl)) | (have a7 := (in_c 1 rfl); unfold In at a7)); (first | have a8 := in_u i132x8 | (have a8 := i132x8; unfold In at a8)); have a9 := t_add e132x8 i118 i131 rfl; (first | have a10 := in_u i131 | (have a10 := i131; unfold In at a10)); (first | have a11 := in_u i118 | (have a11 := i118; unfold In at a11)); have a12 := tx_i2l e45; (first | have a13 := in_u i44 | (have a13 := i44; unfold In at a13)); have oc := oc_81_65; omega)) (e68.trans (congrFun (hFc17.1 72 rfl) _)) e75 e76).2; have v9 := ineg_v e131 (by have f9 := (g17_0.1 _ (show (y17_4).toNatClampNeg < (netC s).1 from (by show (y17_4).toInt.toNat < (s.2.2.1 65 8).toInt.toNat; rw [← e_65_8]; (first | have a0 := in_u h3 | (have a0 := h3; unfold In at a0)); (first | have a1 := in_u h2 | (have a1 := h2; unfold In at a1)); (first | have a2 := in_u h1 | (have a2 := h1; unfold In at a2)); (first | have a3 := in_u i23a | (have a3 := i23a; unfold In at a3)); (first | have a4 := in_u i23 | (have a4 := i23; unfold In at a4)); (first | have a5 := in_u i135 | (have a5 := i135; unfold In at a5)); have a6 := t_add e135 i23 (in_c 1 rfl) rfl; (first | have a7 := in_u ((in_c 1 rfl)) | (have a7 := (in_c 1 rfl); unfold In at a7)); (first | have a8 := in_u i132x8 | (have a8 := i132x8; unfold In at a8)); have a9 := t_add e132x8 i118 i131 rfl; (first | have a10 := in_u i131 | (have a10 := i131; unfold In at a10)); (first | have a11 := in_u i118 | (have a11 := i118; unfold In at a11)); have a12 := tx_i2l e45; (first | have a13 := in_u i44 | (have a13 := i44; unfold In at a13)); have oc := oc_81_65; omega))).1; omega); omega⟩) e132x8 e132x21 e132x23 e132x36 e132x38)
              have n17a : TFA (netC s) (fiC s) (x2).toInt (x1).toNatClampNeg (faC (sI (sI (sI sc17 73 y17_4.toNatClampNeg z132x8) 74 z57.toNatClampNeg z132x23) 74 z36.toNatClampNeg z132x38)) := by exact g17_1
              exact gg_w (by first | exact Nat.le_add_right _ _ | exact gw2 | exact gw3 | exact gwe rfl | exact gwf rfl | exact gwg rfl | exact gwh rfl | omega) (gg_f (gf_cons rfl (gf_cons rfl (gf_cons rfl (gf_cons rfl (gf_cons rfl gf_nil))))) (ih17 (sI (sI (sI sc17 73 y17_4.toNatClampNeg z132x8) 74 z57.toNatClampNeg z132x23) 74 z36.toNatClampNeg z132x38) z135 hI132x39 (fr_sI rfl (fr_sI rfl (fr_sI rfl hFc17))) (in_w 0 160 i135 rfl) n17 n17a (m_up mm17 (t_add e135 i23 (in_c 1 rfl) rfl) (in_w 1 1 (in_c 1 rfl) rfl))))
        · skip
          have i83 := z_lt (-1) (-1) c83 i82 rfl
          have c83a := lc_lt e82 c83
          have i83a := lr_lt1 (-9223372036854775808) (-1) c83a (l_rng z59) (l_c 0 rfl) rfl
          refine g_iload 88 (gd rfl) rfl rfl ?_
          refine g_iload_n 89 (gd rfl) rfl rfl ?_
          refine g_cmp_lt 92 103 (gd rfl) rfl rfl (fun c89 => ?_) (fun c89 => ?_)
          · skip
            have i89 := r_lt1 (-2147483648) 65535 c89 (i_rng z76) h3 rfl
            refine g_lload 105 (gd rfl) rfl rfl ?_
            refine g_lconst 0 106 (gd rfl) rfl rfl ?_
            refine g_lcmp 107 (gd rfl) rfl (fun z106 e106 => ?_)
            have i106 := lc_in e106
            refine g_if_le 110 135 (gd rfl) rfl rfl (fun c107 => ?_) (fun c107 => ?_)
            · skip
              have i107 := z_le (-1) 0 c107 i106 rfl
              have c107a := lc_le e106 c107
              refine g_iinc 138 (gd rfl) rfl rfl (Nat.le_of_ble_eq_true rfl) (fun z135 e135 => ?_)
              have i135 := in_add 1 160 e135 i23 (in_c 1 rfl) rfl rfl
              refine g_goto 17 (gd rfl) rfl ?_
              have n17 : TNJ (netC s) (x3).toInt ((x2).toInt - 1) (faC sc17) (fiC s) (exC s) (fiC sc17) (exC sc17) (z135).toNatClampNeg := by rw [(show (z135).toNatClampNeg = (y17_4).toNatClampNeg + 1 from (by show (z135).toInt.toNat = (y17_4).toInt.toNat + 1; (first | have a0 := in_u h3 | (have a0 := h3; unfold In at a0)); (first | have a1 := in_u h2 | (have a1 := h2; unfold In at a1)); (first | have a2 := in_u h1 | (have a2 := h1; unfold In at a2)); (first | have a3 := in_u i23a | (have a3 := i23a; unfold In at a3)); (first | have a4 := in_u i23 | (have a4 := i23; unfold In at a4)); (first | have a5 := in_u i89 | (have a5 := i89; unfold In at a5)); (first | have a6 := in_u i135 | (have a6 := i135; unfold In at a6)); have a7 := t_add e135 i23 (in_c 1 rfl) rfl; (first | have a8 := in_u ((in_c 1 rfl)) | (have a8 := (in_c 1 rfl); unfold In at a8)); have a9 := tx_i2l e45; (first | have a10 := in_u i44 | (have a10 := i44; unfold In at a10)); have oc := oc_81_65; omega))]; exact te_n q_0.1 (show (y17_4).toNatClampNeg < (netC s).1 from (by show (y17_4).toInt.toNat < (s.2.2.1 65 8).toInt.toNat; rw [← e_65_8]; (first | have a0 := in_u h3 | (have a0 := h3; unfold In at a0)); (first | have a1 := in_u h2 | (have a1 := h2; unfold In at a1)); (first | have a2 := in_u h1 | (have a2 := h1; unfold In at a2)); (first | have a3 := in_u i23a | (have a3 := i23a; unfold In at a3)); (first | have a4 := in_u i23 | (have a4 := i23; unfold In at a4)); (first | have a5 := in_u i89 | (have a5 := i89; unfold In at a5)); (first | have a6 := in_u i135 | (have a6 := i135; unfold In at a6)); have a7 := t_add e135 i23 (in_c 1 rfl) rfl; (first | have a8 := in_u ((in_c 1 rfl)) | (have a8 := (in_c 1 rfl); unfold In at a8)); have a9 := tx_i2l e45; (first | have a10 := in_u i44 | (have a10 := i44; unfold In at a10)); have oc := oc_81_65; omega)) (show 1 ≤ (x2).toInt from h2.1) g17_1 g17_0 (te_m q_0.1 (show (y17_4).toNatClampNeg < (netC s).1 from (by show (y17_4).toInt.toNat < (s.2.2.1 65 8).toInt.toNat; rw [← e_65_8]; (first | have a0 := in_u h3 | (have a0 := h3; unfold In at a0)); (first | have a1 := in_u h2 | (have a1 := h2; unfold In at a1)); (first | have a2 := in_u h1 | (have a2 := h1; unfold In at a2)); (first | have a3 := in_u i23a | (have a3 := i23a; unfold In at a3)); (first | have a4 := in_u i23 | (have a4 := i23; unfold In at a4)); (first | have a5 := in_u i89 | (have a5 := i89; unfold In at a5)); (first | have a6 := in_u i135 | (have a6 := i135; unfold In at a6)); have a7 := t_add e135 i23 (in_c 1 rfl) rfl; (first | have a8 := in_u ((in_c 1 rfl)) | (have a8 := (in_c 1 rfl); unfold In at a8)); have a9 := tx_i2l e45; (first | have a10 := in_u i44 | (have a10 := i44; unfold In at a10)); have oc := oc_81_65; omega)) g17_1 (e36.trans (congrFun (hFc17.1 69 rfl) _)) (e57.trans (congrFun (hFc17.1 70 rfl) _)) (e44.trans (congrFun (hFc17.1 71 rfl) _)) e37 e45 e46 e58 e59) (te_r g17_0.1 (show (y17_4).toNatClampNeg < (netC s).1 from (by show (y17_4).toInt.toNat < (s.2.2.1 65 8).toInt.toNat; rw [← e_65_8]; (first | have a0 := in_u h3 | (have a0 := h3; unfold In at a0)); (first | have a1 := in_u h2 | (have a1 := h2; unfold In at a1)); (first | have a2 := in_u h1 | (have a2 := h1; unfold In at a2)); (first | have a3 := in_u i23a | (have a3 := i23a; unfold In at a3)); (first | have a4 := in_u i23 | (have a4 := i23; unfold In at a4)); (first | have a5 := in_u i89 | (have a5 := i89; unfold In at a5)); (first | have a6 := in_u i135 | (have a6 := i135; unfold In at a6)); have a7 := t_add e135 i23 (in_c 1 rfl) rfl; (first | have a8 := in_u ((in_c 1 rfl)) | (have a8 := (in_c 1 rfl); unfold In at a8)); have a9 := tx_i2l e45; (first | have a10 := in_u i44 | (have a10 := i44; unfold In at a10)); have oc := oc_81_65; omega)) (e68.trans (congrFun (hFc17.1 72 rfl) _)) e75 e76) (fun h9 => by have o1 : (Int64.ofInt 0).toInt = 0 := rfl; first | (have c9 := c83a; omega) | (have c9 := c89; omega)) (fun h9 => by have o1 : (Int64.ofInt 0).toInt = 0 := rfl; first | (have c9 := c107a; omega) | (have c9 := c118; omega))
              have n17a : TFA (netC s) (fiC s) (x2).toInt (x1).toNatClampNeg (faC sc17) := by exact g17_1
              exact gg_w (by first | exact Nat.le_add_right _ _ | exact gw2 | exact gw3 | exact gwe rfl | exact gwf rfl | exact gwg rfl | exact gwh rfl | omega) (gg_f (gf_cons rfl (gf_cons rfl (gf_cons rfl (gf_cons rfl (gf_cons rfl gf_nil))))) (ih17 sc17 z135 hIc17 hFc17 (in_w 0 160 i135 rfl) n17 n17a (m_up mm17 (t_add e135 i23 (in_c 1 rfl) rfl) (in_w 1 1 (in_c 1 rfl) rfl))))
            · skip
              have i107 := z_gt 1 1 c107 i106 rfl
              have c107a := lc_gt e106 c107
              exact ln_lt c107a (l_c 0 rfl) i83a rfl
          · skip
            have i89 := r_le2 1 2147483647 c89 h3 (i_rng z76) rfl
            refine g_aload_n 93 (gd rfl) rfl rfl ?_
            refine g_iload 95 (gd rfl) rfl rfl ?_
            refine g_iload 97 (gd rfl) rfl rfl ?_
            refine g_callv (X := _) (As := [.int y17_4, .int z76]) (r := []) (b := A 65) (q := 65) 100 (gd rfl) rfl rfl rfl rfl rfl (ww_o rfl) (Nat.le_of_ble_eq_true rfl) (mc := 0) (ms := 0) (Nat.zero_le _) (Nat.zero_le _) (P := fun v u => _) ?_ (fun e u h => h) (fun v u h => h)
            intro po97 xx97 hp97 hx97
            refine g_enter2 (k := 82) (N := 300) (by first | exact dq1 hd rfl | exact dq0 hd rfl | exact dq2 hd rfl | exact dq3 hd rfl | omega) rfl (Nat.le_of_ble_eq_true rfl) ?_
            refine g_aload_n 1 (gd rfl) rfl rfl ?_
            refine g_getA (q2 := 73) 4 (gd rfl) rfl rfl rfl rfl ?_
            refine g_iload_n 5 (gd rfl) rfl rfl ?_
            refine g_dup2 6 (gd rfl) rfl rfl rfl ?_
            refine g_iaload 7 (gd rfl) rfl (n := 160) rfl (in_ix i23 rfl) (fun z97x6 e97x6 => ?_)
            have q97x6 : z75 = z97x6 := (e75).trans e97x6.symm
            subst q97x6
            refine g_iload_n 8 (gd rfl) rfl rfl ?_
            refine g_iadd 9 (gd rfl) rfl (fun z97x8 e97x8 => ?_)
            refine g_iastore 10 (gd rfl) rfl (n := 160) rfl (in_ix i23 rfl) ?_
            have hI97x9 := inv_sI (q := 73) (j := y17_4.toNatClampNeg) hIc17 rfl (in_w (-2147483648) 2147483647 (i_rng z97x8) rfl)
            refine g_aload_n 11 (gd rfl) rfl rfl ?_
            refine g_getA (q2 := 74) 14 (gd rfl) rfl rfl rfl rfl ?_
            refine g_aload_n 15 (gd rfl) rfl rfl ?_
            refine g_getA (q2 := 70) 18 (gd rfl) rfl rfl rfl rfl ?_
            refine g_iload_n 19 (gd rfl) rfl rfl ?_
            refine g_iaload 20 (gd rfl) rfl (n := 160) rfl (in_ix i23 rfl) (fun z97x19 e97x19 => ?_)
            have q97x19 : z57 = z97x19 := (sI_ne rfl (e57)).trans e97x19.symm
            subst q97x19
            refine g_dup2 21 (gd rfl) rfl rfl rfl ?_
            refine g_iaload 22 (gd rfl) rfl (n := 32) rfl (in_ix i57 rfl) (fun z97x21 e97x21 => ?_)
            refine g_iload_n 23 (gd rfl) rfl rfl ?_
            refine g_iadd 24 (gd rfl) rfl (fun z97x23 e97x23 => ?_)
            refine g_iastore 25 (gd rfl) rfl (n := 32) rfl (in_ix i57 rfl) ?_
            have hI97x24 := inv_sI (q := 74) (j := z57.toNatClampNeg) hI97x9 rfl (in_w (-2147483648) 2147483647 (i_rng z97x23) rfl)
            refine g_aload_n 26 (gd rfl) rfl rfl ?_
            refine g_getA (q2 := 74) 29 (gd rfl) rfl rfl rfl rfl ?_
            refine g_aload_n 30 (gd rfl) rfl rfl ?_
            refine g_getA (q2 := 69) 33 (gd rfl) rfl rfl rfl rfl ?_
            refine g_iload_n 34 (gd rfl) rfl rfl ?_
            refine g_iaload 35 (gd rfl) rfl (n := 160) rfl (in_ix i23 rfl) (fun z97x34 e97x34 => ?_)
            have q97x34 : z36 = z97x34 := (sI_ne rfl (sI_ne rfl (e36))).trans e97x34.symm
            subst q97x34
            refine g_dup2 36 (gd rfl) rfl rfl rfl ?_
            refine g_iaload 37 (gd rfl) rfl (n := 32) rfl (in_ix i36 rfl) (fun z97x36 e97x36 => ?_)
            refine g_iload_n 38 (gd rfl) rfl rfl ?_
            refine g_isub 39 (gd rfl) rfl (fun z97x38 e97x38 => ?_)
            refine g_iastore 40 (gd rfl) rfl (n := 32) rfl (in_ix i36 rfl) ?_
            have hI97x39 := inv_sI (q := 74) (j := z36.toNatClampNeg) hI97x24 rfl (in_w (-2147483648) 2147483647 (i_rng z97x38) rfl)
            refine g_return (gd rfl) rfl (hp97 _ _ ?_)
            show GG _ _ _ _ _ _ _ _ [] _ _ _
            refine g_goto 135 (gd rfl) rfl ?_
            refine g_iinc 138 (gd rfl) rfl rfl (Nat.le_of_ble_eq_true rfl) (fun z135 e135 => ?_)
            have i135 := in_add 1 160 e135 i23 (in_c 1 rfl) rfl rfl
            refine g_goto 17 (gd rfl) rfl ?_
            have n17 : TNJ (netC s) (x3).toInt ((x2).toInt - 1) (faC (sI (sI (sI sc17 73 y17_4.toNatClampNeg z97x8) 74 z57.toNatClampNeg z97x23) 74 z36.toNatClampNeg z97x38)) (fiC s) (exC s) (fiC (sI (sI (sI sc17 73 y17_4.toNatClampNeg z97x8) 74 z57.toNatClampNeg z97x23) 74 z36.toNatClampNeg z97x38)) (exC (sI (sI (sI sc17 73 y17_4.toNatClampNeg z97x8) 74 z57.toNatClampNeg z97x23) 74 z36.toNatClampNeg z97x38)) (z135).toNatClampNeg := by rw [(show (z135).toNatClampNeg = (y17_4).toNatClampNeg + 1 from (by show (z135).toInt.toNat = (y17_4).toInt.toNat + 1; (first | have a0 := in_u h3 | (have a0 := h3; unfold In at a0)); (first | have a1 := in_u h2 | (have a1 := h2; unfold In at a1)); (first | have a2 := in_u h1 | (have a2 := h1; unfold In at a2)); (first | have a3 := in_u i23a | (have a3 := i23a; unfold In at a3)); (first | have a4 := in_u i23 | (have a4 := i23; unfold In at a4)); (first | have a5 := in_u i89 | (have a5 := i89; unfold In at a5)); (first | have a6 := in_u i135 | (have a6 := i135; unfold In at a6)); have a7 := t_add e135 i23 (in_c 1 rfl) rfl; (first | have a8 := in_u ((in_c 1 rfl)) | (have a8 := (in_c 1 rfl); unfold In at a8)); have a9 := tx_i2l e45; (first | have a10 := in_u i44 | (have a10 := i44; unfold In at a10)); have oc := oc_81_65; omega))]; have o1 : (Int64.ofInt 0).toInt = 0 := rfl; exact (show TNJ _ _ _ (faC sc17) _ _ _ _ _ from te_y (sc := sc17) (d := z76) q_0.1 (show (y17_4).toNatClampNeg < (netC s).1 from (by show (y17_4).toInt.toNat < (s.2.2.1 65 8).toInt.toNat; rw [← e_65_8]; (first | have a0 := in_u h3 | (have a0 := h3; unfold In at a0)); (first | have a1 := in_u h2 | (have a1 := h2; unfold In at a1)); (first | have a2 := in_u h1 | (have a2 := h1; unfold In at a2)); (first | have a3 := in_u i23a | (have a3 := i23a; unfold In at a3)); (first | have a4 := in_u i23 | (have a4 := i23; unfold In at a4)); (first | have a5 := in_u i89 | (have a5 := i89; unfold In at a5)); (first | have a6 := in_u i135 | (have a6 := i135; unfold In at a6)); have a7 := t_add e135 i23 (in_c 1 rfl) rfl; (first | have a8 := in_u ((in_c 1 rfl)) | (have a8 := (in_c 1 rfl); unfold In at a8)); have a9 := tx_i2l e45; (first | have a10 := in_u i44 | (have a10 := i44; unfold In at a10)); have oc := oc_81_65; omega)) (show 1 ≤ (x3).toInt from h3.1) ⟨h2.1, h2.2⟩ g17_1 g17_0 (show (netC s).1 ≤ 160 from (by show (s.2.2.1 65 8).toInt.toNat ≤ 160; rw [← e_65_8]; (first | have a0 := in_u h3 | (have a0 := h3; unfold In at a0)); (first | have a1 := in_u h2 | (have a1 := h2; unfold In at a1)); (first | have a2 := in_u h1 | (have a2 := h1; unfold In at a2)); (first | have a3 := in_u i23a | (have a3 := i23a; unfold In at a3)); (first | have a4 := in_u i23 | (have a4 := i23; unfold In at a4)); (first | have a5 := in_u i89 | (have a5 := i89; unfold In at a5)); (first | have a6 := in_u i135 | (have a6 := i135; unfold In at a6)); have a7 := t_add e135 i23 (in_c 1 rfl) rfl; (first | have a8 := in_u ((in_c 1 rfl)) | (have a8 := (in_c 1 rfl); unfold In at a8)); have a9 := tx_i2l e45; (first | have a10 := in_u i44 | (have a10 := i44; unfold In at a10)); have oc := oc_81_65; omega)) (te_m q_0.1 (show (y17_4).toNatClampNeg < (netC s).1 from (by show (y17_4).toInt.toNat < (s.2.2.1 65 8).toInt.toNat; rw [← e_65_8]; (first | have a0 := in_u h3 | (have a0 := h3; unfold In at a0)); (first | have a1 := in_u h2 | (have a1 := h2; unfold In at a1)); (first | have a2 := in_u h1 | (have a2 := h1; unfold In at a2)); (first | have a3 := in_u i23a | (have a3 := i23a; unfold In at a3)); (first | have a4 := in_u i23 | (have a4 := i23; unfold In at a4)); (first | have a5 := in_u i89 | (have a5 := i89; unfold In at a5)); (first | have a6 := in_u i135 | (have a6 := i135; unfold In at a6)); have a7 := t_add e135 i23 (in_c 1 rfl) rfl; (first | have a8 := in_u ((in_c 1 rfl)) | (have a8 := (in_c 1 rfl); unfold In at a8)); have a9 := tx_i2l e45; (first | have a10 := in_u i44 | (have a10 := i44; unfold In at a10)); have oc := oc_81_65; omega)) g17_1 (e36.trans (congrFun (hFc17.1 69 rfl) _)) (e57.trans (congrFun (hFc17.1 70 rfl) _)) (e44.trans (congrFun (hFc17.1 71 rfl) _)) e37 e45 e46 e58 e59) (e36.trans (congrFun (hFc17.1 69 rfl) _)) (e57.trans (congrFun (hFc17.1 70 rfl) _)) e75 (Or.inl ⟨by have c9 := c83a; omega, (te_r g17_0.1 (show (y17_4).toNatClampNeg < (netC s).1 from (by show (y17_4).toInt.toNat < (s.2.2.1 65 8).toInt.toNat; rw [← e_65_8]; (first | have a0 := in_u h3 | (have a0 := h3; unfold In at a0)); (first | have a1 := in_u h2 | (have a1 := h2; unfold In at a1)); (first | have a2 := in_u h1 | (have a2 := h1; unfold In at a2)); (first | have a3 := in_u i23a | (have a3 := i23a; unfold In at a3)); (first | have a4 := in_u i23 | (have a4 := i23; unfold In at a4)); (first | have a5 := in_u i89 | (have a5 := i89; unfold In at a5)); (first | have a6 := in_u i135 | (have a6 := i135; unfold In at a6)); have a7 := t_add e135 i23 (in_c 1 rfl) rfl; (first | have a8 := in_u ((in_c 1 rfl)) | (have a8 := (in_c 1 rfl); unfold In at a8)); have a9 := tx_i2l e45; (first | have a10 := in_u i44 | (have a10 := i44; unfold In at a10)); have oc := oc_81_65; omega)) (e68.trans (congrFun (hFc17.1 72 rfl) _)) e75 e76).1⟩) e97x8 e97x21 e97x23 e97x36 e97x38)
            have n17a : TFA (netC s) (fiC s) (x2).toInt (x1).toNatClampNeg (faC (sI (sI (sI sc17 73 y17_4.toNatClampNeg z97x8) 74 z57.toNatClampNeg z97x23) 74 z36.toNatClampNeg z97x38)) := by exact g17_1
            exact gg_w (by first | exact Nat.le_add_right _ _ | exact gw2 | exact gw3 | exact gwe rfl | exact gwf rfl | exact gwg rfl | exact gwh rfl | omega) (gg_f (gf_cons rfl (gf_cons rfl (gf_cons rfl (gf_cons rfl (gf_cons rfl gf_nil))))) (ih17 (sI (sI (sI sc17 73 y17_4.toNatClampNeg z97x8) 74 z57.toNatClampNeg z97x23) 74 z36.toNatClampNeg z97x38) z135 hI97x39 (fr_sI rfl (fr_sI rfl (fr_sI rfl hFc17))) (in_w 0 160 i135 rfl) n17 n17a (m_up mm17 (t_add e135 i23 (in_c 1 rfl) rfl) (in_w 1 1 (in_c 1 rfl) rfl))))
  refine g_enter2 (k := 81) (N := 145801) (by first | exact dq1 hd rfl | exact dq0 hd rfl | exact dq2 hd rfl | exact dq3 hd rfl | omega) rfl (Nat.le_of_ble_eq_true rfl) ?_
  refine g_aload_n 1 (gd rfl) rfl rfl ?_
  refine g_getA (q2 := 75) 4 (gd rfl) rfl rfl rfl rfl ?_
  refine g_lconst 0 5 (gd rfl) rfl rfl ?_
  refine g_calls (As := [.ref (A 75), .long (Int64.ofInt 0)]) (r := []) 8 (gd rfl) rfl rfl rfl rfl rfl (Nat.le_of_ble_eq_true rfl) (Nat.zero_le _) (Nat.zero_le _) (k_fillL 75 (by first | exact dq1 hd rfl | exact dq0 hd rfl | exact dq2 hd rfl | exact dq3 hd rfl | omega) hI (n := 32) rfl rfl rfl (l_rng (Int64.ofInt 0))) (fun v u h => ?_)
  obtain ⟨s5, hI5, hF5, rfl, rfl, fl5⟩ := h
  show GG _ _ _ _ _ _ _ _ [] _ _ _
  refine g_aload_n 9 (gd rfl) rfl rfl ?_
  refine g_iload_n 10 (gd rfl) rfl rfl ?_
  refine g_iload_n 11 (gd rfl) rfl rfl ?_
  have p11 : RXP s5 (x2).toInt (x1).toNatClampNeg := by exact tep_x q_0 (net_fr hF5 rfl) (fi_fr hF5 rfl) (show (x1).toNatClampNeg ≤ 32 from (by show (x1).toInt.toNat ≤ 32; (first | have a0 := in_u ro_65_8 | (have a0 := ro_65_8; unfold In at a0)); (first | have a1 := in_u h3 | (have a1 := h3; unfold In at a1)); (first | have a2 := in_u h2 | (have a2 := h2; unfold In at a2)); (first | have a3 := in_u h1 | (have a3 := h1; unfold In at a3)); have oc := oc_81_65; omega)) (fun v hv => fl5 v hv)
  refine g_callv (X := _) (As := [.int x1, .int x2]) (r := []) (b := A 65) (q := 65) 14 (gd rfl) rfl rfl rfl rfl rfl (ww_o rfl) (Nat.le_of_ble_eq_true rfl) (Nat.zero_le _) (Nat.zero_le _) (f_86_65 (by first | exact dq1 hd rfl | exact dq0 hd rfl | exact dq2 hd rfl | exact dq3 hd rfl | omega) hI5 (in_w 0 32 h1 rfl) (in_w 1 1048576 h2 rfl) p11) (fun e u h => h) (fun v u h => ?_)
  obtain ⟨s11, hI11, hF11, rfl, rfl, p11a⟩ := h
  show GG _ _ _ _ _ _ _ _ [] _ _ _
  refine g_iconst 0 15 (gd rfl) rfl rfl ?_
  refine g_istore 17 (gd rfl) rfl (Nat.le_of_ble_eq_true rfl) ?_
  have n17 : TNJ (netC s) (x3).toInt ((x2).toInt - 1) (faC s11) (fiC s) (exC s) (fiC s11) (exC s11) ((Int32.ofInt 0)).toNatClampNeg := by have f9 : fiC s11 = fiC s := (fi_fr hF11 rfl).trans (fi_fr hF5 rfl); have x9 : exC s11 = exC s := (ex_fr hF11 rfl).trans (ex_fr hF5 rfl); rw [f9, x9]; exact (show TNJ _ _ _ _ _ _ _ _ 0 from tri_0 q_0.2.1 q_0.2.2.2)
  have n17a : TFA (netC s) (fiC s) (x2).toInt (x1).toNatClampNeg (faC s11) := by have r9 := p11a; rw [net_fr hF5 rfl, fi_fr hF5 rfl] at r9; exact tfa_i r9 (fun v hv => by show (s5.2.1 75 v).toInt = 0; rw [fl5 v (Nat.lt_of_lt_of_le hv (show (x1).toNatClampNeg ≤ 32 from (by show (x1).toInt.toNat ≤ 32; (first | have a0 := in_u ro_65_8 | (have a0 := ro_65_8; unfold In at a0)); (first | have a1 := in_u h3 | (have a1 := h3; unfold In at a1)); (first | have a2 := in_u h2 | (have a2 := h2; unfold In at a2)); (first | have a3 := in_u h1 | (have a3 := h1; unfold In at a3)); (first | have a4 := in_u ((in_c 0 rfl)) | (have a4 := (in_c 0 rfl); unfold In at a4)); have oc := oc_81_65; omega)))]; rfl)
  exact gg_w (by first | exact Nat.le_of_ble_eq_true rfl | omega) (gg_f (gf_cons rfl (gf_cons rfl (gf_cons rfl (gf_cons rfl (gf_cons rfl gf_nil))))) (ct17 161 s11 (Int32.ofInt 0) hI11 (fr_tr rfl (fr_tr rfl fr_rf hF5) hF11) (in_w 0 160 (in_c 0 rfl) rfl) n17 n17a (m_in 161 (in_w 0 160 (in_c 0 rfl) rfl) rfl)))

theorem oc_83_65 : (Int32.ofInt (-1)).toInt = (-1) ∧ (Int32.ofInt 0).toInt = 0 ∧ (Int32.ofInt 1).toInt = 1 ∧ (Int32.ofInt 1000000).toInt = 1000000 := ⟨rfl, rfl, rfl, rfl⟩
/-- GraphHouse$Flows.carryAll -/
theorem f_83_65 {Z : AmZ} {A : Nat → Nat} {s : GS} {ex : va_W} {d : Nat} {X : AmX} {x1 : Int32} {x2 : Int32} (hd : 4 ≤ d) (hI : Inv s) (h1 : In x1 0 32) (h2 : In x2 1 65536) (q_0 : CAP s (x2).toInt (x1).toNatClampNeg) : GC Z d 83 [.ref (A 65), .int x1, .int x2] (WW Z A s ++ ex) 0 0 (fun v u => ∃ t : GS, Inv t ∧ Fr fm_83_65 s t ∧ v = none ∧ u = WW Z A t ++ ex ∧ (CAO s t (x2).toInt (x1).toNatClampNeg)) X := by
  intro post xp hP hX
  have ct2 : ∀ (k2 : Nat) (sc2 : GS) (y2_3 : Int32), Inv sc2 → Fr fm_83_65 s sc2 → (In y2_3 0 2147483647) → (CAI s sc2 (x2).toInt (y2_3).toInt) → 2147483647 - (y2_3).toInt < (k2 : Int) → GG Z (d - 1) 83 post (gx xp) (1 + k2 * 900) 2 (fun j => xlook j [(0, .ref (A 65)), (1, .int x1), (2, .int x2), (3, .int y2_3)]) [] (WW Z A sc2 ++ ex) 0 0 := by
    intro k2
    induction k2 with
    | zero => intro sc2 y2_3 hIc2 hFc2 j2_3 g2_0 mm2; exact m_no mm2 j2_3 rfl
    | succ k2 ih2 =>
      intro sc2 y2_3 hIc2 hFc2 j2_3 g2_0 mm2
      refine gg_w (M := 1 + k2 * 900 + 900) gws ?_
      refine g_iload_n 3 (gd rfl) rfl rfl ?_
      refine g_ldc 1000000 5 (gd rfl) rfl rfl ?_
      refine g_cmp_ge 8 36 (gd rfl) rfl rfl (fun c5 => ?_) (fun c5 => ?_)
      · skip
        have i5 := r_le2 1000000 2147483647 c5 (in_c 1000000 rfl) j2_3 rfl
        have n36 : CAO s sc2 (x2).toInt (x1).toNatClampNeg := by exact (cai_x (show 1 ≤ (x2).toInt from h2.1) q_0 g2_0 (show 1000000 ≤ (y2_3).toInt from (by (first | have a0 := in_u h2 | (have a0 := h2; unfold In at a0)); (first | have a1 := in_u h1 | (have a1 := h1; unfold In at a1)); (first | have a2 := in_u i5 | (have a2 := i5; unfold In at a2)); have oc := oc_83_65; omega))).elim
        exact g_return (gd rfl) rfl (hP _ _ ⟨sc2, hIc2, hFc2, rfl, rfl, n36⟩)
      · skip
        have i5 := r_lt1 0 999999 c5 j2_3 (in_c 1000000 rfl) rfl
        refine g_aload_n 9 (gd rfl) rfl rfl ?_
        refine g_iload_n 10 (gd rfl) rfl rfl ?_
        refine g_iload_n 11 (gd rfl) rfl rfl ?_
        have p11 : NLP sc2 (x2).toInt (x1).toNatClampNeg := by exact cai_n q_0 (net_fr hFc2 rfl) g2_0
        refine g_callv (X := _) (As := [.int x1, .int x2]) (r := []) (b := A 65) (q := 65) 14 (gd rfl) rfl rfl rfl rfl rfl (ww_o rfl) (Nat.le_of_ble_eq_true rfl) (Nat.zero_le _) (Nat.zero_le _) (f_85_65 (by first | exact dq1 hd rfl | exact dq0 hd rfl | exact dq2 hd rfl | exact dq3 hd rfl | omega) hIc2 (in_w 0 32 h1 rfl) (in_w 1 65536 h2 rfl) p11) (fun e u h => h) (fun v u h => ?_)
        obtain ⟨s11, hI11, hF11, z11, rfl, rfl, i11, p11a, p11b⟩ := h
        show GG _ _ _ _ _ _ _ _ [.int z11] _ _ _
        refine g_istore 16 (gd rfl) rfl (Nat.le_of_ble_eq_true rfl) ?_
        refine g_iload 18 (gd rfl) rfl rfl ?_
        refine g_iconst (-1) 19 (gd rfl) rfl rfl ?_
        refine g_cmp_ne 22 23 (gd rfl) rfl rfl (fun c19 => ?_) (fun c19 => ?_)
        · skip
          have i19 := r_ne1 0 31 c19 i11 (in_c (-1) rfl) rfl
          refine g_aload_n 24 (gd rfl) rfl rfl ?_
          refine g_iload 26 (gd rfl) rfl rfl ?_
          refine g_callv (X := _) (As := [.int z11]) (r := []) (b := A 65) (q := 65) 29 (gd rfl) rfl rfl rfl rfl rfl (ww_o rfl) (Nat.le_of_ble_eq_true rfl) (Nat.zero_le _) (Nat.zero_le _) (f_88_65 (by first | exact dq1 hd rfl | exact dq0 hd rfl | exact dq2 hd rfl | exact dq3 hd rfl | omega) hI11 (in_w 0 31 i19 rfl)) (fun e u h => h) (fun v u h => ?_)
          obtain ⟨s26, hI26, hF26, z26, rfl, rfl, p26⟩ := h
          show GG _ _ _ _ _ _ _ _ [.long z26] _ _ _
          refine g_pop2 30 (gd rfl) rfl rfl ?_
          refine g_iinc 33 (gd rfl) rfl rfl (Nat.le_of_ble_eq_true rfl) (fun z30 e30 => ?_)
          have i30 := in_add 1 1000000 e30 i5 (in_c 1 rfl) rfl rfl
          refine g_goto 2 (gd rfl) rfl ?_
          have n2 : CAI s s26 (x2).toInt (z30).toInt := by exact cai_s (show 1 ≤ (x2).toInt from h2.1) q_0 g2_0 (net_fr hFc2 rfl) (net_fr hF11 rfl) (fi_fr hF11 rfl) (ex_fr hF11 rfl) p11a p11b c19 p26 (show (z30).toInt = (y2_3).toInt + 1 from (by (first | have a0 := in_u h2 | (have a0 := h2; unfold In at a0)); (first | have a1 := in_u h1 | (have a1 := h1; unfold In at a1)); (first | have a2 := in_u i5 | (have a2 := i5; unfold In at a2)); (first | have a3 := in_u i19 | (have a3 := i19; unfold In at a3)); (first | have a4 := in_u i30 | (have a4 := i30; unfold In at a4)); have a5 := t_add e30 i5 (in_c 1 rfl) rfl; (first | have a6 := in_u ((in_c 1 rfl)) | (have a6 := (in_c 1 rfl); unfold In at a6)); have oc := oc_83_65; omega))
          exact gg_w (by first | exact Nat.le_add_right _ _ | exact gw2 | exact gw3 | exact gwe rfl | exact gwf rfl | exact gwg rfl | exact gwh rfl | omega) (gg_f (gf_cons rfl (gf_cons rfl (gf_cons rfl (gf_cons rfl gf_nil)))) (ih2 s26 z30 hI26 (fr_tr rfl (fr_tr rfl hFc2 hF11) hF26) (in_w 0 2147483647 i30 rfl) n2 (m_up mm2 (t_add e30 i5 (in_c 1 rfl) rfl) (in_w 1 1 (in_c 1 rfl) rfl))))
        · skip
          have i19 := r_eq1 (-1) (-1) c19 i11 (in_c (-1) rfl) rfl
          have n22 : CAO s s11 (x2).toInt (x1).toNatClampNeg := by exact cao_i g2_0 (net_fr hFc2 rfl) (fi_fr hF11 rfl) (ex_fr hF11 rfl) p11a p11b c19
          exact g_return (gd rfl) rfl (hP _ _ ⟨s11, hI11, (fr_tr rfl hFc2 hF11), rfl, rfl, n22⟩)
  refine g_enter2 (k := 83) (N := 1932735284101) (by first | exact dq1 hd rfl | exact dq0 hd rfl | exact dq2 hd rfl | exact dq3 hd rfl | omega) rfl (Nat.le_of_ble_eq_true rfl) ?_
  refine g_iconst 0 1 (gd rfl) rfl rfl ?_
  refine g_istore_n 2 (gd rfl) rfl (Nat.le_of_ble_eq_true rfl) ?_
  have n2 : CAI s s (x2).toInt ((Int32.ofInt 0)).toInt := by exact (show CAI _ _ _ 0 from cai_0 q_0)
  exact gg_w (by first | exact Nat.le_of_ble_eq_true rfl | omega) (gg_f (gf_cons rfl (gf_cons rfl (gf_cons rfl (gf_cons rfl gf_nil)))) (ct2 2147483648 s (Int32.ofInt 0) hI fr_rf (in_w 0 2147483647 (in_c 0 rfl) rfl) n2 (m_in 2147483648 (in_w 0 2147483647 (in_c 0 rfl) rfl) rfl)))

theorem oc_80_65_2 : (Int32.ofInt (-1)).toInt = (-1) ∧ (Int32.ofInt 0).toInt = 0 ∧ (Int32.ofInt 1).toInt = 1 ∧ (Int64.ofInt 0).toInt = 0 := ⟨rfl, rfl, rfl, rfl⟩
/-- GraphHouse$Flows.layArcs -/
theorem f_80_65_2 {Z : AmZ} {A : Nat → Nat} {s : GS} {ex : va_W} {d : Nat} {X : AmX}  (hd : 3 ≤ d) (hI : Inv s) (q_0 : TQ s) (q_1 : NDQ (gvC s)) : GC Z d 80 [.ref (A 65), .ref (A 2)] (WW Z A s ++ ex) 0 0 (fun v u => ∃ t : GS, Inv t ∧ Fr fm_80_65_2 s t ∧ ∃ z : Int64, v = some (.long z) ∧ u = WW Z A t ++ ex ∧ (LXF (gvC s) t 160) ∧ (LPS (gvC s) (z).toInt 160)) X := by
  intro post xp hP hX
  obtain ⟨u_2_3, e_2_3⟩ : ∃ w, w = s.2.2.1 2 3 := ⟨_, rfl⟩
  have ro_2_3 := inv_F hI 0 160 rfl e_2_3
  have ct18 : ∀ (k18 : Nat) (sc18 : GS) (y18_2 : Int64) (y18_4 : Int32), Inv sc18 → Fr fm_80_65_2 s sc18 → (In y18_4 0 160) → (LXF (gvC s) sc18 (y18_4).toNatClampNeg) → (LPS (gvC s) (y18_2).toInt (y18_4).toNatClampNeg) → 160 - (y18_4).toInt < (k18 : Int) → GG Z (d - 1) 80 post (gx xp) (1 + k18 * 900) 18 (fun j => xlook j [(0, .ref (A 65)), (1, .ref (A 2)), (2, .long y18_2), (4, .int y18_4)]) [] (WW Z A sc18 ++ ex) 0 0 := by
    intro k18
    induction k18 with
    | zero => intro sc18 y18_2 y18_4 hIc18 hFc18 j18_4 g18_0 g18_1 mm18; exact m_no mm18 j18_4 rfl
    | succ k18 ih18 =>
      intro sc18 y18_2 y18_4 hIc18 hFc18 j18_4 g18_0 g18_1 mm18
      refine gg_w (M := 1 + k18 * 900 + 900) gws ?_
      refine g_iload 20 (gd rfl) rfl rfl ?_
      refine g_aload_n 21 (gd rfl) rfl rfl ?_
      refine g_getI 24 (gd rfl) rfl rfl rfl (fun z21 e21 => ?_)
      have q21 : u_2_3 = z21 := (fr_F e_2_3 hFc18 rfl).trans e21.symm
      subst q21
      refine g_cmp_ge 27 118 (gd rfl) rfl rfl (fun c24 => ?_) (fun c24 => ?_)
      · skip
        refine g_lload_n 119 (gd rfl) rfl rfl ?_
        have n119 : LXF (gvC s) sc18 160 := by exact lxf_w (T0 := (s.2.2.1 2 3).toInt) g18_0 (fun p h1 h2 => q_0 p h1 h2) (by rw [← e_2_3]; show _ ≤ (((y18_4).toInt.toNat : Nat) : Int); (first | have a0 := in_u ro_2_3 | (have a0 := ro_2_3; unfold In at a0)); (first | have a1 := in_u j18_4 | (have a1 := j18_4; unfold In at a1)); have oc := oc_80_65_2; omega) (by show (y18_4).toInt.toNat ≤ 160; (first | have a0 := in_u ro_2_3 | (have a0 := ro_2_3; unfold In at a0)); (first | have a1 := in_u j18_4 | (have a1 := j18_4; unfold In at a1)); have oc := oc_80_65_2; omega)
        have n119a : LPS (gvC s) (y18_2).toInt 160 := by have w9 := lps_w (T0 := (s.2.2.1 2 3).toInt) (160 - (y18_4).toNatClampNeg) (y18_4).toNatClampNeg g18_1 (fun p h1 h2 => q_0 p h1 h2) (by rw [← e_2_3]; show _ ≤ (((y18_4).toInt.toNat : Nat) : Int); (first | have a0 := in_u ro_2_3 | (have a0 := ro_2_3; unfold In at a0)); (first | have a1 := in_u j18_4 | (have a1 := j18_4; unfold In at a1)); have oc := oc_80_65_2; omega) (by have h9 : (y18_4).toNatClampNeg ≤ 160 := (by show (y18_4).toInt.toNat ≤ 160; (first | have a0 := in_u ro_2_3 | (have a0 := ro_2_3; unfold In at a0)); (first | have a1 := in_u j18_4 | (have a1 := j18_4; unfold In at a1)); have oc := oc_80_65_2; omega); omega); rw [show (y18_4).toNatClampNeg + (160 - (y18_4).toNatClampNeg) = 160 from (by have h9 : (y18_4).toNatClampNeg ≤ 160 := (by show (y18_4).toInt.toNat ≤ 160; (first | have a0 := in_u ro_2_3 | (have a0 := ro_2_3; unfold In at a0)); (first | have a1 := in_u j18_4 | (have a1 := j18_4; unfold In at a1)); have oc := oc_80_65_2; omega); omega)] at w9; exact w9
        exact g_lreturn (gd rfl) rfl (hP _ _ ⟨sc18, hIc18, hFc18, y18_2, rfl, rfl, n119, n119a⟩)
      · skip
        have i24 := r_lt1 0 159 c24 j18_4 ro_2_3 rfl
        have i24a := r_lt2 1 160 c24 j18_4 ro_2_3 rfl
        refine g_aload_n 28 (gd rfl) rfl rfl ?_
        refine g_iload 30 (gd rfl) rfl rfl ?_
        refine g_callv (X := _) (As := [.int y18_4]) (r := []) (b := A 2) (q := 2) 33 (gd rfl) rfl rfl rfl rfl rfl (ww_o rfl) (Nat.le_of_ble_eq_true rfl) (mc := 0) (ms := 0) (Nat.zero_le _) (Nat.zero_le _) (P := fun v u => _) ?_ (fun e u h => h) (fun v u h => h)
        intro po30 xx30 hp30 hx30
        refine g_enter2 (k := 97) (N := 300) (by first | exact dq1 hd rfl | exact dq0 hd rfl | exact dq2 hd rfl | exact dq3 hd rfl | omega) rfl (Nat.le_of_ble_eq_true rfl) ?_
        refine g_aload_n 1 (gd rfl) rfl rfl ?_
        refine g_getA (q2 := 4) 4 (gd rfl) rfl rfl rfl rfl ?_
        refine g_iload_n 5 (gd rfl) rfl rfl ?_
        refine g_iaload 6 (gd rfl) rfl (n := 160) rfl (in_ix i24 rfl) (fun z30x5 e30x5 => ?_)
        have i30x5 := inv_I hIc18 (n := 160) (t := 0) (-1) 31 rfl (in_ix i24 rfl) rfl e30x5
        refine g_iconst (-1) 7 (gd rfl) rfl rfl ?_
        refine g_cmp_eq 10 29 (gd rfl) rfl rfl (fun c30x7 => ?_) (fun c30x7 => ?_)
        · skip
          have i30x7 := r_eq1 (-1) (-1) c30x7 i30x5 (in_c (-1) rfl) rfl
          refine g_iconst 0 30 (gd rfl) rfl rfl ?_
          refine g_ireturn (gd rfl) rfl (nb01 (in_w 0 1 (in_c 0 rfl) rfl)) (hp30 _ _ ?_)
          show GG _ _ _ _ _ _ _ _ [.int (Int32.ofInt 0)] _ _ _
          refine g_if_eq 36 71 (gd rfl) rfl rfl (fun c33 => ?_) (fun c33 => ?_)
          · skip
            refine g_aload_n 72 (gd rfl) rfl rfl ?_
            refine g_getA (q2 := 4) 75 (gd rfl) rfl rfl rfl rfl ?_
            refine g_iload 77 (gd rfl) rfl rfl ?_
            refine g_iaload 78 (gd rfl) rfl (n := 160) rfl (in_ix i24 rfl) (fun z77 e77 => ?_)
            have q77 : z30x5 = z77 := (e30x5).trans e77.symm
            subst q77
            refine g_iconst (-1) 79 (gd rfl) rfl rfl ?_
            refine g_cmp_eq 82 112 (gd rfl) rfl rfl (fun c79 => ?_) (fun c79 => ?_)
            · skip
              refine g_iinc 115 (gd rfl) rfl rfl (Nat.le_of_ble_eq_true rfl) (fun z112 e112 => ?_)
              have i112 := in_add 1 160 e112 i24 (in_c 1 rfl) rfl rfl
              refine g_goto 18 (gd rfl) rfl ?_
              have n18 : LXF (gvC s) sc18 (z112).toNatClampNeg := by rw [(show (z112).toNatClampNeg = (y18_4).toNatClampNeg + 1 from (by show (z112).toInt.toNat = (y18_4).toInt.toNat + 1; (first | have a0 := in_u i24a | (have a0 := i24a; unfold In at a0)); (first | have a1 := in_u i24 | (have a1 := i24; unfold In at a1)); (first | have a2 := in_u i112 | (have a2 := i112; unfold In at a2)); have a3 := t_add e112 i24 (in_c 1 rfl) rfl; (first | have a4 := in_u ((in_c 1 rfl)) | (have a4 := (in_c 1 rfl); unfold In at a4)); have oc := oc_80_65_2; omega))]; exact lxf_n g18_0 (fun h => h.1 (by rw [← (show z30x5 = (gvC s).2.1 (y18_4).toNatClampNeg from (e30x5.trans (congrFun (hFc18.1 4 rfl) _)))]; exact c30x7))
              have n18a : LPS (gvC s) (y18_2).toInt (z112).toNatClampNeg := by rw [(show (z112).toNatClampNeg = (y18_4).toNatClampNeg + 1 from (by show (z112).toInt.toNat = (y18_4).toInt.toNat + 1; (first | have a0 := in_u i24a | (have a0 := i24a; unfold In at a0)); (first | have a1 := in_u i24 | (have a1 := i24; unfold In at a1)); (first | have a2 := in_u i112 | (have a2 := i112; unfold In at a2)); have a3 := t_add e112 i24 (in_c 1 rfl) rfl; (first | have a4 := in_u ((in_c 1 rfl)) | (have a4 := (in_c 1 rfl); unfold In at a4)); have oc := oc_80_65_2; omega))]; exact lps_n g18_1 (lpv_0 (show z30x5 = (gvC s).2.1 (y18_4).toNatClampNeg from (e30x5.trans (congrFun (hFc18.1 4 rfl) _))) c30x7)
              exact gg_w (by first | exact Nat.le_add_right _ _ | exact gw2 | exact gw3 | exact gwe rfl | exact gwf rfl | exact gwg rfl | exact gwh rfl | omega) (gg_f (gf_cons rfl (gf_cons rfl (gf_cons rfl (gf_cons rfl gf_nil)))) (ih18 sc18 y18_2 z112 hIc18 hFc18 (in_w 0 160 i112 rfl) n18 n18a (m_up mm18 (t_add e112 i24 (in_c 1 rfl) rfl) (in_w 1 1 (in_c 1 rfl) rfl))))
            · skip
              exact n_ne c79 i30x7 (in_c (-1) rfl) rfl
          · skip
            exact zn_ne c33 (in_c 0 rfl) rfl
        · skip
          have i30x7 := r_ne1 0 31 c30x7 i30x5 (in_c (-1) rfl) rfl
          refine g_aload_n 11 (gd rfl) rfl rfl ?_
          refine g_getA (q2 := 4) 14 (gd rfl) rfl rfl rfl rfl ?_
          refine g_iload_n 15 (gd rfl) rfl rfl ?_
          refine g_iaload 16 (gd rfl) rfl (n := 160) rfl (in_ix i24 rfl) (fun z30x15 e30x15 => ?_)
          have q30x15 : z30x5 = z30x15 := (e30x5).trans e30x15.symm
          subst q30x15
          refine g_aload_n 17 (gd rfl) rfl rfl ?_
          refine g_getA (q2 := 5) 20 (gd rfl) rfl rfl rfl rfl ?_
          refine g_iload_n 21 (gd rfl) rfl rfl ?_
          refine g_iaload 22 (gd rfl) rfl (n := 160) rfl (in_ix i24 rfl) (fun z30x21 e30x21 => ?_)
          have i30x21 := inv_I hIc18 (n := 160) (t := 0) 0 31 rfl (in_ix i24 rfl) rfl e30x21
          refine g_cmp_eq 25 29 (gd rfl) rfl rfl (fun c30x22 => ?_) (fun c30x22 => ?_)
          · skip
            refine g_iconst 0 30 (gd rfl) rfl rfl ?_
            refine g_ireturn (gd rfl) rfl (nb01 (in_w 0 1 (in_c 0 rfl) rfl)) (hp30 _ _ ?_)
            show GG _ _ _ _ _ _ _ _ [.int (Int32.ofInt 0)] _ _ _
            refine g_if_eq 36 71 (gd rfl) rfl rfl (fun c33 => ?_) (fun c33 => ?_)
            · skip
              refine g_aload_n 72 (gd rfl) rfl rfl ?_
              refine g_getA (q2 := 4) 75 (gd rfl) rfl rfl rfl rfl ?_
              refine g_iload 77 (gd rfl) rfl rfl ?_
              refine g_iaload 78 (gd rfl) rfl (n := 160) rfl (in_ix i24 rfl) (fun z77 e77 => ?_)
              have q77 : z30x5 = z77 := (e30x5).trans e77.symm
              subst q77
              refine g_iconst (-1) 79 (gd rfl) rfl rfl ?_
              refine g_cmp_eq 82 112 (gd rfl) rfl rfl (fun c79 => ?_) (fun c79 => ?_)
              · skip
                exact absurd c79 c30x7
              · skip
                refine g_aload_n 83 (gd rfl) rfl rfl ?_
                refine g_getA (q2 := 6) 86 (gd rfl) rfl rfl rfl rfl ?_
                refine g_iload 88 (gd rfl) rfl rfl ?_
                refine g_iaload 89 (gd rfl) rfl (n := 160) rfl (in_ix i24 rfl) (fun z88 e88 => ?_)
                have i88 := inv_I hIc18 (n := 160) (t := 0) (-1000000) 1000000 rfl (in_ix i24 rfl) rfl e88
                refine g_if_ge 92 112 (gd rfl) rfl rfl (fun c89 => ?_) (fun c89 => ?_)
                · skip
                  have i89 := z_ge 0 1000000 c89 i88 rfl
                  refine g_iinc 115 (gd rfl) rfl rfl (Nat.le_of_ble_eq_true rfl) (fun z112 e112 => ?_)
                  have i112 := in_add 1 160 e112 i24 (in_c 1 rfl) rfl rfl
                  refine g_goto 18 (gd rfl) rfl ?_
                  have n18 : LXF (gvC s) sc18 (z112).toNatClampNeg := by rw [(show (z112).toNatClampNeg = (y18_4).toNatClampNeg + 1 from (by show (z112).toInt.toNat = (y18_4).toInt.toNat + 1; (first | have a0 := in_u i24a | (have a0 := i24a; unfold In at a0)); (first | have a1 := in_u i24 | (have a1 := i24; unfold In at a1)); (first | have a2 := in_u i112 | (have a2 := i112; unfold In at a2)); have a3 := t_add e112 i24 (in_c 1 rfl) rfl; (first | have a4 := in_u ((in_c 1 rfl)) | (have a4 := (in_c 1 rfl); unfold In at a4)); have oc := oc_80_65_2; omega))]; exact lxf_n g18_0 (fun h => h.2 (by rw [← (show z30x5 = (gvC s).2.1 (y18_4).toNatClampNeg from (e30x5.trans (congrFun (hFc18.1 4 rfl) _))), ← (show z30x21 = (gvC s).2.2.1 (y18_4).toNatClampNeg from (e30x21.trans (congrFun (hFc18.1 5 rfl) _)))]; exact c30x22))
                  have n18a : LPS (gvC s) (y18_2).toInt (z112).toNatClampNeg := by rw [(show (z112).toNatClampNeg = (y18_4).toNatClampNeg + 1 from (by show (z112).toInt.toNat = (y18_4).toInt.toNat + 1; (first | have a0 := in_u i24a | (have a0 := i24a; unfold In at a0)); (first | have a1 := in_u i24 | (have a1 := i24; unfold In at a1)); (first | have a2 := in_u i112 | (have a2 := i112; unfold In at a2)); have a3 := t_add e112 i24 (in_c 1 rfl) rfl; (first | have a4 := in_u ((in_c 1 rfl)) | (have a4 := (in_c 1 rfl); unfold In at a4)); have oc := oc_80_65_2; omega))]; exact lps_n g18_1 (lpv_p (show z88 = (gvC s).2.2.2.1 (y18_4).toNatClampNeg from (e88.trans (congrFun (hFc18.1 6 rfl) _))) (by (first | have a0 := in_u i24a | (have a0 := i24a; unfold In at a0)); (first | have a1 := in_u i24 | (have a1 := i24; unfold In at a1)); (first | have a2 := in_u i112 | (have a2 := i112; unfold In at a2)); have a3 := t_add e112 i24 (in_c 1 rfl) rfl; (first | have a4 := in_u ((in_c 1 rfl)) | (have a4 := (in_c 1 rfl); unfold In at a4)); have oc := oc_80_65_2; omega))
                  exact gg_w (by first | exact Nat.le_add_right _ _ | exact gw2 | exact gw3 | exact gwe rfl | exact gwf rfl | exact gwg rfl | exact gwh rfl | omega) (gg_f (gf_cons rfl (gf_cons rfl (gf_cons rfl (gf_cons rfl gf_nil)))) (ih18 sc18 y18_2 z112 hIc18 hFc18 (in_w 0 160 i112 rfl) n18 n18a (m_up mm18 (t_add e112 i24 (in_c 1 rfl) rfl) (in_w 1 1 (in_c 1 rfl) rfl))))
                · skip
                  have i89 := z_lt (-1000000) (-1) c89 i88 rfl
                  refine g_lload_n 93 (gd rfl) rfl rfl ?_
                  refine g_aload_n 94 (gd rfl) rfl rfl ?_
                  refine g_getA (q2 := 6) 97 (gd rfl) rfl rfl rfl rfl ?_
                  refine g_iload 99 (gd rfl) rfl rfl ?_
                  refine g_iaload 100 (gd rfl) rfl (n := 160) rfl (in_ix i24 rfl) (fun z99 e99 => ?_)
                  have q99 : z88 = z99 := (e88).trans e99.symm
                  subst q99
                  refine g_i2l 101 (gd rfl) rfl (fun z100 e100 => ?_)
                  have i100 := l_i e100 i89
                  refine g_aload_n 102 (gd rfl) rfl rfl ?_
                  refine g_getA (q2 := 7) 105 (gd rfl) rfl rfl rfl rfl ?_
                  refine g_iload 107 (gd rfl) rfl rfl ?_
                  refine g_iaload 108 (gd rfl) rfl (n := 160) rfl (in_ix i24 rfl) (fun z107 e107 => ?_)
                  have i107 := inv_I hIc18 (n := 160) (t := 0) 0 1000000 rfl (in_ix i24 rfl) rfl e107
                  refine g_i2l 109 (gd rfl) rfl (fun z108 e108 => ?_)
                  have i108 := l_i e108 i107
                  refine g_lmul 110 (gd rfl) rfl (fun z109 e109 => ?_)
                  refine g_ladd 111 (gd rfl) rfl (fun z110 e110 => ?_)
                  refine g_lstore_n 112 (gd rfl) rfl (Nat.le_of_ble_eq_true rfl) ?_
                  refine g_iinc 115 (gd rfl) rfl rfl (Nat.le_of_ble_eq_true rfl) (fun z112 e112 => ?_)
                  have i112 := in_add 1 160 e112 i24 (in_c 1 rfl) rfl rfl
                  refine g_goto 18 (gd rfl) rfl ?_
                  have n18 : LXF (gvC s) sc18 (z112).toNatClampNeg := by rw [(show (z112).toNatClampNeg = (y18_4).toNatClampNeg + 1 from (by show (z112).toInt.toNat = (y18_4).toInt.toNat + 1; (first | have a0 := in_u i24a | (have a0 := i24a; unfold In at a0)); (first | have a1 := in_u i24 | (have a1 := i24; unfold In at a1)); (first | have a2 := in_u i112 | (have a2 := i112; unfold In at a2)); have a3 := t_add e112 i24 (in_c 1 rfl) rfl; (first | have a4 := in_u ((in_c 1 rfl)) | (have a4 := (in_c 1 rfl); unfold In at a4)); have a5 := tx_i2l e108; (first | have a6 := in_u i107 | (have a6 := i107; unfold In at a6)); have a7 := tx_i2l e100; (first | have a8 := in_u i89 | (have a8 := i89; unfold In at a8)); have oc := oc_80_65_2; omega))]; exact lxf_n g18_0 (fun h => h.2 (by rw [← (show z30x5 = (gvC s).2.1 (y18_4).toNatClampNeg from (e30x5.trans (congrFun (hFc18.1 4 rfl) _))), ← (show z30x21 = (gvC s).2.2.1 (y18_4).toNatClampNeg from (e30x21.trans (congrFun (hFc18.1 5 rfl) _)))]; exact c30x22))
                  have n18a : LPS (gvC s) (z110).toInt (z112).toNatClampNeg := by rw [(show (z112).toNatClampNeg = (y18_4).toNatClampNeg + 1 from (by show (z112).toInt.toNat = (y18_4).toInt.toNat + 1; (first | have a0 := in_u i24a | (have a0 := i24a; unfold In at a0)); (first | have a1 := in_u i24 | (have a1 := i24; unfold In at a1)); (first | have a2 := in_u i112 | (have a2 := i112; unfold In at a2)); have a3 := t_add e112 i24 (in_c 1 rfl) rfl; (first | have a4 := in_u ((in_c 1 rfl)) | (have a4 := (in_c 1 rfl); unfold In at a4)); have a5 := tx_i2l e108; (first | have a6 := in_u i107 | (have a6 := i107; unfold In at a6)); have a7 := tx_i2l e100; (first | have a8 := in_u i89 | (have a8 := i89; unfold In at a8)); have oc := oc_80_65_2; omega))]; exact lps_y (gvr_C hI q_1).2.2.2 g18_1 (show (y18_4).toNatClampNeg < 160 from (by show (y18_4).toInt.toNat < 160; (first | have a0 := in_u i24a | (have a0 := i24a; unfold In at a0)); (first | have a1 := in_u i24 | (have a1 := i24; unfold In at a1)); (first | have a2 := in_u i112 | (have a2 := i112; unfold In at a2)); have a3 := t_add e112 i24 (in_c 1 rfl) rfl; (first | have a4 := in_u ((in_c 1 rfl)) | (have a4 := (in_c 1 rfl); unfold In at a4)); have a5 := tx_i2l e108; (first | have a6 := in_u i107 | (have a6 := i107; unfold In at a6)); have a7 := tx_i2l e100; (first | have a8 := in_u i89 | (have a8 := i89; unfold In at a8)); have oc := oc_80_65_2; omega)) (show z30x5 = (gvC s).2.1 (y18_4).toNatClampNeg from (e30x5.trans (congrFun (hFc18.1 4 rfl) _))) (show z30x21 = (gvC s).2.2.1 (y18_4).toNatClampNeg from (e30x21.trans (congrFun (hFc18.1 5 rfl) _))) (show z88 = (gvC s).2.2.2.1 (y18_4).toNatClampNeg from (e88.trans (congrFun (hFc18.1 6 rfl) _))) (show z88 = (gvC s).2.2.2.1 (y18_4).toNatClampNeg from (e88.trans (congrFun (hFc18.1 6 rfl) _))) (show z107 = (gvC s).2.2.2.2.1 (y18_4).toNatClampNeg from (e107.trans (congrFun (hFc18.1 7 rfl) _))) (by (first | have a0 := in_u i24a | (have a0 := i24a; unfold In at a0)); (first | have a1 := in_u i24 | (have a1 := i24; unfold In at a1)); (first | have a2 := in_u i112 | (have a2 := i112; unfold In at a2)); have a3 := t_add e112 i24 (in_c 1 rfl) rfl; (first | have a4 := in_u ((in_c 1 rfl)) | (have a4 := (in_c 1 rfl); unfold In at a4)); have a5 := tx_i2l e108; (first | have a6 := in_u i107 | (have a6 := i107; unfold In at a6)); have a7 := tx_i2l e100; (first | have a8 := in_u i89 | (have a8 := i89; unfold In at a8)); have oc := oc_80_65_2; omega) c30x22 (by (first | have a0 := in_u i24a | (have a0 := i24a; unfold In at a0)); (first | have a1 := in_u i24 | (have a1 := i24; unfold In at a1)); (first | have a2 := in_u i112 | (have a2 := i112; unfold In at a2)); have a3 := t_add e112 i24 (in_c 1 rfl) rfl; (first | have a4 := in_u ((in_c 1 rfl)) | (have a4 := (in_c 1 rfl); unfold In at a4)); have a5 := tx_i2l e108; (first | have a6 := in_u i107 | (have a6 := i107; unfold In at a6)); have a7 := tx_i2l e100; (first | have a8 := in_u i89 | (have a8 := i89; unfold In at a8)); have oc := oc_80_65_2; omega) e100 e108 e109 e110
                  exact gg_w (by first | exact Nat.le_add_right _ _ | exact gw2 | exact gw3 | exact gwe rfl | exact gwf rfl | exact gwg rfl | exact gwh rfl | omega) (gg_f (gf_cons rfl (gf_cons rfl (gf_cons rfl (gf_cons rfl gf_nil)))) (ih18 sc18 z110 z112 hIc18 hFc18 (in_w 0 160 i112 rfl) n18 n18a (m_up mm18 (t_add e112 i24 (in_c 1 rfl) rfl) (in_w 1 1 (in_c 1 rfl) rfl))))
            · skip
              exact zn_ne c33 (in_c 0 rfl) rfl
          · skip
            refine g_iconst 1 26 (gd rfl) rfl rfl ?_
            refine g_goto 30 (gd rfl) rfl ?_
            refine g_ireturn (gd rfl) rfl (nb01 (in_w 0 1 (in_c 1 rfl) rfl)) (hp30 _ _ ?_)
            show GG _ _ _ _ _ _ _ _ [.int (Int32.ofInt 1)] _ _ _
            refine g_if_eq 36 71 (gd rfl) rfl rfl (fun c33 => ?_) (fun c33 => ?_)
            · skip
              exact zn_eq c33 (in_c 1 rfl) rfl
            · skip
              refine g_aload_n 37 (gd rfl) rfl rfl ?_
              refine g_aload_n 38 (gd rfl) rfl rfl ?_
              refine g_getA (q2 := 4) 41 (gd rfl) rfl rfl rfl rfl ?_
              refine g_iload 43 (gd rfl) rfl rfl ?_
              refine g_iaload 44 (gd rfl) rfl (n := 160) rfl (in_ix i24 rfl) (fun z43 e43 => ?_)
              have q43 : z30x5 = z43 := (e30x5).trans e43.symm
              subst q43
              refine g_aload_n 45 (gd rfl) rfl rfl ?_
              refine g_getA (q2 := 5) 48 (gd rfl) rfl rfl rfl rfl ?_
              refine g_iload 50 (gd rfl) rfl rfl ?_
              refine g_iaload 51 (gd rfl) rfl (n := 160) rfl (in_ix i24 rfl) (fun z50 e50 => ?_)
              have q50 : z30x21 = z50 := (e30x21).trans e50.symm
              subst q50
              refine g_aload_n 52 (gd rfl) rfl rfl ?_
              refine g_getA (q2 := 6) 55 (gd rfl) rfl rfl rfl rfl ?_
              refine g_iload 57 (gd rfl) rfl rfl ?_
              refine g_iaload 58 (gd rfl) rfl (n := 160) rfl (in_ix i24 rfl) (fun z57 e57 => ?_)
              have i57 := inv_I hIc18 (n := 160) (t := 0) (-1000000) 1000000 rfl (in_ix i24 rfl) rfl e57
              refine g_aload_n 59 (gd rfl) rfl rfl ?_
              refine g_getA (q2 := 7) 62 (gd rfl) rfl rfl rfl rfl ?_
              refine g_iload 64 (gd rfl) rfl rfl ?_
              refine g_iaload 65 (gd rfl) rfl (n := 160) rfl (in_ix i24 rfl) (fun z64 e64 => ?_)
              have i64 := inv_I hIc18 (n := 160) (t := 0) 0 1000000 rfl (in_ix i24 rfl) rfl e64
              refine g_callv (X := _) (As := [.int z30x5, .int z30x21, .int z57, .int z64]) (r := []) (b := A 65) (q := 65) 68 (gd rfl) rfl rfl rfl rfl rfl (ww_o rfl) (Nat.le_of_ble_eq_true rfl) (Nat.zero_le _) (Nat.zero_le _) (f_84_65 (by first | exact dq1 hd rfl | exact dq0 hd rfl | exact dq2 hd rfl | exact dq3 hd rfl | omega) hIc18 (in_w 0 31 i30x7 rfl) (in_w 0 31 i30x21 rfl) (in_w (-1000000) 1000000 i57 rfl) (in_w 0 1000000 i64 rfl)) (fun e u h => h) (fun v u h => ?_)
              obtain ⟨s65, hI65, hF65, rfl, rfl, p65⟩ := h
              show GG _ _ _ _ _ _ _ _ [] _ _ _
              refine g_goto 112 (gd rfl) rfl ?_
              refine g_iinc 115 (gd rfl) rfl rfl (Nat.le_of_ble_eq_true rfl) (fun z112 e112 => ?_)
              have i112 := in_add 1 160 e112 i24 (in_c 1 rfl) rfl rfl
              refine g_goto 18 (gd rfl) rfl ?_
              have n18 : LXF (gvC s) s65 (z112).toNatClampNeg := by rw [(show (z112).toNatClampNeg = (y18_4).toNatClampNeg + 1 from (by show (z112).toInt.toNat = (y18_4).toInt.toNat + 1; (first | have a0 := in_u i24a | (have a0 := i24a; unfold In at a0)); (first | have a1 := in_u i24 | (have a1 := i24; unfold In at a1)); (first | have a2 := in_u i112 | (have a2 := i112; unfold In at a2)); have a3 := t_add e112 i24 (in_c 1 rfl) rfl; (first | have a4 := in_u ((in_c 1 rfl)) | (have a4 := (in_c 1 rfl); unfold In at a4)); have oc := oc_80_65_2; omega))]; exact lxf_y g18_0 (show (y18_4).toNatClampNeg < 160 from (by show (y18_4).toInt.toNat < 160; (first | have a0 := in_u i24a | (have a0 := i24a; unfold In at a0)); (first | have a1 := in_u i24 | (have a1 := i24; unfold In at a1)); (first | have a2 := in_u i112 | (have a2 := i112; unfold In at a2)); have a3 := t_add e112 i24 (in_c 1 rfl) rfl; (first | have a4 := in_u ((in_c 1 rfl)) | (have a4 := (in_c 1 rfl); unfold In at a4)); have oc := oc_80_65_2; omega)) (show z30x5 = (gvC s).2.1 (y18_4).toNatClampNeg from (e30x5.trans (congrFun (hFc18.1 4 rfl) _))) (show z30x21 = (gvC s).2.2.1 (y18_4).toNatClampNeg from (e30x21.trans (congrFun (hFc18.1 5 rfl) _))) (show z57 = (gvC s).2.2.2.1 (y18_4).toNatClampNeg from (e57.trans (congrFun (hFc18.1 6 rfl) _))) (show z64 = (gvC s).2.2.2.2.1 (y18_4).toNatClampNeg from (e64.trans (congrFun (hFc18.1 7 rfl) _))) (by (first | have a0 := in_u i24a | (have a0 := i24a; unfold In at a0)); (first | have a1 := in_u i24 | (have a1 := i24; unfold In at a1)); (first | have a2 := in_u i112 | (have a2 := i112; unfold In at a2)); have a3 := t_add e112 i24 (in_c 1 rfl) rfl; (first | have a4 := in_u ((in_c 1 rfl)) | (have a4 := (in_c 1 rfl); unfold In at a4)); have oc := oc_80_65_2; omega) c30x22 (inv_F hIc18 (z := sc18.2.2.1 65 8) 0 160 rfl rfl).1 p65 (ex_fr hF65 rfl)
              have n18a : LPS (gvC s) (y18_2).toInt (z112).toNatClampNeg := by rw [(show (z112).toNatClampNeg = (y18_4).toNatClampNeg + 1 from (by show (z112).toInt.toNat = (y18_4).toInt.toNat + 1; (first | have a0 := in_u i24a | (have a0 := i24a; unfold In at a0)); (first | have a1 := in_u i24 | (have a1 := i24; unfold In at a1)); (first | have a2 := in_u i112 | (have a2 := i112; unfold In at a2)); have a3 := t_add e112 i24 (in_c 1 rfl) rfl; (first | have a4 := in_u ((in_c 1 rfl)) | (have a4 := (in_c 1 rfl); unfold In at a4)); have oc := oc_80_65_2; omega))]; exact lps_n g18_1 (lpv_j (show z30x5 = (gvC s).2.1 (y18_4).toNatClampNeg from (e30x5.trans (congrFun (hFc18.1 4 rfl) _))) (show z30x21 = (gvC s).2.2.1 (y18_4).toNatClampNeg from (e30x21.trans (congrFun (hFc18.1 5 rfl) _))) c30x22)
              exact gg_w (by first | exact Nat.le_add_right _ _ | exact gw2 | exact gw3 | exact gwe rfl | exact gwf rfl | exact gwg rfl | exact gwh rfl | omega) (gg_f (gf_cons rfl (gf_cons rfl (gf_cons rfl (gf_cons rfl gf_nil)))) (ih18 s65 y18_2 z112 hI65 (fr_tr rfl hFc18 hF65) (in_w 0 160 i112 rfl) n18 n18a (m_up mm18 (t_add e112 i24 (in_c 1 rfl) rfl) (in_w 1 1 (in_c 1 rfl) rfl))))
  refine g_enter2 (k := 80) (N := 145801) (by first | exact dq1 hd rfl | exact dq0 hd rfl | exact dq2 hd rfl | exact dq3 hd rfl | omega) rfl (Nat.le_of_ble_eq_true rfl) ?_
  refine g_aload_n 1 (gd rfl) rfl rfl ?_
  refine g_getA (q2 := 74) 4 (gd rfl) rfl rfl rfl rfl ?_
  refine g_iconst 0 5 (gd rfl) rfl rfl ?_
  refine g_calls (As := [.ref (A 74), .int (Int32.ofInt 0)]) (r := []) 8 (gd rfl) rfl rfl rfl rfl rfl (Nat.le_of_ble_eq_true rfl) (Nat.zero_le _) (Nat.zero_le _) (k_fillI 74 (by first | exact dq1 hd rfl | exact dq0 hd rfl | exact dq2 hd rfl | exact dq3 hd rfl | omega) hI (in_c 0 rfl) (n := 32) rfl rfl rfl rfl) (fun v u h => ?_)
  obtain ⟨s5, hI5, hF5, rfl, rfl, fl5⟩ := h
  show GG _ _ _ _ _ _ _ _ [] _ _ _
  refine g_aload_n 9 (gd rfl) rfl rfl ?_
  refine g_iconst 0 10 (gd rfl) rfl rfl ?_
  refine g_putI 13 (gd rfl) rfl rfl rfl rfl ?_
  have hI10 := inv_sF (q := 65) (j := 8) hI5 rfl (in_w 0 160 (in_c 0 rfl) rfl)
  refine g_lconst 0 14 (gd rfl) rfl rfl ?_
  refine g_lstore_n 15 (gd rfl) rfl (Nat.le_of_ble_eq_true rfl) ?_
  refine g_iconst 0 16 (gd rfl) rfl rfl ?_
  refine g_istore 18 (gd rfl) rfl (Nat.le_of_ble_eq_true rfl) ?_
  have n18 : LXF (gvC s) (sF s5 65 8 (Int32.ofInt 0)) ((Int32.ofInt 0)).toNatClampNeg := by exact (show LXF _ _ 0 from lxf_0 rfl (fun v hv => fl5 v hv))
  have n18a : LPS (gvC s) ((Int64.ofInt 0)).toInt ((Int32.ofInt 0)).toNatClampNeg := by exact (show LPS _ 0 0 from rfl)
  exact gg_w (by first | exact Nat.le_of_ble_eq_true rfl | omega) (gg_f (gf_cons rfl (gf_cons rfl (gf_cons rfl (gf_cons rfl gf_nil)))) (ct18 161 (sF s5 65 8 (Int32.ofInt 0)) (Int64.ofInt 0) (Int32.ofInt 0) hI10 (fr_sF rfl (fr_tr rfl fr_rf hF5)) (in_w 0 160 (in_c 0 rfl) rfl) n18 n18a (m_in 161 (in_w 0 160 (in_c 0 rfl) rfl) rfl)))

theorem oc_80_65_32 : (Int32.ofInt (-1)).toInt = (-1) ∧ (Int32.ofInt 0).toInt = 0 ∧ (Int32.ofInt 1).toInt = 1 ∧ (Int64.ofInt 0).toInt = 0 := ⟨rfl, rfl, rfl, rfl⟩
/-- GraphHouse$Flows.layArcs -/
theorem f_80_65_32 {Z : AmZ} {A : Nat → Nat} {s : GS} {ex : va_W} {d : Nat} {X : AmX}  (hd : 3 ≤ d) (hI : Inv s) (q_0 : TQD s) (q_1 : NDQ (gvD s)) : GC Z d 80 [.ref (A 65), .ref (A 32)] (WW Z A s ++ ex) 0 0 (fun v u => ∃ t : GS, Inv t ∧ Fr fm_80_65_32 s t ∧ ∃ z : Int64, v = some (.long z) ∧ u = WW Z A t ++ ex ∧ (LXF (gvD s) t 160) ∧ (LPS (gvD s) (z).toInt 160)) X := by
  intro post xp hP hX
  obtain ⟨u_32_3, e_32_3⟩ : ∃ w, w = s.2.2.1 32 3 := ⟨_, rfl⟩
  have ro_32_3 := inv_F hI 0 160 rfl e_32_3
  have ct18 : ∀ (k18 : Nat) (sc18 : GS) (y18_2 : Int64) (y18_4 : Int32), Inv sc18 → Fr fm_80_65_32 s sc18 → (In y18_4 0 160) → (LXF (gvD s) sc18 (y18_4).toNatClampNeg) → (LPS (gvD s) (y18_2).toInt (y18_4).toNatClampNeg) → 160 - (y18_4).toInt < (k18 : Int) → GG Z (d - 1) 80 post (gx xp) (1 + k18 * 900) 18 (fun j => xlook j [(0, .ref (A 65)), (1, .ref (A 32)), (2, .long y18_2), (4, .int y18_4)]) [] (WW Z A sc18 ++ ex) 0 0 := by
    intro k18
    induction k18 with
    | zero => intro sc18 y18_2 y18_4 hIc18 hFc18 j18_4 g18_0 g18_1 mm18; exact m_no mm18 j18_4 rfl
    | succ k18 ih18 =>
      intro sc18 y18_2 y18_4 hIc18 hFc18 j18_4 g18_0 g18_1 mm18
      refine gg_w (M := 1 + k18 * 900 + 900) gws ?_
      refine g_iload 20 (gd rfl) rfl rfl ?_
      refine g_aload_n 21 (gd rfl) rfl rfl ?_
      refine g_getI 24 (gd rfl) rfl rfl rfl (fun z21 e21 => ?_)
      have q21 : u_32_3 = z21 := (fr_F e_32_3 hFc18 rfl).trans e21.symm
      subst q21
      refine g_cmp_ge 27 118 (gd rfl) rfl rfl (fun c24 => ?_) (fun c24 => ?_)
      · skip
        refine g_lload_n 119 (gd rfl) rfl rfl ?_
        have n119 : LXF (gvD s) sc18 160 := by exact lxf_w (T0 := (s.2.2.1 32 3).toInt) g18_0 (fun p h1 h2 => q_0 p h1 h2) (by rw [← e_32_3]; show _ ≤ (((y18_4).toInt.toNat : Nat) : Int); (first | have a0 := in_u ro_32_3 | (have a0 := ro_32_3; unfold In at a0)); (first | have a1 := in_u j18_4 | (have a1 := j18_4; unfold In at a1)); have oc := oc_80_65_32; omega) (by show (y18_4).toInt.toNat ≤ 160; (first | have a0 := in_u ro_32_3 | (have a0 := ro_32_3; unfold In at a0)); (first | have a1 := in_u j18_4 | (have a1 := j18_4; unfold In at a1)); have oc := oc_80_65_32; omega)
        have n119a : LPS (gvD s) (y18_2).toInt 160 := by have w9 := lps_w (T0 := (s.2.2.1 32 3).toInt) (160 - (y18_4).toNatClampNeg) (y18_4).toNatClampNeg g18_1 (fun p h1 h2 => q_0 p h1 h2) (by rw [← e_32_3]; show _ ≤ (((y18_4).toInt.toNat : Nat) : Int); (first | have a0 := in_u ro_32_3 | (have a0 := ro_32_3; unfold In at a0)); (first | have a1 := in_u j18_4 | (have a1 := j18_4; unfold In at a1)); have oc := oc_80_65_32; omega) (by have h9 : (y18_4).toNatClampNeg ≤ 160 := (by show (y18_4).toInt.toNat ≤ 160; (first | have a0 := in_u ro_32_3 | (have a0 := ro_32_3; unfold In at a0)); (first | have a1 := in_u j18_4 | (have a1 := j18_4; unfold In at a1)); have oc := oc_80_65_32; omega); omega); rw [show (y18_4).toNatClampNeg + (160 - (y18_4).toNatClampNeg) = 160 from (by have h9 : (y18_4).toNatClampNeg ≤ 160 := (by show (y18_4).toInt.toNat ≤ 160; (first | have a0 := in_u ro_32_3 | (have a0 := ro_32_3; unfold In at a0)); (first | have a1 := in_u j18_4 | (have a1 := j18_4; unfold In at a1)); have oc := oc_80_65_32; omega); omega)] at w9; exact w9
        exact g_lreturn (gd rfl) rfl (hP _ _ ⟨sc18, hIc18, hFc18, y18_2, rfl, rfl, n119, n119a⟩)
      · skip
        have i24 := r_lt1 0 159 c24 j18_4 ro_32_3 rfl
        have i24a := r_lt2 1 160 c24 j18_4 ro_32_3 rfl
        refine g_aload_n 28 (gd rfl) rfl rfl ?_
        refine g_iload 30 (gd rfl) rfl rfl ?_
        refine g_callv (X := _) (As := [.int y18_4]) (r := []) (b := A 32) (q := 32) 33 (gd rfl) rfl rfl rfl rfl rfl (ww_o rfl) (Nat.le_of_ble_eq_true rfl) (mc := 0) (ms := 0) (Nat.zero_le _) (Nat.zero_le _) (P := fun v u => _) ?_ (fun e u h => h) (fun v u h => h)
        intro po30 xx30 hp30 hx30
        refine g_enter2 (k := 97) (N := 300) (by first | exact dq1 hd rfl | exact dq0 hd rfl | exact dq2 hd rfl | exact dq3 hd rfl | omega) rfl (Nat.le_of_ble_eq_true rfl) ?_
        refine g_aload_n 1 (gd rfl) rfl rfl ?_
        refine g_getA (q2 := 34) 4 (gd rfl) rfl rfl rfl rfl ?_
        refine g_iload_n 5 (gd rfl) rfl rfl ?_
        refine g_iaload 6 (gd rfl) rfl (n := 160) rfl (in_ix i24 rfl) (fun z30x5 e30x5 => ?_)
        have i30x5 := inv_I hIc18 (n := 160) (t := 0) (-1) 31 rfl (in_ix i24 rfl) rfl e30x5
        refine g_iconst (-1) 7 (gd rfl) rfl rfl ?_
        refine g_cmp_eq 10 29 (gd rfl) rfl rfl (fun c30x7 => ?_) (fun c30x7 => ?_)
        · skip
          have i30x7 := r_eq1 (-1) (-1) c30x7 i30x5 (in_c (-1) rfl) rfl
          refine g_iconst 0 30 (gd rfl) rfl rfl ?_
          refine g_ireturn (gd rfl) rfl (nb01 (in_w 0 1 (in_c 0 rfl) rfl)) (hp30 _ _ ?_)
          show GG _ _ _ _ _ _ _ _ [.int (Int32.ofInt 0)] _ _ _
          refine g_if_eq 36 71 (gd rfl) rfl rfl (fun c33 => ?_) (fun c33 => ?_)
          · skip
            refine g_aload_n 72 (gd rfl) rfl rfl ?_
            refine g_getA (q2 := 34) 75 (gd rfl) rfl rfl rfl rfl ?_
            refine g_iload 77 (gd rfl) rfl rfl ?_
            refine g_iaload 78 (gd rfl) rfl (n := 160) rfl (in_ix i24 rfl) (fun z77 e77 => ?_)
            have q77 : z30x5 = z77 := (e30x5).trans e77.symm
            subst q77
            refine g_iconst (-1) 79 (gd rfl) rfl rfl ?_
            refine g_cmp_eq 82 112 (gd rfl) rfl rfl (fun c79 => ?_) (fun c79 => ?_)
            · skip
              refine g_iinc 115 (gd rfl) rfl rfl (Nat.le_of_ble_eq_true rfl) (fun z112 e112 => ?_)
              have i112 := in_add 1 160 e112 i24 (in_c 1 rfl) rfl rfl
              refine g_goto 18 (gd rfl) rfl ?_
              have n18 : LXF (gvD s) sc18 (z112).toNatClampNeg := by rw [(show (z112).toNatClampNeg = (y18_4).toNatClampNeg + 1 from (by show (z112).toInt.toNat = (y18_4).toInt.toNat + 1; (first | have a0 := in_u i24a | (have a0 := i24a; unfold In at a0)); (first | have a1 := in_u i24 | (have a1 := i24; unfold In at a1)); (first | have a2 := in_u i112 | (have a2 := i112; unfold In at a2)); have a3 := t_add e112 i24 (in_c 1 rfl) rfl; (first | have a4 := in_u ((in_c 1 rfl)) | (have a4 := (in_c 1 rfl); unfold In at a4)); have oc := oc_80_65_32; omega))]; exact lxf_n g18_0 (fun h => h.1 (by rw [← (show z30x5 = (gvD s).2.1 (y18_4).toNatClampNeg from (e30x5.trans (congrFun (hFc18.1 34 rfl) _)))]; exact c30x7))
              have n18a : LPS (gvD s) (y18_2).toInt (z112).toNatClampNeg := by rw [(show (z112).toNatClampNeg = (y18_4).toNatClampNeg + 1 from (by show (z112).toInt.toNat = (y18_4).toInt.toNat + 1; (first | have a0 := in_u i24a | (have a0 := i24a; unfold In at a0)); (first | have a1 := in_u i24 | (have a1 := i24; unfold In at a1)); (first | have a2 := in_u i112 | (have a2 := i112; unfold In at a2)); have a3 := t_add e112 i24 (in_c 1 rfl) rfl; (first | have a4 := in_u ((in_c 1 rfl)) | (have a4 := (in_c 1 rfl); unfold In at a4)); have oc := oc_80_65_32; omega))]; exact lps_n g18_1 (lpv_0 (show z30x5 = (gvD s).2.1 (y18_4).toNatClampNeg from (e30x5.trans (congrFun (hFc18.1 34 rfl) _))) c30x7)
              exact gg_w (by first | exact Nat.le_add_right _ _ | exact gw2 | exact gw3 | exact gwe rfl | exact gwf rfl | exact gwg rfl | exact gwh rfl | omega) (gg_f (gf_cons rfl (gf_cons rfl (gf_cons rfl (gf_cons rfl gf_nil)))) (ih18 sc18 y18_2 z112 hIc18 hFc18 (in_w 0 160 i112 rfl) n18 n18a (m_up mm18 (t_add e112 i24 (in_c 1 rfl) rfl) (in_w 1 1 (in_c 1 rfl) rfl))))
            · skip
              exact n_ne c79 i30x7 (in_c (-1) rfl) rfl
          · skip
            exact zn_ne c33 (in_c 0 rfl) rfl
        · skip
          have i30x7 := r_ne1 0 31 c30x7 i30x5 (in_c (-1) rfl) rfl
          refine g_aload_n 11 (gd rfl) rfl rfl ?_
          refine g_getA (q2 := 34) 14 (gd rfl) rfl rfl rfl rfl ?_
          refine g_iload_n 15 (gd rfl) rfl rfl ?_
          refine g_iaload 16 (gd rfl) rfl (n := 160) rfl (in_ix i24 rfl) (fun z30x15 e30x15 => ?_)
          have q30x15 : z30x5 = z30x15 := (e30x5).trans e30x15.symm
          subst q30x15
          refine g_aload_n 17 (gd rfl) rfl rfl ?_
          refine g_getA (q2 := 35) 20 (gd rfl) rfl rfl rfl rfl ?_
          refine g_iload_n 21 (gd rfl) rfl rfl ?_
          refine g_iaload 22 (gd rfl) rfl (n := 160) rfl (in_ix i24 rfl) (fun z30x21 e30x21 => ?_)
          have i30x21 := inv_I hIc18 (n := 160) (t := 0) 0 31 rfl (in_ix i24 rfl) rfl e30x21
          refine g_cmp_eq 25 29 (gd rfl) rfl rfl (fun c30x22 => ?_) (fun c30x22 => ?_)
          · skip
            refine g_iconst 0 30 (gd rfl) rfl rfl ?_
            refine g_ireturn (gd rfl) rfl (nb01 (in_w 0 1 (in_c 0 rfl) rfl)) (hp30 _ _ ?_)
            show GG _ _ _ _ _ _ _ _ [.int (Int32.ofInt 0)] _ _ _
            refine g_if_eq 36 71 (gd rfl) rfl rfl (fun c33 => ?_) (fun c33 => ?_)
            · skip
              refine g_aload_n 72 (gd rfl) rfl rfl ?_
              refine g_getA (q2 := 34) 75 (gd rfl) rfl rfl rfl rfl ?_
              refine g_iload 77 (gd rfl) rfl rfl ?_
              refine g_iaload 78 (gd rfl) rfl (n := 160) rfl (in_ix i24 rfl) (fun z77 e77 => ?_)
              have q77 : z30x5 = z77 := (e30x5).trans e77.symm
              subst q77
              refine g_iconst (-1) 79 (gd rfl) rfl rfl ?_
              refine g_cmp_eq 82 112 (gd rfl) rfl rfl (fun c79 => ?_) (fun c79 => ?_)
              · skip
                exact absurd c79 c30x7
              · skip
                refine g_aload_n 83 (gd rfl) rfl rfl ?_
                refine g_getA (q2 := 36) 86 (gd rfl) rfl rfl rfl rfl ?_
                refine g_iload 88 (gd rfl) rfl rfl ?_
                refine g_iaload 89 (gd rfl) rfl (n := 160) rfl (in_ix i24 rfl) (fun z88 e88 => ?_)
                have i88 := inv_I hIc18 (n := 160) (t := 0) (-1000000) 1000000 rfl (in_ix i24 rfl) rfl e88
                refine g_if_ge 92 112 (gd rfl) rfl rfl (fun c89 => ?_) (fun c89 => ?_)
                · skip
                  have i89 := z_ge 0 1000000 c89 i88 rfl
                  refine g_iinc 115 (gd rfl) rfl rfl (Nat.le_of_ble_eq_true rfl) (fun z112 e112 => ?_)
                  have i112 := in_add 1 160 e112 i24 (in_c 1 rfl) rfl rfl
                  refine g_goto 18 (gd rfl) rfl ?_
                  have n18 : LXF (gvD s) sc18 (z112).toNatClampNeg := by rw [(show (z112).toNatClampNeg = (y18_4).toNatClampNeg + 1 from (by show (z112).toInt.toNat = (y18_4).toInt.toNat + 1; (first | have a0 := in_u i24a | (have a0 := i24a; unfold In at a0)); (first | have a1 := in_u i24 | (have a1 := i24; unfold In at a1)); (first | have a2 := in_u i112 | (have a2 := i112; unfold In at a2)); have a3 := t_add e112 i24 (in_c 1 rfl) rfl; (first | have a4 := in_u ((in_c 1 rfl)) | (have a4 := (in_c 1 rfl); unfold In at a4)); have oc := oc_80_65_32; omega))]; exact lxf_n g18_0 (fun h => h.2 (by rw [← (show z30x5 = (gvD s).2.1 (y18_4).toNatClampNeg from (e30x5.trans (congrFun (hFc18.1 34 rfl) _))), ← (show z30x21 = (gvD s).2.2.1 (y18_4).toNatClampNeg from (e30x21.trans (congrFun (hFc18.1 35 rfl) _)))]; exact c30x22))
                  have n18a : LPS (gvD s) (y18_2).toInt (z112).toNatClampNeg := by rw [(show (z112).toNatClampNeg = (y18_4).toNatClampNeg + 1 from (by show (z112).toInt.toNat = (y18_4).toInt.toNat + 1; (first | have a0 := in_u i24a | (have a0 := i24a; unfold In at a0)); (first | have a1 := in_u i24 | (have a1 := i24; unfold In at a1)); (first | have a2 := in_u i112 | (have a2 := i112; unfold In at a2)); have a3 := t_add e112 i24 (in_c 1 rfl) rfl; (first | have a4 := in_u ((in_c 1 rfl)) | (have a4 := (in_c 1 rfl); unfold In at a4)); have oc := oc_80_65_32; omega))]; exact lps_n g18_1 (lpv_p (show z88 = (gvD s).2.2.2.1 (y18_4).toNatClampNeg from (e88.trans (congrFun (hFc18.1 36 rfl) _))) (by (first | have a0 := in_u i24a | (have a0 := i24a; unfold In at a0)); (first | have a1 := in_u i24 | (have a1 := i24; unfold In at a1)); (first | have a2 := in_u i112 | (have a2 := i112; unfold In at a2)); have a3 := t_add e112 i24 (in_c 1 rfl) rfl; (first | have a4 := in_u ((in_c 1 rfl)) | (have a4 := (in_c 1 rfl); unfold In at a4)); have oc := oc_80_65_32; omega))
                  exact gg_w (by first | exact Nat.le_add_right _ _ | exact gw2 | exact gw3 | exact gwe rfl | exact gwf rfl | exact gwg rfl | exact gwh rfl | omega) (gg_f (gf_cons rfl (gf_cons rfl (gf_cons rfl (gf_cons rfl gf_nil)))) (ih18 sc18 y18_2 z112 hIc18 hFc18 (in_w 0 160 i112 rfl) n18 n18a (m_up mm18 (t_add e112 i24 (in_c 1 rfl) rfl) (in_w 1 1 (in_c 1 rfl) rfl))))
                · skip
                  have i89 := z_lt (-1000000) (-1) c89 i88 rfl
                  refine g_lload_n 93 (gd rfl) rfl rfl ?_
                  refine g_aload_n 94 (gd rfl) rfl rfl ?_
                  refine g_getA (q2 := 36) 97 (gd rfl) rfl rfl rfl rfl ?_
                  refine g_iload 99 (gd rfl) rfl rfl ?_
                  refine g_iaload 100 (gd rfl) rfl (n := 160) rfl (in_ix i24 rfl) (fun z99 e99 => ?_)
                  have q99 : z88 = z99 := (e88).trans e99.symm
                  subst q99
                  refine g_i2l 101 (gd rfl) rfl (fun z100 e100 => ?_)
                  have i100 := l_i e100 i89
                  refine g_aload_n 102 (gd rfl) rfl rfl ?_
                  refine g_getA (q2 := 37) 105 (gd rfl) rfl rfl rfl rfl ?_
                  refine g_iload 107 (gd rfl) rfl rfl ?_
                  refine g_iaload 108 (gd rfl) rfl (n := 160) rfl (in_ix i24 rfl) (fun z107 e107 => ?_)
                  have i107 := inv_I hIc18 (n := 160) (t := 0) 0 1000000 rfl (in_ix i24 rfl) rfl e107
                  refine g_i2l 109 (gd rfl) rfl (fun z108 e108 => ?_)
                  have i108 := l_i e108 i107
                  refine g_lmul 110 (gd rfl) rfl (fun z109 e109 => ?_)
                  refine g_ladd 111 (gd rfl) rfl (fun z110 e110 => ?_)
                  refine g_lstore_n 112 (gd rfl) rfl (Nat.le_of_ble_eq_true rfl) ?_
                  refine g_iinc 115 (gd rfl) rfl rfl (Nat.le_of_ble_eq_true rfl) (fun z112 e112 => ?_)
                  have i112 := in_add 1 160 e112 i24 (in_c 1 rfl) rfl rfl
                  refine g_goto 18 (gd rfl) rfl ?_
                  have n18 : LXF (gvD s) sc18 (z112).toNatClampNeg := by rw [(show (z112).toNatClampNeg = (y18_4).toNatClampNeg + 1 from (by show (z112).toInt.toNat = (y18_4).toInt.toNat + 1; (first | have a0 := in_u i24a | (have a0 := i24a; unfold In at a0)); (first | have a1 := in_u i24 | (have a1 := i24; unfold In at a1)); (first | have a2 := in_u i112 | (have a2 := i112; unfold In at a2)); have a3 := t_add e112 i24 (in_c 1 rfl) rfl; (first | have a4 := in_u ((in_c 1 rfl)) | (have a4 := (in_c 1 rfl); unfold In at a4)); have a5 := tx_i2l e108; (first | have a6 := in_u i107 | (have a6 := i107; unfold In at a6)); have a7 := tx_i2l e100; (first | have a8 := in_u i89 | (have a8 := i89; unfold In at a8)); have oc := oc_80_65_32; omega))]; exact lxf_n g18_0 (fun h => h.2 (by rw [← (show z30x5 = (gvD s).2.1 (y18_4).toNatClampNeg from (e30x5.trans (congrFun (hFc18.1 34 rfl) _))), ← (show z30x21 = (gvD s).2.2.1 (y18_4).toNatClampNeg from (e30x21.trans (congrFun (hFc18.1 35 rfl) _)))]; exact c30x22))
                  have n18a : LPS (gvD s) (z110).toInt (z112).toNatClampNeg := by rw [(show (z112).toNatClampNeg = (y18_4).toNatClampNeg + 1 from (by show (z112).toInt.toNat = (y18_4).toInt.toNat + 1; (first | have a0 := in_u i24a | (have a0 := i24a; unfold In at a0)); (first | have a1 := in_u i24 | (have a1 := i24; unfold In at a1)); (first | have a2 := in_u i112 | (have a2 := i112; unfold In at a2)); have a3 := t_add e112 i24 (in_c 1 rfl) rfl; (first | have a4 := in_u ((in_c 1 rfl)) | (have a4 := (in_c 1 rfl); unfold In at a4)); have a5 := tx_i2l e108; (first | have a6 := in_u i107 | (have a6 := i107; unfold In at a6)); have a7 := tx_i2l e100; (first | have a8 := in_u i89 | (have a8 := i89; unfold In at a8)); have oc := oc_80_65_32; omega))]; exact lps_y (gvr_D hI q_1).2.2.2 g18_1 (show (y18_4).toNatClampNeg < 160 from (by show (y18_4).toInt.toNat < 160; (first | have a0 := in_u i24a | (have a0 := i24a; unfold In at a0)); (first | have a1 := in_u i24 | (have a1 := i24; unfold In at a1)); (first | have a2 := in_u i112 | (have a2 := i112; unfold In at a2)); have a3 := t_add e112 i24 (in_c 1 rfl) rfl; (first | have a4 := in_u ((in_c 1 rfl)) | (have a4 := (in_c 1 rfl); unfold In at a4)); have a5 := tx_i2l e108; (first | have a6 := in_u i107 | (have a6 := i107; unfold In at a6)); have a7 := tx_i2l e100; (first | have a8 := in_u i89 | (have a8 := i89; unfold In at a8)); have oc := oc_80_65_32; omega)) (show z30x5 = (gvD s).2.1 (y18_4).toNatClampNeg from (e30x5.trans (congrFun (hFc18.1 34 rfl) _))) (show z30x21 = (gvD s).2.2.1 (y18_4).toNatClampNeg from (e30x21.trans (congrFun (hFc18.1 35 rfl) _))) (show z88 = (gvD s).2.2.2.1 (y18_4).toNatClampNeg from (e88.trans (congrFun (hFc18.1 36 rfl) _))) (show z88 = (gvD s).2.2.2.1 (y18_4).toNatClampNeg from (e88.trans (congrFun (hFc18.1 36 rfl) _))) (show z107 = (gvD s).2.2.2.2.1 (y18_4).toNatClampNeg from (e107.trans (congrFun (hFc18.1 37 rfl) _))) (by (first | have a0 := in_u i24a | (have a0 := i24a; unfold In at a0)); (first | have a1 := in_u i24 | (have a1 := i24; unfold In at a1)); (first | have a2 := in_u i112 | (have a2 := i112; unfold In at a2)); have a3 := t_add e112 i24 (in_c 1 rfl) rfl; (first | have a4 := in_u ((in_c 1 rfl)) | (have a4 := (in_c 1 rfl); unfold In at a4)); have a5 := tx_i2l e108; (first | have a6 := in_u i107 | (have a6 := i107; unfold In at a6)); have a7 := tx_i2l e100; (first | have a8 := in_u i89 | (have a8 := i89; unfold In at a8)); have oc := oc_80_65_32; omega) c30x22 (by (first | have a0 := in_u i24a | (have a0 := i24a; unfold In at a0)); (first | have a1 := in_u i24 | (have a1 := i24; unfold In at a1)); (first | have a2 := in_u i112 | (have a2 := i112; unfold In at a2)); have a3 := t_add e112 i24 (in_c 1 rfl) rfl; (first | have a4 := in_u ((in_c 1 rfl)) | (have a4 := (in_c 1 rfl); unfold In at a4)); have a5 := tx_i2l e108; (first | have a6 := in_u i107 | (have a6 := i107; unfold In at a6)); have a7 := tx_i2l e100; (first | have a8 := in_u i89 | (have a8 := i89; unfold In at a8)); have oc := oc_80_65_32; omega) e100 e108 e109 e110
                  exact gg_w (by first | exact Nat.le_add_right _ _ | exact gw2 | exact gw3 | exact gwe rfl | exact gwf rfl | exact gwg rfl | exact gwh rfl | omega) (gg_f (gf_cons rfl (gf_cons rfl (gf_cons rfl (gf_cons rfl gf_nil)))) (ih18 sc18 z110 z112 hIc18 hFc18 (in_w 0 160 i112 rfl) n18 n18a (m_up mm18 (t_add e112 i24 (in_c 1 rfl) rfl) (in_w 1 1 (in_c 1 rfl) rfl))))
            · skip
              exact zn_ne c33 (in_c 0 rfl) rfl
          · skip
            refine g_iconst 1 26 (gd rfl) rfl rfl ?_
            refine g_goto 30 (gd rfl) rfl ?_
            refine g_ireturn (gd rfl) rfl (nb01 (in_w 0 1 (in_c 1 rfl) rfl)) (hp30 _ _ ?_)
            show GG _ _ _ _ _ _ _ _ [.int (Int32.ofInt 1)] _ _ _
            refine g_if_eq 36 71 (gd rfl) rfl rfl (fun c33 => ?_) (fun c33 => ?_)
            · skip
              exact zn_eq c33 (in_c 1 rfl) rfl
            · skip
              refine g_aload_n 37 (gd rfl) rfl rfl ?_
              refine g_aload_n 38 (gd rfl) rfl rfl ?_
              refine g_getA (q2 := 34) 41 (gd rfl) rfl rfl rfl rfl ?_
              refine g_iload 43 (gd rfl) rfl rfl ?_
              refine g_iaload 44 (gd rfl) rfl (n := 160) rfl (in_ix i24 rfl) (fun z43 e43 => ?_)
              have q43 : z30x5 = z43 := (e30x5).trans e43.symm
              subst q43
              refine g_aload_n 45 (gd rfl) rfl rfl ?_
              refine g_getA (q2 := 35) 48 (gd rfl) rfl rfl rfl rfl ?_
              refine g_iload 50 (gd rfl) rfl rfl ?_
              refine g_iaload 51 (gd rfl) rfl (n := 160) rfl (in_ix i24 rfl) (fun z50 e50 => ?_)
              have q50 : z30x21 = z50 := (e30x21).trans e50.symm
              subst q50
              refine g_aload_n 52 (gd rfl) rfl rfl ?_
              refine g_getA (q2 := 36) 55 (gd rfl) rfl rfl rfl rfl ?_
              refine g_iload 57 (gd rfl) rfl rfl ?_
              refine g_iaload 58 (gd rfl) rfl (n := 160) rfl (in_ix i24 rfl) (fun z57 e57 => ?_)
              have i57 := inv_I hIc18 (n := 160) (t := 0) (-1000000) 1000000 rfl (in_ix i24 rfl) rfl e57
              refine g_aload_n 59 (gd rfl) rfl rfl ?_
              refine g_getA (q2 := 37) 62 (gd rfl) rfl rfl rfl rfl ?_
              refine g_iload 64 (gd rfl) rfl rfl ?_
              refine g_iaload 65 (gd rfl) rfl (n := 160) rfl (in_ix i24 rfl) (fun z64 e64 => ?_)
              have i64 := inv_I hIc18 (n := 160) (t := 0) 0 1000000 rfl (in_ix i24 rfl) rfl e64
              refine g_callv (X := _) (As := [.int z30x5, .int z30x21, .int z57, .int z64]) (r := []) (b := A 65) (q := 65) 68 (gd rfl) rfl rfl rfl rfl rfl (ww_o rfl) (Nat.le_of_ble_eq_true rfl) (Nat.zero_le _) (Nat.zero_le _) (f_84_65 (by first | exact dq1 hd rfl | exact dq0 hd rfl | exact dq2 hd rfl | exact dq3 hd rfl | omega) hIc18 (in_w 0 31 i30x7 rfl) (in_w 0 31 i30x21 rfl) (in_w (-1000000) 1000000 i57 rfl) (in_w 0 1000000 i64 rfl)) (fun e u h => h) (fun v u h => ?_)
              obtain ⟨s65, hI65, hF65, rfl, rfl, p65⟩ := h
              show GG _ _ _ _ _ _ _ _ [] _ _ _
              refine g_goto 112 (gd rfl) rfl ?_
              refine g_iinc 115 (gd rfl) rfl rfl (Nat.le_of_ble_eq_true rfl) (fun z112 e112 => ?_)
              have i112 := in_add 1 160 e112 i24 (in_c 1 rfl) rfl rfl
              refine g_goto 18 (gd rfl) rfl ?_
              have n18 : LXF (gvD s) s65 (z112).toNatClampNeg := by rw [(show (z112).toNatClampNeg = (y18_4).toNatClampNeg + 1 from (by show (z112).toInt.toNat = (y18_4).toInt.toNat + 1; (first | have a0 := in_u i24a | (have a0 := i24a; unfold In at a0)); (first | have a1 := in_u i24 | (have a1 := i24; unfold In at a1)); (first | have a2 := in_u i112 | (have a2 := i112; unfold In at a2)); have a3 := t_add e112 i24 (in_c 1 rfl) rfl; (first | have a4 := in_u ((in_c 1 rfl)) | (have a4 := (in_c 1 rfl); unfold In at a4)); have oc := oc_80_65_32; omega))]; exact lxf_y g18_0 (show (y18_4).toNatClampNeg < 160 from (by show (y18_4).toInt.toNat < 160; (first | have a0 := in_u i24a | (have a0 := i24a; unfold In at a0)); (first | have a1 := in_u i24 | (have a1 := i24; unfold In at a1)); (first | have a2 := in_u i112 | (have a2 := i112; unfold In at a2)); have a3 := t_add e112 i24 (in_c 1 rfl) rfl; (first | have a4 := in_u ((in_c 1 rfl)) | (have a4 := (in_c 1 rfl); unfold In at a4)); have oc := oc_80_65_32; omega)) (show z30x5 = (gvD s).2.1 (y18_4).toNatClampNeg from (e30x5.trans (congrFun (hFc18.1 34 rfl) _))) (show z30x21 = (gvD s).2.2.1 (y18_4).toNatClampNeg from (e30x21.trans (congrFun (hFc18.1 35 rfl) _))) (show z57 = (gvD s).2.2.2.1 (y18_4).toNatClampNeg from (e57.trans (congrFun (hFc18.1 36 rfl) _))) (show z64 = (gvD s).2.2.2.2.1 (y18_4).toNatClampNeg from (e64.trans (congrFun (hFc18.1 37 rfl) _))) (by (first | have a0 := in_u i24a | (have a0 := i24a; unfold In at a0)); (first | have a1 := in_u i24 | (have a1 := i24; unfold In at a1)); (first | have a2 := in_u i112 | (have a2 := i112; unfold In at a2)); have a3 := t_add e112 i24 (in_c 1 rfl) rfl; (first | have a4 := in_u ((in_c 1 rfl)) | (have a4 := (in_c 1 rfl); unfold In at a4)); have oc := oc_80_65_32; omega) c30x22 (inv_F hIc18 (z := sc18.2.2.1 65 8) 0 160 rfl rfl).1 p65 (ex_fr hF65 rfl)
              have n18a : LPS (gvD s) (y18_2).toInt (z112).toNatClampNeg := by rw [(show (z112).toNatClampNeg = (y18_4).toNatClampNeg + 1 from (by show (z112).toInt.toNat = (y18_4).toInt.toNat + 1; (first | have a0 := in_u i24a | (have a0 := i24a; unfold In at a0)); (first | have a1 := in_u i24 | (have a1 := i24; unfold In at a1)); (first | have a2 := in_u i112 | (have a2 := i112; unfold In at a2)); have a3 := t_add e112 i24 (in_c 1 rfl) rfl; (first | have a4 := in_u ((in_c 1 rfl)) | (have a4 := (in_c 1 rfl); unfold In at a4)); have oc := oc_80_65_32; omega))]; exact lps_n g18_1 (lpv_j (show z30x5 = (gvD s).2.1 (y18_4).toNatClampNeg from (e30x5.trans (congrFun (hFc18.1 34 rfl) _))) (show z30x21 = (gvD s).2.2.1 (y18_4).toNatClampNeg from (e30x21.trans (congrFun (hFc18.1 35 rfl) _))) c30x22)
              exact gg_w (by first | exact Nat.le_add_right _ _ | exact gw2 | exact gw3 | exact gwe rfl | exact gwf rfl | exact gwg rfl | exact gwh rfl | omega) (gg_f (gf_cons rfl (gf_cons rfl (gf_cons rfl (gf_cons rfl gf_nil)))) (ih18 s65 y18_2 z112 hI65 (fr_tr rfl hFc18 hF65) (in_w 0 160 i112 rfl) n18 n18a (m_up mm18 (t_add e112 i24 (in_c 1 rfl) rfl) (in_w 1 1 (in_c 1 rfl) rfl))))
  refine g_enter2 (k := 80) (N := 145801) (by first | exact dq1 hd rfl | exact dq0 hd rfl | exact dq2 hd rfl | exact dq3 hd rfl | omega) rfl (Nat.le_of_ble_eq_true rfl) ?_
  refine g_aload_n 1 (gd rfl) rfl rfl ?_
  refine g_getA (q2 := 74) 4 (gd rfl) rfl rfl rfl rfl ?_
  refine g_iconst 0 5 (gd rfl) rfl rfl ?_
  refine g_calls (As := [.ref (A 74), .int (Int32.ofInt 0)]) (r := []) 8 (gd rfl) rfl rfl rfl rfl rfl (Nat.le_of_ble_eq_true rfl) (Nat.zero_le _) (Nat.zero_le _) (k_fillI 74 (by first | exact dq1 hd rfl | exact dq0 hd rfl | exact dq2 hd rfl | exact dq3 hd rfl | omega) hI (in_c 0 rfl) (n := 32) rfl rfl rfl rfl) (fun v u h => ?_)
  obtain ⟨s5, hI5, hF5, rfl, rfl, fl5⟩ := h
  show GG _ _ _ _ _ _ _ _ [] _ _ _
  refine g_aload_n 9 (gd rfl) rfl rfl ?_
  refine g_iconst 0 10 (gd rfl) rfl rfl ?_
  refine g_putI 13 (gd rfl) rfl rfl rfl rfl ?_
  have hI10 := inv_sF (q := 65) (j := 8) hI5 rfl (in_w 0 160 (in_c 0 rfl) rfl)
  refine g_lconst 0 14 (gd rfl) rfl rfl ?_
  refine g_lstore_n 15 (gd rfl) rfl (Nat.le_of_ble_eq_true rfl) ?_
  refine g_iconst 0 16 (gd rfl) rfl rfl ?_
  refine g_istore 18 (gd rfl) rfl (Nat.le_of_ble_eq_true rfl) ?_
  have n18 : LXF (gvD s) (sF s5 65 8 (Int32.ofInt 0)) ((Int32.ofInt 0)).toNatClampNeg := by exact (show LXF _ _ 0 from lxf_0 rfl (fun v hv => fl5 v hv))
  have n18a : LPS (gvD s) ((Int64.ofInt 0)).toInt ((Int32.ofInt 0)).toNatClampNeg := by exact (show LPS _ 0 0 from rfl)
  exact gg_w (by first | exact Nat.le_of_ble_eq_true rfl | omega) (gg_f (gf_cons rfl (gf_cons rfl (gf_cons rfl (gf_cons rfl gf_nil)))) (ct18 161 (sF s5 65 8 (Int32.ofInt 0)) (Int64.ofInt 0) (Int32.ofInt 0) hI10 (fr_sF rfl (fr_tr rfl fr_rf hF5)) (in_w 0 160 (in_c 0 rfl) rfl) n18 n18a (m_in 161 (in_w 0 160 (in_c 0 rfl) rfl) rfl)))

theorem oc_79_65_2 : (Int32.ofInt (-1)).toInt = (-1) ∧ (Int32.ofInt 0).toInt = 0 ∧ (Int32.ofInt 1).toInt = 1 ∧ (Int32.ofInt 16).toInt = 16 ∧ (Int32.ofInt 65536).toInt = 65536 ∧ (Int32.ofInt 1048576).toInt = 1048576 ∧ (Int64.ofInt 9000000000000000).toInt = 9000000000000000 := ⟨rfl, rfl, rfl, rfl, rfl, rfl, rfl⟩
set_option maxHeartbeats 2000000 in
/-- GraphHouse$Flows.cheapest -/
theorem f_79_65_2 {Z : AmZ} {A : Nat → Nat} {s : GS} {ex : va_W} {d : Nat} {X : AmX} {x2 : Int32} {x3 : Int32} {x4 : Int32} (hd : 6 ≤ d) (hI : Inv s) (h2 : In x2 0 31) (h3 : In x3 0 31) (h4 : In x4 0 200000000) (q_0 : TQ s) (q_1 : FLB (gvC s) s) (q_2 : (x2).toInt ≠ (x3).toInt) (q_3 : NDQ (gvC s)) (q_4 : (x2).toInt < (s.2.2.1 2 1).toInt ∧ (x3).toInt < (s.2.2.1 2 1).toInt) : GC Z d 79 [.ref (A 65), .ref (A 2), .int x2, .int x3, .int x4] (WW Z A s ++ ex) 0 0 (fun v u => ∃ t : GS, Inv t ∧ Fr fm_79_65_2 s t ∧ ∃ z : Int64, v = some (.long z) ∧ u = WW Z A t ++ ex ∧ (CSX (gvC s) (x2).toNatClampNeg (x3).toNatClampNeg (x4).toInt (z).toInt) ∧ (FLQ (gvC s) t)) X := by
  intro post xp hP hX
  obtain ⟨u_2_1, e_2_1⟩ : ∃ w, w = s.2.2.1 2 1 := ⟨_, rfl⟩
  have ro_2_1 := inv_F hI 0 32 rfl e_2_1
  have ct94 : ∀ (k94 : Nat) (sc94 : GS) (y94_5 : Int64) (y94_7 : Int32) (y94_8 : Int32), Inv sc94 → Fr fm_79_65_2 s sc94 → (In y94_7 1 1048576) → (In y94_8 0 160) → (PHC (gvC s) (s.2.2.1 2 1).toNatClampNeg (x2).toNatClampNeg (x3).toNatClampNeg (x4).toInt 1 sc94) → (∃ z0 : Int, LPS (gvC s) z0 160 ∧ SMF sc94 z0 (y94_5).toInt (y94_8).toNatClampNeg) → (FLQ (gvC s) sc94) → ((y94_8).toNatClampNeg ≤ (netC sc94).1) → 160 - (y94_8).toInt < (k94 : Int) → GG Z (d - 1) 79 post (gx xp) (1 + k94 * 900) 94 (fun j => xlook j [(0, .ref (A 65)), (1, .ref (A 2)), (2, .int x2), (3, .int x3), (4, .int x4), (5, .long y94_5), (7, .int y94_7), (8, .int y94_8)]) [] (WW Z A sc94 ++ ex) 0 0 := by
    intro k94
    induction k94 with
    | zero => intro sc94 y94_5 y94_7 y94_8 hIc94 hFc94 j94_7 j94_8 g94_0 g94_1 g94_2 g94_3 mm94; exact m_no mm94 j94_8 rfl
    | succ k94 ih94 =>
      intro sc94 y94_5 y94_7 y94_8 hIc94 hFc94 j94_7 j94_8 g94_0 g94_1 g94_2 g94_3 mm94
      refine gg_w (M := 1 + k94 * 900 + 900) gws ?_
      refine g_iload 96 (gd rfl) rfl rfl ?_
      refine g_aload_n 97 (gd rfl) rfl rfl ?_
      refine g_getI 100 (gd rfl) rfl rfl rfl (fun z97 e97 => ?_)
      have i97 := inv_F hIc94 0 160 rfl e97
      refine g_cmp_ge 103 131 (gd rfl) rfl rfl (fun c100 => ?_) (fun c100 => ?_)
      · skip
        refine g_lload 133 (gd rfl) rfl rfl ?_
        have n133 : CSX (gvC s) (x2).toNatClampNeg (x3).toNatClampNeg (x4).toInt (y94_5).toInt := by obtain ⟨z9, l9, m9⟩ := g94_1; refine cst_C (gvr_C hI q_3) g94_0 ?_ (show (x2).toNatClampNeg < (s.2.2.1 2 1).toNatClampNeg from (by rw [← e_2_1]; have h9 := q_4.1; rw [← e_2_1] at h9; show (x2).toInt.toNat < (u_2_1).toInt.toNat; (first | have a0 := in_u h3 | (have a0 := h3; unfold In at a0)); (first | have a1 := in_u h2 | (have a1 := h2; unfold In at a1)); (first | have a2 := in_u ro_2_1 | (have a2 := ro_2_1; unfold In at a2)); (first | have a3 := in_u j94_8 | (have a3 := j94_8; unfold In at a3)); (first | have a4 := in_u j94_7 | (have a4 := j94_7; unfold In at a4)); (first | have a5 := in_u h4 | (have a5 := h4; unfold In at a5)); (first | have a6 := in_u i97 | (have a6 := i97; unfold In at a6)); have oc := oc_79_65_2; omega)) (show (x3).toNatClampNeg < (s.2.2.1 2 1).toNatClampNeg from (by rw [← e_2_1]; have h9 := q_4.2; rw [← e_2_1] at h9; show (x3).toInt.toNat < (u_2_1).toInt.toNat; (first | have a0 := in_u h3 | (have a0 := h3; unfold In at a0)); (first | have a1 := in_u h2 | (have a1 := h2; unfold In at a1)); (first | have a2 := in_u ro_2_1 | (have a2 := ro_2_1; unfold In at a2)); (first | have a3 := in_u j94_8 | (have a3 := j94_8; unfold In at a3)); (first | have a4 := in_u j94_7 | (have a4 := j94_7; unfold In at a4)); (first | have a5 := in_u h4 | (have a5 := h4; unfold In at a5)); (first | have a6 := in_u i97 | (have a6 := i97; unfold In at a6)); have oc := oc_79_65_2; omega)); unfold SMF at m9; unfold LPS at l9; rw [m9, l9, show (y94_8).toNatClampNeg = (netC sc94).1 from Nat.le_antisymm g94_3 (by show (sc94.2.2.1 65 8).toInt.toNat ≤ (y94_8).toInt.toNat; rw [← e97]; (first | have a0 := in_u h3 | (have a0 := h3; unfold In at a0)); (first | have a1 := in_u h2 | (have a1 := h2; unfold In at a1)); (first | have a2 := in_u ro_2_1 | (have a2 := ro_2_1; unfold In at a2)); (first | have a3 := in_u j94_8 | (have a3 := j94_8; unfold In at a3)); (first | have a4 := in_u j94_7 | (have a4 := j94_7; unfold In at a4)); (first | have a5 := in_u h4 | (have a5 := h4; unfold In at a5)); (first | have a6 := in_u i97 | (have a6 := i97; unfold In at a6)); have oc := oc_79_65_2; omega)]
        have n133a : FLQ (gvC s) sc94 := by exact g94_2
        exact g_lreturn (gd rfl) rfl (hP _ _ ⟨sc94, hIc94, hFc94, y94_5, rfl, rfl, n133, n133a⟩)
      · skip
        have i100 := r_lt1 0 159 c100 j94_8 i97 rfl
        have i100a := r_lt2 1 160 c100 j94_8 i97 rfl
        refine g_lload 105 (gd rfl) rfl rfl ?_
        refine g_aload_n 106 (gd rfl) rfl rfl ?_
        refine g_getA (q2 := 71) 109 (gd rfl) rfl rfl rfl rfl ?_
        refine g_iload 111 (gd rfl) rfl rfl ?_
        refine g_iaload 112 (gd rfl) rfl (n := 160) rfl (in_ix i100 rfl) (fun z111 e111 => ?_)
        have i111 := inv_I hIc94 (n := 160) (t := 0) (-1000000) 1000000 rfl (in_ix i100 rfl) rfl e111
        refine g_i2l 113 (gd rfl) rfl (fun z112 e112 => ?_)
        have i112 := l_i e112 i111
        refine g_aload_n 114 (gd rfl) rfl rfl ?_
        refine g_getA (q2 := 73) 117 (gd rfl) rfl rfl rfl rfl ?_
        refine g_iload 119 (gd rfl) rfl rfl ?_
        refine g_iaload 120 (gd rfl) rfl (n := 160) rfl (in_ix i100 rfl) (fun z119 e119 => ?_)
        refine g_i2l 121 (gd rfl) rfl (fun z120 e120 => ?_)
        have i120 := l_i e120 (i_rng z119)
        refine g_lmul 122 (gd rfl) rfl (fun z121 e121 => ?_)
        refine g_ladd 123 (gd rfl) rfl (fun z122 e122 => ?_)
        refine g_lstore 125 (gd rfl) rfl (Nat.le_of_ble_eq_true rfl) ?_
        refine g_iinc 128 (gd rfl) rfl rfl (Nat.le_of_ble_eq_true rfl) (fun z125 e125 => ?_)
        have i125 := in_add 1 160 e125 i100 (in_c 1 rfl) rfl rfl
        refine g_goto 94 (gd rfl) rfl ?_
        have n94 : PHC (gvC s) (s.2.2.1 2 1).toNatClampNeg (x2).toNatClampNeg (x3).toNatClampNeg (x4).toInt 1 sc94 := by exact g94_0
        have n94a : ∃ z0 : Int, LPS (gvC s) z0 160 ∧ SMF sc94 z0 (z122).toInt (z125).toNatClampNeg := by obtain ⟨z9, l9, m9⟩ := g94_1; refine ⟨z9, l9, ?_⟩; rw [(show (z125).toNatClampNeg = (y94_8).toNatClampNeg + 1 from (by show (z125).toInt.toNat = (y94_8).toInt.toNat + 1; (first | have a0 := in_u h3 | (have a0 := h3; unfold In at a0)); (first | have a1 := in_u h2 | (have a1 := h2; unfold In at a1)); (first | have a2 := in_u ro_2_1 | (have a2 := ro_2_1; unfold In at a2)); (first | have a3 := in_u i100 | (have a3 := i100; unfold In at a3)); (first | have a4 := in_u j94_7 | (have a4 := j94_7; unfold In at a4)); (first | have a5 := in_u i125 | (have a5 := i125; unfold In at a5)); have a6 := t_add e125 i100 (in_c 1 rfl) rfl; (first | have a7 := in_u ((in_c 1 rfl)) | (have a7 := (in_c 1 rfl); unfold In at a7)); (first | have a8 := in_u h4 | (have a8 := h4; unfold In at a8)); (first | have a9 := in_u i100a | (have a9 := i100a; unfold In at a9)); have a10 := tx_i2l e120; have a11 := tx_i2l e112; (first | have a12 := in_u i111 | (have a12 := i111; unfold In at a12)); have oc := oc_79_65_2; omega))]; exact smf_s (lyx_k (gvr_C hI q_3).1 (gvr_C hI q_3).2.1 (gvr_C hI q_3).2.2.1 (gvr_C hI q_3).2.2.2 g94_0.1).1 g94_0.2.1 m9 (show (y94_8).toNatClampNeg < (netC sc94).1 from (by show (y94_8).toInt.toNat < (sc94.2.2.1 65 8).toInt.toNat; rw [← e97]; (first | have a0 := in_u h3 | (have a0 := h3; unfold In at a0)); (first | have a1 := in_u h2 | (have a1 := h2; unfold In at a1)); (first | have a2 := in_u ro_2_1 | (have a2 := ro_2_1; unfold In at a2)); (first | have a3 := in_u i100 | (have a3 := i100; unfold In at a3)); (first | have a4 := in_u j94_7 | (have a4 := j94_7; unfold In at a4)); (first | have a5 := in_u i125 | (have a5 := i125; unfold In at a5)); have a6 := t_add e125 i100 (in_c 1 rfl) rfl; (first | have a7 := in_u ((in_c 1 rfl)) | (have a7 := (in_c 1 rfl); unfold In at a7)); (first | have a8 := in_u h4 | (have a8 := h4; unfold In at a8)); (first | have a9 := in_u i100a | (have a9 := i100a; unfold In at a9)); have a10 := tx_i2l e120; have a11 := tx_i2l e112; (first | have a12 := in_u i111 | (have a12 := i111; unfold In at a12)); have oc := oc_79_65_2; omega)) (lyx_c g94_0.1) (lps_b (gvr_C hI q_3).2.2.2 l9 (Nat.le_refl _)) e111 e119 e112 e120 e121 e122
        have n94b : FLQ (gvC s) sc94 := by exact g94_2
        have n94c : (z125).toNatClampNeg ≤ (netC sc94).1 := by show (z125).toInt.toNat ≤ (sc94.2.2.1 65 8).toInt.toNat; rw [← e97]; (first | have a0 := in_u h3 | (have a0 := h3; unfold In at a0)); (first | have a1 := in_u h2 | (have a1 := h2; unfold In at a1)); (first | have a2 := in_u ro_2_1 | (have a2 := ro_2_1; unfold In at a2)); (first | have a3 := in_u i100 | (have a3 := i100; unfold In at a3)); (first | have a4 := in_u j94_7 | (have a4 := j94_7; unfold In at a4)); (first | have a5 := in_u i125 | (have a5 := i125; unfold In at a5)); have a6 := t_add e125 i100 (in_c 1 rfl) rfl; (first | have a7 := in_u ((in_c 1 rfl)) | (have a7 := (in_c 1 rfl); unfold In at a7)); (first | have a8 := in_u h4 | (have a8 := h4; unfold In at a8)); (first | have a9 := in_u i100a | (have a9 := i100a; unfold In at a9)); have a10 := tx_i2l e120; have a11 := tx_i2l e112; (first | have a12 := in_u i111 | (have a12 := i111; unfold In at a12)); have oc := oc_79_65_2; omega
        exact gg_w (by first | exact Nat.le_add_right _ _ | exact gw2 | exact gw3 | exact gwe rfl | exact gwf rfl | exact gwg rfl | exact gwh rfl | omega) (gg_f (gf_cons rfl (gf_cons rfl (gf_cons rfl (gf_cons rfl (gf_cons rfl (gf_cons rfl (gf_cons rfl (gf_cons rfl gf_nil)))))))) (ih94 sc94 z122 y94_7 z125 hIc94 hFc94 (in_w 1 1048576 j94_7 rfl) (in_w 0 160 i125 rfl) n94 n94a n94b n94c (m_up mm94 (t_add e125 i100 (in_c 1 rfl) rfl) (in_w 1 1 (in_c 1 rfl) rfl))))
  have ct50 : ∀ (k50 : Nat) (sc50 : GS) (y50_5 : Int64) (y50_7 : Int32) (y50_8 : Int32), Inv sc50 → Fr fm_79_65_2 s sc50 → (In y50_7 1 1048576) → (In y50_8 0 65536) → (PHC (gvC s) (s.2.2.1 2 1).toNatClampNeg (x2).toNatClampNeg (x3).toNatClampNeg (x4).toInt (y50_7).toInt sc50) → (STP (y50_7).toInt (y50_8).toInt) → (∃ (V : Int) (X : Nat → Bool), FLX (gvC s) (x2).toNatClampNeg (x3).toNatClampNeg V X ∧ (x4).toInt ≤ V) → (LPS (gvC s) (y50_5).toInt 160) → (FLQ (gvC s) sc50) → (y50_8).toInt < (k50 : Int) → GG Z (d - 1) 79 post (gx xp) (144902 + k50 * 900) 50 (fun j => xlook j [(0, .ref (A 65)), (1, .ref (A 2)), (2, .int x2), (3, .int x3), (4, .int x4), (5, .long y50_5), (7, .int y50_7), (8, .int y50_8)]) [] (WW Z A sc50 ++ ex) 0 0 := by
    intro k50
    induction k50 with
    | zero => intro sc50 y50_5 y50_7 y50_8 hIc50 hFc50 j50_7 j50_8 g50_0 g50_1 g50_2 g50_3 g50_4 mm50; exfalso; (first | have a0 := in_u h3 | (have a0 := h3; unfold In at a0)); (first | have a1 := in_u h2 | (have a1 := h2; unfold In at a1)); (first | have a2 := in_u ro_2_1 | (have a2 := ro_2_1; unfold In at a2)); have a3 := j50_8; unfold In at a3; have a4 := j50_7; unfold In at a4; (first | have a5 := in_u h4 | (have a5 := h4; unfold In at a5)); have oc := oc_79_65_2; omega
    | succ k50 ih50 =>
      intro sc50 y50_5 y50_7 y50_8 hIc50 hFc50 j50_7 j50_8 g50_0 g50_1 g50_2 g50_3 g50_4 mm50
      refine gg_w (M := 144902 + k50 * 900 + 900) gws ?_
      refine g_iload 52 (gd rfl) rfl rfl ?_
      refine g_if_le 55 91 (gd rfl) rfl rfl (fun c52 => ?_) (fun c52 => ?_)
      · skip
        have i52 := z_le 0 0 c52 j50_8 rfl
        refine g_iconst 0 92 (gd rfl) rfl rfl ?_
        refine g_istore 94 (gd rfl) rfl (Nat.le_of_ble_eq_true rfl) ?_
        have n94 : PHC (gvC s) (s.2.2.1 2 1).toNatClampNeg (x2).toNatClampNeg (x3).toNatClampNeg (x4).toInt 1 sc50 := by have s9 := g50_1; have b9 : (y50_7).toInt = 1 := (by unfold STP at s9; (first | have a0 := in_u h3 | (have a0 := h3; unfold In at a0)); (first | have a1 := in_u h2 | (have a1 := h2; unfold In at a1)); (first | have a2 := in_u ro_2_1 | (have a2 := ro_2_1; unfold In at a2)); (first | have a3 := in_u i52 | (have a3 := i52; unfold In at a3)); (first | have a4 := in_u j50_7 | (have a4 := j50_7; unfold In at a4)); (first | have a5 := in_u ((in_c 0 rfl)) | (have a5 := (in_c 0 rfl); unfold In at a5)); (first | have a6 := in_u h4 | (have a6 := h4; unfold In at a6)); have oc := oc_79_65_2; omega); have h9 := g50_0; rw [b9] at h9; exact h9
        have n94a : ∃ z0 : Int, LPS (gvC s) z0 160 ∧ SMF sc50 z0 (y50_5).toInt ((Int32.ofInt 0)).toNatClampNeg := by exact ⟨_, g50_3, (show SMF _ _ _ 0 from (Int.add_zero _).symm)⟩
        have n94b : FLQ (gvC s) sc50 := by exact g50_4
        have n94c : ((Int32.ofInt 0)).toNatClampNeg ≤ (netC sc50).1 := by exact Nat.zero_le _
        exact gg_w (by first | exact Nat.le_add_right _ _ | exact gw2 | exact gw3 | exact gwe rfl | exact gwf rfl | exact gwg rfl | exact gwh rfl | omega) (gg_f (gf_cons rfl (gf_cons rfl (gf_cons rfl (gf_cons rfl (gf_cons rfl (gf_cons rfl (gf_cons rfl (gf_cons rfl gf_nil)))))))) (ct94 161 sc50 y50_5 y50_7 (Int32.ofInt 0) hIc50 hFc50 (in_w 1 1048576 j50_7 rfl) (in_w 0 160 (in_c 0 rfl) rfl) n94 n94a n94b n94c (m_in 161 (in_w 0 160 (in_c 0 rfl) rfl) rfl)))
      · skip
        have i52 := z_gt 1 65536 c52 j50_8 rfl
        refine g_aload_n 56 (gd rfl) rfl rfl ?_
        refine g_aload_n 57 (gd rfl) rfl rfl ?_
        refine g_getI 60 (gd rfl) rfl rfl rfl (fun z57 e57 => ?_)
        have q57 : u_2_1 = z57 := (fr_F e_2_1 hFc50 rfl).trans e57.symm
        subst q57
        refine g_iload 62 (gd rfl) rfl rfl ?_
        refine g_iload 64 (gd rfl) rfl rfl ?_
        have p64 : TEP sc50 (y50_7).toInt (u_2_1).toNatClampNeg := by rw [e_2_1]; exact phc_t (gvr_C hI q_3) ⟨h4.1, h4.2⟩ g50_0
        refine g_callv (X := _) (As := [.int u_2_1, .int y50_7, .int y50_8]) (r := []) (b := A 65) (q := 65) 67 (gd rfl) rfl rfl rfl rfl rfl (ww_o rfl) (Nat.le_of_ble_eq_true rfl) (Nat.zero_le _) (Nat.zero_le _) (f_81_65 (by first | exact dq1 hd rfl | exact dq0 hd rfl | exact dq2 hd rfl | exact dq3 hd rfl | omega) hIc50 (in_w 0 32 ro_2_1 rfl) (in_w 1 1048576 j50_7 rfl) (in_w 1 65536 i52 rfl) p64) (fun e u h => h) (fun v u h => ?_)
        obtain ⟨s64, hI64, hF64, rfl, rfl, p64a⟩ := h
        show GG _ _ _ _ _ _ _ _ [] _ _ _
        refine g_aload_n 68 (gd rfl) rfl rfl ?_
        refine g_aload_n 69 (gd rfl) rfl rfl ?_
        refine g_getI 72 (gd rfl) rfl rfl rfl (fun z69 e69 => ?_)
        have q69 : u_2_1 = z69 := (fr_F (fr_F e_2_1 hFc50 rfl) hF64 rfl).trans e69.symm
        subst q69
        refine g_iload 74 (gd rfl) rfl rfl ?_
        have p74 : CAP s64 (y50_8).toInt (u_2_1).toNatClampNeg := by rw [e_2_1]; have t9 := p64a; exact phc_c (gvr_C hI q_3) g50_1 (by (first | have a0 := in_u h3 | (have a0 := h3; unfold In at a0)); (first | have a1 := in_u h2 | (have a1 := h2; unfold In at a1)); (first | have a2 := in_u ro_2_1 | (have a2 := ro_2_1; unfold In at a2)); (first | have a3 := in_u i52 | (have a3 := i52; unfold In at a3)); (first | have a4 := in_u j50_7 | (have a4 := j50_7; unfold In at a4)); (first | have a5 := in_u h4 | (have a5 := h4; unfold In at a5)); have oc := oc_79_65_2; omega) g50_0 t9 (net_fr hF64 rfl)
        refine g_callv (X := _) (As := [.int u_2_1, .int y50_8]) (r := []) (b := A 65) (q := 65) 77 (gd rfl) rfl rfl rfl rfl rfl (ww_o rfl) (Nat.le_of_ble_eq_true rfl) (Nat.zero_le _) (Nat.zero_le _) (f_83_65 (by first | exact dq1 hd rfl | exact dq0 hd rfl | exact dq2 hd rfl | exact dq3 hd rfl | omega) hI64 (in_w 0 32 ro_2_1 rfl) (in_w 1 65536 i52 rfl) p74) (fun e u h => h) (fun v u h => ?_)
        obtain ⟨s74, hI74, hF74, rfl, rfl, p74a⟩ := h
        show GG _ _ _ _ _ _ _ _ [] _ _ _
        refine g_iload 79 (gd rfl) rfl rfl ?_
        refine g_istore 81 (gd rfl) rfl (Nat.le_of_ble_eq_true rfl) ?_
        refine g_iload 83 (gd rfl) rfl rfl ?_
        refine g_bipush 16 85 (gd rfl) rfl rfl ?_
        refine g_idiv 86 (gd rfl) rfl (by decide) (fun z85 e85 => ?_)
        have i85 := in_div 0 4096 e85 i52 rfl rfl
        refine g_istore 88 (gd rfl) rfl (Nat.le_of_ble_eq_true rfl) ?_
        refine g_goto 50 (gd rfl) rfl ?_
        have n50 : PHC (gvC s) (s.2.2.1 2 1).toNatClampNeg (x2).toNatClampNeg (x3).toNatClampNeg (x4).toInt (y50_8).toInt s74 := by obtain ⟨V9, X9, f9, w9⟩ := g50_2; have c9 := p74a; rw [e_2_1] at c9; exact phc_s (gvr_C hI q_3) h4.1 f9 w9 (show (x2).toNatClampNeg < (s.2.2.1 2 1).toNatClampNeg from (by rw [← e_2_1]; have h9 := q_4.1; rw [← e_2_1] at h9; show (x2).toInt.toNat < (u_2_1).toInt.toNat; (first | have a0 := in_u h3 | (have a0 := h3; unfold In at a0)); (first | have a1 := in_u h2 | (have a1 := h2; unfold In at a1)); (first | have a2 := in_u ro_2_1 | (have a2 := ro_2_1; unfold In at a2)); (first | have a3 := in_u i52 | (have a3 := i52; unfold In at a3)); (first | have a4 := in_u j50_7 | (have a4 := j50_7; unfold In at a4)); (first | have a5 := in_u i85 | (have a5 := i85; unfold In at a5)); have a6 := t_div e85 i52 rfl; (first | have a7 := in_u h4 | (have a7 := h4; unfold In at a7)); have oc := oc_79_65_2; omega)) (show (x3).toNatClampNeg < (s.2.2.1 2 1).toNatClampNeg from (by rw [← e_2_1]; have h9 := q_4.2; rw [← e_2_1] at h9; show (x3).toInt.toNat < (u_2_1).toInt.toNat; (first | have a0 := in_u h3 | (have a0 := h3; unfold In at a0)); (first | have a1 := in_u h2 | (have a1 := h2; unfold In at a1)); (first | have a2 := in_u ro_2_1 | (have a2 := ro_2_1; unfold In at a2)); (first | have a3 := in_u i52 | (have a3 := i52; unfold In at a3)); (first | have a4 := in_u j50_7 | (have a4 := j50_7; unfold In at a4)); (first | have a5 := in_u i85 | (have a5 := i85; unfold In at a5)); have a6 := t_div e85 i52 rfl; (first | have a7 := in_u h4 | (have a7 := h4; unfold In at a7)); have oc := oc_79_65_2; omega)) (by (first | have a0 := in_u h3 | (have a0 := h3; unfold In at a0)); (first | have a1 := in_u h2 | (have a1 := h2; unfold In at a1)); (first | have a2 := in_u ro_2_1 | (have a2 := ro_2_1; unfold In at a2)); (first | have a3 := in_u i52 | (have a3 := i52; unfold In at a3)); (first | have a4 := in_u j50_7 | (have a4 := j50_7; unfold In at a4)); (first | have a5 := in_u i85 | (have a5 := i85; unfold In at a5)); have a6 := t_div e85 i52 rfl; (first | have a7 := in_u h4 | (have a7 := h4; unfold In at a7)); have oc := oc_79_65_2; omega) g50_0 p64a (net_fr hF64 rfl) c9 (net_fr hF74 rfl)
        have n50a : STP (y50_8).toInt (z85).toInt := by exact stp_s g50_1 (by (first | have a0 := in_u h3 | (have a0 := h3; unfold In at a0)); (first | have a1 := in_u h2 | (have a1 := h2; unfold In at a1)); (first | have a2 := in_u ro_2_1 | (have a2 := ro_2_1; unfold In at a2)); (first | have a3 := in_u i52 | (have a3 := i52; unfold In at a3)); (first | have a4 := in_u j50_7 | (have a4 := j50_7; unfold In at a4)); (first | have a5 := in_u i85 | (have a5 := i85; unfold In at a5)); have a6 := t_div e85 i52 rfl; (first | have a7 := in_u h4 | (have a7 := h4; unfold In at a7)); have oc := oc_79_65_2; omega) (by (first | have a0 := in_u h3 | (have a0 := h3; unfold In at a0)); (first | have a1 := in_u h2 | (have a1 := h2; unfold In at a1)); (first | have a2 := in_u ro_2_1 | (have a2 := ro_2_1; unfold In at a2)); (first | have a3 := in_u i52 | (have a3 := i52; unfold In at a3)); (first | have a4 := in_u j50_7 | (have a4 := j50_7; unfold In at a4)); (first | have a5 := in_u i85 | (have a5 := i85; unfold In at a5)); have a6 := t_div e85 i52 rfl; (first | have a7 := in_u h4 | (have a7 := h4; unfold In at a7)); have oc := oc_79_65_2; omega)
        have n50b : ∃ (V : Int) (X : Nat → Bool), FLX (gvC s) (x2).toNatClampNeg (x3).toNatClampNeg V X ∧ (x4).toInt ≤ V := by exact g50_2
        have n50c : LPS (gvC s) (y50_5).toInt 160 := by exact g50_3
        have n50d : FLQ (gvC s) s74 := by exact flq_fr (flq_fr g50_4 hF64 rfl) hF74 rfl
        have m50 : (z85).toInt < ((k50 : Nat) : Int) := by (first | have a0 := in_u h3 | (have a0 := h3; unfold In at a0)); (first | have a1 := in_u h2 | (have a1 := h2; unfold In at a1)); (first | have a2 := in_u ro_2_1 | (have a2 := ro_2_1; unfold In at a2)); (first | have a3 := in_u i52 | (have a3 := i52; unfold In at a3)); (first | have a4 := in_u j50_7 | (have a4 := j50_7; unfold In at a4)); (first | have a5 := in_u i85 | (have a5 := i85; unfold In at a5)); have a6 := t_div e85 i52 rfl; (first | have a7 := in_u h4 | (have a7 := h4; unfold In at a7)); have oc := oc_79_65_2; omega
        exact gg_w (by first | exact Nat.le_add_right _ _ | exact gw2 | exact gw3 | exact gwe rfl | exact gwf rfl | exact gwg rfl | exact gwh rfl | omega) (gg_f (gf_cons rfl (gf_cons rfl (gf_cons rfl (gf_cons rfl (gf_cons rfl (gf_cons rfl (gf_cons rfl (gf_cons rfl gf_nil)))))))) (ih50  s74 y50_5 y50_8 z85 hI74 (fr_tr rfl (fr_tr rfl hFc50 hF64) hF74) (in_w 1 1048576 i52 rfl) (in_w 0 65536 i85 rfl) n50 n50a n50b n50c n50d m50))
  refine g_enter2 (k := 79) (N := 63145802) (by first | exact dq1 hd rfl | exact dq0 hd rfl | exact dq2 hd rfl | exact dq3 hd rfl | omega) rfl (Nat.le_of_ble_eq_true rfl) ?_
  refine g_iload 2 (gd rfl) rfl rfl ?_
  refine g_i2l 3 (gd rfl) rfl (fun z2 e2 => ?_)
  have i2 := l_i e2 h4
  refine g_aload_n 4 (gd rfl) rfl rfl ?_
  refine g_aload_n 5 (gd rfl) rfl rfl ?_
  refine g_iload_n 6 (gd rfl) rfl rfl ?_
  refine g_iload_n 7 (gd rfl) rfl rfl ?_
  have p7 : TQ s := by exact q_0
  have p7a : FLB (gvC s) s := by exact q_1
  have p7b : (x2).toInt ≠ (x3).toInt := by exact q_2
  refine g_callv (X := _) (As := [.ref (A 2), .int x2, .int x3]) (r := [.long z2]) (b := A 65) (q := 65) 10 (gd rfl) rfl rfl rfl rfl rfl (ww_o rfl) (Nat.le_of_ble_eq_true rfl) (Nat.zero_le _) (Nat.zero_le _) (f_75_65_2 (by first | exact dq1 hd rfl | exact dq0 hd rfl | exact dq2 hd rfl | exact dq3 hd rfl | omega) hI (in_w 0 31 h2 rfl) (in_w 0 31 h3 rfl) p7 p7a p7b) (fun e u h => h) (fun v u h => ?_)
  obtain ⟨s7, hI7, hF7, z7, rfl, rfl, p7c, p7d⟩ := h
  show GG _ _ _ _ _ _ _ _ [.long z7, .long z2] _ _ _
  refine g_lcmp 11 (gd rfl) rfl (fun z10 e10 => ?_)
  have i10 := lc_in e10
  refine g_if_le 14 18 (gd rfl) rfl rfl (fun c11 => ?_) (fun c11 => ?_)
  · skip
    have i11 := z_le (-1) 0 c11 i10 rfl
    have c11a := lc_le e10 c11
    have i11a := lr_le2 0 9223372036854775807 c11a i2 (l_rng z7) rfl
    refine g_aload_n 19 (gd rfl) rfl rfl ?_
    refine g_aload_n 20 (gd rfl) rfl rfl ?_
    have p20 : TQ s7 := by exact tq_fr q_0 hF7 rfl
    have p20a : NDQ (gvC s7) := by rw [(show gvC s7 = gvC s from gvC_cg hF7 rfl)]; exact q_3
    refine g_callv (X := _) (As := [.ref (A 2)]) (r := []) (b := A 65) (q := 65) 23 (gd rfl) rfl rfl rfl rfl rfl (ww_o rfl) (Nat.le_of_ble_eq_true rfl) (Nat.zero_le _) (Nat.zero_le _) (f_80_65_2 (by first | exact dq1 hd rfl | exact dq0 hd rfl | exact dq2 hd rfl | exact dq3 hd rfl | omega) hI7 p20 p20a) (fun e u h => h) (fun v u h => ?_)
    obtain ⟨s20, hI20, hF20, z20, rfl, rfl, p20b, p20c⟩ := h
    show GG _ _ _ _ _ _ _ _ [.long z20] _ _ _
    refine g_lstore 25 (gd rfl) rfl (Nat.le_of_ble_eq_true rfl) ?_
    refine g_aload_n 26 (gd rfl) rfl rfl ?_
    refine g_getA (q2 := 74) 29 (gd rfl) rfl rfl rfl rfl ?_
    refine g_iload_n 30 (gd rfl) rfl rfl ?_
    refine g_iload 32 (gd rfl) rfl rfl ?_
    refine g_iastore 33 (gd rfl) rfl (n := 32) rfl (in_ix h2 rfl) ?_
    have hI32 := inv_sI (q := 74) (j := x2.toNatClampNeg) hI20 rfl (in_w (-2147483648) 2147483647 h4 rfl)
    refine g_aload_n 34 (gd rfl) rfl rfl ?_
    refine g_getA (q2 := 74) 37 (gd rfl) rfl rfl rfl rfl ?_
    refine g_iload_n 38 (gd rfl) rfl rfl ?_
    refine g_iload 40 (gd rfl) rfl rfl ?_
    refine g_ineg 41 (gd rfl) rfl (fun z40 e40 => ?_)
    have i40 := in_neg (-200000000) 0 e40 h4 rfl
    refine g_iastore 42 (gd rfl) rfl (n := 32) rfl (in_ix h3 rfl) ?_
    have hI41 := inv_sI (q := 74) (j := x3.toNatClampNeg) hI32 rfl (in_w (-2147483648) 2147483647 i40 rfl)
    refine g_ldc 1048576 44 (gd rfl) rfl rfl ?_
    refine g_istore 46 (gd rfl) rfl (Nat.le_of_ble_eq_true rfl) ?_
    refine g_ldc 65536 48 (gd rfl) rfl rfl ?_
    refine g_istore 50 (gd rfl) rfl (Nat.le_of_ble_eq_true rfl) ?_
    have n50 : PHC (gvC s) (s.2.2.1 2 1).toNatClampNeg (x2).toNatClampNeg (x3).toNatClampNeg (x4).toInt ((Int32.ofInt 1048576)).toInt (sI (sI s20 74 x2.toNatClampNeg x4) 74 x3.toNatClampNeg z40) := by exact (show PHC _ _ _ _ _ 1048576 _ from phc_0 (gvr_C hI q_3) h4 (show LXF (gvC s) s20 160 from (by have h9 := p20b; rw [(show gvC s7 = gvC s from gvC_cg hF7 rfl)] at h9; exact h9)) h2 h3 q_2 e40)
    have n50a : STP ((Int32.ofInt 1048576)).toInt ((Int32.ofInt 65536)).toInt := by exact Or.inl ⟨rfl, rfl⟩
    have n50b : ∃ (V : Int) (X : Nat → Bool), FLX (gvC s) (x2).toNatClampNeg (x3).toNatClampNeg V X ∧ (x4).toInt ≤ V := by have f9 := p7c.1.2; rw [p7c.2.1, p7c.2.2] at f9; refine ⟨_, _, f9, ?_⟩; have v9 := p7d; have c9 := c11a; rw [u_i2l e2] at c9; omega
    have n50c : LPS (gvC s) (z20).toInt 160 := by have h9 := p20c; rw [(show gvC s7 = gvC s from gvC_cg hF7 rfl)] at h9; exact h9
    have n50d : FLQ (gvC s) (sI (sI s20 74 x2.toNatClampNeg x4) 74 x3.toNatClampNeg z40) := by exact flq_sI (flq_sI (flq_fr p7c.1 hF20 rfl))
    have m50 : ((Int32.ofInt 65536)).toInt < ((70000 : Nat) : Int) := by (first | have a0 := in_u ro_2_1 | (have a0 := ro_2_1; unfold In at a0)); (first | have a1 := in_u h3 | (have a1 := h3; unfold In at a1)); (first | have a2 := in_u h2 | (have a2 := h2; unfold In at a2)); (first | have a3 := in_u ((in_c 65536 rfl)) | (have a3 := (in_c 65536 rfl); unfold In at a3)); (first | have a4 := in_u ((in_c 1048576 rfl)) | (have a4 := (in_c 1048576 rfl); unfold In at a4)); (first | have a5 := in_u h4 | (have a5 := h4; unfold In at a5)); have a6 := tx_i2l e2; have oc := oc_79_65_2; omega
    exact gg_w (by first | exact Nat.le_of_ble_eq_true rfl | omega) (gg_f (gf_cons rfl (gf_cons rfl (gf_cons rfl (gf_cons rfl (gf_cons rfl (gf_cons rfl (gf_cons rfl (gf_cons rfl gf_nil)))))))) (ct50 70000 (sI (sI s20 74 x2.toNatClampNeg x4) 74 x3.toNatClampNeg z40) z20 (Int32.ofInt 1048576) (Int32.ofInt 65536) hI41 (fr_sI rfl (fr_sI rfl (fr_tr rfl (fr_tr rfl fr_rf hF7) hF20))) (in_w 1 1048576 (in_c 1048576 rfl) rfl) (in_w 0 65536 (in_c 65536 rfl) rfl) n50 n50a n50b n50c n50d m50))
  · skip
    have i11 := z_gt 1 1 c11 i10 rfl
    have c11a := lc_gt e10 c11
    have i11a := lr_lt1 (-9223372036854775808) 199999999 c11a (l_rng z7) i2 rfl
    refine g_ldc2_w 9000000000000000 17 (gd rfl) rfl rfl ?_
    have n17 : CSX (gvC s) (x2).toNatClampNeg (x3).toNatClampNeg (x4).toInt ((Int64.ofInt 9000000000000000)).toInt := by exact cst_no (gvr_C hI q_3).2.2.2 (show (x2).toNatClampNeg < 32 from (by show (x2).toInt.toNat < 32; (first | have a0 := in_u ro_2_1 | (have a0 := ro_2_1; unfold In at a0)); (first | have a1 := in_u h3 | (have a1 := h3; unfold In at a1)); (first | have a2 := in_u h2 | (have a2 := h2; unfold In at a2)); (first | have a3 := in_u h4 | (have a3 := h4; unfold In at a3)); have a4 := tx_i2l e2; have oc := oc_79_65_2; omega)) (show (x3).toNatClampNeg < 32 from (by show (x3).toInt.toNat < 32; (first | have a0 := in_u ro_2_1 | (have a0 := ro_2_1; unfold In at a0)); (first | have a1 := in_u h3 | (have a1 := h3; unfold In at a1)); (first | have a2 := in_u h2 | (have a2 := h2; unfold In at a2)); (first | have a3 := in_u h4 | (have a3 := h4; unfold In at a3)); have a4 := tx_i2l e2; have oc := oc_79_65_2; omega)) (by have h9 := p7c.1.2; rw [p7c.2.1, p7c.2.2] at h9; exact h9) (by have v9 := p7d; have c9 := c11a; rw [u_i2l e2] at c9; omega) rfl
    have n17a : FLQ (gvC s) s7 := by exact p7c.1
    exact g_lreturn (gd rfl) rfl (hP _ _ ⟨s7, hI7, (fr_tr rfl fr_rf hF7), (Int64.ofInt 9000000000000000), rfl, rfl, n17, n17a⟩)

theorem oc_79_65_32 : (Int32.ofInt (-1)).toInt = (-1) ∧ (Int32.ofInt 0).toInt = 0 ∧ (Int32.ofInt 1).toInt = 1 ∧ (Int32.ofInt 16).toInt = 16 ∧ (Int32.ofInt 65536).toInt = 65536 ∧ (Int32.ofInt 1048576).toInt = 1048576 ∧ (Int64.ofInt 9000000000000000).toInt = 9000000000000000 := ⟨rfl, rfl, rfl, rfl, rfl, rfl, rfl⟩
set_option maxHeartbeats 2000000 in
/-- GraphHouse$Flows.cheapest -/
theorem f_79_65_32 {Z : AmZ} {A : Nat → Nat} {s : GS} {ex : va_W} {d : Nat} {X : AmX} {x2 : Int32} {x3 : Int32} {x4 : Int32} (hd : 6 ≤ d) (hI : Inv s) (h2 : In x2 0 31) (h3 : In x3 0 31) (h4 : In x4 0 200000000) (q_0 : TQD s) (q_1 : FLB (gvD s) s) (q_2 : (x2).toInt ≠ (x3).toInt) (q_3 : NDQ (gvD s)) (q_4 : (x2).toInt < (s.2.2.1 32 1).toInt ∧ (x3).toInt < (s.2.2.1 32 1).toInt) : GC Z d 79 [.ref (A 65), .ref (A 32), .int x2, .int x3, .int x4] (WW Z A s ++ ex) 0 0 (fun v u => ∃ t : GS, Inv t ∧ Fr fm_79_65_32 s t ∧ ∃ z : Int64, v = some (.long z) ∧ u = WW Z A t ++ ex ∧ (CSX (gvD s) (x2).toNatClampNeg (x3).toNatClampNeg (x4).toInt (z).toInt) ∧ (FLQ (gvD s) t)) X := by
  intro post xp hP hX
  obtain ⟨u_32_1, e_32_1⟩ : ∃ w, w = s.2.2.1 32 1 := ⟨_, rfl⟩
  have ro_32_1 := inv_F hI 0 32 rfl e_32_1
  have ct94 : ∀ (k94 : Nat) (sc94 : GS) (y94_5 : Int64) (y94_7 : Int32) (y94_8 : Int32), Inv sc94 → Fr fm_79_65_32 s sc94 → (In y94_7 1 1048576) → (In y94_8 0 160) → (PHC (gvD s) (s.2.2.1 32 1).toNatClampNeg (x2).toNatClampNeg (x3).toNatClampNeg (x4).toInt 1 sc94) → (∃ z0 : Int, LPS (gvD s) z0 160 ∧ SMF sc94 z0 (y94_5).toInt (y94_8).toNatClampNeg) → (FLQ (gvD s) sc94) → ((y94_8).toNatClampNeg ≤ (netC sc94).1) → 160 - (y94_8).toInt < (k94 : Int) → GG Z (d - 1) 79 post (gx xp) (1 + k94 * 900) 94 (fun j => xlook j [(0, .ref (A 65)), (1, .ref (A 32)), (2, .int x2), (3, .int x3), (4, .int x4), (5, .long y94_5), (7, .int y94_7), (8, .int y94_8)]) [] (WW Z A sc94 ++ ex) 0 0 := by
    intro k94
    induction k94 with
    | zero => intro sc94 y94_5 y94_7 y94_8 hIc94 hFc94 j94_7 j94_8 g94_0 g94_1 g94_2 g94_3 mm94; exact m_no mm94 j94_8 rfl
    | succ k94 ih94 =>
      intro sc94 y94_5 y94_7 y94_8 hIc94 hFc94 j94_7 j94_8 g94_0 g94_1 g94_2 g94_3 mm94
      refine gg_w (M := 1 + k94 * 900 + 900) gws ?_
      refine g_iload 96 (gd rfl) rfl rfl ?_
      refine g_aload_n 97 (gd rfl) rfl rfl ?_
      refine g_getI 100 (gd rfl) rfl rfl rfl (fun z97 e97 => ?_)
      have i97 := inv_F hIc94 0 160 rfl e97
      refine g_cmp_ge 103 131 (gd rfl) rfl rfl (fun c100 => ?_) (fun c100 => ?_)
      · skip
        refine g_lload 133 (gd rfl) rfl rfl ?_
        have n133 : CSX (gvD s) (x2).toNatClampNeg (x3).toNatClampNeg (x4).toInt (y94_5).toInt := by obtain ⟨z9, l9, m9⟩ := g94_1; refine cst_C (gvr_D hI q_3) g94_0 ?_ (show (x2).toNatClampNeg < (s.2.2.1 32 1).toNatClampNeg from (by rw [← e_32_1]; have h9 := q_4.1; rw [← e_32_1] at h9; show (x2).toInt.toNat < (u_32_1).toInt.toNat; (first | have a0 := in_u h3 | (have a0 := h3; unfold In at a0)); (first | have a1 := in_u h2 | (have a1 := h2; unfold In at a1)); (first | have a2 := in_u ro_32_1 | (have a2 := ro_32_1; unfold In at a2)); (first | have a3 := in_u j94_8 | (have a3 := j94_8; unfold In at a3)); (first | have a4 := in_u j94_7 | (have a4 := j94_7; unfold In at a4)); (first | have a5 := in_u h4 | (have a5 := h4; unfold In at a5)); (first | have a6 := in_u i97 | (have a6 := i97; unfold In at a6)); have oc := oc_79_65_32; omega)) (show (x3).toNatClampNeg < (s.2.2.1 32 1).toNatClampNeg from (by rw [← e_32_1]; have h9 := q_4.2; rw [← e_32_1] at h9; show (x3).toInt.toNat < (u_32_1).toInt.toNat; (first | have a0 := in_u h3 | (have a0 := h3; unfold In at a0)); (first | have a1 := in_u h2 | (have a1 := h2; unfold In at a1)); (first | have a2 := in_u ro_32_1 | (have a2 := ro_32_1; unfold In at a2)); (first | have a3 := in_u j94_8 | (have a3 := j94_8; unfold In at a3)); (first | have a4 := in_u j94_7 | (have a4 := j94_7; unfold In at a4)); (first | have a5 := in_u h4 | (have a5 := h4; unfold In at a5)); (first | have a6 := in_u i97 | (have a6 := i97; unfold In at a6)); have oc := oc_79_65_32; omega)); unfold SMF at m9; unfold LPS at l9; rw [m9, l9, show (y94_8).toNatClampNeg = (netC sc94).1 from Nat.le_antisymm g94_3 (by show (sc94.2.2.1 65 8).toInt.toNat ≤ (y94_8).toInt.toNat; rw [← e97]; (first | have a0 := in_u h3 | (have a0 := h3; unfold In at a0)); (first | have a1 := in_u h2 | (have a1 := h2; unfold In at a1)); (first | have a2 := in_u ro_32_1 | (have a2 := ro_32_1; unfold In at a2)); (first | have a3 := in_u j94_8 | (have a3 := j94_8; unfold In at a3)); (first | have a4 := in_u j94_7 | (have a4 := j94_7; unfold In at a4)); (first | have a5 := in_u h4 | (have a5 := h4; unfold In at a5)); (first | have a6 := in_u i97 | (have a6 := i97; unfold In at a6)); have oc := oc_79_65_32; omega)]
        have n133a : FLQ (gvD s) sc94 := by exact g94_2
        exact g_lreturn (gd rfl) rfl (hP _ _ ⟨sc94, hIc94, hFc94, y94_5, rfl, rfl, n133, n133a⟩)
      · skip
        have i100 := r_lt1 0 159 c100 j94_8 i97 rfl
        have i100a := r_lt2 1 160 c100 j94_8 i97 rfl
        refine g_lload 105 (gd rfl) rfl rfl ?_
        refine g_aload_n 106 (gd rfl) rfl rfl ?_
        refine g_getA (q2 := 71) 109 (gd rfl) rfl rfl rfl rfl ?_
        refine g_iload 111 (gd rfl) rfl rfl ?_
        refine g_iaload 112 (gd rfl) rfl (n := 160) rfl (in_ix i100 rfl) (fun z111 e111 => ?_)
        have i111 := inv_I hIc94 (n := 160) (t := 0) (-1000000) 1000000 rfl (in_ix i100 rfl) rfl e111
        refine g_i2l 113 (gd rfl) rfl (fun z112 e112 => ?_)
        have i112 := l_i e112 i111
        refine g_aload_n 114 (gd rfl) rfl rfl ?_
        refine g_getA (q2 := 73) 117 (gd rfl) rfl rfl rfl rfl ?_
        refine g_iload 119 (gd rfl) rfl rfl ?_
        refine g_iaload 120 (gd rfl) rfl (n := 160) rfl (in_ix i100 rfl) (fun z119 e119 => ?_)
        refine g_i2l 121 (gd rfl) rfl (fun z120 e120 => ?_)
        have i120 := l_i e120 (i_rng z119)
        refine g_lmul 122 (gd rfl) rfl (fun z121 e121 => ?_)
        refine g_ladd 123 (gd rfl) rfl (fun z122 e122 => ?_)
        refine g_lstore 125 (gd rfl) rfl (Nat.le_of_ble_eq_true rfl) ?_
        refine g_iinc 128 (gd rfl) rfl rfl (Nat.le_of_ble_eq_true rfl) (fun z125 e125 => ?_)
        have i125 := in_add 1 160 e125 i100 (in_c 1 rfl) rfl rfl
        refine g_goto 94 (gd rfl) rfl ?_
        have n94 : PHC (gvD s) (s.2.2.1 32 1).toNatClampNeg (x2).toNatClampNeg (x3).toNatClampNeg (x4).toInt 1 sc94 := by exact g94_0
        have n94a : ∃ z0 : Int, LPS (gvD s) z0 160 ∧ SMF sc94 z0 (z122).toInt (z125).toNatClampNeg := by obtain ⟨z9, l9, m9⟩ := g94_1; refine ⟨z9, l9, ?_⟩; rw [(show (z125).toNatClampNeg = (y94_8).toNatClampNeg + 1 from (by show (z125).toInt.toNat = (y94_8).toInt.toNat + 1; (first | have a0 := in_u h3 | (have a0 := h3; unfold In at a0)); (first | have a1 := in_u h2 | (have a1 := h2; unfold In at a1)); (first | have a2 := in_u ro_32_1 | (have a2 := ro_32_1; unfold In at a2)); (first | have a3 := in_u i100 | (have a3 := i100; unfold In at a3)); (first | have a4 := in_u j94_7 | (have a4 := j94_7; unfold In at a4)); (first | have a5 := in_u i125 | (have a5 := i125; unfold In at a5)); have a6 := t_add e125 i100 (in_c 1 rfl) rfl; (first | have a7 := in_u ((in_c 1 rfl)) | (have a7 := (in_c 1 rfl); unfold In at a7)); (first | have a8 := in_u h4 | (have a8 := h4; unfold In at a8)); (first | have a9 := in_u i100a | (have a9 := i100a; unfold In at a9)); have a10 := tx_i2l e120; have a11 := tx_i2l e112; (first | have a12 := in_u i111 | (have a12 := i111; unfold In at a12)); have oc := oc_79_65_32; omega))]; exact smf_s (lyx_k (gvr_D hI q_3).1 (gvr_D hI q_3).2.1 (gvr_D hI q_3).2.2.1 (gvr_D hI q_3).2.2.2 g94_0.1).1 g94_0.2.1 m9 (show (y94_8).toNatClampNeg < (netC sc94).1 from (by show (y94_8).toInt.toNat < (sc94.2.2.1 65 8).toInt.toNat; rw [← e97]; (first | have a0 := in_u h3 | (have a0 := h3; unfold In at a0)); (first | have a1 := in_u h2 | (have a1 := h2; unfold In at a1)); (first | have a2 := in_u ro_32_1 | (have a2 := ro_32_1; unfold In at a2)); (first | have a3 := in_u i100 | (have a3 := i100; unfold In at a3)); (first | have a4 := in_u j94_7 | (have a4 := j94_7; unfold In at a4)); (first | have a5 := in_u i125 | (have a5 := i125; unfold In at a5)); have a6 := t_add e125 i100 (in_c 1 rfl) rfl; (first | have a7 := in_u ((in_c 1 rfl)) | (have a7 := (in_c 1 rfl); unfold In at a7)); (first | have a8 := in_u h4 | (have a8 := h4; unfold In at a8)); (first | have a9 := in_u i100a | (have a9 := i100a; unfold In at a9)); have a10 := tx_i2l e120; have a11 := tx_i2l e112; (first | have a12 := in_u i111 | (have a12 := i111; unfold In at a12)); have oc := oc_79_65_32; omega)) (lyx_c g94_0.1) (lps_b (gvr_D hI q_3).2.2.2 l9 (Nat.le_refl _)) e111 e119 e112 e120 e121 e122
        have n94b : FLQ (gvD s) sc94 := by exact g94_2
        have n94c : (z125).toNatClampNeg ≤ (netC sc94).1 := by show (z125).toInt.toNat ≤ (sc94.2.2.1 65 8).toInt.toNat; rw [← e97]; (first | have a0 := in_u h3 | (have a0 := h3; unfold In at a0)); (first | have a1 := in_u h2 | (have a1 := h2; unfold In at a1)); (first | have a2 := in_u ro_32_1 | (have a2 := ro_32_1; unfold In at a2)); (first | have a3 := in_u i100 | (have a3 := i100; unfold In at a3)); (first | have a4 := in_u j94_7 | (have a4 := j94_7; unfold In at a4)); (first | have a5 := in_u i125 | (have a5 := i125; unfold In at a5)); have a6 := t_add e125 i100 (in_c 1 rfl) rfl; (first | have a7 := in_u ((in_c 1 rfl)) | (have a7 := (in_c 1 rfl); unfold In at a7)); (first | have a8 := in_u h4 | (have a8 := h4; unfold In at a8)); (first | have a9 := in_u i100a | (have a9 := i100a; unfold In at a9)); have a10 := tx_i2l e120; have a11 := tx_i2l e112; (first | have a12 := in_u i111 | (have a12 := i111; unfold In at a12)); have oc := oc_79_65_32; omega
        exact gg_w (by first | exact Nat.le_add_right _ _ | exact gw2 | exact gw3 | exact gwe rfl | exact gwf rfl | exact gwg rfl | exact gwh rfl | omega) (gg_f (gf_cons rfl (gf_cons rfl (gf_cons rfl (gf_cons rfl (gf_cons rfl (gf_cons rfl (gf_cons rfl (gf_cons rfl gf_nil)))))))) (ih94 sc94 z122 y94_7 z125 hIc94 hFc94 (in_w 1 1048576 j94_7 rfl) (in_w 0 160 i125 rfl) n94 n94a n94b n94c (m_up mm94 (t_add e125 i100 (in_c 1 rfl) rfl) (in_w 1 1 (in_c 1 rfl) rfl))))
  have ct50 : ∀ (k50 : Nat) (sc50 : GS) (y50_5 : Int64) (y50_7 : Int32) (y50_8 : Int32), Inv sc50 → Fr fm_79_65_32 s sc50 → (In y50_7 1 1048576) → (In y50_8 0 65536) → (PHC (gvD s) (s.2.2.1 32 1).toNatClampNeg (x2).toNatClampNeg (x3).toNatClampNeg (x4).toInt (y50_7).toInt sc50) → (STP (y50_7).toInt (y50_8).toInt) → (∃ (V : Int) (X : Nat → Bool), FLX (gvD s) (x2).toNatClampNeg (x3).toNatClampNeg V X ∧ (x4).toInt ≤ V) → (LPS (gvD s) (y50_5).toInt 160) → (FLQ (gvD s) sc50) → (y50_8).toInt < (k50 : Int) → GG Z (d - 1) 79 post (gx xp) (144902 + k50 * 900) 50 (fun j => xlook j [(0, .ref (A 65)), (1, .ref (A 32)), (2, .int x2), (3, .int x3), (4, .int x4), (5, .long y50_5), (7, .int y50_7), (8, .int y50_8)]) [] (WW Z A sc50 ++ ex) 0 0 := by
    intro k50
    induction k50 with
    | zero => intro sc50 y50_5 y50_7 y50_8 hIc50 hFc50 j50_7 j50_8 g50_0 g50_1 g50_2 g50_3 g50_4 mm50; exfalso; (first | have a0 := in_u h3 | (have a0 := h3; unfold In at a0)); (first | have a1 := in_u h2 | (have a1 := h2; unfold In at a1)); (first | have a2 := in_u ro_32_1 | (have a2 := ro_32_1; unfold In at a2)); have a3 := j50_8; unfold In at a3; have a4 := j50_7; unfold In at a4; (first | have a5 := in_u h4 | (have a5 := h4; unfold In at a5)); have oc := oc_79_65_32; omega
    | succ k50 ih50 =>
      intro sc50 y50_5 y50_7 y50_8 hIc50 hFc50 j50_7 j50_8 g50_0 g50_1 g50_2 g50_3 g50_4 mm50
      refine gg_w (M := 144902 + k50 * 900 + 900) gws ?_
      refine g_iload 52 (gd rfl) rfl rfl ?_
      refine g_if_le 55 91 (gd rfl) rfl rfl (fun c52 => ?_) (fun c52 => ?_)
      · skip
        have i52 := z_le 0 0 c52 j50_8 rfl
        refine g_iconst 0 92 (gd rfl) rfl rfl ?_
        refine g_istore 94 (gd rfl) rfl (Nat.le_of_ble_eq_true rfl) ?_
        have n94 : PHC (gvD s) (s.2.2.1 32 1).toNatClampNeg (x2).toNatClampNeg (x3).toNatClampNeg (x4).toInt 1 sc50 := by have s9 := g50_1; have b9 : (y50_7).toInt = 1 := (by unfold STP at s9; (first | have a0 := in_u h3 | (have a0 := h3; unfold In at a0)); (first | have a1 := in_u h2 | (have a1 := h2; unfold In at a1)); (first | have a2 := in_u ro_32_1 | (have a2 := ro_32_1; unfold In at a2)); (first | have a3 := in_u i52 | (have a3 := i52; unfold In at a3)); (first | have a4 := in_u j50_7 | (have a4 := j50_7; unfold In at a4)); (first | have a5 := in_u ((in_c 0 rfl)) | (have a5 := (in_c 0 rfl); unfold In at a5)); (first | have a6 := in_u h4 | (have a6 := h4; unfold In at a6)); have oc := oc_79_65_32; omega); have h9 := g50_0; rw [b9] at h9; exact h9
        have n94a : ∃ z0 : Int, LPS (gvD s) z0 160 ∧ SMF sc50 z0 (y50_5).toInt ((Int32.ofInt 0)).toNatClampNeg := by exact ⟨_, g50_3, (show SMF _ _ _ 0 from (Int.add_zero _).symm)⟩
        have n94b : FLQ (gvD s) sc50 := by exact g50_4
        have n94c : ((Int32.ofInt 0)).toNatClampNeg ≤ (netC sc50).1 := by exact Nat.zero_le _
        exact gg_w (by first | exact Nat.le_add_right _ _ | exact gw2 | exact gw3 | exact gwe rfl | exact gwf rfl | exact gwg rfl | exact gwh rfl | omega) (gg_f (gf_cons rfl (gf_cons rfl (gf_cons rfl (gf_cons rfl (gf_cons rfl (gf_cons rfl (gf_cons rfl (gf_cons rfl gf_nil)))))))) (ct94 161 sc50 y50_5 y50_7 (Int32.ofInt 0) hIc50 hFc50 (in_w 1 1048576 j50_7 rfl) (in_w 0 160 (in_c 0 rfl) rfl) n94 n94a n94b n94c (m_in 161 (in_w 0 160 (in_c 0 rfl) rfl) rfl)))
      · skip
        have i52 := z_gt 1 65536 c52 j50_8 rfl
        refine g_aload_n 56 (gd rfl) rfl rfl ?_
        refine g_aload_n 57 (gd rfl) rfl rfl ?_
        refine g_getI 60 (gd rfl) rfl rfl rfl (fun z57 e57 => ?_)
        have q57 : u_32_1 = z57 := (fr_F e_32_1 hFc50 rfl).trans e57.symm
        subst q57
        refine g_iload 62 (gd rfl) rfl rfl ?_
        refine g_iload 64 (gd rfl) rfl rfl ?_
        have p64 : TEP sc50 (y50_7).toInt (u_32_1).toNatClampNeg := by rw [e_32_1]; exact phc_t (gvr_D hI q_3) ⟨h4.1, h4.2⟩ g50_0
        refine g_callv (X := _) (As := [.int u_32_1, .int y50_7, .int y50_8]) (r := []) (b := A 65) (q := 65) 67 (gd rfl) rfl rfl rfl rfl rfl (ww_o rfl) (Nat.le_of_ble_eq_true rfl) (Nat.zero_le _) (Nat.zero_le _) (f_81_65 (by first | exact dq1 hd rfl | exact dq0 hd rfl | exact dq2 hd rfl | exact dq3 hd rfl | omega) hIc50 (in_w 0 32 ro_32_1 rfl) (in_w 1 1048576 j50_7 rfl) (in_w 1 65536 i52 rfl) p64) (fun e u h => h) (fun v u h => ?_)
        obtain ⟨s64, hI64, hF64, rfl, rfl, p64a⟩ := h
        show GG _ _ _ _ _ _ _ _ [] _ _ _
        refine g_aload_n 68 (gd rfl) rfl rfl ?_
        refine g_aload_n 69 (gd rfl) rfl rfl ?_
        refine g_getI 72 (gd rfl) rfl rfl rfl (fun z69 e69 => ?_)
        have q69 : u_32_1 = z69 := (fr_F (fr_F e_32_1 hFc50 rfl) hF64 rfl).trans e69.symm
        subst q69
        refine g_iload 74 (gd rfl) rfl rfl ?_
        have p74 : CAP s64 (y50_8).toInt (u_32_1).toNatClampNeg := by rw [e_32_1]; have t9 := p64a; exact phc_c (gvr_D hI q_3) g50_1 (by (first | have a0 := in_u h3 | (have a0 := h3; unfold In at a0)); (first | have a1 := in_u h2 | (have a1 := h2; unfold In at a1)); (first | have a2 := in_u ro_32_1 | (have a2 := ro_32_1; unfold In at a2)); (first | have a3 := in_u i52 | (have a3 := i52; unfold In at a3)); (first | have a4 := in_u j50_7 | (have a4 := j50_7; unfold In at a4)); (first | have a5 := in_u h4 | (have a5 := h4; unfold In at a5)); have oc := oc_79_65_32; omega) g50_0 t9 (net_fr hF64 rfl)
        refine g_callv (X := _) (As := [.int u_32_1, .int y50_8]) (r := []) (b := A 65) (q := 65) 77 (gd rfl) rfl rfl rfl rfl rfl (ww_o rfl) (Nat.le_of_ble_eq_true rfl) (Nat.zero_le _) (Nat.zero_le _) (f_83_65 (by first | exact dq1 hd rfl | exact dq0 hd rfl | exact dq2 hd rfl | exact dq3 hd rfl | omega) hI64 (in_w 0 32 ro_32_1 rfl) (in_w 1 65536 i52 rfl) p74) (fun e u h => h) (fun v u h => ?_)
        obtain ⟨s74, hI74, hF74, rfl, rfl, p74a⟩ := h
        show GG _ _ _ _ _ _ _ _ [] _ _ _
        refine g_iload 79 (gd rfl) rfl rfl ?_
        refine g_istore 81 (gd rfl) rfl (Nat.le_of_ble_eq_true rfl) ?_
        refine g_iload 83 (gd rfl) rfl rfl ?_
        refine g_bipush 16 85 (gd rfl) rfl rfl ?_
        refine g_idiv 86 (gd rfl) rfl (by decide) (fun z85 e85 => ?_)
        have i85 := in_div 0 4096 e85 i52 rfl rfl
        refine g_istore 88 (gd rfl) rfl (Nat.le_of_ble_eq_true rfl) ?_
        refine g_goto 50 (gd rfl) rfl ?_
        have n50 : PHC (gvD s) (s.2.2.1 32 1).toNatClampNeg (x2).toNatClampNeg (x3).toNatClampNeg (x4).toInt (y50_8).toInt s74 := by obtain ⟨V9, X9, f9, w9⟩ := g50_2; have c9 := p74a; rw [e_32_1] at c9; exact phc_s (gvr_D hI q_3) h4.1 f9 w9 (show (x2).toNatClampNeg < (s.2.2.1 32 1).toNatClampNeg from (by rw [← e_32_1]; have h9 := q_4.1; rw [← e_32_1] at h9; show (x2).toInt.toNat < (u_32_1).toInt.toNat; (first | have a0 := in_u h3 | (have a0 := h3; unfold In at a0)); (first | have a1 := in_u h2 | (have a1 := h2; unfold In at a1)); (first | have a2 := in_u ro_32_1 | (have a2 := ro_32_1; unfold In at a2)); (first | have a3 := in_u i52 | (have a3 := i52; unfold In at a3)); (first | have a4 := in_u j50_7 | (have a4 := j50_7; unfold In at a4)); (first | have a5 := in_u i85 | (have a5 := i85; unfold In at a5)); have a6 := t_div e85 i52 rfl; (first | have a7 := in_u h4 | (have a7 := h4; unfold In at a7)); have oc := oc_79_65_32; omega)) (show (x3).toNatClampNeg < (s.2.2.1 32 1).toNatClampNeg from (by rw [← e_32_1]; have h9 := q_4.2; rw [← e_32_1] at h9; show (x3).toInt.toNat < (u_32_1).toInt.toNat; (first | have a0 := in_u h3 | (have a0 := h3; unfold In at a0)); (first | have a1 := in_u h2 | (have a1 := h2; unfold In at a1)); (first | have a2 := in_u ro_32_1 | (have a2 := ro_32_1; unfold In at a2)); (first | have a3 := in_u i52 | (have a3 := i52; unfold In at a3)); (first | have a4 := in_u j50_7 | (have a4 := j50_7; unfold In at a4)); (first | have a5 := in_u i85 | (have a5 := i85; unfold In at a5)); have a6 := t_div e85 i52 rfl; (first | have a7 := in_u h4 | (have a7 := h4; unfold In at a7)); have oc := oc_79_65_32; omega)) (by (first | have a0 := in_u h3 | (have a0 := h3; unfold In at a0)); (first | have a1 := in_u h2 | (have a1 := h2; unfold In at a1)); (first | have a2 := in_u ro_32_1 | (have a2 := ro_32_1; unfold In at a2)); (first | have a3 := in_u i52 | (have a3 := i52; unfold In at a3)); (first | have a4 := in_u j50_7 | (have a4 := j50_7; unfold In at a4)); (first | have a5 := in_u i85 | (have a5 := i85; unfold In at a5)); have a6 := t_div e85 i52 rfl; (first | have a7 := in_u h4 | (have a7 := h4; unfold In at a7)); have oc := oc_79_65_32; omega) g50_0 p64a (net_fr hF64 rfl) c9 (net_fr hF74 rfl)
        have n50a : STP (y50_8).toInt (z85).toInt := by exact stp_s g50_1 (by (first | have a0 := in_u h3 | (have a0 := h3; unfold In at a0)); (first | have a1 := in_u h2 | (have a1 := h2; unfold In at a1)); (first | have a2 := in_u ro_32_1 | (have a2 := ro_32_1; unfold In at a2)); (first | have a3 := in_u i52 | (have a3 := i52; unfold In at a3)); (first | have a4 := in_u j50_7 | (have a4 := j50_7; unfold In at a4)); (first | have a5 := in_u i85 | (have a5 := i85; unfold In at a5)); have a6 := t_div e85 i52 rfl; (first | have a7 := in_u h4 | (have a7 := h4; unfold In at a7)); have oc := oc_79_65_32; omega) (by (first | have a0 := in_u h3 | (have a0 := h3; unfold In at a0)); (first | have a1 := in_u h2 | (have a1 := h2; unfold In at a1)); (first | have a2 := in_u ro_32_1 | (have a2 := ro_32_1; unfold In at a2)); (first | have a3 := in_u i52 | (have a3 := i52; unfold In at a3)); (first | have a4 := in_u j50_7 | (have a4 := j50_7; unfold In at a4)); (first | have a5 := in_u i85 | (have a5 := i85; unfold In at a5)); have a6 := t_div e85 i52 rfl; (first | have a7 := in_u h4 | (have a7 := h4; unfold In at a7)); have oc := oc_79_65_32; omega)
        have n50b : ∃ (V : Int) (X : Nat → Bool), FLX (gvD s) (x2).toNatClampNeg (x3).toNatClampNeg V X ∧ (x4).toInt ≤ V := by exact g50_2
        have n50c : LPS (gvD s) (y50_5).toInt 160 := by exact g50_3
        have n50d : FLQ (gvD s) s74 := by exact flq_fr (flq_fr g50_4 hF64 rfl) hF74 rfl
        have m50 : (z85).toInt < ((k50 : Nat) : Int) := by (first | have a0 := in_u h3 | (have a0 := h3; unfold In at a0)); (first | have a1 := in_u h2 | (have a1 := h2; unfold In at a1)); (first | have a2 := in_u ro_32_1 | (have a2 := ro_32_1; unfold In at a2)); (first | have a3 := in_u i52 | (have a3 := i52; unfold In at a3)); (first | have a4 := in_u j50_7 | (have a4 := j50_7; unfold In at a4)); (first | have a5 := in_u i85 | (have a5 := i85; unfold In at a5)); have a6 := t_div e85 i52 rfl; (first | have a7 := in_u h4 | (have a7 := h4; unfold In at a7)); have oc := oc_79_65_32; omega
        exact gg_w (by first | exact Nat.le_add_right _ _ | exact gw2 | exact gw3 | exact gwe rfl | exact gwf rfl | exact gwg rfl | exact gwh rfl | omega) (gg_f (gf_cons rfl (gf_cons rfl (gf_cons rfl (gf_cons rfl (gf_cons rfl (gf_cons rfl (gf_cons rfl (gf_cons rfl gf_nil)))))))) (ih50  s74 y50_5 y50_8 z85 hI74 (fr_tr rfl (fr_tr rfl hFc50 hF64) hF74) (in_w 1 1048576 i52 rfl) (in_w 0 65536 i85 rfl) n50 n50a n50b n50c n50d m50))
  refine g_enter2 (k := 79) (N := 63145802) (by first | exact dq1 hd rfl | exact dq0 hd rfl | exact dq2 hd rfl | exact dq3 hd rfl | omega) rfl (Nat.le_of_ble_eq_true rfl) ?_
  refine g_iload 2 (gd rfl) rfl rfl ?_
  refine g_i2l 3 (gd rfl) rfl (fun z2 e2 => ?_)
  have i2 := l_i e2 h4
  refine g_aload_n 4 (gd rfl) rfl rfl ?_
  refine g_aload_n 5 (gd rfl) rfl rfl ?_
  refine g_iload_n 6 (gd rfl) rfl rfl ?_
  refine g_iload_n 7 (gd rfl) rfl rfl ?_
  have p7 : TQD s := by exact q_0
  have p7a : FLB (gvD s) s := by exact q_1
  have p7b : (x2).toInt ≠ (x3).toInt := by exact q_2
  refine g_callv (X := _) (As := [.ref (A 32), .int x2, .int x3]) (r := [.long z2]) (b := A 65) (q := 65) 10 (gd rfl) rfl rfl rfl rfl rfl (ww_o rfl) (Nat.le_of_ble_eq_true rfl) (Nat.zero_le _) (Nat.zero_le _) (f_75_65_32 (by first | exact dq1 hd rfl | exact dq0 hd rfl | exact dq2 hd rfl | exact dq3 hd rfl | omega) hI (in_w 0 31 h2 rfl) (in_w 0 31 h3 rfl) p7 p7a p7b) (fun e u h => h) (fun v u h => ?_)
  obtain ⟨s7, hI7, hF7, z7, rfl, rfl, p7c, p7d⟩ := h
  show GG _ _ _ _ _ _ _ _ [.long z7, .long z2] _ _ _
  refine g_lcmp 11 (gd rfl) rfl (fun z10 e10 => ?_)
  have i10 := lc_in e10
  refine g_if_le 14 18 (gd rfl) rfl rfl (fun c11 => ?_) (fun c11 => ?_)
  · skip
    have i11 := z_le (-1) 0 c11 i10 rfl
    have c11a := lc_le e10 c11
    have i11a := lr_le2 0 9223372036854775807 c11a i2 (l_rng z7) rfl
    refine g_aload_n 19 (gd rfl) rfl rfl ?_
    refine g_aload_n 20 (gd rfl) rfl rfl ?_
    have p20 : TQD s7 := by exact tqd_fr q_0 hF7 rfl
    have p20a : NDQ (gvD s7) := by rw [(show gvD s7 = gvD s from gvD_fr hF7 rfl)]; exact q_3
    refine g_callv (X := _) (As := [.ref (A 32)]) (r := []) (b := A 65) (q := 65) 23 (gd rfl) rfl rfl rfl rfl rfl (ww_o rfl) (Nat.le_of_ble_eq_true rfl) (Nat.zero_le _) (Nat.zero_le _) (f_80_65_32 (by first | exact dq1 hd rfl | exact dq0 hd rfl | exact dq2 hd rfl | exact dq3 hd rfl | omega) hI7 p20 p20a) (fun e u h => h) (fun v u h => ?_)
    obtain ⟨s20, hI20, hF20, z20, rfl, rfl, p20b, p20c⟩ := h
    show GG _ _ _ _ _ _ _ _ [.long z20] _ _ _
    refine g_lstore 25 (gd rfl) rfl (Nat.le_of_ble_eq_true rfl) ?_
    refine g_aload_n 26 (gd rfl) rfl rfl ?_
    refine g_getA (q2 := 74) 29 (gd rfl) rfl rfl rfl rfl ?_
    refine g_iload_n 30 (gd rfl) rfl rfl ?_
    refine g_iload 32 (gd rfl) rfl rfl ?_
    refine g_iastore 33 (gd rfl) rfl (n := 32) rfl (in_ix h2 rfl) ?_
    have hI32 := inv_sI (q := 74) (j := x2.toNatClampNeg) hI20 rfl (in_w (-2147483648) 2147483647 h4 rfl)
    refine g_aload_n 34 (gd rfl) rfl rfl ?_
    refine g_getA (q2 := 74) 37 (gd rfl) rfl rfl rfl rfl ?_
    refine g_iload_n 38 (gd rfl) rfl rfl ?_
    refine g_iload 40 (gd rfl) rfl rfl ?_
    refine g_ineg 41 (gd rfl) rfl (fun z40 e40 => ?_)
    have i40 := in_neg (-200000000) 0 e40 h4 rfl
    refine g_iastore 42 (gd rfl) rfl (n := 32) rfl (in_ix h3 rfl) ?_
    have hI41 := inv_sI (q := 74) (j := x3.toNatClampNeg) hI32 rfl (in_w (-2147483648) 2147483647 i40 rfl)
    refine g_ldc 1048576 44 (gd rfl) rfl rfl ?_
    refine g_istore 46 (gd rfl) rfl (Nat.le_of_ble_eq_true rfl) ?_
    refine g_ldc 65536 48 (gd rfl) rfl rfl ?_
    refine g_istore 50 (gd rfl) rfl (Nat.le_of_ble_eq_true rfl) ?_
    have n50 : PHC (gvD s) (s.2.2.1 32 1).toNatClampNeg (x2).toNatClampNeg (x3).toNatClampNeg (x4).toInt ((Int32.ofInt 1048576)).toInt (sI (sI s20 74 x2.toNatClampNeg x4) 74 x3.toNatClampNeg z40) := by exact (show PHC _ _ _ _ _ 1048576 _ from phc_0 (gvr_D hI q_3) h4 (show LXF (gvD s) s20 160 from (by have h9 := p20b; rw [(show gvD s7 = gvD s from gvD_fr hF7 rfl)] at h9; exact h9)) h2 h3 q_2 e40)
    have n50a : STP ((Int32.ofInt 1048576)).toInt ((Int32.ofInt 65536)).toInt := by exact Or.inl ⟨rfl, rfl⟩
    have n50b : ∃ (V : Int) (X : Nat → Bool), FLX (gvD s) (x2).toNatClampNeg (x3).toNatClampNeg V X ∧ (x4).toInt ≤ V := by have f9 := p7c.1.2; rw [p7c.2.1, p7c.2.2] at f9; refine ⟨_, _, f9, ?_⟩; have v9 := p7d; have c9 := c11a; rw [u_i2l e2] at c9; omega
    have n50c : LPS (gvD s) (z20).toInt 160 := by have h9 := p20c; rw [(show gvD s7 = gvD s from gvD_fr hF7 rfl)] at h9; exact h9
    have n50d : FLQ (gvD s) (sI (sI s20 74 x2.toNatClampNeg x4) 74 x3.toNatClampNeg z40) := by exact flq_sI (flq_sI (flq_fr p7c.1 hF20 rfl))
    have m50 : ((Int32.ofInt 65536)).toInt < ((70000 : Nat) : Int) := by (first | have a0 := in_u ro_32_1 | (have a0 := ro_32_1; unfold In at a0)); (first | have a1 := in_u h3 | (have a1 := h3; unfold In at a1)); (first | have a2 := in_u h2 | (have a2 := h2; unfold In at a2)); (first | have a3 := in_u ((in_c 65536 rfl)) | (have a3 := (in_c 65536 rfl); unfold In at a3)); (first | have a4 := in_u ((in_c 1048576 rfl)) | (have a4 := (in_c 1048576 rfl); unfold In at a4)); (first | have a5 := in_u h4 | (have a5 := h4; unfold In at a5)); have a6 := tx_i2l e2; have oc := oc_79_65_32; omega
    exact gg_w (by first | exact Nat.le_of_ble_eq_true rfl | omega) (gg_f (gf_cons rfl (gf_cons rfl (gf_cons rfl (gf_cons rfl (gf_cons rfl (gf_cons rfl (gf_cons rfl (gf_cons rfl gf_nil)))))))) (ct50 70000 (sI (sI s20 74 x2.toNatClampNeg x4) 74 x3.toNatClampNeg z40) z20 (Int32.ofInt 1048576) (Int32.ofInt 65536) hI41 (fr_sI rfl (fr_sI rfl (fr_tr rfl (fr_tr rfl fr_rf hF7) hF20))) (in_w 1 1048576 (in_c 1048576 rfl) rfl) (in_w 0 65536 (in_c 65536 rfl) rfl) n50 n50a n50b n50c n50d m50))
  · skip
    have i11 := z_gt 1 1 c11 i10 rfl
    have c11a := lc_gt e10 c11
    have i11a := lr_lt1 (-9223372036854775808) 199999999 c11a (l_rng z7) i2 rfl
    refine g_ldc2_w 9000000000000000 17 (gd rfl) rfl rfl ?_
    have n17 : CSX (gvD s) (x2).toNatClampNeg (x3).toNatClampNeg (x4).toInt ((Int64.ofInt 9000000000000000)).toInt := by exact cst_no (gvr_D hI q_3).2.2.2 (show (x2).toNatClampNeg < 32 from (by show (x2).toInt.toNat < 32; (first | have a0 := in_u ro_32_1 | (have a0 := ro_32_1; unfold In at a0)); (first | have a1 := in_u h3 | (have a1 := h3; unfold In at a1)); (first | have a2 := in_u h2 | (have a2 := h2; unfold In at a2)); (first | have a3 := in_u h4 | (have a3 := h4; unfold In at a3)); have a4 := tx_i2l e2; have oc := oc_79_65_32; omega)) (show (x3).toNatClampNeg < 32 from (by show (x3).toInt.toNat < 32; (first | have a0 := in_u ro_32_1 | (have a0 := ro_32_1; unfold In at a0)); (first | have a1 := in_u h3 | (have a1 := h3; unfold In at a1)); (first | have a2 := in_u h2 | (have a2 := h2; unfold In at a2)); (first | have a3 := in_u h4 | (have a3 := h4; unfold In at a3)); have a4 := tx_i2l e2; have oc := oc_79_65_32; omega)) (by have h9 := p7c.1.2; rw [p7c.2.1, p7c.2.2] at h9; exact h9) (by have v9 := p7d; have c9 := c11a; rw [u_i2l e2] at c9; omega) rfl
    have n17a : FLQ (gvD s) s7 := by exact p7c.1
    exact g_lreturn (gd rfl) rfl (hP _ _ ⟨s7, hI7, (fr_tr rfl fr_rf hF7), (Int64.ofInt 9000000000000000), rfl, rfl, n17, n17a⟩)
