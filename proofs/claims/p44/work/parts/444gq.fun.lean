/-! FUNCTIONAL CONTRACTS, by fgen.py -/
theorem oc_158_94_46 : (Int32.ofInt (-1)).toInt = (-1) ∧ (Int32.ofInt 0).toInt = 0 ∧ (Int32.ofInt 1).toInt = 1 ∧ (Int32.ofInt 10).toInt = 10 ∧ (Int32.ofInt 40).toInt = 40 ∧ (Int32.ofInt 41).toInt = 41 ∧ (Int64.ofInt 0).toInt = 0 ∧ (Int64.ofInt 1).toInt = 1 := ⟨rfl, rfl, rfl, rfl, rfl, rfl, rfl, rfl⟩
set_option maxHeartbeats 8000000 in
/-- GraphHouse$Question.build -/
theorem f_158_94_46 {Z : AmZ} {A : Nat → Nat} {s : GS} {ex : va_W} {d : Nat} {X : AmX} {u_46_1 : Int32} (hd : 5 ≤ d) (hI : Inv s) (e_46_1 : u_46_1 = s.2.2.1 46 1) (r_46_1 : In u_46_1 0 60) (q_0 : ∃ b, PTS ((s).1 47) ((s).2.2.1 46 1).toInt.toNat 0 b) : GC Z d 158 [.ref (A 94), .ref (A 46)] (WW Z A s ++ ex) 0 0 (fun v u => ∃ t : GS, Inv t ∧ Fr fm_158_94_46 s t ∧ v = none ∧ u = WW Z A t ++ ex ∧ (PCA (s.1 47) (s.2.2.1 46 1).toInt.toNat (fun x y => blt ((t).2.1 95 x) y) (fun c x => blt ((t).2.1 96 c) x) (fun y => blt ((t).2.2.2.1 94 0) y) (fun y => blt ((t).2.2.2.1 94 1) y))) X := by
  intro post xp hP hX
  have ct42 : ∀ (k42 : Nat) (sc42 : GS) (y42_2 : Int32) (y42_3 : Int32), Inv sc42 → Fr fm_158_94_46 s sc42 → (In y42_2 0 10) → (In y42_3 0 60) → ((y42_3).toInt ≤ (u_46_1).toInt) → (BLD (s.1 47) (s.2.2.1 46 1).toInt.toNat (y42_3).toNatClampNeg (y42_2).toInt ((sc42).1 97) ((sc42).2.1 95) ((sc42).2.1 96) ((sc42).2.1 98) ((sc42).2.2.2.1 94 0)) → (∀ y : Nat, blt ((sc42).2.2.2.1 94 1) y = true ↔ y = (s.2.2.1 46 1).toInt.toNat) → 60 - (y42_3).toInt < (k42 : Int) → GG Z (d - 1) 158 post (gx xp) (1 + k42 * 900) 42 (fun j => xlook j [(0, .ref (A 94)), (1, .ref (A 46)), (2, .int y42_2), (3, .int y42_3)]) [] (WW Z A sc42 ++ ex) 0 0 := by
    intro k42
    induction k42 with
    | zero => intro sc42 y42_2 y42_3 hIc42 hFc42 j42_2 j42_3 n42_0 g42_0 g42_1 mm42; exact m_no mm42 j42_3 rfl
    | succ k42 ih42 =>
      intro sc42 y42_2 y42_3 hIc42 hFc42 j42_2 j42_3 n42_0 g42_0 g42_1 mm42
      refine gg_w (M := 1 + k42 * 900 + 900) gws ?_
      refine g_iload_n 43 (gd rfl) rfl rfl ?_
      refine g_aload_n 44 (gd rfl) rfl rfl ?_
      refine g_getI 47 (gd rfl) rfl rfl rfl (fun z44 e44 => ?_)
      have q44 : u_46_1 = z44 := (fr_F e_46_1 hFc42 rfl).trans e44.symm
      subst q44
      refine g_cmp_ge 50 170 (gd rfl) rfl rfl (fun c47 => ?_) (fun c47 => ?_)
      · skip
        refine g_aload_n 171 (gd rfl) rfl rfl ?_
        refine g_aload_n 172 (gd rfl) rfl rfl ?_
        refine g_getA (q2 := 98) 175 (gd rfl) rfl rfl rfl rfl ?_
        refine g_iconst 0 176 (gd rfl) rfl rfl ?_
        refine g_laload 177 (gd rfl) rfl (n := 11) rfl (in_ix (in_c 0 rfl) rfl) (fun z176 e176 => ?_)
        have i176 := inv_L hIc42 (n := 11) 0 1152921504606846975 rfl (in_ix (in_c 0 rfl) rfl) rfl e176
        refine g_aload_n 178 (gd rfl) rfl rfl ?_
        refine g_getL 181 (gd rfl) rfl rfl rfl (fun z178 e178 => ?_)
        have i178 := inv_G hIc42 0 2305843009213693951 rfl e178
        have p181 : InL z176 0 1152921504606846975 := by exact lw 0 1152921504606846975 i176 rfl
        have p181a : InL z178 0 2305843009213693951 := by exact lw 0 2305843009213693951 i178 rfl
        refine g_callv (X := _) (As := [.long z176, .long z178]) (r := []) (b := A 94) (q := 94) 184 (gd rfl) rfl rfl rfl rfl rfl (ww_o rfl) (Nat.le_of_ble_eq_true rfl) (Nat.zero_le _) (Nat.zero_le _) (f_159_94 (by first | exact dq1 hd rfl | exact dq0 hd rfl | exact dq2 hd rfl | exact dq3 hd rfl | omega) hIc42 p181 p181a) (fun e u h => h) (fun v u h => ?_)
        obtain ⟨s181, hI181, hF181, rfl, rfl, p181b⟩ := h
        show GG _ _ _ _ _ _ _ _ [] _ _ _
        refine g_aload_n 185 (gd rfl) rfl rfl ?_
        refine g_aload_n 186 (gd rfl) rfl rfl ?_
        refine g_getI 189 (gd rfl) rfl rfl rfl (fun z186 e186 => ?_)
        have q186 : u_46_1 = z186 := (fr_F (fr_F e_46_1 hFc42 rfl) hF181 rfl).trans e186.symm
        subst q186
        have p189 : ∀ x y : Nat, x ≤ (u_46_1).toNatClampNeg → blt ((s181).2.1 95 x) y = true → y ≤ (u_46_1).toNatClampNeg := by obtain ⟨bb, hg⟩ := q_0; have hnn : (y42_3).toNatClampNeg = (s.2.2.1 46 1).toInt.toNat := (by show (y42_3).toInt.toNat = (s.2.2.1 46 1).toInt.toNat; rw [← e_46_1]; (first | have a0 := in_u r_46_1 | (have a0 := r_46_1; unfold In at a0)); (first | have a1 := in_u j42_3 | (have a1 := j42_3; unfold In at a1)); (first | have a2 := in_u j42_2 | (have a2 := j42_2; unfold In at a2)); have oc := oc_158_94_46; (first | exact zt_q (by omega) | omega)); have n60 : (s.2.2.1 46 1).toInt.toNat ≤ 60 := (by rw [← e_46_1]; (first | have a0 := in_u r_46_1 | (have a0 := r_46_1; unfold In at a0)); (first | have a1 := in_u j42_3 | (have a1 := j42_3; unfold In at a1)); (first | have a2 := in_u j42_2 | (have a2 := j42_2; unfold In at a2)); have oc := oc_158_94_46; omega); have bl := g42_0; rw [hnn] at bl; have d0 := bld_d hg bl; have e8 : z178 = sc42.2.2.2.1 94 1 := e178; have e6 : z176 = sc42.2.1 98 0 := e176; intro x y hx q; rw [(show u_46_1.toNatClampNeg = (s.2.2.1 46 1).toInt.toNat from (by show u_46_1.toInt.toNat = _; rw [e_46_1]))] at hx ⊢; rcases (p181b x y).mp q with q | q; (exact bld_bd hg bl (by omega) q); (have h9 := q.2; rw [e8] at h9; have h7 := (g42_1 y).mp h9; omega)
        refine g_callv (X := _) (As := [.int u_46_1]) (r := []) (b := A 94) (q := 94) 192 (gd rfl) rfl rfl rfl rfl rfl (ww_o rfl) (Nat.le_of_ble_eq_true rfl) (Nat.zero_le _) (Nat.zero_le _) (f_162_94 (by first | exact dq1 hd rfl | exact dq0 hd rfl | exact dq2 hd rfl | exact dq3 hd rfl | omega) hI181 (in_w 0 60 r_46_1 rfl) p189) (fun e u h => h) (fun v u h => ?_)
        obtain ⟨s189, hI189, hF189, rfl, rfl, p189a⟩ := h
        show GG _ _ _ _ _ _ _ _ [] _ _ _
        have n192 : PCA (s.1 47) (s.2.2.1 46 1).toInt.toNat (fun x y => blt ((s189).2.1 95 x) y) (fun c x => blt ((s189).2.1 96 c) x) (fun y => blt ((s189).2.2.2.1 94 0) y) (fun y => blt ((s189).2.2.2.1 94 1) y) := by obtain ⟨bb, hg⟩ := q_0; have hnn : (y42_3).toNatClampNeg = (s.2.2.1 46 1).toInt.toNat := (by show (y42_3).toInt.toNat = (s.2.2.1 46 1).toInt.toNat; rw [← e_46_1]; (first | have a0 := in_u r_46_1 | (have a0 := r_46_1; unfold In at a0)); (first | have a1 := in_u j42_3 | (have a1 := j42_3; unfold In at a1)); (first | have a2 := in_u j42_2 | (have a2 := j42_2; unfold In at a2)); have oc := oc_158_94_46; (first | exact zt_q (by omega) | omega)); have n60 : (s.2.2.1 46 1).toInt.toNat ≤ 60 := (by rw [← e_46_1]; (first | have a0 := in_u r_46_1 | (have a0 := r_46_1; unfold In at a0)); (first | have a1 := in_u j42_3 | (have a1 := j42_3; unfold In at a1)); (first | have a2 := in_u j42_2 | (have a2 := j42_2; unfold In at a2)); have oc := oc_158_94_46; omega); have bl := g42_0; rw [hnn] at bl; have d0 := bld_d hg bl; have e8 : z178 = sc42.2.2.2.1 94 1 := e178; have e6 : z176 = sc42.2.1 98 0 := e176; rw [d0] at bl; have cl := p189a; rw [(show u_46_1.toNatClampNeg = (s.2.2.1 46 1).toInt.toNat from (by show u_46_1.toInt.toNat = _; rw [e_46_1])), show s181.2.1 96 = sc42.2.1 96 from hF181.2.1 96 rfl, show s181.2.2.2.1 94 1 = sc42.2.2.2.1 94 1 from hF181.2.2.2 94 1 rfl, show s181.2.2.2.1 94 0 = sc42.2.2.2.1 94 0 from hF181.2.2.2 94 0 rfl] at cl; rw [show s189.2.1 96 = sc42.2.1 96 from (hF189.2.1 96 rfl).trans (hF181.2.1 96 rfl), show s189.2.2.2.1 94 1 = sc42.2.2.2.1 94 1 from (hF189.2.2.2 94 1 rfl).trans (hF181.2.2.2 94 1 rfl)]; exact pca_of n60 hg bl g42_1 (fun x y => (p181b x y).trans (by rw [e6, e8])) cl
        exact g_return (gd rfl) rfl (hP _ _ ⟨s189, hI189, (fr_tr rfl (fr_tr rfl hFc42 hF181) hF189), rfl, rfl, n192⟩)
      · skip
        have i47 := r_lt1 0 59 c47 j42_3 r_46_1 rfl
        have i47a := r_lt2 1 60 c47 j42_3 r_46_1 rfl
        refine g_aload_n 51 (gd rfl) rfl rfl ?_
        refine g_getA (q2 := 47) 54 (gd rfl) rfl rfl rfl rfl ?_
        refine g_iload_n 55 (gd rfl) rfl rfl ?_
        refine g_caload 56 (gd rfl) rfl (n := 1000) rfl (in_ix i47 rfl) (fun z55 e55 => ?_)
        have i55 := inv_I hIc42 (n := 1000) (t := 2) 0 65535 rfl (in_ix i47 rfl) rfl e55
        refine g_istore 58 (gd rfl) rfl (Nat.le_of_ble_eq_true rfl) ?_
        refine g_iload_n 59 (gd rfl) rfl rfl ?_
        refine g_istore 61 (gd rfl) rfl (Nat.le_of_ble_eq_true rfl) ?_
        refine g_iload 63 (gd rfl) rfl rfl ?_
        refine g_bipush 40 65 (gd rfl) rfl rfl ?_
        refine g_cmp_ne 68 94 (gd rfl) rfl rfl (fun c65 => ?_) (fun c65 => ?_)
        · skip
          refine g_iload 96 (gd rfl) rfl rfl ?_
          refine g_bipush 41 98 (gd rfl) rfl rfl ?_
          refine g_cmp_ne 101 129 (gd rfl) rfl rfl (fun c98 => ?_) (fun c98 => ?_)
          · skip
            refine g_aload_n 130 (gd rfl) rfl rfl ?_
            refine g_iload 132 (gd rfl) rfl rfl ?_
            refine g_iload_n 133 (gd rfl) rfl rfl ?_
            refine g_iload_n 134 (gd rfl) rfl rfl ?_
            refine g_callv (X := _) (As := [.int z55, .int y42_3, .int y42_2]) (r := []) (b := A 94) (q := 94) 137 (gd rfl) rfl rfl rfl rfl rfl (ww_o rfl) (Nat.le_of_ble_eq_true rfl) (Nat.zero_le _) (Nat.zero_le _) (f_160_94 (by first | exact dq1 hd rfl | exact dq0 hd rfl | exact dq2 hd rfl | exact dq3 hd rfl | omega) hIc42 (in_w 0 65535 i55 rfl) (in_w 0 59 i47 rfl) (in_w 0 10 j42_2 rfl)) (fun e u h => h) (fun v u h => ?_)
            obtain ⟨s134, hI134, hF134, rfl, rfl, p134⟩ := h
            show GG _ _ _ _ _ _ _ _ [] _ _ _
            refine g_iload_n 138 (gd rfl) rfl rfl ?_
            refine g_iconst 1 139 (gd rfl) rfl rfl ?_
            refine g_iadd 140 (gd rfl) rfl (fun z139 e139 => ?_)
            have i139 := in_add 1 60 e139 i47 (in_c 1 rfl) rfl rfl
            refine g_aload_n 141 (gd rfl) rfl rfl ?_
            refine g_getI 144 (gd rfl) rfl rfl rfl (fun z141 e141 => ?_)
            have q141 : u_46_1 = z141 := (fr_F (fr_F e_46_1 hFc42 rfl) hF134 rfl).trans e141.symm
            subst q141
            refine g_cmp_ge 147 164 (gd rfl) rfl rfl (fun c144 => ?_) (fun c144 => ?_)
            · skip
              refine g_iinc 167 (gd rfl) rfl rfl (Nat.le_of_ble_eq_true rfl) (fun z164 e164 => ?_)
              have i164 := in_add 1 60 e164 i47 (in_c 1 rfl) rfl rfl
              refine g_goto 42 (gd rfl) rfl ?_
              have n42 : (z164).toInt ≤ (u_46_1).toInt := by (first | have a0 := in_u i47a | (have a0 := i47a; unfold In at a0)); (first | have a1 := in_u i47 | (have a1 := i47; unfold In at a1)); (first | have a2 := in_u j42_2 | (have a2 := j42_2; unfold In at a2)); (first | have a3 := in_u i55 | (have a3 := i55; unfold In at a3)); (first | have a4 := in_u i164 | (have a4 := i164; unfold In at a4)); have a5 := t_add e164 i47 (in_c 1 rfl) rfl; (first | have a6 := in_u ((in_c 1 rfl)) | (have a6 := (in_c 1 rfl); unfold In at a6)); (first | have a7 := in_u i139 | (have a7 := i139; unfold In at a7)); have a8 := t_add e139 i47 (in_c 1 rfl) rfl; have oc := oc_158_94_46; omega
              have n42a : BLD (s.1 47) (s.2.2.1 46 1).toInt.toNat (z164).toNatClampNeg (y42_2).toInt ((s134).1 97) ((s134).2.1 95) ((s134).2.1 96) ((s134).2.1 98) ((s134).2.2.2.1 94 0) := by obtain ⟨bb, hg⟩ := q_0; have tc : (z55).toInt = ((s.1 47) (y42_3).toNatClampNeg).toInt := congrArg Int32.toInt (e55.trans (congrFun (hFc42.1 47 rfl) _)); have lp := p134; rw [tc] at lp; have lx : LRX (s.1 47) (s.2.2.1 46 1).toInt.toNat (y42_3).toNatClampNeg (y42_3).toNatClampNeg (s134.2.1 95) (s134.2.1 95) := Or.inr ⟨(show (s.2.2.1 46 1).toInt.toNat ≤ (y42_3).toNatClampNeg + 1 from (by show (s.2.2.1 46 1).toInt.toNat ≤ (y42_3).toInt.toNat + 1; rw [← e_46_1]; (first | have a0 := in_u i47a | (have a0 := i47a; unfold In at a0)); (first | have a1 := in_u i47 | (have a1 := i47; unfold In at a1)); (first | have a2 := in_u j42_2 | (have a2 := j42_2; unfold In at a2)); (first | have a3 := in_u i55 | (have a3 := i55; unfold In at a3)); (first | have a4 := in_u i164 | (have a4 := i164; unfold In at a4)); have a5 := t_add e164 i47 (in_c 1 rfl) rfl; (first | have a6 := in_u ((in_c 1 rfl)) | (have a6 := (in_c 1 rfl); unfold In at a6)); (first | have a7 := in_u i139 | (have a7 := i139; unfold In at a7)); have a8 := t_add e139 i47 (in_c 1 rfl) rfl; have oc := oc_158_94_46; omega)), rfl⟩; have r96 : s134.2.1 96 = s134.2.1 96 := rfl; have r98 : s134.2.1 98 = s134.2.1 98 := rfl; have r97 : s134.1 97 = sc42.1 97 := hF134.1 97 rfl; have r0 : s134.2.2.2.1 94 0 = s134.2.2.2.1 94 0 := rfl; rw [show (z164).toNatClampNeg = (y42_3).toNatClampNeg + 1 from (by show (z164).toInt.toNat = (y42_3).toInt.toNat + 1; (first | have a0 := in_u i47a | (have a0 := i47a; unfold In at a0)); (first | have a1 := in_u i47 | (have a1 := i47; unfold In at a1)); (first | have a2 := in_u j42_2 | (have a2 := j42_2; unfold In at a2)); (first | have a3 := in_u i55 | (have a3 := i55; unfold In at a3)); (first | have a4 := in_u i164 | (have a4 := i164; unfold In at a4)); have a5 := t_add e164 i47 (in_c 1 rfl) rfl; (first | have a6 := in_u ((in_c 1 rfl)) | (have a6 := (in_c 1 rfl); unfold In at a6)); (first | have a7 := in_u i139 | (have a7 := i139; unfold In at a7)); have a8 := t_add e139 i47 (in_c 1 rfl) rfl; have oc := oc_158_94_46; (first | exact zt_s (by omega) (by omega) | omega)), r96, r98, r97, r0]; exact bld_e hg (show (y42_3).toNatClampNeg < (s.2.2.1 46 1).toInt.toNat from (by show (y42_3).toInt.toNat < (s.2.2.1 46 1).toInt.toNat; rw [← e_46_1]; (first | have a0 := in_u i47a | (have a0 := i47a; unfold In at a0)); (first | have a1 := in_u i47 | (have a1 := i47; unfold In at a1)); (first | have a2 := in_u j42_2 | (have a2 := j42_2; unfold In at a2)); (first | have a3 := in_u i55 | (have a3 := i55; unfold In at a3)); (first | have a4 := in_u i164 | (have a4 := i164; unfold In at a4)); have a5 := t_add e164 i47 (in_c 1 rfl) rfl; (first | have a6 := in_u ((in_c 1 rfl)) | (have a6 := (in_c 1 rfl); unfold In at a6)); (first | have a7 := in_u i139 | (have a7 := i139; unfold In at a7)); have a8 := t_add e139 i47 (in_c 1 rfl) rfl; have oc := oc_158_94_46; (first | exact zt_t (by omega) (by omega) | omega))) g42_0 (by rw [← tc]; (first | have a0 := in_u i47a | (have a0 := i47a; unfold In at a0)); (first | have a1 := in_u i47 | (have a1 := i47; unfold In at a1)); (first | have a2 := in_u j42_2 | (have a2 := j42_2; unfold In at a2)); (first | have a3 := in_u i55 | (have a3 := i55; unfold In at a3)); (first | have a4 := in_u i164 | (have a4 := i164; unfold In at a4)); have a5 := t_add e164 i47 (in_c 1 rfl) rfl; (first | have a6 := in_u ((in_c 1 rfl)) | (have a6 := (in_c 1 rfl); unfold In at a6)); (first | have a7 := in_u i139 | (have a7 := i139; unfold In at a7)); have a8 := t_add e139 i47 (in_c 1 rfl) rfl; have oc := oc_158_94_46; omega) (by rw [← tc]; (first | have a0 := in_u i47a | (have a0 := i47a; unfold In at a0)); (first | have a1 := in_u i47 | (have a1 := i47; unfold In at a1)); (first | have a2 := in_u j42_2 | (have a2 := j42_2; unfold In at a2)); (first | have a3 := in_u i55 | (have a3 := i55; unfold In at a3)); (first | have a4 := in_u i164 | (have a4 := i164; unfold In at a4)); have a5 := t_add e164 i47 (in_c 1 rfl) rfl; (first | have a6 := in_u ((in_c 1 rfl)) | (have a6 := (in_c 1 rfl); unfold In at a6)); (first | have a7 := in_u i139 | (have a7 := i139; unfold In at a7)); have a8 := t_add e139 i47 (in_c 1 rfl) rfl; have oc := oc_158_94_46; omega) lp lx
              have n42b : ∀ y : Nat, blt ((s134).2.2.2.1 94 1) y = true ↔ y = (s.2.2.1 46 1).toInt.toNat := by intro y; rw [show s134.2.2.2.1 94 1 = sc42.2.2.2.1 94 1 from (hF134.2.2.2 94 1 rfl)]; exact g42_1 y
              exact gg_w (by first | exact Nat.le_add_right _ _ | exact gw2 | exact gw3 | exact gwe rfl | exact gwf rfl | exact gwg rfl | exact gwh rfl | omega) (gg_f (gf_cons rfl (gf_cons rfl (gf_cons rfl (gf_cons rfl gf_nil)))) (ih42 s134 y42_2 z164 hI134 (fr_tr rfl hFc42 hF134) (in_w 0 10 j42_2 rfl) (in_w 0 60 i164 rfl) n42 n42a n42b (m_up mm42 (t_add e164 i47 (in_c 1 rfl) rfl) (in_w 1 1 (in_c 1 rfl) rfl))))
            · skip
              have i144 := r_lt1 1 59 c144 i139 i47a rfl
              have i144a := r_lt2 2 60 c144 i139 i47a rfl
              refine g_aload_n 148 (gd rfl) rfl rfl ?_
              refine g_aload_n 149 (gd rfl) rfl rfl ?_
              refine g_getA (q2 := 47) 152 (gd rfl) rfl rfl rfl rfl ?_
              refine g_iload_n 153 (gd rfl) rfl rfl ?_
              refine g_iconst 1 154 (gd rfl) rfl rfl ?_
              refine g_iadd 155 (gd rfl) rfl (fun z154 e154 => ?_)
              have i154 := in_add 1 60 e154 i47 (in_c 1 rfl) rfl rfl
              refine g_caload 156 (gd rfl) rfl (n := 1000) rfl (in_ix i154 rfl) (fun z155 e155 => ?_)
              have i155 := inv_I hI134 (n := 1000) (t := 2) 0 65535 rfl (in_ix i154 rfl) rfl e155
              refine g_iload 158 (gd rfl) rfl rfl ?_
              refine g_iload_n 159 (gd rfl) rfl rfl ?_
              refine g_iconst 1 160 (gd rfl) rfl rfl ?_
              refine g_iadd 161 (gd rfl) rfl (fun z160 e160 => ?_)
              have i160 := in_add 1 60 e160 i47 (in_c 1 rfl) rfl rfl
              refine g_callv (X := _) (As := [.int z155, .int y42_3, .int z160]) (r := []) (b := A 94) (q := 94) 164 (gd rfl) rfl rfl rfl rfl rfl (ww_o rfl) (Nat.le_of_ble_eq_true rfl) (Nat.zero_le _) (Nat.zero_le _) (f_161_94 (by first | exact dq1 hd rfl | exact dq0 hd rfl | exact dq2 hd rfl | exact dq3 hd rfl | omega) hI134 (in_w 0 65535 i155 rfl) (in_w 0 60 i47 rfl) (in_w 0 60 i160 rfl)) (fun e u h => h) (fun v u h => ?_)
              obtain ⟨s161, hI161, hF161, rfl, rfl, p161⟩ := h
              show GG _ _ _ _ _ _ _ _ [] _ _ _
              refine g_iinc 167 (gd rfl) rfl rfl (Nat.le_of_ble_eq_true rfl) (fun z164 e164 => ?_)
              have i164 := in_add 1 60 e164 i47 (in_c 1 rfl) rfl rfl
              refine g_goto 42 (gd rfl) rfl ?_
              have n42 : (z164).toInt ≤ (u_46_1).toInt := by (first | have a0 := in_u i144a | (have a0 := i144a; unfold In at a0)); (first | have a1 := in_u i47 | (have a1 := i47; unfold In at a1)); (first | have a2 := in_u j42_2 | (have a2 := j42_2; unfold In at a2)); (first | have a3 := in_u i55 | (have a3 := i55; unfold In at a3)); (first | have a4 := in_u i164 | (have a4 := i164; unfold In at a4)); have a5 := t_add e164 i47 (in_c 1 rfl) rfl; (first | have a6 := in_u ((in_c 1 rfl)) | (have a6 := (in_c 1 rfl); unfold In at a6)); (first | have a7 := in_u i160 | (have a7 := i160; unfold In at a7)); have a8 := t_add e160 i47 (in_c 1 rfl) rfl; (first | have a9 := in_u i154 | (have a9 := i154; unfold In at a9)); have a10 := t_add e154 i47 (in_c 1 rfl) rfl; (first | have a11 := in_u i144 | (have a11 := i144; unfold In at a11)); have a12 := t_add e139 i47 (in_c 1 rfl) rfl; have oc := oc_158_94_46; omega
              have n42a : BLD (s.1 47) (s.2.2.1 46 1).toInt.toNat (z164).toNatClampNeg (y42_2).toInt ((s161).1 97) ((s161).2.1 95) ((s161).2.1 96) ((s161).2.1 98) ((s161).2.2.2.1 94 0) := by obtain ⟨bb, hg⟩ := q_0; have tc : (z55).toInt = ((s.1 47) (y42_3).toNatClampNeg).toInt := congrArg Int32.toInt (e55.trans (congrFun (hFc42.1 47 rfl) _)); have lp := p134; rw [tc] at lp; have lr : LRC ((s.1 47) ((y42_3).toNatClampNeg + 1)).toInt (y42_3).toNatClampNeg ((y42_3).toNatClampNeg + 1) (s134.2.1 95) (s161.2.1 95) := (by have h9 := p161; rw [show (z160).toNatClampNeg = (y42_3).toNatClampNeg + 1 from (by show (z160).toInt.toNat = (y42_3).toInt.toNat + 1; (first | have a0 := in_u i144a | (have a0 := i144a; unfold In at a0)); (first | have a1 := in_u i47 | (have a1 := i47; unfold In at a1)); (first | have a2 := in_u j42_2 | (have a2 := j42_2; unfold In at a2)); (first | have a3 := in_u i55 | (have a3 := i55; unfold In at a3)); (first | have a4 := in_u i164 | (have a4 := i164; unfold In at a4)); have a5 := t_add e164 i47 (in_c 1 rfl) rfl; (first | have a6 := in_u ((in_c 1 rfl)) | (have a6 := (in_c 1 rfl); unfold In at a6)); (first | have a7 := in_u i160 | (have a7 := i160; unfold In at a7)); have a8 := t_add e160 i47 (in_c 1 rfl) rfl; (first | have a9 := in_u i154 | (have a9 := i154; unfold In at a9)); have a10 := t_add e154 i47 (in_c 1 rfl) rfl; (first | have a11 := in_u i144 | (have a11 := i144; unfold In at a11)); have a12 := t_add e139 i47 (in_c 1 rfl) rfl; have oc := oc_158_94_46; (first | exact zt_s (by omega) (by omega) | omega)), show (z155).toInt = ((s.1 47) ((y42_3).toNatClampNeg + 1)).toInt from congrArg Int32.toInt (e155.trans ((congrFun ((hF134.1 47 rfl).trans (hFc42.1 47 rfl)) _).trans (congrArg (s.1 47) (show z154.toNatClampNeg = (y42_3).toNatClampNeg + 1 from (by show z154.toInt.toNat = (y42_3).toInt.toNat + 1; (first | have a0 := in_u i144a | (have a0 := i144a; unfold In at a0)); (first | have a1 := in_u i47 | (have a1 := i47; unfold In at a1)); (first | have a2 := in_u j42_2 | (have a2 := j42_2; unfold In at a2)); (first | have a3 := in_u i55 | (have a3 := i55; unfold In at a3)); (first | have a4 := in_u i164 | (have a4 := i164; unfold In at a4)); have a5 := t_add e164 i47 (in_c 1 rfl) rfl; (first | have a6 := in_u ((in_c 1 rfl)) | (have a6 := (in_c 1 rfl); unfold In at a6)); (first | have a7 := in_u i160 | (have a7 := i160; unfold In at a7)); have a8 := t_add e160 i47 (in_c 1 rfl) rfl; (first | have a9 := in_u i154 | (have a9 := i154; unfold In at a9)); have a10 := t_add e154 i47 (in_c 1 rfl) rfl; (first | have a11 := in_u i144 | (have a11 := i144; unfold In at a11)); have a12 := t_add e139 i47 (in_c 1 rfl) rfl; have oc := oc_158_94_46; (first | exact zt_s (by omega) (by omega) | omega))))))] at h9; exact h9); have lx : LRX (s.1 47) (s.2.2.1 46 1).toInt.toNat (y42_3).toNatClampNeg (y42_3).toNatClampNeg (s134.2.1 95) (s161.2.1 95) := Or.inl ⟨(show (y42_3).toNatClampNeg + 1 < (s.2.2.1 46 1).toInt.toNat from (by show (y42_3).toInt.toNat + 1 < (s.2.2.1 46 1).toInt.toNat; rw [← e_46_1]; (first | have a0 := in_u i144a | (have a0 := i144a; unfold In at a0)); (first | have a1 := in_u i47 | (have a1 := i47; unfold In at a1)); (first | have a2 := in_u j42_2 | (have a2 := j42_2; unfold In at a2)); (first | have a3 := in_u i55 | (have a3 := i55; unfold In at a3)); (first | have a4 := in_u i164 | (have a4 := i164; unfold In at a4)); have a5 := t_add e164 i47 (in_c 1 rfl) rfl; (first | have a6 := in_u ((in_c 1 rfl)) | (have a6 := (in_c 1 rfl); unfold In at a6)); (first | have a7 := in_u i160 | (have a7 := i160; unfold In at a7)); have a8 := t_add e160 i47 (in_c 1 rfl) rfl; (first | have a9 := in_u i154 | (have a9 := i154; unfold In at a9)); have a10 := t_add e154 i47 (in_c 1 rfl) rfl; (first | have a11 := in_u i144 | (have a11 := i144; unfold In at a11)); have a12 := t_add e139 i47 (in_c 1 rfl) rfl; have oc := oc_158_94_46; omega)), lr⟩; have r96 : s161.2.1 96 = s134.2.1 96 := hF161.2.1 96 rfl; have r98 : s161.2.1 98 = s134.2.1 98 := hF161.2.1 98 rfl; have r97 : s161.1 97 = sc42.1 97 := (hF161.1 97 rfl).trans (hF134.1 97 rfl); have r0 : s161.2.2.2.1 94 0 = s134.2.2.2.1 94 0 := hF161.2.2.2 94 0 rfl; rw [show (z164).toNatClampNeg = (y42_3).toNatClampNeg + 1 from (by show (z164).toInt.toNat = (y42_3).toInt.toNat + 1; (first | have a0 := in_u i144a | (have a0 := i144a; unfold In at a0)); (first | have a1 := in_u i47 | (have a1 := i47; unfold In at a1)); (first | have a2 := in_u j42_2 | (have a2 := j42_2; unfold In at a2)); (first | have a3 := in_u i55 | (have a3 := i55; unfold In at a3)); (first | have a4 := in_u i164 | (have a4 := i164; unfold In at a4)); have a5 := t_add e164 i47 (in_c 1 rfl) rfl; (first | have a6 := in_u ((in_c 1 rfl)) | (have a6 := (in_c 1 rfl); unfold In at a6)); (first | have a7 := in_u i160 | (have a7 := i160; unfold In at a7)); have a8 := t_add e160 i47 (in_c 1 rfl) rfl; (first | have a9 := in_u i154 | (have a9 := i154; unfold In at a9)); have a10 := t_add e154 i47 (in_c 1 rfl) rfl; (first | have a11 := in_u i144 | (have a11 := i144; unfold In at a11)); have a12 := t_add e139 i47 (in_c 1 rfl) rfl; have oc := oc_158_94_46; (first | exact zt_s (by omega) (by omega) | omega)), r96, r98, r97, r0]; exact bld_e hg (show (y42_3).toNatClampNeg < (s.2.2.1 46 1).toInt.toNat from (by show (y42_3).toInt.toNat < (s.2.2.1 46 1).toInt.toNat; rw [← e_46_1]; (first | have a0 := in_u i144a | (have a0 := i144a; unfold In at a0)); (first | have a1 := in_u i47 | (have a1 := i47; unfold In at a1)); (first | have a2 := in_u j42_2 | (have a2 := j42_2; unfold In at a2)); (first | have a3 := in_u i55 | (have a3 := i55; unfold In at a3)); (first | have a4 := in_u i164 | (have a4 := i164; unfold In at a4)); have a5 := t_add e164 i47 (in_c 1 rfl) rfl; (first | have a6 := in_u ((in_c 1 rfl)) | (have a6 := (in_c 1 rfl); unfold In at a6)); (first | have a7 := in_u i160 | (have a7 := i160; unfold In at a7)); have a8 := t_add e160 i47 (in_c 1 rfl) rfl; (first | have a9 := in_u i154 | (have a9 := i154; unfold In at a9)); have a10 := t_add e154 i47 (in_c 1 rfl) rfl; (first | have a11 := in_u i144 | (have a11 := i144; unfold In at a11)); have a12 := t_add e139 i47 (in_c 1 rfl) rfl; have oc := oc_158_94_46; (first | exact zt_t (by omega) (by omega) | omega))) g42_0 (by rw [← tc]; (first | have a0 := in_u i144a | (have a0 := i144a; unfold In at a0)); (first | have a1 := in_u i47 | (have a1 := i47; unfold In at a1)); (first | have a2 := in_u j42_2 | (have a2 := j42_2; unfold In at a2)); (first | have a3 := in_u i55 | (have a3 := i55; unfold In at a3)); (first | have a4 := in_u i164 | (have a4 := i164; unfold In at a4)); have a5 := t_add e164 i47 (in_c 1 rfl) rfl; (first | have a6 := in_u ((in_c 1 rfl)) | (have a6 := (in_c 1 rfl); unfold In at a6)); (first | have a7 := in_u i160 | (have a7 := i160; unfold In at a7)); have a8 := t_add e160 i47 (in_c 1 rfl) rfl; (first | have a9 := in_u i154 | (have a9 := i154; unfold In at a9)); have a10 := t_add e154 i47 (in_c 1 rfl) rfl; (first | have a11 := in_u i144 | (have a11 := i144; unfold In at a11)); have a12 := t_add e139 i47 (in_c 1 rfl) rfl; have oc := oc_158_94_46; omega) (by rw [← tc]; (first | have a0 := in_u i144a | (have a0 := i144a; unfold In at a0)); (first | have a1 := in_u i47 | (have a1 := i47; unfold In at a1)); (first | have a2 := in_u j42_2 | (have a2 := j42_2; unfold In at a2)); (first | have a3 := in_u i55 | (have a3 := i55; unfold In at a3)); (first | have a4 := in_u i164 | (have a4 := i164; unfold In at a4)); have a5 := t_add e164 i47 (in_c 1 rfl) rfl; (first | have a6 := in_u ((in_c 1 rfl)) | (have a6 := (in_c 1 rfl); unfold In at a6)); (first | have a7 := in_u i160 | (have a7 := i160; unfold In at a7)); have a8 := t_add e160 i47 (in_c 1 rfl) rfl; (first | have a9 := in_u i154 | (have a9 := i154; unfold In at a9)); have a10 := t_add e154 i47 (in_c 1 rfl) rfl; (first | have a11 := in_u i144 | (have a11 := i144; unfold In at a11)); have a12 := t_add e139 i47 (in_c 1 rfl) rfl; have oc := oc_158_94_46; omega) lp lx
              have n42b : ∀ y : Nat, blt ((s161).2.2.2.1 94 1) y = true ↔ y = (s.2.2.1 46 1).toInt.toNat := by intro y; rw [show s161.2.2.2.1 94 1 = sc42.2.2.2.1 94 1 from ((hF161.2.2.2 94 1 rfl).trans (hF134.2.2.2 94 1 rfl))]; exact g42_1 y
              exact gg_w (by first | exact Nat.le_add_right _ _ | exact gw2 | exact gw3 | exact gwe rfl | exact gwf rfl | exact gwg rfl | exact gwh rfl | omega) (gg_f (gf_cons rfl (gf_cons rfl (gf_cons rfl (gf_cons rfl gf_nil)))) (ih42 s161 y42_2 z164 hI161 (fr_tr rfl (fr_tr rfl hFc42 hF134) hF161) (in_w 0 10 j42_2 rfl) (in_w 0 60 i164 rfl) n42 n42a n42b (m_up mm42 (t_add e164 i47 (in_c 1 rfl) rfl) (in_w 1 1 (in_c 1 rfl) rfl))))
          · skip
            have i98 := r_eq1 41 41 c98 i55 (in_c 41 rfl) rfl
            refine g_iload_n 102 (gd rfl) rfl rfl ?_
            refine g_if_le 105 129 (gd rfl) rfl rfl (fun c102 => ?_) (fun c102 => ?_)
            · skip
              have i102 := z_le 0 0 c102 j42_2 rfl
              refine g_aload_n 130 (gd rfl) rfl rfl ?_
              refine g_iload 132 (gd rfl) rfl rfl ?_
              refine g_iload_n 133 (gd rfl) rfl rfl ?_
              refine g_iload_n 134 (gd rfl) rfl rfl ?_
              refine g_callv (X := _) (As := [.int z55, .int y42_3, .int y42_2]) (r := []) (b := A 94) (q := 94) 137 (gd rfl) rfl rfl rfl rfl rfl (ww_o rfl) (Nat.le_of_ble_eq_true rfl) (Nat.zero_le _) (Nat.zero_le _) (f_160_94 (by first | exact dq1 hd rfl | exact dq0 hd rfl | exact dq2 hd rfl | exact dq3 hd rfl | omega) hIc42 (in_w 0 65535 i98 rfl) (in_w 0 59 i47 rfl) (in_w 0 10 i102 rfl)) (fun e u h => h) (fun v u h => ?_)
              obtain ⟨s134, hI134, hF134, rfl, rfl, p134⟩ := h
              show GG _ _ _ _ _ _ _ _ [] _ _ _
              refine g_iload_n 138 (gd rfl) rfl rfl ?_
              refine g_iconst 1 139 (gd rfl) rfl rfl ?_
              refine g_iadd 140 (gd rfl) rfl (fun z139 e139 => ?_)
              have i139 := in_add 1 60 e139 i47 (in_c 1 rfl) rfl rfl
              refine g_aload_n 141 (gd rfl) rfl rfl ?_
              refine g_getI 144 (gd rfl) rfl rfl rfl (fun z141 e141 => ?_)
              have q141 : u_46_1 = z141 := (fr_F (fr_F e_46_1 hFc42 rfl) hF134 rfl).trans e141.symm
              subst q141
              refine g_cmp_ge 147 164 (gd rfl) rfl rfl (fun c144 => ?_) (fun c144 => ?_)
              · skip
                refine g_iinc 167 (gd rfl) rfl rfl (Nat.le_of_ble_eq_true rfl) (fun z164 e164 => ?_)
                have i164 := in_add 1 60 e164 i47 (in_c 1 rfl) rfl rfl
                refine g_goto 42 (gd rfl) rfl ?_
                have n42 : (z164).toInt ≤ (u_46_1).toInt := by (first | have a0 := in_u i47a | (have a0 := i47a; unfold In at a0)); (first | have a1 := in_u i47 | (have a1 := i47; unfold In at a1)); (first | have a2 := in_u i102 | (have a2 := i102; unfold In at a2)); (first | have a3 := in_u i98 | (have a3 := i98; unfold In at a3)); (first | have a4 := in_u i164 | (have a4 := i164; unfold In at a4)); have a5 := t_add e164 i47 (in_c 1 rfl) rfl; (first | have a6 := in_u ((in_c 1 rfl)) | (have a6 := (in_c 1 rfl); unfold In at a6)); (first | have a7 := in_u i139 | (have a7 := i139; unfold In at a7)); have a8 := t_add e139 i47 (in_c 1 rfl) rfl; have oc := oc_158_94_46; omega
                have n42a : BLD (s.1 47) (s.2.2.1 46 1).toInt.toNat (z164).toNatClampNeg (y42_2).toInt ((s134).1 97) ((s134).2.1 95) ((s134).2.1 96) ((s134).2.1 98) ((s134).2.2.2.1 94 0) := by obtain ⟨bb, hg⟩ := q_0; have tc : (z55).toInt = ((s.1 47) (y42_3).toNatClampNeg).toInt := congrArg Int32.toInt (e55.trans (congrFun (hFc42.1 47 rfl) _)); have lp := p134; rw [tc] at lp; have lx : LRX (s.1 47) (s.2.2.1 46 1).toInt.toNat (y42_3).toNatClampNeg (y42_3).toNatClampNeg (s134.2.1 95) (s134.2.1 95) := Or.inr ⟨(show (s.2.2.1 46 1).toInt.toNat ≤ (y42_3).toNatClampNeg + 1 from (by show (s.2.2.1 46 1).toInt.toNat ≤ (y42_3).toInt.toNat + 1; rw [← e_46_1]; (first | have a0 := in_u i47a | (have a0 := i47a; unfold In at a0)); (first | have a1 := in_u i47 | (have a1 := i47; unfold In at a1)); (first | have a2 := in_u i102 | (have a2 := i102; unfold In at a2)); (first | have a3 := in_u i98 | (have a3 := i98; unfold In at a3)); (first | have a4 := in_u i164 | (have a4 := i164; unfold In at a4)); have a5 := t_add e164 i47 (in_c 1 rfl) rfl; (first | have a6 := in_u ((in_c 1 rfl)) | (have a6 := (in_c 1 rfl); unfold In at a6)); (first | have a7 := in_u i139 | (have a7 := i139; unfold In at a7)); have a8 := t_add e139 i47 (in_c 1 rfl) rfl; have oc := oc_158_94_46; omega)), rfl⟩; have r96 : s134.2.1 96 = s134.2.1 96 := rfl; have r98 : s134.2.1 98 = s134.2.1 98 := rfl; have r97 : s134.1 97 = sc42.1 97 := hF134.1 97 rfl; have r0 : s134.2.2.2.1 94 0 = s134.2.2.2.1 94 0 := rfl; rw [show (z164).toNatClampNeg = (y42_3).toNatClampNeg + 1 from (by show (z164).toInt.toNat = (y42_3).toInt.toNat + 1; (first | have a0 := in_u i47a | (have a0 := i47a; unfold In at a0)); (first | have a1 := in_u i47 | (have a1 := i47; unfold In at a1)); (first | have a2 := in_u i102 | (have a2 := i102; unfold In at a2)); (first | have a3 := in_u i98 | (have a3 := i98; unfold In at a3)); (first | have a4 := in_u i164 | (have a4 := i164; unfold In at a4)); have a5 := t_add e164 i47 (in_c 1 rfl) rfl; (first | have a6 := in_u ((in_c 1 rfl)) | (have a6 := (in_c 1 rfl); unfold In at a6)); (first | have a7 := in_u i139 | (have a7 := i139; unfold In at a7)); have a8 := t_add e139 i47 (in_c 1 rfl) rfl; have oc := oc_158_94_46; (first | exact zt_s (by omega) (by omega) | omega)), r96, r98, r97, r0]; exact bld_e hg (show (y42_3).toNatClampNeg < (s.2.2.1 46 1).toInt.toNat from (by show (y42_3).toInt.toNat < (s.2.2.1 46 1).toInt.toNat; rw [← e_46_1]; (first | have a0 := in_u i47a | (have a0 := i47a; unfold In at a0)); (first | have a1 := in_u i47 | (have a1 := i47; unfold In at a1)); (first | have a2 := in_u i102 | (have a2 := i102; unfold In at a2)); (first | have a3 := in_u i98 | (have a3 := i98; unfold In at a3)); (first | have a4 := in_u i164 | (have a4 := i164; unfold In at a4)); have a5 := t_add e164 i47 (in_c 1 rfl) rfl; (first | have a6 := in_u ((in_c 1 rfl)) | (have a6 := (in_c 1 rfl); unfold In at a6)); (first | have a7 := in_u i139 | (have a7 := i139; unfold In at a7)); have a8 := t_add e139 i47 (in_c 1 rfl) rfl; have oc := oc_158_94_46; (first | exact zt_t (by omega) (by omega) | omega))) g42_0 (by rw [← tc]; (first | have a0 := in_u i47a | (have a0 := i47a; unfold In at a0)); (first | have a1 := in_u i47 | (have a1 := i47; unfold In at a1)); (first | have a2 := in_u i102 | (have a2 := i102; unfold In at a2)); (first | have a3 := in_u i98 | (have a3 := i98; unfold In at a3)); (first | have a4 := in_u i164 | (have a4 := i164; unfold In at a4)); have a5 := t_add e164 i47 (in_c 1 rfl) rfl; (first | have a6 := in_u ((in_c 1 rfl)) | (have a6 := (in_c 1 rfl); unfold In at a6)); (first | have a7 := in_u i139 | (have a7 := i139; unfold In at a7)); have a8 := t_add e139 i47 (in_c 1 rfl) rfl; have oc := oc_158_94_46; omega) (by rw [← tc]; (first | have a0 := in_u i47a | (have a0 := i47a; unfold In at a0)); (first | have a1 := in_u i47 | (have a1 := i47; unfold In at a1)); (first | have a2 := in_u i102 | (have a2 := i102; unfold In at a2)); (first | have a3 := in_u i98 | (have a3 := i98; unfold In at a3)); (first | have a4 := in_u i164 | (have a4 := i164; unfold In at a4)); have a5 := t_add e164 i47 (in_c 1 rfl) rfl; (first | have a6 := in_u ((in_c 1 rfl)) | (have a6 := (in_c 1 rfl); unfold In at a6)); (first | have a7 := in_u i139 | (have a7 := i139; unfold In at a7)); have a8 := t_add e139 i47 (in_c 1 rfl) rfl; have oc := oc_158_94_46; omega) lp lx
                have n42b : ∀ y : Nat, blt ((s134).2.2.2.1 94 1) y = true ↔ y = (s.2.2.1 46 1).toInt.toNat := by intro y; rw [show s134.2.2.2.1 94 1 = sc42.2.2.2.1 94 1 from (hF134.2.2.2 94 1 rfl)]; exact g42_1 y
                exact gg_w (by first | exact Nat.le_add_right _ _ | exact gw2 | exact gw3 | exact gwe rfl | exact gwf rfl | exact gwg rfl | exact gwh rfl | omega) (gg_f (gf_cons rfl (gf_cons rfl (gf_cons rfl (gf_cons rfl gf_nil)))) (ih42 s134 y42_2 z164 hI134 (fr_tr rfl hFc42 hF134) (in_w 0 10 i102 rfl) (in_w 0 60 i164 rfl) n42 n42a n42b (m_up mm42 (t_add e164 i47 (in_c 1 rfl) rfl) (in_w 1 1 (in_c 1 rfl) rfl))))
              · skip
                have i144 := r_lt1 1 59 c144 i139 i47a rfl
                have i144a := r_lt2 2 60 c144 i139 i47a rfl
                refine g_aload_n 148 (gd rfl) rfl rfl ?_
                refine g_aload_n 149 (gd rfl) rfl rfl ?_
                refine g_getA (q2 := 47) 152 (gd rfl) rfl rfl rfl rfl ?_
                refine g_iload_n 153 (gd rfl) rfl rfl ?_
                refine g_iconst 1 154 (gd rfl) rfl rfl ?_
                refine g_iadd 155 (gd rfl) rfl (fun z154 e154 => ?_)
                have i154 := in_add 1 60 e154 i47 (in_c 1 rfl) rfl rfl
                refine g_caload 156 (gd rfl) rfl (n := 1000) rfl (in_ix i154 rfl) (fun z155 e155 => ?_)
                have i155 := inv_I hI134 (n := 1000) (t := 2) 0 65535 rfl (in_ix i154 rfl) rfl e155
                refine g_iload 158 (gd rfl) rfl rfl ?_
                refine g_iload_n 159 (gd rfl) rfl rfl ?_
                refine g_iconst 1 160 (gd rfl) rfl rfl ?_
                refine g_iadd 161 (gd rfl) rfl (fun z160 e160 => ?_)
                have i160 := in_add 1 60 e160 i47 (in_c 1 rfl) rfl rfl
                refine g_callv (X := _) (As := [.int z155, .int y42_3, .int z160]) (r := []) (b := A 94) (q := 94) 164 (gd rfl) rfl rfl rfl rfl rfl (ww_o rfl) (Nat.le_of_ble_eq_true rfl) (Nat.zero_le _) (Nat.zero_le _) (f_161_94 (by first | exact dq1 hd rfl | exact dq0 hd rfl | exact dq2 hd rfl | exact dq3 hd rfl | omega) hI134 (in_w 0 65535 i155 rfl) (in_w 0 60 i47 rfl) (in_w 0 60 i160 rfl)) (fun e u h => h) (fun v u h => ?_)
                obtain ⟨s161, hI161, hF161, rfl, rfl, p161⟩ := h
                show GG _ _ _ _ _ _ _ _ [] _ _ _
                refine g_iinc 167 (gd rfl) rfl rfl (Nat.le_of_ble_eq_true rfl) (fun z164 e164 => ?_)
                have i164 := in_add 1 60 e164 i47 (in_c 1 rfl) rfl rfl
                refine g_goto 42 (gd rfl) rfl ?_
                have n42 : (z164).toInt ≤ (u_46_1).toInt := by (first | have a0 := in_u i144a | (have a0 := i144a; unfold In at a0)); (first | have a1 := in_u i47 | (have a1 := i47; unfold In at a1)); (first | have a2 := in_u i102 | (have a2 := i102; unfold In at a2)); (first | have a3 := in_u i98 | (have a3 := i98; unfold In at a3)); (first | have a4 := in_u i164 | (have a4 := i164; unfold In at a4)); have a5 := t_add e164 i47 (in_c 1 rfl) rfl; (first | have a6 := in_u ((in_c 1 rfl)) | (have a6 := (in_c 1 rfl); unfold In at a6)); (first | have a7 := in_u i160 | (have a7 := i160; unfold In at a7)); have a8 := t_add e160 i47 (in_c 1 rfl) rfl; (first | have a9 := in_u i154 | (have a9 := i154; unfold In at a9)); have a10 := t_add e154 i47 (in_c 1 rfl) rfl; (first | have a11 := in_u i144 | (have a11 := i144; unfold In at a11)); have a12 := t_add e139 i47 (in_c 1 rfl) rfl; have oc := oc_158_94_46; omega
                have n42a : BLD (s.1 47) (s.2.2.1 46 1).toInt.toNat (z164).toNatClampNeg (y42_2).toInt ((s161).1 97) ((s161).2.1 95) ((s161).2.1 96) ((s161).2.1 98) ((s161).2.2.2.1 94 0) := by obtain ⟨bb, hg⟩ := q_0; have tc : (z55).toInt = ((s.1 47) (y42_3).toNatClampNeg).toInt := congrArg Int32.toInt (e55.trans (congrFun (hFc42.1 47 rfl) _)); have lp := p134; rw [tc] at lp; have lr : LRC ((s.1 47) ((y42_3).toNatClampNeg + 1)).toInt (y42_3).toNatClampNeg ((y42_3).toNatClampNeg + 1) (s134.2.1 95) (s161.2.1 95) := (by have h9 := p161; rw [show (z160).toNatClampNeg = (y42_3).toNatClampNeg + 1 from (by show (z160).toInt.toNat = (y42_3).toInt.toNat + 1; (first | have a0 := in_u i144a | (have a0 := i144a; unfold In at a0)); (first | have a1 := in_u i47 | (have a1 := i47; unfold In at a1)); (first | have a2 := in_u i102 | (have a2 := i102; unfold In at a2)); (first | have a3 := in_u i98 | (have a3 := i98; unfold In at a3)); (first | have a4 := in_u i164 | (have a4 := i164; unfold In at a4)); have a5 := t_add e164 i47 (in_c 1 rfl) rfl; (first | have a6 := in_u ((in_c 1 rfl)) | (have a6 := (in_c 1 rfl); unfold In at a6)); (first | have a7 := in_u i160 | (have a7 := i160; unfold In at a7)); have a8 := t_add e160 i47 (in_c 1 rfl) rfl; (first | have a9 := in_u i154 | (have a9 := i154; unfold In at a9)); have a10 := t_add e154 i47 (in_c 1 rfl) rfl; (first | have a11 := in_u i144 | (have a11 := i144; unfold In at a11)); have a12 := t_add e139 i47 (in_c 1 rfl) rfl; have oc := oc_158_94_46; (first | exact zt_s (by omega) (by omega) | omega)), show (z155).toInt = ((s.1 47) ((y42_3).toNatClampNeg + 1)).toInt from congrArg Int32.toInt (e155.trans ((congrFun ((hF134.1 47 rfl).trans (hFc42.1 47 rfl)) _).trans (congrArg (s.1 47) (show z154.toNatClampNeg = (y42_3).toNatClampNeg + 1 from (by show z154.toInt.toNat = (y42_3).toInt.toNat + 1; (first | have a0 := in_u i144a | (have a0 := i144a; unfold In at a0)); (first | have a1 := in_u i47 | (have a1 := i47; unfold In at a1)); (first | have a2 := in_u i102 | (have a2 := i102; unfold In at a2)); (first | have a3 := in_u i98 | (have a3 := i98; unfold In at a3)); (first | have a4 := in_u i164 | (have a4 := i164; unfold In at a4)); have a5 := t_add e164 i47 (in_c 1 rfl) rfl; (first | have a6 := in_u ((in_c 1 rfl)) | (have a6 := (in_c 1 rfl); unfold In at a6)); (first | have a7 := in_u i160 | (have a7 := i160; unfold In at a7)); have a8 := t_add e160 i47 (in_c 1 rfl) rfl; (first | have a9 := in_u i154 | (have a9 := i154; unfold In at a9)); have a10 := t_add e154 i47 (in_c 1 rfl) rfl; (first | have a11 := in_u i144 | (have a11 := i144; unfold In at a11)); have a12 := t_add e139 i47 (in_c 1 rfl) rfl; have oc := oc_158_94_46; (first | exact zt_s (by omega) (by omega) | omega))))))] at h9; exact h9); have lx : LRX (s.1 47) (s.2.2.1 46 1).toInt.toNat (y42_3).toNatClampNeg (y42_3).toNatClampNeg (s134.2.1 95) (s161.2.1 95) := Or.inl ⟨(show (y42_3).toNatClampNeg + 1 < (s.2.2.1 46 1).toInt.toNat from (by show (y42_3).toInt.toNat + 1 < (s.2.2.1 46 1).toInt.toNat; rw [← e_46_1]; (first | have a0 := in_u i144a | (have a0 := i144a; unfold In at a0)); (first | have a1 := in_u i47 | (have a1 := i47; unfold In at a1)); (first | have a2 := in_u i102 | (have a2 := i102; unfold In at a2)); (first | have a3 := in_u i98 | (have a3 := i98; unfold In at a3)); (first | have a4 := in_u i164 | (have a4 := i164; unfold In at a4)); have a5 := t_add e164 i47 (in_c 1 rfl) rfl; (first | have a6 := in_u ((in_c 1 rfl)) | (have a6 := (in_c 1 rfl); unfold In at a6)); (first | have a7 := in_u i160 | (have a7 := i160; unfold In at a7)); have a8 := t_add e160 i47 (in_c 1 rfl) rfl; (first | have a9 := in_u i154 | (have a9 := i154; unfold In at a9)); have a10 := t_add e154 i47 (in_c 1 rfl) rfl; (first | have a11 := in_u i144 | (have a11 := i144; unfold In at a11)); have a12 := t_add e139 i47 (in_c 1 rfl) rfl; have oc := oc_158_94_46; omega)), lr⟩; have r96 : s161.2.1 96 = s134.2.1 96 := hF161.2.1 96 rfl; have r98 : s161.2.1 98 = s134.2.1 98 := hF161.2.1 98 rfl; have r97 : s161.1 97 = sc42.1 97 := (hF161.1 97 rfl).trans (hF134.1 97 rfl); have r0 : s161.2.2.2.1 94 0 = s134.2.2.2.1 94 0 := hF161.2.2.2 94 0 rfl; rw [show (z164).toNatClampNeg = (y42_3).toNatClampNeg + 1 from (by show (z164).toInt.toNat = (y42_3).toInt.toNat + 1; (first | have a0 := in_u i144a | (have a0 := i144a; unfold In at a0)); (first | have a1 := in_u i47 | (have a1 := i47; unfold In at a1)); (first | have a2 := in_u i102 | (have a2 := i102; unfold In at a2)); (first | have a3 := in_u i98 | (have a3 := i98; unfold In at a3)); (first | have a4 := in_u i164 | (have a4 := i164; unfold In at a4)); have a5 := t_add e164 i47 (in_c 1 rfl) rfl; (first | have a6 := in_u ((in_c 1 rfl)) | (have a6 := (in_c 1 rfl); unfold In at a6)); (first | have a7 := in_u i160 | (have a7 := i160; unfold In at a7)); have a8 := t_add e160 i47 (in_c 1 rfl) rfl; (first | have a9 := in_u i154 | (have a9 := i154; unfold In at a9)); have a10 := t_add e154 i47 (in_c 1 rfl) rfl; (first | have a11 := in_u i144 | (have a11 := i144; unfold In at a11)); have a12 := t_add e139 i47 (in_c 1 rfl) rfl; have oc := oc_158_94_46; (first | exact zt_s (by omega) (by omega) | omega)), r96, r98, r97, r0]; exact bld_e hg (show (y42_3).toNatClampNeg < (s.2.2.1 46 1).toInt.toNat from (by show (y42_3).toInt.toNat < (s.2.2.1 46 1).toInt.toNat; rw [← e_46_1]; (first | have a0 := in_u i144a | (have a0 := i144a; unfold In at a0)); (first | have a1 := in_u i47 | (have a1 := i47; unfold In at a1)); (first | have a2 := in_u i102 | (have a2 := i102; unfold In at a2)); (first | have a3 := in_u i98 | (have a3 := i98; unfold In at a3)); (first | have a4 := in_u i164 | (have a4 := i164; unfold In at a4)); have a5 := t_add e164 i47 (in_c 1 rfl) rfl; (first | have a6 := in_u ((in_c 1 rfl)) | (have a6 := (in_c 1 rfl); unfold In at a6)); (first | have a7 := in_u i160 | (have a7 := i160; unfold In at a7)); have a8 := t_add e160 i47 (in_c 1 rfl) rfl; (first | have a9 := in_u i154 | (have a9 := i154; unfold In at a9)); have a10 := t_add e154 i47 (in_c 1 rfl) rfl; (first | have a11 := in_u i144 | (have a11 := i144; unfold In at a11)); have a12 := t_add e139 i47 (in_c 1 rfl) rfl; have oc := oc_158_94_46; (first | exact zt_t (by omega) (by omega) | omega))) g42_0 (by rw [← tc]; (first | have a0 := in_u i144a | (have a0 := i144a; unfold In at a0)); (first | have a1 := in_u i47 | (have a1 := i47; unfold In at a1)); (first | have a2 := in_u i102 | (have a2 := i102; unfold In at a2)); (first | have a3 := in_u i98 | (have a3 := i98; unfold In at a3)); (first | have a4 := in_u i164 | (have a4 := i164; unfold In at a4)); have a5 := t_add e164 i47 (in_c 1 rfl) rfl; (first | have a6 := in_u ((in_c 1 rfl)) | (have a6 := (in_c 1 rfl); unfold In at a6)); (first | have a7 := in_u i160 | (have a7 := i160; unfold In at a7)); have a8 := t_add e160 i47 (in_c 1 rfl) rfl; (first | have a9 := in_u i154 | (have a9 := i154; unfold In at a9)); have a10 := t_add e154 i47 (in_c 1 rfl) rfl; (first | have a11 := in_u i144 | (have a11 := i144; unfold In at a11)); have a12 := t_add e139 i47 (in_c 1 rfl) rfl; have oc := oc_158_94_46; omega) (by rw [← tc]; (first | have a0 := in_u i144a | (have a0 := i144a; unfold In at a0)); (first | have a1 := in_u i47 | (have a1 := i47; unfold In at a1)); (first | have a2 := in_u i102 | (have a2 := i102; unfold In at a2)); (first | have a3 := in_u i98 | (have a3 := i98; unfold In at a3)); (first | have a4 := in_u i164 | (have a4 := i164; unfold In at a4)); have a5 := t_add e164 i47 (in_c 1 rfl) rfl; (first | have a6 := in_u ((in_c 1 rfl)) | (have a6 := (in_c 1 rfl); unfold In at a6)); (first | have a7 := in_u i160 | (have a7 := i160; unfold In at a7)); have a8 := t_add e160 i47 (in_c 1 rfl) rfl; (first | have a9 := in_u i154 | (have a9 := i154; unfold In at a9)); have a10 := t_add e154 i47 (in_c 1 rfl) rfl; (first | have a11 := in_u i144 | (have a11 := i144; unfold In at a11)); have a12 := t_add e139 i47 (in_c 1 rfl) rfl; have oc := oc_158_94_46; omega) lp lx
                have n42b : ∀ y : Nat, blt ((s161).2.2.2.1 94 1) y = true ↔ y = (s.2.2.1 46 1).toInt.toNat := by intro y; rw [show s161.2.2.2.1 94 1 = sc42.2.2.2.1 94 1 from ((hF161.2.2.2 94 1 rfl).trans (hF134.2.2.2 94 1 rfl))]; exact g42_1 y
                exact gg_w (by first | exact Nat.le_add_right _ _ | exact gw2 | exact gw3 | exact gwe rfl | exact gwf rfl | exact gwg rfl | exact gwh rfl | omega) (gg_f (gf_cons rfl (gf_cons rfl (gf_cons rfl (gf_cons rfl gf_nil)))) (ih42 s161 y42_2 z164 hI161 (fr_tr rfl (fr_tr rfl hFc42 hF134) hF161) (in_w 0 10 i102 rfl) (in_w 0 60 i164 rfl) n42 n42a n42b (m_up mm42 (t_add e164 i47 (in_c 1 rfl) rfl) (in_w 1 1 (in_c 1 rfl) rfl))))
            · skip
              have i102 := z_gt 1 10 c102 j42_2 rfl
              refine g_aload_n 106 (gd rfl) rfl rfl ?_
              refine g_getA (q2 := 97) 109 (gd rfl) rfl rfl rfl rfl ?_
              refine g_iload_n 110 (gd rfl) rfl rfl ?_
              refine g_iaload 111 (gd rfl) rfl (n := 11) rfl (in_ix i102 rfl) (fun z110 e110 => ?_)
              have i110 := inv_I hIc42 (n := 11) (t := 0) 0 60 rfl (in_ix i102 rfl) rfl e110
              refine g_istore 113 (gd rfl) rfl (Nat.le_of_ble_eq_true rfl) ?_
              refine g_aload_n 114 (gd rfl) rfl rfl ?_
              refine g_aload_n 115 (gd rfl) rfl rfl ?_
              refine g_getA (q2 := 98) 118 (gd rfl) rfl rfl rfl rfl ?_
              refine g_iload_n 119 (gd rfl) rfl rfl ?_
              refine g_laload 120 (gd rfl) rfl (n := 11) rfl (in_ix i102 rfl) (fun z119 e119 => ?_)
              have i119 := inv_L hIc42 (n := 11) 0 1152921504606846975 rfl (in_ix i102 rfl) rfl e119
              refine g_lconst 1 121 (gd rfl) rfl rfl ?_
              refine g_iload_n 122 (gd rfl) rfl rfl ?_
              refine g_lshl 123 (gd rfl) rfl (fun z122 e122 => ?_)
              have i122 := l_shl 59 e122 i47 rfl
              have p123 : InL z119 0 1152921504606846975 := by exact lw 0 1152921504606846975 i119 rfl
              have p123a : InL z122 0 2305843009213693951 := by exact lw 0 2305843009213693951 i122 rfl
              refine g_callv (X := _) (As := [.long z119, .long z122]) (r := []) (b := A 94) (q := 94) 126 (gd rfl) rfl rfl rfl rfl rfl (ww_o rfl) (Nat.le_of_ble_eq_true rfl) (Nat.zero_le _) (Nat.zero_le _) (f_159_94 (by first | exact dq1 hd rfl | exact dq0 hd rfl | exact dq2 hd rfl | exact dq3 hd rfl | omega) hIc42 p123 p123a) (fun e u h => h) (fun v u h => ?_)
              obtain ⟨s123, hI123, hF123, rfl, rfl, p123b⟩ := h
              show GG _ _ _ _ _ _ _ _ [] _ _ _
              refine g_iinc 129 (gd rfl) rfl rfl (Nat.le_of_ble_eq_true rfl) (fun z126 e126 => ?_)
              have i126 := in_add 0 9 e126 i102 (in_c (-1) rfl) rfl rfl
              refine g_aload_n 130 (gd rfl) rfl rfl ?_
              refine g_iload 132 (gd rfl) rfl rfl ?_
              refine g_iload_n 133 (gd rfl) rfl rfl ?_
              refine g_iload_n 134 (gd rfl) rfl rfl ?_
              refine g_callv (X := _) (As := [.int z55, .int y42_3, .int z126]) (r := []) (b := A 94) (q := 94) 137 (gd rfl) rfl rfl rfl rfl rfl (ww_o rfl) (Nat.le_of_ble_eq_true rfl) (Nat.zero_le _) (Nat.zero_le _) (f_160_94 (by first | exact dq1 hd rfl | exact dq0 hd rfl | exact dq2 hd rfl | exact dq3 hd rfl | omega) hI123 (in_w 0 65535 i98 rfl) (in_w 0 59 i47 rfl) (in_w 0 10 i126 rfl)) (fun e u h => h) (fun v u h => ?_)
              obtain ⟨s134, hI134, hF134, rfl, rfl, p134⟩ := h
              show GG _ _ _ _ _ _ _ _ [] _ _ _
              refine g_iload_n 138 (gd rfl) rfl rfl ?_
              refine g_iconst 1 139 (gd rfl) rfl rfl ?_
              refine g_iadd 140 (gd rfl) rfl (fun z139 e139 => ?_)
              have i139 := in_add 1 60 e139 i47 (in_c 1 rfl) rfl rfl
              refine g_aload_n 141 (gd rfl) rfl rfl ?_
              refine g_getI 144 (gd rfl) rfl rfl rfl (fun z141 e141 => ?_)
              have q141 : u_46_1 = z141 := (fr_F (fr_F (fr_F e_46_1 hFc42 rfl) hF123 rfl) hF134 rfl).trans e141.symm
              subst q141
              refine g_cmp_ge 147 164 (gd rfl) rfl rfl (fun c144 => ?_) (fun c144 => ?_)
              · skip
                refine g_iinc 167 (gd rfl) rfl rfl (Nat.le_of_ble_eq_true rfl) (fun z164 e164 => ?_)
                have i164 := in_add 1 60 e164 i47 (in_c 1 rfl) rfl rfl
                refine g_goto 42 (gd rfl) rfl ?_
                have n42 : (z164).toInt ≤ (u_46_1).toInt := by (first | have a0 := in_u i47a | (have a0 := i47a; unfold In at a0)); (first | have a1 := in_u i47 | (have a1 := i47; unfold In at a1)); (first | have a2 := in_u i102 | (have a2 := i102; unfold In at a2)); (first | have a3 := in_u i110 | (have a3 := i110; unfold In at a3)); (first | have a4 := in_u i98 | (have a4 := i98; unfold In at a4)); (first | have a5 := in_u i164 | (have a5 := i164; unfold In at a5)); have a6 := t_add e164 i47 (in_c 1 rfl) rfl; (first | have a7 := in_u ((in_c 1 rfl)) | (have a7 := (in_c 1 rfl); unfold In at a7)); (first | have a8 := in_u i126 | (have a8 := i126; unfold In at a8)); have a9 := t_add e126 i102 (in_c (-1) rfl) rfl; (first | have a10 := in_u ((in_c (-1) rfl)) | (have a10 := (in_c (-1) rfl); unfold In at a10)); (first | have a11 := in_u i139 | (have a11 := i139; unfold In at a11)); have a12 := t_add e139 i47 (in_c 1 rfl) rfl; have oc := oc_158_94_46; omega
                have n42a : BLD (s.1 47) (s.2.2.1 46 1).toInt.toNat (z164).toNatClampNeg (z126).toInt ((s134).1 97) ((s134).2.1 95) ((s134).2.1 96) ((s134).2.1 98) ((s134).2.2.2.1 94 0) := by obtain ⟨bb, hg⟩ := q_0; have tc : (z55).toInt = ((s.1 47) (y42_3).toNatClampNeg).toInt := congrArg Int32.toInt (e55.trans (congrFun (hFc42.1 47 rfl) _)); have lp := p134; rw [tc] at lp; have lx : LRX (s.1 47) (s.2.2.1 46 1).toInt.toNat (y42_3).toNatClampNeg (z110).toNatClampNeg (s134.2.1 95) (s134.2.1 95) := Or.inr ⟨(show (s.2.2.1 46 1).toInt.toNat ≤ (y42_3).toNatClampNeg + 1 from (by show (s.2.2.1 46 1).toInt.toNat ≤ (y42_3).toInt.toNat + 1; rw [← e_46_1]; (first | have a0 := in_u i47a | (have a0 := i47a; unfold In at a0)); (first | have a1 := in_u i47 | (have a1 := i47; unfold In at a1)); (first | have a2 := in_u i102 | (have a2 := i102; unfold In at a2)); (first | have a3 := in_u i110 | (have a3 := i110; unfold In at a3)); (first | have a4 := in_u i98 | (have a4 := i98; unfold In at a4)); (first | have a5 := in_u i164 | (have a5 := i164; unfold In at a5)); have a6 := t_add e164 i47 (in_c 1 rfl) rfl; (first | have a7 := in_u ((in_c 1 rfl)) | (have a7 := (in_c 1 rfl); unfold In at a7)); (first | have a8 := in_u i126 | (have a8 := i126; unfold In at a8)); have a9 := t_add e126 i102 (in_c (-1) rfl) rfl; (first | have a10 := in_u ((in_c (-1) rfl)) | (have a10 := (in_c (-1) rfl); unfold In at a10)); (first | have a11 := in_u i139 | (have a11 := i139; unfold In at a11)); have a12 := t_add e139 i47 (in_c 1 rfl) rfl; have oc := oc_158_94_46; omega)), rfl⟩; have r96 : s134.2.1 96 = s134.2.1 96 := rfl; have r98 : s134.2.1 98 = s134.2.1 98 := rfl; have r97 : s134.1 97 = s123.1 97 := hF134.1 97 rfl; have r0 : s134.2.2.2.1 94 0 = s134.2.2.2.1 94 0 := rfl; rw [show (z164).toNatClampNeg = (y42_3).toNatClampNeg + 1 from (by show (z164).toInt.toNat = (y42_3).toInt.toNat + 1; (first | have a0 := in_u i47a | (have a0 := i47a; unfold In at a0)); (first | have a1 := in_u i47 | (have a1 := i47; unfold In at a1)); (first | have a2 := in_u i102 | (have a2 := i102; unfold In at a2)); (first | have a3 := in_u i110 | (have a3 := i110; unfold In at a3)); (first | have a4 := in_u i98 | (have a4 := i98; unfold In at a4)); (first | have a5 := in_u i164 | (have a5 := i164; unfold In at a5)); have a6 := t_add e164 i47 (in_c 1 rfl) rfl; (first | have a7 := in_u ((in_c 1 rfl)) | (have a7 := (in_c 1 rfl); unfold In at a7)); (first | have a8 := in_u i126 | (have a8 := i126; unfold In at a8)); have a9 := t_add e126 i102 (in_c (-1) rfl) rfl; (first | have a10 := in_u ((in_c (-1) rfl)) | (have a10 := (in_c (-1) rfl); unfold In at a10)); (first | have a11 := in_u i139 | (have a11 := i139; unfold In at a11)); have a12 := t_add e139 i47 (in_c 1 rfl) rfl; have oc := oc_158_94_46; (first | exact zt_s (by omega) (by omega) | omega)), r96, r98, r97, r0]; rw [show s123.1 97 = sc42.1 97 from hF123.1 97 rfl]; have lp2 := lp; rw [show s123.1 97 = sc42.1 97 from hF123.1 97 rfl, show s123.2.1 96 = sc42.2.1 96 from hF123.2.1 96 rfl, show s123.2.1 98 = sc42.2.1 98 from hF123.2.1 98 rfl, show s123.2.2.2.1 94 0 = sc42.2.2.2.1 94 0 from hF123.2.2.2 94 0 rfl] at lp2; exact bld_c (jf1 := s123.2.1 95) hg (show (y42_3).toNatClampNeg < (s.2.2.1 46 1).toInt.toNat from (by show (y42_3).toInt.toNat < (s.2.2.1 46 1).toInt.toNat; rw [← e_46_1]; (first | have a0 := in_u i47a | (have a0 := i47a; unfold In at a0)); (first | have a1 := in_u i47 | (have a1 := i47; unfold In at a1)); (first | have a2 := in_u i102 | (have a2 := i102; unfold In at a2)); (first | have a3 := in_u i110 | (have a3 := i110; unfold In at a3)); (first | have a4 := in_u i98 | (have a4 := i98; unfold In at a4)); (first | have a5 := in_u i164 | (have a5 := i164; unfold In at a5)); have a6 := t_add e164 i47 (in_c 1 rfl) rfl; (first | have a7 := in_u ((in_c 1 rfl)) | (have a7 := (in_c 1 rfl); unfold In at a7)); (first | have a8 := in_u i126 | (have a8 := i126; unfold In at a8)); have a9 := t_add e126 i102 (in_c (-1) rfl) rfl; (first | have a10 := in_u ((in_c (-1) rfl)) | (have a10 := (in_c (-1) rfl); unfold In at a10)); (first | have a11 := in_u i139 | (have a11 := i139; unfold In at a11)); have a12 := t_add e139 i47 (in_c 1 rfl) rfl; have oc := oc_158_94_46; (first | exact zt_t (by omega) (by omega) | omega))) g42_0 (by rw [← tc]; (first | have a0 := in_u i47a | (have a0 := i47a; unfold In at a0)); (first | have a1 := in_u i47 | (have a1 := i47; unfold In at a1)); (first | have a2 := in_u i102 | (have a2 := i102; unfold In at a2)); (first | have a3 := in_u i110 | (have a3 := i110; unfold In at a3)); (first | have a4 := in_u i98 | (have a4 := i98; unfold In at a4)); (first | have a5 := in_u i164 | (have a5 := i164; unfold In at a5)); have a6 := t_add e164 i47 (in_c 1 rfl) rfl; (first | have a7 := in_u ((in_c 1 rfl)) | (have a7 := (in_c 1 rfl); unfold In at a7)); (first | have a8 := in_u i126 | (have a8 := i126; unfold In at a8)); have a9 := t_add e126 i102 (in_c (-1) rfl) rfl; (first | have a10 := in_u ((in_c (-1) rfl)) | (have a10 := (in_c (-1) rfl); unfold In at a10)); (first | have a11 := in_u i139 | (have a11 := i139; unfold In at a11)); have a12 := t_add e139 i47 (in_c 1 rfl) rfl; have oc := oc_158_94_46; omega) (by (first | have a0 := in_u i47a | (have a0 := i47a; unfold In at a0)); (first | have a1 := in_u i47 | (have a1 := i47; unfold In at a1)); (first | have a2 := in_u i102 | (have a2 := i102; unfold In at a2)); (first | have a3 := in_u i110 | (have a3 := i110; unfold In at a3)); (first | have a4 := in_u i98 | (have a4 := i98; unfold In at a4)); (first | have a5 := in_u i164 | (have a5 := i164; unfold In at a5)); have a6 := t_add e164 i47 (in_c 1 rfl) rfl; (first | have a7 := in_u ((in_c 1 rfl)) | (have a7 := (in_c 1 rfl); unfold In at a7)); (first | have a8 := in_u i126 | (have a8 := i126; unfold In at a8)); have a9 := t_add e126 i102 (in_c (-1) rfl) rfl; (first | have a10 := in_u ((in_c (-1) rfl)) | (have a10 := (in_c (-1) rfl); unfold In at a10)); (first | have a11 := in_u i139 | (have a11 := i139; unfold In at a11)); have a12 := t_add e139 i47 (in_c 1 rfl) rfl; have oc := oc_158_94_46; omega) (by (first | have a0 := in_u i47a | (have a0 := i47a; unfold In at a0)); (first | have a1 := in_u i47 | (have a1 := i47; unfold In at a1)); (first | have a2 := in_u i102 | (have a2 := i102; unfold In at a2)); (first | have a3 := in_u i110 | (have a3 := i110; unfold In at a3)); (first | have a4 := in_u i98 | (have a4 := i98; unfold In at a4)); (first | have a5 := in_u i164 | (have a5 := i164; unfold In at a5)); have a6 := t_add e164 i47 (in_c 1 rfl) rfl; (first | have a7 := in_u ((in_c 1 rfl)) | (have a7 := (in_c 1 rfl); unfold In at a7)); (first | have a8 := in_u i126 | (have a8 := i126; unfold In at a8)); have a9 := t_add e126 i102 (in_c (-1) rfl) rfl; (first | have a10 := in_u ((in_c (-1) rfl)) | (have a10 := (in_c (-1) rfl); unfold In at a10)); (first | have a11 := in_u i139 | (have a11 := i139; unfold In at a11)); have a12 := t_add e139 i47 (in_c 1 rfl) rfl; have oc := oc_158_94_46; omega) (fun x y => (p123b x y).trans (by rw [(blx_1 e122 (show In y42_3 0 63 from ⟨by (first | have a0 := in_u i47a | (have a0 := i47a; unfold In at a0)); (first | have a1 := in_u i47 | (have a1 := i47; unfold In at a1)); (first | have a2 := in_u i102 | (have a2 := i102; unfold In at a2)); (first | have a3 := in_u i110 | (have a3 := i110; unfold In at a3)); (first | have a4 := in_u i98 | (have a4 := i98; unfold In at a4)); (first | have a5 := in_u i164 | (have a5 := i164; unfold In at a5)); have a6 := t_add e164 i47 (in_c 1 rfl) rfl; (first | have a7 := in_u ((in_c 1 rfl)) | (have a7 := (in_c 1 rfl); unfold In at a7)); (first | have a8 := in_u i126 | (have a8 := i126; unfold In at a8)); have a9 := t_add e126 i102 (in_c (-1) rfl) rfl; (first | have a10 := in_u ((in_c (-1) rfl)) | (have a10 := (in_c (-1) rfl); unfold In at a10)); (first | have a11 := in_u i139 | (have a11 := i139; unfold In at a11)); have a12 := t_add e139 i47 (in_c 1 rfl) rfl; have oc := oc_158_94_46; omega, by (first | have a0 := in_u i47a | (have a0 := i47a; unfold In at a0)); (first | have a1 := in_u i47 | (have a1 := i47; unfold In at a1)); (first | have a2 := in_u i102 | (have a2 := i102; unfold In at a2)); (first | have a3 := in_u i110 | (have a3 := i110; unfold In at a3)); (first | have a4 := in_u i98 | (have a4 := i98; unfold In at a4)); (first | have a5 := in_u i164 | (have a5 := i164; unfold In at a5)); have a6 := t_add e164 i47 (in_c 1 rfl) rfl; (first | have a7 := in_u ((in_c 1 rfl)) | (have a7 := (in_c 1 rfl); unfold In at a7)); (first | have a8 := in_u i126 | (have a8 := i126; unfold In at a8)); have a9 := t_add e126 i102 (in_c (-1) rfl) rfl; (first | have a10 := in_u ((in_c (-1) rfl)) | (have a10 := (in_c (-1) rfl); unfold In at a10)); (first | have a11 := in_u i139 | (have a11 := i139; unfold In at a11)); have a12 := t_add e139 i47 (in_c 1 rfl) rfl; have oc := oc_158_94_46; omega⟩) rfl) y, e119]; exact Iff.rfl)) lp2 (congrArg Int32.toNatClampNeg e110) lx
                have n42b : ∀ y : Nat, blt ((s134).2.2.2.1 94 1) y = true ↔ y = (s.2.2.1 46 1).toInt.toNat := by intro y; rw [show s134.2.2.2.1 94 1 = sc42.2.2.2.1 94 1 from ((hF134.2.2.2 94 1 rfl).trans (hF123.2.2.2 94 1 rfl))]; exact g42_1 y
                exact gg_w (by first | exact Nat.le_add_right _ _ | exact gw2 | exact gw3 | exact gwe rfl | exact gwf rfl | exact gwg rfl | exact gwh rfl | omega) (gg_f (gf_cons rfl (gf_cons rfl (gf_cons rfl (gf_cons rfl gf_nil)))) (ih42 s134 z126 z164 hI134 (fr_tr rfl (fr_tr rfl hFc42 hF123) hF134) (in_w 0 10 i126 rfl) (in_w 0 60 i164 rfl) n42 n42a n42b (m_up mm42 (t_add e164 i47 (in_c 1 rfl) rfl) (in_w 1 1 (in_c 1 rfl) rfl))))
              · skip
                have i144 := r_lt1 1 59 c144 i139 i47a rfl
                have i144a := r_lt2 2 60 c144 i139 i47a rfl
                refine g_aload_n 148 (gd rfl) rfl rfl ?_
                refine g_aload_n 149 (gd rfl) rfl rfl ?_
                refine g_getA (q2 := 47) 152 (gd rfl) rfl rfl rfl rfl ?_
                refine g_iload_n 153 (gd rfl) rfl rfl ?_
                refine g_iconst 1 154 (gd rfl) rfl rfl ?_
                refine g_iadd 155 (gd rfl) rfl (fun z154 e154 => ?_)
                have i154 := in_add 1 60 e154 i47 (in_c 1 rfl) rfl rfl
                refine g_caload 156 (gd rfl) rfl (n := 1000) rfl (in_ix i154 rfl) (fun z155 e155 => ?_)
                have i155 := inv_I hI134 (n := 1000) (t := 2) 0 65535 rfl (in_ix i154 rfl) rfl e155
                refine g_iload 158 (gd rfl) rfl rfl ?_
                refine g_iload_n 159 (gd rfl) rfl rfl ?_
                refine g_iconst 1 160 (gd rfl) rfl rfl ?_
                refine g_iadd 161 (gd rfl) rfl (fun z160 e160 => ?_)
                have i160 := in_add 1 60 e160 i47 (in_c 1 rfl) rfl rfl
                refine g_callv (X := _) (As := [.int z155, .int z110, .int z160]) (r := []) (b := A 94) (q := 94) 164 (gd rfl) rfl rfl rfl rfl rfl (ww_o rfl) (Nat.le_of_ble_eq_true rfl) (Nat.zero_le _) (Nat.zero_le _) (f_161_94 (by first | exact dq1 hd rfl | exact dq0 hd rfl | exact dq2 hd rfl | exact dq3 hd rfl | omega) hI134 (in_w 0 65535 i155 rfl) (in_w 0 60 i110 rfl) (in_w 0 60 i160 rfl)) (fun e u h => h) (fun v u h => ?_)
                obtain ⟨s161, hI161, hF161, rfl, rfl, p161⟩ := h
                show GG _ _ _ _ _ _ _ _ [] _ _ _
                refine g_iinc 167 (gd rfl) rfl rfl (Nat.le_of_ble_eq_true rfl) (fun z164 e164 => ?_)
                have i164 := in_add 1 60 e164 i47 (in_c 1 rfl) rfl rfl
                refine g_goto 42 (gd rfl) rfl ?_
                have n42 : (z164).toInt ≤ (u_46_1).toInt := by (first | have a0 := in_u i144a | (have a0 := i144a; unfold In at a0)); (first | have a1 := in_u i47 | (have a1 := i47; unfold In at a1)); (first | have a2 := in_u i102 | (have a2 := i102; unfold In at a2)); (first | have a3 := in_u i110 | (have a3 := i110; unfold In at a3)); (first | have a4 := in_u i98 | (have a4 := i98; unfold In at a4)); (first | have a5 := in_u i164 | (have a5 := i164; unfold In at a5)); have a6 := t_add e164 i47 (in_c 1 rfl) rfl; (first | have a7 := in_u ((in_c 1 rfl)) | (have a7 := (in_c 1 rfl); unfold In at a7)); (first | have a8 := in_u i126 | (have a8 := i126; unfold In at a8)); have a9 := t_add e126 i102 (in_c (-1) rfl) rfl; (first | have a10 := in_u ((in_c (-1) rfl)) | (have a10 := (in_c (-1) rfl); unfold In at a10)); (first | have a11 := in_u i160 | (have a11 := i160; unfold In at a11)); have a12 := t_add e160 i47 (in_c 1 rfl) rfl; (first | have a13 := in_u i154 | (have a13 := i154; unfold In at a13)); have a14 := t_add e154 i47 (in_c 1 rfl) rfl; (first | have a15 := in_u i144 | (have a15 := i144; unfold In at a15)); have a16 := t_add e139 i47 (in_c 1 rfl) rfl; have oc := oc_158_94_46; omega
                have n42a : BLD (s.1 47) (s.2.2.1 46 1).toInt.toNat (z164).toNatClampNeg (z126).toInt ((s161).1 97) ((s161).2.1 95) ((s161).2.1 96) ((s161).2.1 98) ((s161).2.2.2.1 94 0) := by obtain ⟨bb, hg⟩ := q_0; have tc : (z55).toInt = ((s.1 47) (y42_3).toNatClampNeg).toInt := congrArg Int32.toInt (e55.trans (congrFun (hFc42.1 47 rfl) _)); have lp := p134; rw [tc] at lp; have lr : LRC ((s.1 47) ((y42_3).toNatClampNeg + 1)).toInt (z110).toNatClampNeg ((y42_3).toNatClampNeg + 1) (s134.2.1 95) (s161.2.1 95) := (by have h9 := p161; rw [show (z160).toNatClampNeg = (y42_3).toNatClampNeg + 1 from (by show (z160).toInt.toNat = (y42_3).toInt.toNat + 1; (first | have a0 := in_u i144a | (have a0 := i144a; unfold In at a0)); (first | have a1 := in_u i47 | (have a1 := i47; unfold In at a1)); (first | have a2 := in_u i102 | (have a2 := i102; unfold In at a2)); (first | have a3 := in_u i110 | (have a3 := i110; unfold In at a3)); (first | have a4 := in_u i98 | (have a4 := i98; unfold In at a4)); (first | have a5 := in_u i164 | (have a5 := i164; unfold In at a5)); have a6 := t_add e164 i47 (in_c 1 rfl) rfl; (first | have a7 := in_u ((in_c 1 rfl)) | (have a7 := (in_c 1 rfl); unfold In at a7)); (first | have a8 := in_u i126 | (have a8 := i126; unfold In at a8)); have a9 := t_add e126 i102 (in_c (-1) rfl) rfl; (first | have a10 := in_u ((in_c (-1) rfl)) | (have a10 := (in_c (-1) rfl); unfold In at a10)); (first | have a11 := in_u i160 | (have a11 := i160; unfold In at a11)); have a12 := t_add e160 i47 (in_c 1 rfl) rfl; (first | have a13 := in_u i154 | (have a13 := i154; unfold In at a13)); have a14 := t_add e154 i47 (in_c 1 rfl) rfl; (first | have a15 := in_u i144 | (have a15 := i144; unfold In at a15)); have a16 := t_add e139 i47 (in_c 1 rfl) rfl; have oc := oc_158_94_46; (first | exact zt_s (by omega) (by omega) | omega)), show (z155).toInt = ((s.1 47) ((y42_3).toNatClampNeg + 1)).toInt from congrArg Int32.toInt (e155.trans ((congrFun ((hF134.1 47 rfl).trans ((hF123.1 47 rfl).trans (hFc42.1 47 rfl))) _).trans (congrArg (s.1 47) (show z154.toNatClampNeg = (y42_3).toNatClampNeg + 1 from (by show z154.toInt.toNat = (y42_3).toInt.toNat + 1; (first | have a0 := in_u i144a | (have a0 := i144a; unfold In at a0)); (first | have a1 := in_u i47 | (have a1 := i47; unfold In at a1)); (first | have a2 := in_u i102 | (have a2 := i102; unfold In at a2)); (first | have a3 := in_u i110 | (have a3 := i110; unfold In at a3)); (first | have a4 := in_u i98 | (have a4 := i98; unfold In at a4)); (first | have a5 := in_u i164 | (have a5 := i164; unfold In at a5)); have a6 := t_add e164 i47 (in_c 1 rfl) rfl; (first | have a7 := in_u ((in_c 1 rfl)) | (have a7 := (in_c 1 rfl); unfold In at a7)); (first | have a8 := in_u i126 | (have a8 := i126; unfold In at a8)); have a9 := t_add e126 i102 (in_c (-1) rfl) rfl; (first | have a10 := in_u ((in_c (-1) rfl)) | (have a10 := (in_c (-1) rfl); unfold In at a10)); (first | have a11 := in_u i160 | (have a11 := i160; unfold In at a11)); have a12 := t_add e160 i47 (in_c 1 rfl) rfl; (first | have a13 := in_u i154 | (have a13 := i154; unfold In at a13)); have a14 := t_add e154 i47 (in_c 1 rfl) rfl; (first | have a15 := in_u i144 | (have a15 := i144; unfold In at a15)); have a16 := t_add e139 i47 (in_c 1 rfl) rfl; have oc := oc_158_94_46; (first | exact zt_s (by omega) (by omega) | omega))))))] at h9; exact h9); have lx : LRX (s.1 47) (s.2.2.1 46 1).toInt.toNat (y42_3).toNatClampNeg (z110).toNatClampNeg (s134.2.1 95) (s161.2.1 95) := Or.inl ⟨(show (y42_3).toNatClampNeg + 1 < (s.2.2.1 46 1).toInt.toNat from (by show (y42_3).toInt.toNat + 1 < (s.2.2.1 46 1).toInt.toNat; rw [← e_46_1]; (first | have a0 := in_u i144a | (have a0 := i144a; unfold In at a0)); (first | have a1 := in_u i47 | (have a1 := i47; unfold In at a1)); (first | have a2 := in_u i102 | (have a2 := i102; unfold In at a2)); (first | have a3 := in_u i110 | (have a3 := i110; unfold In at a3)); (first | have a4 := in_u i98 | (have a4 := i98; unfold In at a4)); (first | have a5 := in_u i164 | (have a5 := i164; unfold In at a5)); have a6 := t_add e164 i47 (in_c 1 rfl) rfl; (first | have a7 := in_u ((in_c 1 rfl)) | (have a7 := (in_c 1 rfl); unfold In at a7)); (first | have a8 := in_u i126 | (have a8 := i126; unfold In at a8)); have a9 := t_add e126 i102 (in_c (-1) rfl) rfl; (first | have a10 := in_u ((in_c (-1) rfl)) | (have a10 := (in_c (-1) rfl); unfold In at a10)); (first | have a11 := in_u i160 | (have a11 := i160; unfold In at a11)); have a12 := t_add e160 i47 (in_c 1 rfl) rfl; (first | have a13 := in_u i154 | (have a13 := i154; unfold In at a13)); have a14 := t_add e154 i47 (in_c 1 rfl) rfl; (first | have a15 := in_u i144 | (have a15 := i144; unfold In at a15)); have a16 := t_add e139 i47 (in_c 1 rfl) rfl; have oc := oc_158_94_46; omega)), lr⟩; have r96 : s161.2.1 96 = s134.2.1 96 := hF161.2.1 96 rfl; have r98 : s161.2.1 98 = s134.2.1 98 := hF161.2.1 98 rfl; have r97 : s161.1 97 = s123.1 97 := (hF161.1 97 rfl).trans (hF134.1 97 rfl); have r0 : s161.2.2.2.1 94 0 = s134.2.2.2.1 94 0 := hF161.2.2.2 94 0 rfl; rw [show (z164).toNatClampNeg = (y42_3).toNatClampNeg + 1 from (by show (z164).toInt.toNat = (y42_3).toInt.toNat + 1; (first | have a0 := in_u i144a | (have a0 := i144a; unfold In at a0)); (first | have a1 := in_u i47 | (have a1 := i47; unfold In at a1)); (first | have a2 := in_u i102 | (have a2 := i102; unfold In at a2)); (first | have a3 := in_u i110 | (have a3 := i110; unfold In at a3)); (first | have a4 := in_u i98 | (have a4 := i98; unfold In at a4)); (first | have a5 := in_u i164 | (have a5 := i164; unfold In at a5)); have a6 := t_add e164 i47 (in_c 1 rfl) rfl; (first | have a7 := in_u ((in_c 1 rfl)) | (have a7 := (in_c 1 rfl); unfold In at a7)); (first | have a8 := in_u i126 | (have a8 := i126; unfold In at a8)); have a9 := t_add e126 i102 (in_c (-1) rfl) rfl; (first | have a10 := in_u ((in_c (-1) rfl)) | (have a10 := (in_c (-1) rfl); unfold In at a10)); (first | have a11 := in_u i160 | (have a11 := i160; unfold In at a11)); have a12 := t_add e160 i47 (in_c 1 rfl) rfl; (first | have a13 := in_u i154 | (have a13 := i154; unfold In at a13)); have a14 := t_add e154 i47 (in_c 1 rfl) rfl; (first | have a15 := in_u i144 | (have a15 := i144; unfold In at a15)); have a16 := t_add e139 i47 (in_c 1 rfl) rfl; have oc := oc_158_94_46; (first | exact zt_s (by omega) (by omega) | omega)), r96, r98, r97, r0]; rw [show s123.1 97 = sc42.1 97 from hF123.1 97 rfl]; have lp2 := lp; rw [show s123.1 97 = sc42.1 97 from hF123.1 97 rfl, show s123.2.1 96 = sc42.2.1 96 from hF123.2.1 96 rfl, show s123.2.1 98 = sc42.2.1 98 from hF123.2.1 98 rfl, show s123.2.2.2.1 94 0 = sc42.2.2.2.1 94 0 from hF123.2.2.2 94 0 rfl] at lp2; exact bld_c (jf1 := s123.2.1 95) hg (show (y42_3).toNatClampNeg < (s.2.2.1 46 1).toInt.toNat from (by show (y42_3).toInt.toNat < (s.2.2.1 46 1).toInt.toNat; rw [← e_46_1]; (first | have a0 := in_u i144a | (have a0 := i144a; unfold In at a0)); (first | have a1 := in_u i47 | (have a1 := i47; unfold In at a1)); (first | have a2 := in_u i102 | (have a2 := i102; unfold In at a2)); (first | have a3 := in_u i110 | (have a3 := i110; unfold In at a3)); (first | have a4 := in_u i98 | (have a4 := i98; unfold In at a4)); (first | have a5 := in_u i164 | (have a5 := i164; unfold In at a5)); have a6 := t_add e164 i47 (in_c 1 rfl) rfl; (first | have a7 := in_u ((in_c 1 rfl)) | (have a7 := (in_c 1 rfl); unfold In at a7)); (first | have a8 := in_u i126 | (have a8 := i126; unfold In at a8)); have a9 := t_add e126 i102 (in_c (-1) rfl) rfl; (first | have a10 := in_u ((in_c (-1) rfl)) | (have a10 := (in_c (-1) rfl); unfold In at a10)); (first | have a11 := in_u i160 | (have a11 := i160; unfold In at a11)); have a12 := t_add e160 i47 (in_c 1 rfl) rfl; (first | have a13 := in_u i154 | (have a13 := i154; unfold In at a13)); have a14 := t_add e154 i47 (in_c 1 rfl) rfl; (first | have a15 := in_u i144 | (have a15 := i144; unfold In at a15)); have a16 := t_add e139 i47 (in_c 1 rfl) rfl; have oc := oc_158_94_46; (first | exact zt_t (by omega) (by omega) | omega))) g42_0 (by rw [← tc]; (first | have a0 := in_u i144a | (have a0 := i144a; unfold In at a0)); (first | have a1 := in_u i47 | (have a1 := i47; unfold In at a1)); (first | have a2 := in_u i102 | (have a2 := i102; unfold In at a2)); (first | have a3 := in_u i110 | (have a3 := i110; unfold In at a3)); (first | have a4 := in_u i98 | (have a4 := i98; unfold In at a4)); (first | have a5 := in_u i164 | (have a5 := i164; unfold In at a5)); have a6 := t_add e164 i47 (in_c 1 rfl) rfl; (first | have a7 := in_u ((in_c 1 rfl)) | (have a7 := (in_c 1 rfl); unfold In at a7)); (first | have a8 := in_u i126 | (have a8 := i126; unfold In at a8)); have a9 := t_add e126 i102 (in_c (-1) rfl) rfl; (first | have a10 := in_u ((in_c (-1) rfl)) | (have a10 := (in_c (-1) rfl); unfold In at a10)); (first | have a11 := in_u i160 | (have a11 := i160; unfold In at a11)); have a12 := t_add e160 i47 (in_c 1 rfl) rfl; (first | have a13 := in_u i154 | (have a13 := i154; unfold In at a13)); have a14 := t_add e154 i47 (in_c 1 rfl) rfl; (first | have a15 := in_u i144 | (have a15 := i144; unfold In at a15)); have a16 := t_add e139 i47 (in_c 1 rfl) rfl; have oc := oc_158_94_46; omega) (by (first | have a0 := in_u i144a | (have a0 := i144a; unfold In at a0)); (first | have a1 := in_u i47 | (have a1 := i47; unfold In at a1)); (first | have a2 := in_u i102 | (have a2 := i102; unfold In at a2)); (first | have a3 := in_u i110 | (have a3 := i110; unfold In at a3)); (first | have a4 := in_u i98 | (have a4 := i98; unfold In at a4)); (first | have a5 := in_u i164 | (have a5 := i164; unfold In at a5)); have a6 := t_add e164 i47 (in_c 1 rfl) rfl; (first | have a7 := in_u ((in_c 1 rfl)) | (have a7 := (in_c 1 rfl); unfold In at a7)); (first | have a8 := in_u i126 | (have a8 := i126; unfold In at a8)); have a9 := t_add e126 i102 (in_c (-1) rfl) rfl; (first | have a10 := in_u ((in_c (-1) rfl)) | (have a10 := (in_c (-1) rfl); unfold In at a10)); (first | have a11 := in_u i160 | (have a11 := i160; unfold In at a11)); have a12 := t_add e160 i47 (in_c 1 rfl) rfl; (first | have a13 := in_u i154 | (have a13 := i154; unfold In at a13)); have a14 := t_add e154 i47 (in_c 1 rfl) rfl; (first | have a15 := in_u i144 | (have a15 := i144; unfold In at a15)); have a16 := t_add e139 i47 (in_c 1 rfl) rfl; have oc := oc_158_94_46; omega) (by (first | have a0 := in_u i144a | (have a0 := i144a; unfold In at a0)); (first | have a1 := in_u i47 | (have a1 := i47; unfold In at a1)); (first | have a2 := in_u i102 | (have a2 := i102; unfold In at a2)); (first | have a3 := in_u i110 | (have a3 := i110; unfold In at a3)); (first | have a4 := in_u i98 | (have a4 := i98; unfold In at a4)); (first | have a5 := in_u i164 | (have a5 := i164; unfold In at a5)); have a6 := t_add e164 i47 (in_c 1 rfl) rfl; (first | have a7 := in_u ((in_c 1 rfl)) | (have a7 := (in_c 1 rfl); unfold In at a7)); (first | have a8 := in_u i126 | (have a8 := i126; unfold In at a8)); have a9 := t_add e126 i102 (in_c (-1) rfl) rfl; (first | have a10 := in_u ((in_c (-1) rfl)) | (have a10 := (in_c (-1) rfl); unfold In at a10)); (first | have a11 := in_u i160 | (have a11 := i160; unfold In at a11)); have a12 := t_add e160 i47 (in_c 1 rfl) rfl; (first | have a13 := in_u i154 | (have a13 := i154; unfold In at a13)); have a14 := t_add e154 i47 (in_c 1 rfl) rfl; (first | have a15 := in_u i144 | (have a15 := i144; unfold In at a15)); have a16 := t_add e139 i47 (in_c 1 rfl) rfl; have oc := oc_158_94_46; omega) (fun x y => (p123b x y).trans (by rw [(blx_1 e122 (show In y42_3 0 63 from ⟨by (first | have a0 := in_u i144a | (have a0 := i144a; unfold In at a0)); (first | have a1 := in_u i47 | (have a1 := i47; unfold In at a1)); (first | have a2 := in_u i102 | (have a2 := i102; unfold In at a2)); (first | have a3 := in_u i110 | (have a3 := i110; unfold In at a3)); (first | have a4 := in_u i98 | (have a4 := i98; unfold In at a4)); (first | have a5 := in_u i164 | (have a5 := i164; unfold In at a5)); have a6 := t_add e164 i47 (in_c 1 rfl) rfl; (first | have a7 := in_u ((in_c 1 rfl)) | (have a7 := (in_c 1 rfl); unfold In at a7)); (first | have a8 := in_u i126 | (have a8 := i126; unfold In at a8)); have a9 := t_add e126 i102 (in_c (-1) rfl) rfl; (first | have a10 := in_u ((in_c (-1) rfl)) | (have a10 := (in_c (-1) rfl); unfold In at a10)); (first | have a11 := in_u i160 | (have a11 := i160; unfold In at a11)); have a12 := t_add e160 i47 (in_c 1 rfl) rfl; (first | have a13 := in_u i154 | (have a13 := i154; unfold In at a13)); have a14 := t_add e154 i47 (in_c 1 rfl) rfl; (first | have a15 := in_u i144 | (have a15 := i144; unfold In at a15)); have a16 := t_add e139 i47 (in_c 1 rfl) rfl; have oc := oc_158_94_46; omega, by (first | have a0 := in_u i144a | (have a0 := i144a; unfold In at a0)); (first | have a1 := in_u i47 | (have a1 := i47; unfold In at a1)); (first | have a2 := in_u i102 | (have a2 := i102; unfold In at a2)); (first | have a3 := in_u i110 | (have a3 := i110; unfold In at a3)); (first | have a4 := in_u i98 | (have a4 := i98; unfold In at a4)); (first | have a5 := in_u i164 | (have a5 := i164; unfold In at a5)); have a6 := t_add e164 i47 (in_c 1 rfl) rfl; (first | have a7 := in_u ((in_c 1 rfl)) | (have a7 := (in_c 1 rfl); unfold In at a7)); (first | have a8 := in_u i126 | (have a8 := i126; unfold In at a8)); have a9 := t_add e126 i102 (in_c (-1) rfl) rfl; (first | have a10 := in_u ((in_c (-1) rfl)) | (have a10 := (in_c (-1) rfl); unfold In at a10)); (first | have a11 := in_u i160 | (have a11 := i160; unfold In at a11)); have a12 := t_add e160 i47 (in_c 1 rfl) rfl; (first | have a13 := in_u i154 | (have a13 := i154; unfold In at a13)); have a14 := t_add e154 i47 (in_c 1 rfl) rfl; (first | have a15 := in_u i144 | (have a15 := i144; unfold In at a15)); have a16 := t_add e139 i47 (in_c 1 rfl) rfl; have oc := oc_158_94_46; omega⟩) rfl) y, e119]; exact Iff.rfl)) lp2 (congrArg Int32.toNatClampNeg e110) lx
                have n42b : ∀ y : Nat, blt ((s161).2.2.2.1 94 1) y = true ↔ y = (s.2.2.1 46 1).toInt.toNat := by intro y; rw [show s161.2.2.2.1 94 1 = sc42.2.2.2.1 94 1 from (((hF161.2.2.2 94 1 rfl).trans (hF134.2.2.2 94 1 rfl)).trans (hF123.2.2.2 94 1 rfl))]; exact g42_1 y
                exact gg_w (by first | exact Nat.le_add_right _ _ | exact gw2 | exact gw3 | exact gwe rfl | exact gwf rfl | exact gwg rfl | exact gwh rfl | omega) (gg_f (gf_cons rfl (gf_cons rfl (gf_cons rfl (gf_cons rfl gf_nil)))) (ih42 s161 z126 z164 hI161 (fr_tr rfl (fr_tr rfl (fr_tr rfl hFc42 hF123) hF134) hF161) (in_w 0 10 i126 rfl) (in_w 0 60 i164 rfl) n42 n42a n42b (m_up mm42 (t_add e164 i47 (in_c 1 rfl) rfl) (in_w 1 1 (in_c 1 rfl) rfl))))
        · skip
          have i65 := r_eq1 40 40 c65 i55 (in_c 40 rfl) rfl
          refine g_iload_n 69 (gd rfl) rfl rfl ?_
          refine g_bipush 10 71 (gd rfl) rfl rfl ?_
          refine g_cmp_ge 74 94 (gd rfl) rfl rfl (fun c71 => ?_) (fun c71 => ?_)
          · skip
            have i71 := r_le2 10 10 c71 (in_c 10 rfl) j42_2 rfl
            refine g_iload 96 (gd rfl) rfl rfl ?_
            refine g_bipush 41 98 (gd rfl) rfl rfl ?_
            refine g_cmp_ne 101 129 (gd rfl) rfl rfl (fun c98 => ?_) (fun c98 => ?_)
            · skip
              refine g_aload_n 130 (gd rfl) rfl rfl ?_
              refine g_iload 132 (gd rfl) rfl rfl ?_
              refine g_iload_n 133 (gd rfl) rfl rfl ?_
              refine g_iload_n 134 (gd rfl) rfl rfl ?_
              refine g_callv (X := _) (As := [.int z55, .int y42_3, .int y42_2]) (r := []) (b := A 94) (q := 94) 137 (gd rfl) rfl rfl rfl rfl rfl (ww_o rfl) (Nat.le_of_ble_eq_true rfl) (Nat.zero_le _) (Nat.zero_le _) (f_160_94 (by first | exact dq1 hd rfl | exact dq0 hd rfl | exact dq2 hd rfl | exact dq3 hd rfl | omega) hIc42 (in_w 0 65535 i65 rfl) (in_w 0 59 i47 rfl) (in_w 0 10 i71 rfl)) (fun e u h => h) (fun v u h => ?_)
              obtain ⟨s134, hI134, hF134, rfl, rfl, p134⟩ := h
              show GG _ _ _ _ _ _ _ _ [] _ _ _
              refine g_iload_n 138 (gd rfl) rfl rfl ?_
              refine g_iconst 1 139 (gd rfl) rfl rfl ?_
              refine g_iadd 140 (gd rfl) rfl (fun z139 e139 => ?_)
              have i139 := in_add 1 60 e139 i47 (in_c 1 rfl) rfl rfl
              refine g_aload_n 141 (gd rfl) rfl rfl ?_
              refine g_getI 144 (gd rfl) rfl rfl rfl (fun z141 e141 => ?_)
              have q141 : u_46_1 = z141 := (fr_F (fr_F e_46_1 hFc42 rfl) hF134 rfl).trans e141.symm
              subst q141
              refine g_cmp_ge 147 164 (gd rfl) rfl rfl (fun c144 => ?_) (fun c144 => ?_)
              · skip
                refine g_iinc 167 (gd rfl) rfl rfl (Nat.le_of_ble_eq_true rfl) (fun z164 e164 => ?_)
                have i164 := in_add 1 60 e164 i47 (in_c 1 rfl) rfl rfl
                refine g_goto 42 (gd rfl) rfl ?_
                have n42 : (z164).toInt ≤ (u_46_1).toInt := by (first | have a0 := in_u i47a | (have a0 := i47a; unfold In at a0)); (first | have a1 := in_u i47 | (have a1 := i47; unfold In at a1)); (first | have a2 := in_u i71 | (have a2 := i71; unfold In at a2)); (first | have a3 := in_u i65 | (have a3 := i65; unfold In at a3)); (first | have a4 := in_u i164 | (have a4 := i164; unfold In at a4)); have a5 := t_add e164 i47 (in_c 1 rfl) rfl; (first | have a6 := in_u ((in_c 1 rfl)) | (have a6 := (in_c 1 rfl); unfold In at a6)); (first | have a7 := in_u i139 | (have a7 := i139; unfold In at a7)); have a8 := t_add e139 i47 (in_c 1 rfl) rfl; have oc := oc_158_94_46; omega
                have n42a : BLD (s.1 47) (s.2.2.1 46 1).toInt.toNat (z164).toNatClampNeg (y42_2).toInt ((s134).1 97) ((s134).2.1 95) ((s134).2.1 96) ((s134).2.1 98) ((s134).2.2.2.1 94 0) := by obtain ⟨bb, hg⟩ := q_0; have tc : (z55).toInt = ((s.1 47) (y42_3).toNatClampNeg).toInt := congrArg Int32.toInt (e55.trans (congrFun (hFc42.1 47 rfl) _)); have lp := p134; rw [tc] at lp; have lx : LRX (s.1 47) (s.2.2.1 46 1).toInt.toNat (y42_3).toNatClampNeg (y42_3).toNatClampNeg (s134.2.1 95) (s134.2.1 95) := Or.inr ⟨(show (s.2.2.1 46 1).toInt.toNat ≤ (y42_3).toNatClampNeg + 1 from (by show (s.2.2.1 46 1).toInt.toNat ≤ (y42_3).toInt.toNat + 1; rw [← e_46_1]; (first | have a0 := in_u i47a | (have a0 := i47a; unfold In at a0)); (first | have a1 := in_u i47 | (have a1 := i47; unfold In at a1)); (first | have a2 := in_u i71 | (have a2 := i71; unfold In at a2)); (first | have a3 := in_u i65 | (have a3 := i65; unfold In at a3)); (first | have a4 := in_u i164 | (have a4 := i164; unfold In at a4)); have a5 := t_add e164 i47 (in_c 1 rfl) rfl; (first | have a6 := in_u ((in_c 1 rfl)) | (have a6 := (in_c 1 rfl); unfold In at a6)); (first | have a7 := in_u i139 | (have a7 := i139; unfold In at a7)); have a8 := t_add e139 i47 (in_c 1 rfl) rfl; have oc := oc_158_94_46; omega)), rfl⟩; have r96 : s134.2.1 96 = s134.2.1 96 := rfl; have r98 : s134.2.1 98 = s134.2.1 98 := rfl; have r97 : s134.1 97 = sc42.1 97 := hF134.1 97 rfl; have r0 : s134.2.2.2.1 94 0 = s134.2.2.2.1 94 0 := rfl; rw [show (z164).toNatClampNeg = (y42_3).toNatClampNeg + 1 from (by show (z164).toInt.toNat = (y42_3).toInt.toNat + 1; (first | have a0 := in_u i47a | (have a0 := i47a; unfold In at a0)); (first | have a1 := in_u i47 | (have a1 := i47; unfold In at a1)); (first | have a2 := in_u i71 | (have a2 := i71; unfold In at a2)); (first | have a3 := in_u i65 | (have a3 := i65; unfold In at a3)); (first | have a4 := in_u i164 | (have a4 := i164; unfold In at a4)); have a5 := t_add e164 i47 (in_c 1 rfl) rfl; (first | have a6 := in_u ((in_c 1 rfl)) | (have a6 := (in_c 1 rfl); unfold In at a6)); (first | have a7 := in_u i139 | (have a7 := i139; unfold In at a7)); have a8 := t_add e139 i47 (in_c 1 rfl) rfl; have oc := oc_158_94_46; (first | exact zt_s (by omega) (by omega) | omega)), r96, r98, r97, r0]; exact bld_e hg (show (y42_3).toNatClampNeg < (s.2.2.1 46 1).toInt.toNat from (by show (y42_3).toInt.toNat < (s.2.2.1 46 1).toInt.toNat; rw [← e_46_1]; (first | have a0 := in_u i47a | (have a0 := i47a; unfold In at a0)); (first | have a1 := in_u i47 | (have a1 := i47; unfold In at a1)); (first | have a2 := in_u i71 | (have a2 := i71; unfold In at a2)); (first | have a3 := in_u i65 | (have a3 := i65; unfold In at a3)); (first | have a4 := in_u i164 | (have a4 := i164; unfold In at a4)); have a5 := t_add e164 i47 (in_c 1 rfl) rfl; (first | have a6 := in_u ((in_c 1 rfl)) | (have a6 := (in_c 1 rfl); unfold In at a6)); (first | have a7 := in_u i139 | (have a7 := i139; unfold In at a7)); have a8 := t_add e139 i47 (in_c 1 rfl) rfl; have oc := oc_158_94_46; (first | exact zt_t (by omega) (by omega) | omega))) g42_0 (by rw [← tc]; (first | have a0 := in_u i47a | (have a0 := i47a; unfold In at a0)); (first | have a1 := in_u i47 | (have a1 := i47; unfold In at a1)); (first | have a2 := in_u i71 | (have a2 := i71; unfold In at a2)); (first | have a3 := in_u i65 | (have a3 := i65; unfold In at a3)); (first | have a4 := in_u i164 | (have a4 := i164; unfold In at a4)); have a5 := t_add e164 i47 (in_c 1 rfl) rfl; (first | have a6 := in_u ((in_c 1 rfl)) | (have a6 := (in_c 1 rfl); unfold In at a6)); (first | have a7 := in_u i139 | (have a7 := i139; unfold In at a7)); have a8 := t_add e139 i47 (in_c 1 rfl) rfl; have oc := oc_158_94_46; omega) (by rw [← tc]; (first | have a0 := in_u i47a | (have a0 := i47a; unfold In at a0)); (first | have a1 := in_u i47 | (have a1 := i47; unfold In at a1)); (first | have a2 := in_u i71 | (have a2 := i71; unfold In at a2)); (first | have a3 := in_u i65 | (have a3 := i65; unfold In at a3)); (first | have a4 := in_u i164 | (have a4 := i164; unfold In at a4)); have a5 := t_add e164 i47 (in_c 1 rfl) rfl; (first | have a6 := in_u ((in_c 1 rfl)) | (have a6 := (in_c 1 rfl); unfold In at a6)); (first | have a7 := in_u i139 | (have a7 := i139; unfold In at a7)); have a8 := t_add e139 i47 (in_c 1 rfl) rfl; have oc := oc_158_94_46; omega) lp lx
                have n42b : ∀ y : Nat, blt ((s134).2.2.2.1 94 1) y = true ↔ y = (s.2.2.1 46 1).toInt.toNat := by intro y; rw [show s134.2.2.2.1 94 1 = sc42.2.2.2.1 94 1 from (hF134.2.2.2 94 1 rfl)]; exact g42_1 y
                exact gg_w (by first | exact Nat.le_add_right _ _ | exact gw2 | exact gw3 | exact gwe rfl | exact gwf rfl | exact gwg rfl | exact gwh rfl | omega) (gg_f (gf_cons rfl (gf_cons rfl (gf_cons rfl (gf_cons rfl gf_nil)))) (ih42 s134 y42_2 z164 hI134 (fr_tr rfl hFc42 hF134) (in_w 0 10 i71 rfl) (in_w 0 60 i164 rfl) n42 n42a n42b (m_up mm42 (t_add e164 i47 (in_c 1 rfl) rfl) (in_w 1 1 (in_c 1 rfl) rfl))))
              · skip
                have i144 := r_lt1 1 59 c144 i139 i47a rfl
                have i144a := r_lt2 2 60 c144 i139 i47a rfl
                refine g_aload_n 148 (gd rfl) rfl rfl ?_
                refine g_aload_n 149 (gd rfl) rfl rfl ?_
                refine g_getA (q2 := 47) 152 (gd rfl) rfl rfl rfl rfl ?_
                refine g_iload_n 153 (gd rfl) rfl rfl ?_
                refine g_iconst 1 154 (gd rfl) rfl rfl ?_
                refine g_iadd 155 (gd rfl) rfl (fun z154 e154 => ?_)
                have i154 := in_add 1 60 e154 i47 (in_c 1 rfl) rfl rfl
                refine g_caload 156 (gd rfl) rfl (n := 1000) rfl (in_ix i154 rfl) (fun z155 e155 => ?_)
                have i155 := inv_I hI134 (n := 1000) (t := 2) 0 65535 rfl (in_ix i154 rfl) rfl e155
                refine g_iload 158 (gd rfl) rfl rfl ?_
                refine g_iload_n 159 (gd rfl) rfl rfl ?_
                refine g_iconst 1 160 (gd rfl) rfl rfl ?_
                refine g_iadd 161 (gd rfl) rfl (fun z160 e160 => ?_)
                have i160 := in_add 1 60 e160 i47 (in_c 1 rfl) rfl rfl
                refine g_callv (X := _) (As := [.int z155, .int y42_3, .int z160]) (r := []) (b := A 94) (q := 94) 164 (gd rfl) rfl rfl rfl rfl rfl (ww_o rfl) (Nat.le_of_ble_eq_true rfl) (Nat.zero_le _) (Nat.zero_le _) (f_161_94 (by first | exact dq1 hd rfl | exact dq0 hd rfl | exact dq2 hd rfl | exact dq3 hd rfl | omega) hI134 (in_w 0 65535 i155 rfl) (in_w 0 60 i47 rfl) (in_w 0 60 i160 rfl)) (fun e u h => h) (fun v u h => ?_)
                obtain ⟨s161, hI161, hF161, rfl, rfl, p161⟩ := h
                show GG _ _ _ _ _ _ _ _ [] _ _ _
                refine g_iinc 167 (gd rfl) rfl rfl (Nat.le_of_ble_eq_true rfl) (fun z164 e164 => ?_)
                have i164 := in_add 1 60 e164 i47 (in_c 1 rfl) rfl rfl
                refine g_goto 42 (gd rfl) rfl ?_
                have n42 : (z164).toInt ≤ (u_46_1).toInt := by (first | have a0 := in_u i144a | (have a0 := i144a; unfold In at a0)); (first | have a1 := in_u i47 | (have a1 := i47; unfold In at a1)); (first | have a2 := in_u i71 | (have a2 := i71; unfold In at a2)); (first | have a3 := in_u i65 | (have a3 := i65; unfold In at a3)); (first | have a4 := in_u i164 | (have a4 := i164; unfold In at a4)); have a5 := t_add e164 i47 (in_c 1 rfl) rfl; (first | have a6 := in_u ((in_c 1 rfl)) | (have a6 := (in_c 1 rfl); unfold In at a6)); (first | have a7 := in_u i160 | (have a7 := i160; unfold In at a7)); have a8 := t_add e160 i47 (in_c 1 rfl) rfl; (first | have a9 := in_u i154 | (have a9 := i154; unfold In at a9)); have a10 := t_add e154 i47 (in_c 1 rfl) rfl; (first | have a11 := in_u i144 | (have a11 := i144; unfold In at a11)); have a12 := t_add e139 i47 (in_c 1 rfl) rfl; have oc := oc_158_94_46; omega
                have n42a : BLD (s.1 47) (s.2.2.1 46 1).toInt.toNat (z164).toNatClampNeg (y42_2).toInt ((s161).1 97) ((s161).2.1 95) ((s161).2.1 96) ((s161).2.1 98) ((s161).2.2.2.1 94 0) := by obtain ⟨bb, hg⟩ := q_0; have tc : (z55).toInt = ((s.1 47) (y42_3).toNatClampNeg).toInt := congrArg Int32.toInt (e55.trans (congrFun (hFc42.1 47 rfl) _)); have lp := p134; rw [tc] at lp; have lr : LRC ((s.1 47) ((y42_3).toNatClampNeg + 1)).toInt (y42_3).toNatClampNeg ((y42_3).toNatClampNeg + 1) (s134.2.1 95) (s161.2.1 95) := (by have h9 := p161; rw [show (z160).toNatClampNeg = (y42_3).toNatClampNeg + 1 from (by show (z160).toInt.toNat = (y42_3).toInt.toNat + 1; (first | have a0 := in_u i144a | (have a0 := i144a; unfold In at a0)); (first | have a1 := in_u i47 | (have a1 := i47; unfold In at a1)); (first | have a2 := in_u i71 | (have a2 := i71; unfold In at a2)); (first | have a3 := in_u i65 | (have a3 := i65; unfold In at a3)); (first | have a4 := in_u i164 | (have a4 := i164; unfold In at a4)); have a5 := t_add e164 i47 (in_c 1 rfl) rfl; (first | have a6 := in_u ((in_c 1 rfl)) | (have a6 := (in_c 1 rfl); unfold In at a6)); (first | have a7 := in_u i160 | (have a7 := i160; unfold In at a7)); have a8 := t_add e160 i47 (in_c 1 rfl) rfl; (first | have a9 := in_u i154 | (have a9 := i154; unfold In at a9)); have a10 := t_add e154 i47 (in_c 1 rfl) rfl; (first | have a11 := in_u i144 | (have a11 := i144; unfold In at a11)); have a12 := t_add e139 i47 (in_c 1 rfl) rfl; have oc := oc_158_94_46; (first | exact zt_s (by omega) (by omega) | omega)), show (z155).toInt = ((s.1 47) ((y42_3).toNatClampNeg + 1)).toInt from congrArg Int32.toInt (e155.trans ((congrFun ((hF134.1 47 rfl).trans (hFc42.1 47 rfl)) _).trans (congrArg (s.1 47) (show z154.toNatClampNeg = (y42_3).toNatClampNeg + 1 from (by show z154.toInt.toNat = (y42_3).toInt.toNat + 1; (first | have a0 := in_u i144a | (have a0 := i144a; unfold In at a0)); (first | have a1 := in_u i47 | (have a1 := i47; unfold In at a1)); (first | have a2 := in_u i71 | (have a2 := i71; unfold In at a2)); (first | have a3 := in_u i65 | (have a3 := i65; unfold In at a3)); (first | have a4 := in_u i164 | (have a4 := i164; unfold In at a4)); have a5 := t_add e164 i47 (in_c 1 rfl) rfl; (first | have a6 := in_u ((in_c 1 rfl)) | (have a6 := (in_c 1 rfl); unfold In at a6)); (first | have a7 := in_u i160 | (have a7 := i160; unfold In at a7)); have a8 := t_add e160 i47 (in_c 1 rfl) rfl; (first | have a9 := in_u i154 | (have a9 := i154; unfold In at a9)); have a10 := t_add e154 i47 (in_c 1 rfl) rfl; (first | have a11 := in_u i144 | (have a11 := i144; unfold In at a11)); have a12 := t_add e139 i47 (in_c 1 rfl) rfl; have oc := oc_158_94_46; (first | exact zt_s (by omega) (by omega) | omega))))))] at h9; exact h9); have lx : LRX (s.1 47) (s.2.2.1 46 1).toInt.toNat (y42_3).toNatClampNeg (y42_3).toNatClampNeg (s134.2.1 95) (s161.2.1 95) := Or.inl ⟨(show (y42_3).toNatClampNeg + 1 < (s.2.2.1 46 1).toInt.toNat from (by show (y42_3).toInt.toNat + 1 < (s.2.2.1 46 1).toInt.toNat; rw [← e_46_1]; (first | have a0 := in_u i144a | (have a0 := i144a; unfold In at a0)); (first | have a1 := in_u i47 | (have a1 := i47; unfold In at a1)); (first | have a2 := in_u i71 | (have a2 := i71; unfold In at a2)); (first | have a3 := in_u i65 | (have a3 := i65; unfold In at a3)); (first | have a4 := in_u i164 | (have a4 := i164; unfold In at a4)); have a5 := t_add e164 i47 (in_c 1 rfl) rfl; (first | have a6 := in_u ((in_c 1 rfl)) | (have a6 := (in_c 1 rfl); unfold In at a6)); (first | have a7 := in_u i160 | (have a7 := i160; unfold In at a7)); have a8 := t_add e160 i47 (in_c 1 rfl) rfl; (first | have a9 := in_u i154 | (have a9 := i154; unfold In at a9)); have a10 := t_add e154 i47 (in_c 1 rfl) rfl; (first | have a11 := in_u i144 | (have a11 := i144; unfold In at a11)); have a12 := t_add e139 i47 (in_c 1 rfl) rfl; have oc := oc_158_94_46; omega)), lr⟩; have r96 : s161.2.1 96 = s134.2.1 96 := hF161.2.1 96 rfl; have r98 : s161.2.1 98 = s134.2.1 98 := hF161.2.1 98 rfl; have r97 : s161.1 97 = sc42.1 97 := (hF161.1 97 rfl).trans (hF134.1 97 rfl); have r0 : s161.2.2.2.1 94 0 = s134.2.2.2.1 94 0 := hF161.2.2.2 94 0 rfl; rw [show (z164).toNatClampNeg = (y42_3).toNatClampNeg + 1 from (by show (z164).toInt.toNat = (y42_3).toInt.toNat + 1; (first | have a0 := in_u i144a | (have a0 := i144a; unfold In at a0)); (first | have a1 := in_u i47 | (have a1 := i47; unfold In at a1)); (first | have a2 := in_u i71 | (have a2 := i71; unfold In at a2)); (first | have a3 := in_u i65 | (have a3 := i65; unfold In at a3)); (first | have a4 := in_u i164 | (have a4 := i164; unfold In at a4)); have a5 := t_add e164 i47 (in_c 1 rfl) rfl; (first | have a6 := in_u ((in_c 1 rfl)) | (have a6 := (in_c 1 rfl); unfold In at a6)); (first | have a7 := in_u i160 | (have a7 := i160; unfold In at a7)); have a8 := t_add e160 i47 (in_c 1 rfl) rfl; (first | have a9 := in_u i154 | (have a9 := i154; unfold In at a9)); have a10 := t_add e154 i47 (in_c 1 rfl) rfl; (first | have a11 := in_u i144 | (have a11 := i144; unfold In at a11)); have a12 := t_add e139 i47 (in_c 1 rfl) rfl; have oc := oc_158_94_46; (first | exact zt_s (by omega) (by omega) | omega)), r96, r98, r97, r0]; exact bld_e hg (show (y42_3).toNatClampNeg < (s.2.2.1 46 1).toInt.toNat from (by show (y42_3).toInt.toNat < (s.2.2.1 46 1).toInt.toNat; rw [← e_46_1]; (first | have a0 := in_u i144a | (have a0 := i144a; unfold In at a0)); (first | have a1 := in_u i47 | (have a1 := i47; unfold In at a1)); (first | have a2 := in_u i71 | (have a2 := i71; unfold In at a2)); (first | have a3 := in_u i65 | (have a3 := i65; unfold In at a3)); (first | have a4 := in_u i164 | (have a4 := i164; unfold In at a4)); have a5 := t_add e164 i47 (in_c 1 rfl) rfl; (first | have a6 := in_u ((in_c 1 rfl)) | (have a6 := (in_c 1 rfl); unfold In at a6)); (first | have a7 := in_u i160 | (have a7 := i160; unfold In at a7)); have a8 := t_add e160 i47 (in_c 1 rfl) rfl; (first | have a9 := in_u i154 | (have a9 := i154; unfold In at a9)); have a10 := t_add e154 i47 (in_c 1 rfl) rfl; (first | have a11 := in_u i144 | (have a11 := i144; unfold In at a11)); have a12 := t_add e139 i47 (in_c 1 rfl) rfl; have oc := oc_158_94_46; (first | exact zt_t (by omega) (by omega) | omega))) g42_0 (by rw [← tc]; (first | have a0 := in_u i144a | (have a0 := i144a; unfold In at a0)); (first | have a1 := in_u i47 | (have a1 := i47; unfold In at a1)); (first | have a2 := in_u i71 | (have a2 := i71; unfold In at a2)); (first | have a3 := in_u i65 | (have a3 := i65; unfold In at a3)); (first | have a4 := in_u i164 | (have a4 := i164; unfold In at a4)); have a5 := t_add e164 i47 (in_c 1 rfl) rfl; (first | have a6 := in_u ((in_c 1 rfl)) | (have a6 := (in_c 1 rfl); unfold In at a6)); (first | have a7 := in_u i160 | (have a7 := i160; unfold In at a7)); have a8 := t_add e160 i47 (in_c 1 rfl) rfl; (first | have a9 := in_u i154 | (have a9 := i154; unfold In at a9)); have a10 := t_add e154 i47 (in_c 1 rfl) rfl; (first | have a11 := in_u i144 | (have a11 := i144; unfold In at a11)); have a12 := t_add e139 i47 (in_c 1 rfl) rfl; have oc := oc_158_94_46; omega) (by rw [← tc]; (first | have a0 := in_u i144a | (have a0 := i144a; unfold In at a0)); (first | have a1 := in_u i47 | (have a1 := i47; unfold In at a1)); (first | have a2 := in_u i71 | (have a2 := i71; unfold In at a2)); (first | have a3 := in_u i65 | (have a3 := i65; unfold In at a3)); (first | have a4 := in_u i164 | (have a4 := i164; unfold In at a4)); have a5 := t_add e164 i47 (in_c 1 rfl) rfl; (first | have a6 := in_u ((in_c 1 rfl)) | (have a6 := (in_c 1 rfl); unfold In at a6)); (first | have a7 := in_u i160 | (have a7 := i160; unfold In at a7)); have a8 := t_add e160 i47 (in_c 1 rfl) rfl; (first | have a9 := in_u i154 | (have a9 := i154; unfold In at a9)); have a10 := t_add e154 i47 (in_c 1 rfl) rfl; (first | have a11 := in_u i144 | (have a11 := i144; unfold In at a11)); have a12 := t_add e139 i47 (in_c 1 rfl) rfl; have oc := oc_158_94_46; omega) lp lx
                have n42b : ∀ y : Nat, blt ((s161).2.2.2.1 94 1) y = true ↔ y = (s.2.2.1 46 1).toInt.toNat := by intro y; rw [show s161.2.2.2.1 94 1 = sc42.2.2.2.1 94 1 from ((hF161.2.2.2 94 1 rfl).trans (hF134.2.2.2 94 1 rfl))]; exact g42_1 y
                exact gg_w (by first | exact Nat.le_add_right _ _ | exact gw2 | exact gw3 | exact gwe rfl | exact gwf rfl | exact gwg rfl | exact gwh rfl | omega) (gg_f (gf_cons rfl (gf_cons rfl (gf_cons rfl (gf_cons rfl gf_nil)))) (ih42 s161 y42_2 z164 hI161 (fr_tr rfl (fr_tr rfl hFc42 hF134) hF161) (in_w 0 10 i71 rfl) (in_w 0 60 i164 rfl) n42 n42a n42b (m_up mm42 (t_add e164 i47 (in_c 1 rfl) rfl) (in_w 1 1 (in_c 1 rfl) rfl))))
            · skip
              exact n_eq c98 i65 (in_c 41 rfl) rfl
          · skip
            have i71 := r_lt1 0 9 c71 j42_2 (in_c 10 rfl) rfl
            refine g_iinc 77 (gd rfl) rfl rfl (Nat.le_of_ble_eq_true rfl) (fun z74 e74 => ?_)
            have i74 := in_add 1 10 e74 i71 (in_c 1 rfl) rfl rfl
            refine g_aload_n 78 (gd rfl) rfl rfl ?_
            refine g_getA (q2 := 97) 81 (gd rfl) rfl rfl rfl rfl ?_
            refine g_iload_n 82 (gd rfl) rfl rfl ?_
            refine g_iload_n 83 (gd rfl) rfl rfl ?_
            refine g_iastore 84 (gd rfl) rfl (n := 11) rfl (in_ix i74 rfl) ?_
            have hI83 := inv_sI (q := 97) (j := z74.toNatClampNeg) hIc42 rfl (in_w 0 60 i47 rfl)
            refine g_aload_n 85 (gd rfl) rfl rfl ?_
            refine g_getA (q2 := 98) 88 (gd rfl) rfl rfl rfl rfl ?_
            refine g_iload_n 89 (gd rfl) rfl rfl ?_
            refine g_lconst 0 90 (gd rfl) rfl rfl ?_
            refine g_lastore 91 (gd rfl) rfl (n := 11) rfl (in_ix i74 rfl) ?_
            have hI90 := inv_sL (q := 98) (j := z74.toNatClampNeg) (x := (Int64.ofInt 0)) hI83 rfl (lw 0 1152921504606846975 (l_c 0 rfl) rfl)
            refine g_goto 129 (gd rfl) rfl ?_
            refine g_aload_n 130 (gd rfl) rfl rfl ?_
            refine g_iload 132 (gd rfl) rfl rfl ?_
            refine g_iload_n 133 (gd rfl) rfl rfl ?_
            refine g_iload_n 134 (gd rfl) rfl rfl ?_
            refine g_callv (X := _) (As := [.int z55, .int y42_3, .int z74]) (r := []) (b := A 94) (q := 94) 137 (gd rfl) rfl rfl rfl rfl rfl (ww_o rfl) (Nat.le_of_ble_eq_true rfl) (Nat.zero_le _) (Nat.zero_le _) (f_160_94 (by first | exact dq1 hd rfl | exact dq0 hd rfl | exact dq2 hd rfl | exact dq3 hd rfl | omega) hI90 (in_w 0 65535 i65 rfl) (in_w 0 59 i47 rfl) (in_w 0 10 i74 rfl)) (fun e u h => h) (fun v u h => ?_)
            obtain ⟨s134, hI134, hF134, rfl, rfl, p134⟩ := h
            show GG _ _ _ _ _ _ _ _ [] _ _ _
            refine g_iload_n 138 (gd rfl) rfl rfl ?_
            refine g_iconst 1 139 (gd rfl) rfl rfl ?_
            refine g_iadd 140 (gd rfl) rfl (fun z139 e139 => ?_)
            have i139 := in_add 1 60 e139 i47 (in_c 1 rfl) rfl rfl
            refine g_aload_n 141 (gd rfl) rfl rfl ?_
            refine g_getI 144 (gd rfl) rfl rfl rfl (fun z141 e141 => ?_)
            have q141 : u_46_1 = z141 := (fr_F (s := (sL (sI sc42 97 z74.toNatClampNeg y42_3) 98 z74.toNatClampNeg (Int64.ofInt 0))) (sL_F (sI_F (fr_F e_46_1 hFc42 rfl))) hF134 rfl).trans e141.symm
            subst q141
            refine g_cmp_ge 147 164 (gd rfl) rfl rfl (fun c144 => ?_) (fun c144 => ?_)
            · skip
              refine g_iinc 167 (gd rfl) rfl rfl (Nat.le_of_ble_eq_true rfl) (fun z164 e164 => ?_)
              have i164 := in_add 1 60 e164 i47 (in_c 1 rfl) rfl rfl
              refine g_goto 42 (gd rfl) rfl ?_
              have n42 : (z164).toInt ≤ (u_46_1).toInt := by (first | have a0 := in_u i47a | (have a0 := i47a; unfold In at a0)); (first | have a1 := in_u i47 | (have a1 := i47; unfold In at a1)); (first | have a2 := in_u i71 | (have a2 := i71; unfold In at a2)); (first | have a3 := in_u i65 | (have a3 := i65; unfold In at a3)); (first | have a4 := in_u i164 | (have a4 := i164; unfold In at a4)); have a5 := t_add e164 i47 (in_c 1 rfl) rfl; (first | have a6 := in_u ((in_c 1 rfl)) | (have a6 := (in_c 1 rfl); unfold In at a6)); (first | have a7 := in_u i74 | (have a7 := i74; unfold In at a7)); have a8 := t_add e74 i71 (in_c 1 rfl) rfl; (first | have a9 := in_u i139 | (have a9 := i139; unfold In at a9)); have a10 := t_add e139 i47 (in_c 1 rfl) rfl; have oc := oc_158_94_46; omega
              have n42a : BLD (s.1 47) (s.2.2.1 46 1).toInt.toNat (z164).toNatClampNeg (z74).toInt ((s134).1 97) ((s134).2.1 95) ((s134).2.1 96) ((s134).2.1 98) ((s134).2.2.2.1 94 0) := by obtain ⟨bb, hg⟩ := q_0; have tc : (z55).toInt = ((s.1 47) (y42_3).toNatClampNeg).toInt := congrArg Int32.toInt (e55.trans (congrFun (hFc42.1 47 rfl) _)); have lp := p134; rw [tc] at lp; have lx : LRX (s.1 47) (s.2.2.1 46 1).toInt.toNat (y42_3).toNatClampNeg (y42_3).toNatClampNeg (s134.2.1 95) (s134.2.1 95) := Or.inr ⟨(show (s.2.2.1 46 1).toInt.toNat ≤ (y42_3).toNatClampNeg + 1 from (by show (s.2.2.1 46 1).toInt.toNat ≤ (y42_3).toInt.toNat + 1; rw [← e_46_1]; (first | have a0 := in_u i47a | (have a0 := i47a; unfold In at a0)); (first | have a1 := in_u i47 | (have a1 := i47; unfold In at a1)); (first | have a2 := in_u i71 | (have a2 := i71; unfold In at a2)); (first | have a3 := in_u i65 | (have a3 := i65; unfold In at a3)); (first | have a4 := in_u i164 | (have a4 := i164; unfold In at a4)); have a5 := t_add e164 i47 (in_c 1 rfl) rfl; (first | have a6 := in_u ((in_c 1 rfl)) | (have a6 := (in_c 1 rfl); unfold In at a6)); (first | have a7 := in_u i74 | (have a7 := i74; unfold In at a7)); have a8 := t_add e74 i71 (in_c 1 rfl) rfl; (first | have a9 := in_u i139 | (have a9 := i139; unfold In at a9)); have a10 := t_add e139 i47 (in_c 1 rfl) rfl; have oc := oc_158_94_46; omega)), rfl⟩; have r96 : s134.2.1 96 = s134.2.1 96 := rfl; have r98 : s134.2.1 98 = s134.2.1 98 := rfl; have r97 : s134.1 97 = (sL (sI sc42 97 z74.toNatClampNeg y42_3) 98 z74.toNatClampNeg (Int64.ofInt 0)).1 97 := hF134.1 97 rfl; have r0 : s134.2.2.2.1 94 0 = s134.2.2.2.1 94 0 := rfl; rw [show (z164).toNatClampNeg = (y42_3).toNatClampNeg + 1 from (by show (z164).toInt.toNat = (y42_3).toInt.toNat + 1; (first | have a0 := in_u i47a | (have a0 := i47a; unfold In at a0)); (first | have a1 := in_u i47 | (have a1 := i47; unfold In at a1)); (first | have a2 := in_u i71 | (have a2 := i71; unfold In at a2)); (first | have a3 := in_u i65 | (have a3 := i65; unfold In at a3)); (first | have a4 := in_u i164 | (have a4 := i164; unfold In at a4)); have a5 := t_add e164 i47 (in_c 1 rfl) rfl; (first | have a6 := in_u ((in_c 1 rfl)) | (have a6 := (in_c 1 rfl); unfold In at a6)); (first | have a7 := in_u i74 | (have a7 := i74; unfold In at a7)); have a8 := t_add e74 i71 (in_c 1 rfl) rfl; (first | have a9 := in_u i139 | (have a9 := i139; unfold In at a9)); have a10 := t_add e139 i47 (in_c 1 rfl) rfl; have oc := oc_158_94_46; (first | exact zt_s (by omega) (by omega) | omega)), r96, r98, r97, r0]; have lp2 := lp; rw [show (sL (sI sc42 97 z74.toNatClampNeg y42_3) 98 z74.toNatClampNeg (Int64.ofInt 0)).2.1 95 = sc42.2.1 95 from sLx_o rfl, show (sL (sI sc42 97 z74.toNatClampNeg y42_3) 98 z74.toNatClampNeg (Int64.ofInt 0)).2.1 96 = sc42.2.1 96 from sLx_o rfl] at lp2; exact bld_o (bf1 := (sL (sI sc42 97 z74.toNatClampNeg y42_3) 98 z74.toNatClampNeg (Int64.ofInt 0)).2.1 98) hg (show (y42_3).toNatClampNeg < (s.2.2.1 46 1).toInt.toNat from (by show (y42_3).toInt.toNat < (s.2.2.1 46 1).toInt.toNat; rw [← e_46_1]; (first | have a0 := in_u i47a | (have a0 := i47a; unfold In at a0)); (first | have a1 := in_u i47 | (have a1 := i47; unfold In at a1)); (first | have a2 := in_u i71 | (have a2 := i71; unfold In at a2)); (first | have a3 := in_u i65 | (have a3 := i65; unfold In at a3)); (first | have a4 := in_u i164 | (have a4 := i164; unfold In at a4)); have a5 := t_add e164 i47 (in_c 1 rfl) rfl; (first | have a6 := in_u ((in_c 1 rfl)) | (have a6 := (in_c 1 rfl); unfold In at a6)); (first | have a7 := in_u i74 | (have a7 := i74; unfold In at a7)); have a8 := t_add e74 i71 (in_c 1 rfl) rfl; (first | have a9 := in_u i139 | (have a9 := i139; unfold In at a9)); have a10 := t_add e139 i47 (in_c 1 rfl) rfl; have oc := oc_158_94_46; (first | exact zt_t (by omega) (by omega) | omega))) g42_0 (by rw [← tc]; (first | have a0 := in_u i47a | (have a0 := i47a; unfold In at a0)); (first | have a1 := in_u i47 | (have a1 := i47; unfold In at a1)); (first | have a2 := in_u i71 | (have a2 := i71; unfold In at a2)); (first | have a3 := in_u i65 | (have a3 := i65; unfold In at a3)); (first | have a4 := in_u i164 | (have a4 := i164; unfold In at a4)); have a5 := t_add e164 i47 (in_c 1 rfl) rfl; (first | have a6 := in_u ((in_c 1 rfl)) | (have a6 := (in_c 1 rfl); unfold In at a6)); (first | have a7 := in_u i74 | (have a7 := i74; unfold In at a7)); have a8 := t_add e74 i71 (in_c 1 rfl) rfl; (first | have a9 := in_u i139 | (have a9 := i139; unfold In at a9)); have a10 := t_add e139 i47 (in_c 1 rfl) rfl; have oc := oc_158_94_46; omega) (show (z74).toInt = (y42_2).toInt + 1 from (by (first | have a0 := in_u i47a | (have a0 := i47a; unfold In at a0)); (first | have a1 := in_u i47 | (have a1 := i47; unfold In at a1)); (first | have a2 := in_u i71 | (have a2 := i71; unfold In at a2)); (first | have a3 := in_u i65 | (have a3 := i65; unfold In at a3)); (first | have a4 := in_u i164 | (have a4 := i164; unfold In at a4)); have a5 := t_add e164 i47 (in_c 1 rfl) rfl; (first | have a6 := in_u ((in_c 1 rfl)) | (have a6 := (in_c 1 rfl); unfold In at a6)); (first | have a7 := in_u i74 | (have a7 := i74; unfold In at a7)); have a8 := t_add e74 i71 (in_c 1 rfl) rfl; (first | have a9 := in_u i139 | (have a9 := i139; unfold In at a9)); have a10 := t_add e139 i47 (in_c 1 rfl) rfl; have oc := oc_158_94_46; omega)) (show ((sL (sI sc42 97 z74.toNatClampNeg y42_3) 98 z74.toNatClampNeg (Int64.ofInt 0)).1 97 z74.toNatClampNeg).toNatClampNeg = (y42_3).toNatClampNeg from (by rw [show (sL (sI sc42 97 z74.toNatClampNeg y42_3) 98 z74.toNatClampNeg (Int64.ofInt 0)).1 97 = upd (sc42.1 97) z74.toNatClampNeg y42_3 from (show (sI sc42 97 z74.toNatClampNeg y42_3).1 97 = upd (sc42.1 97) z74.toNatClampNeg y42_3 from sI_q), ug_at])) (fun l hl => by rw [show (sL (sI sc42 97 z74.toNatClampNeg y42_3) 98 z74.toNatClampNeg (Int64.ofInt 0)).1 97 = upd (sc42.1 97) z74.toNatClampNeg y42_3 from (show (sI sc42 97 z74.toNatClampNeg y42_3).1 97 = upd (sc42.1 97) z74.toNatClampNeg y42_3 from sI_q)]; exact ug_ne hl) (fun y => by rw [show (sL (sI sc42 97 z74.toNatClampNeg y42_3) 98 z74.toNatClampNeg (Int64.ofInt 0)).2.1 98 = vp_updL (sc42.2.1 98) z74.toNatClampNeg (Int64.ofInt 0) from sL_w]; rw [show z74.toInt.toNat = z74.toNatClampNeg from rfl, vp_at]; exact blx_z) (fun l hl => by rw [show (sL (sI sc42 97 z74.toNatClampNeg y42_3) 98 z74.toNatClampNeg (Int64.ofInt 0)).2.1 98 = vp_updL (sc42.2.1 98) z74.toNatClampNeg (Int64.ofInt 0) from sL_w]; exact vp_ne hl) lp2 lx
              have n42b : ∀ y : Nat, blt ((s134).2.2.2.1 94 1) y = true ↔ y = (s.2.2.1 46 1).toInt.toNat := by intro y; rw [show s134.2.2.2.1 94 1 = sc42.2.2.2.1 94 1 from (hF134.2.2.2 94 1 rfl)]; exact g42_1 y
              exact gg_w (by first | exact Nat.le_add_right _ _ | exact gw2 | exact gw3 | exact gwe rfl | exact gwf rfl | exact gwg rfl | exact gwh rfl | omega) (gg_f (gf_cons rfl (gf_cons rfl (gf_cons rfl (gf_cons rfl gf_nil)))) (ih42 s134 z74 z164 hI134 (fr_tr rfl (fr_sL rfl (fr_sI rfl hFc42)) hF134) (in_w 0 10 i74 rfl) (in_w 0 60 i164 rfl) n42 n42a n42b (m_up mm42 (t_add e164 i47 (in_c 1 rfl) rfl) (in_w 1 1 (in_c 1 rfl) rfl))))
            · skip
              have i144 := r_lt1 1 59 c144 i139 i47a rfl
              have i144a := r_lt2 2 60 c144 i139 i47a rfl
              refine g_aload_n 148 (gd rfl) rfl rfl ?_
              refine g_aload_n 149 (gd rfl) rfl rfl ?_
              refine g_getA (q2 := 47) 152 (gd rfl) rfl rfl rfl rfl ?_
              refine g_iload_n 153 (gd rfl) rfl rfl ?_
              refine g_iconst 1 154 (gd rfl) rfl rfl ?_
              refine g_iadd 155 (gd rfl) rfl (fun z154 e154 => ?_)
              have i154 := in_add 1 60 e154 i47 (in_c 1 rfl) rfl rfl
              refine g_caload 156 (gd rfl) rfl (n := 1000) rfl (in_ix i154 rfl) (fun z155 e155 => ?_)
              have i155 := inv_I hI134 (n := 1000) (t := 2) 0 65535 rfl (in_ix i154 rfl) rfl e155
              refine g_iload 158 (gd rfl) rfl rfl ?_
              refine g_iload_n 159 (gd rfl) rfl rfl ?_
              refine g_iconst 1 160 (gd rfl) rfl rfl ?_
              refine g_iadd 161 (gd rfl) rfl (fun z160 e160 => ?_)
              have i160 := in_add 1 60 e160 i47 (in_c 1 rfl) rfl rfl
              refine g_callv (X := _) (As := [.int z155, .int y42_3, .int z160]) (r := []) (b := A 94) (q := 94) 164 (gd rfl) rfl rfl rfl rfl rfl (ww_o rfl) (Nat.le_of_ble_eq_true rfl) (Nat.zero_le _) (Nat.zero_le _) (f_161_94 (by first | exact dq1 hd rfl | exact dq0 hd rfl | exact dq2 hd rfl | exact dq3 hd rfl | omega) hI134 (in_w 0 65535 i155 rfl) (in_w 0 60 i47 rfl) (in_w 0 60 i160 rfl)) (fun e u h => h) (fun v u h => ?_)
              obtain ⟨s161, hI161, hF161, rfl, rfl, p161⟩ := h
              show GG _ _ _ _ _ _ _ _ [] _ _ _
              refine g_iinc 167 (gd rfl) rfl rfl (Nat.le_of_ble_eq_true rfl) (fun z164 e164 => ?_)
              have i164 := in_add 1 60 e164 i47 (in_c 1 rfl) rfl rfl
              refine g_goto 42 (gd rfl) rfl ?_
              have n42 : (z164).toInt ≤ (u_46_1).toInt := by (first | have a0 := in_u i144a | (have a0 := i144a; unfold In at a0)); (first | have a1 := in_u i47 | (have a1 := i47; unfold In at a1)); (first | have a2 := in_u i71 | (have a2 := i71; unfold In at a2)); (first | have a3 := in_u i65 | (have a3 := i65; unfold In at a3)); (first | have a4 := in_u i164 | (have a4 := i164; unfold In at a4)); have a5 := t_add e164 i47 (in_c 1 rfl) rfl; (first | have a6 := in_u ((in_c 1 rfl)) | (have a6 := (in_c 1 rfl); unfold In at a6)); (first | have a7 := in_u i74 | (have a7 := i74; unfold In at a7)); have a8 := t_add e74 i71 (in_c 1 rfl) rfl; (first | have a9 := in_u i160 | (have a9 := i160; unfold In at a9)); have a10 := t_add e160 i47 (in_c 1 rfl) rfl; (first | have a11 := in_u i154 | (have a11 := i154; unfold In at a11)); have a12 := t_add e154 i47 (in_c 1 rfl) rfl; (first | have a13 := in_u i144 | (have a13 := i144; unfold In at a13)); have a14 := t_add e139 i47 (in_c 1 rfl) rfl; have oc := oc_158_94_46; omega
              have n42a : BLD (s.1 47) (s.2.2.1 46 1).toInt.toNat (z164).toNatClampNeg (z74).toInt ((s161).1 97) ((s161).2.1 95) ((s161).2.1 96) ((s161).2.1 98) ((s161).2.2.2.1 94 0) := by obtain ⟨bb, hg⟩ := q_0; have tc : (z55).toInt = ((s.1 47) (y42_3).toNatClampNeg).toInt := congrArg Int32.toInt (e55.trans (congrFun (hFc42.1 47 rfl) _)); have lp := p134; rw [tc] at lp; have lr : LRC ((s.1 47) ((y42_3).toNatClampNeg + 1)).toInt (y42_3).toNatClampNeg ((y42_3).toNatClampNeg + 1) (s134.2.1 95) (s161.2.1 95) := (by have h9 := p161; rw [show (z160).toNatClampNeg = (y42_3).toNatClampNeg + 1 from (by show (z160).toInt.toNat = (y42_3).toInt.toNat + 1; (first | have a0 := in_u i144a | (have a0 := i144a; unfold In at a0)); (first | have a1 := in_u i47 | (have a1 := i47; unfold In at a1)); (first | have a2 := in_u i71 | (have a2 := i71; unfold In at a2)); (first | have a3 := in_u i65 | (have a3 := i65; unfold In at a3)); (first | have a4 := in_u i164 | (have a4 := i164; unfold In at a4)); have a5 := t_add e164 i47 (in_c 1 rfl) rfl; (first | have a6 := in_u ((in_c 1 rfl)) | (have a6 := (in_c 1 rfl); unfold In at a6)); (first | have a7 := in_u i74 | (have a7 := i74; unfold In at a7)); have a8 := t_add e74 i71 (in_c 1 rfl) rfl; (first | have a9 := in_u i160 | (have a9 := i160; unfold In at a9)); have a10 := t_add e160 i47 (in_c 1 rfl) rfl; (first | have a11 := in_u i154 | (have a11 := i154; unfold In at a11)); have a12 := t_add e154 i47 (in_c 1 rfl) rfl; (first | have a13 := in_u i144 | (have a13 := i144; unfold In at a13)); have a14 := t_add e139 i47 (in_c 1 rfl) rfl; have oc := oc_158_94_46; (first | exact zt_s (by omega) (by omega) | omega)), show (z155).toInt = ((s.1 47) ((y42_3).toNatClampNeg + 1)).toInt from congrArg Int32.toInt (e155.trans ((congrFun ((hF134.1 47 rfl).trans (show (sL (sI sc42 97 z74.toNatClampNeg y42_3) 98 z74.toNatClampNeg (Int64.ofInt 0)).1 47 = s.1 47 from (show (sI sc42 97 z74.toNatClampNeg y42_3).1 47 = s.1 47 from (sI_p rfl).trans (hFc42.1 47 rfl)))) _).trans (congrArg (s.1 47) (show z154.toNatClampNeg = (y42_3).toNatClampNeg + 1 from (by show z154.toInt.toNat = (y42_3).toInt.toNat + 1; (first | have a0 := in_u i144a | (have a0 := i144a; unfold In at a0)); (first | have a1 := in_u i47 | (have a1 := i47; unfold In at a1)); (first | have a2 := in_u i71 | (have a2 := i71; unfold In at a2)); (first | have a3 := in_u i65 | (have a3 := i65; unfold In at a3)); (first | have a4 := in_u i164 | (have a4 := i164; unfold In at a4)); have a5 := t_add e164 i47 (in_c 1 rfl) rfl; (first | have a6 := in_u ((in_c 1 rfl)) | (have a6 := (in_c 1 rfl); unfold In at a6)); (first | have a7 := in_u i74 | (have a7 := i74; unfold In at a7)); have a8 := t_add e74 i71 (in_c 1 rfl) rfl; (first | have a9 := in_u i160 | (have a9 := i160; unfold In at a9)); have a10 := t_add e160 i47 (in_c 1 rfl) rfl; (first | have a11 := in_u i154 | (have a11 := i154; unfold In at a11)); have a12 := t_add e154 i47 (in_c 1 rfl) rfl; (first | have a13 := in_u i144 | (have a13 := i144; unfold In at a13)); have a14 := t_add e139 i47 (in_c 1 rfl) rfl; have oc := oc_158_94_46; (first | exact zt_s (by omega) (by omega) | omega))))))] at h9; exact h9); have lx : LRX (s.1 47) (s.2.2.1 46 1).toInt.toNat (y42_3).toNatClampNeg (y42_3).toNatClampNeg (s134.2.1 95) (s161.2.1 95) := Or.inl ⟨(show (y42_3).toNatClampNeg + 1 < (s.2.2.1 46 1).toInt.toNat from (by show (y42_3).toInt.toNat + 1 < (s.2.2.1 46 1).toInt.toNat; rw [← e_46_1]; (first | have a0 := in_u i144a | (have a0 := i144a; unfold In at a0)); (first | have a1 := in_u i47 | (have a1 := i47; unfold In at a1)); (first | have a2 := in_u i71 | (have a2 := i71; unfold In at a2)); (first | have a3 := in_u i65 | (have a3 := i65; unfold In at a3)); (first | have a4 := in_u i164 | (have a4 := i164; unfold In at a4)); have a5 := t_add e164 i47 (in_c 1 rfl) rfl; (first | have a6 := in_u ((in_c 1 rfl)) | (have a6 := (in_c 1 rfl); unfold In at a6)); (first | have a7 := in_u i74 | (have a7 := i74; unfold In at a7)); have a8 := t_add e74 i71 (in_c 1 rfl) rfl; (first | have a9 := in_u i160 | (have a9 := i160; unfold In at a9)); have a10 := t_add e160 i47 (in_c 1 rfl) rfl; (first | have a11 := in_u i154 | (have a11 := i154; unfold In at a11)); have a12 := t_add e154 i47 (in_c 1 rfl) rfl; (first | have a13 := in_u i144 | (have a13 := i144; unfold In at a13)); have a14 := t_add e139 i47 (in_c 1 rfl) rfl; have oc := oc_158_94_46; omega)), lr⟩; have r96 : s161.2.1 96 = s134.2.1 96 := hF161.2.1 96 rfl; have r98 : s161.2.1 98 = s134.2.1 98 := hF161.2.1 98 rfl; have r97 : s161.1 97 = (sL (sI sc42 97 z74.toNatClampNeg y42_3) 98 z74.toNatClampNeg (Int64.ofInt 0)).1 97 := (hF161.1 97 rfl).trans (hF134.1 97 rfl); have r0 : s161.2.2.2.1 94 0 = s134.2.2.2.1 94 0 := hF161.2.2.2 94 0 rfl; rw [show (z164).toNatClampNeg = (y42_3).toNatClampNeg + 1 from (by show (z164).toInt.toNat = (y42_3).toInt.toNat + 1; (first | have a0 := in_u i144a | (have a0 := i144a; unfold In at a0)); (first | have a1 := in_u i47 | (have a1 := i47; unfold In at a1)); (first | have a2 := in_u i71 | (have a2 := i71; unfold In at a2)); (first | have a3 := in_u i65 | (have a3 := i65; unfold In at a3)); (first | have a4 := in_u i164 | (have a4 := i164; unfold In at a4)); have a5 := t_add e164 i47 (in_c 1 rfl) rfl; (first | have a6 := in_u ((in_c 1 rfl)) | (have a6 := (in_c 1 rfl); unfold In at a6)); (first | have a7 := in_u i74 | (have a7 := i74; unfold In at a7)); have a8 := t_add e74 i71 (in_c 1 rfl) rfl; (first | have a9 := in_u i160 | (have a9 := i160; unfold In at a9)); have a10 := t_add e160 i47 (in_c 1 rfl) rfl; (first | have a11 := in_u i154 | (have a11 := i154; unfold In at a11)); have a12 := t_add e154 i47 (in_c 1 rfl) rfl; (first | have a13 := in_u i144 | (have a13 := i144; unfold In at a13)); have a14 := t_add e139 i47 (in_c 1 rfl) rfl; have oc := oc_158_94_46; (first | exact zt_s (by omega) (by omega) | omega)), r96, r98, r97, r0]; have lp2 := lp; rw [show (sL (sI sc42 97 z74.toNatClampNeg y42_3) 98 z74.toNatClampNeg (Int64.ofInt 0)).2.1 95 = sc42.2.1 95 from sLx_o rfl, show (sL (sI sc42 97 z74.toNatClampNeg y42_3) 98 z74.toNatClampNeg (Int64.ofInt 0)).2.1 96 = sc42.2.1 96 from sLx_o rfl] at lp2; exact bld_o (bf1 := (sL (sI sc42 97 z74.toNatClampNeg y42_3) 98 z74.toNatClampNeg (Int64.ofInt 0)).2.1 98) hg (show (y42_3).toNatClampNeg < (s.2.2.1 46 1).toInt.toNat from (by show (y42_3).toInt.toNat < (s.2.2.1 46 1).toInt.toNat; rw [← e_46_1]; (first | have a0 := in_u i144a | (have a0 := i144a; unfold In at a0)); (first | have a1 := in_u i47 | (have a1 := i47; unfold In at a1)); (first | have a2 := in_u i71 | (have a2 := i71; unfold In at a2)); (first | have a3 := in_u i65 | (have a3 := i65; unfold In at a3)); (first | have a4 := in_u i164 | (have a4 := i164; unfold In at a4)); have a5 := t_add e164 i47 (in_c 1 rfl) rfl; (first | have a6 := in_u ((in_c 1 rfl)) | (have a6 := (in_c 1 rfl); unfold In at a6)); (first | have a7 := in_u i74 | (have a7 := i74; unfold In at a7)); have a8 := t_add e74 i71 (in_c 1 rfl) rfl; (first | have a9 := in_u i160 | (have a9 := i160; unfold In at a9)); have a10 := t_add e160 i47 (in_c 1 rfl) rfl; (first | have a11 := in_u i154 | (have a11 := i154; unfold In at a11)); have a12 := t_add e154 i47 (in_c 1 rfl) rfl; (first | have a13 := in_u i144 | (have a13 := i144; unfold In at a13)); have a14 := t_add e139 i47 (in_c 1 rfl) rfl; have oc := oc_158_94_46; (first | exact zt_t (by omega) (by omega) | omega))) g42_0 (by rw [← tc]; (first | have a0 := in_u i144a | (have a0 := i144a; unfold In at a0)); (first | have a1 := in_u i47 | (have a1 := i47; unfold In at a1)); (first | have a2 := in_u i71 | (have a2 := i71; unfold In at a2)); (first | have a3 := in_u i65 | (have a3 := i65; unfold In at a3)); (first | have a4 := in_u i164 | (have a4 := i164; unfold In at a4)); have a5 := t_add e164 i47 (in_c 1 rfl) rfl; (first | have a6 := in_u ((in_c 1 rfl)) | (have a6 := (in_c 1 rfl); unfold In at a6)); (first | have a7 := in_u i74 | (have a7 := i74; unfold In at a7)); have a8 := t_add e74 i71 (in_c 1 rfl) rfl; (first | have a9 := in_u i160 | (have a9 := i160; unfold In at a9)); have a10 := t_add e160 i47 (in_c 1 rfl) rfl; (first | have a11 := in_u i154 | (have a11 := i154; unfold In at a11)); have a12 := t_add e154 i47 (in_c 1 rfl) rfl; (first | have a13 := in_u i144 | (have a13 := i144; unfold In at a13)); have a14 := t_add e139 i47 (in_c 1 rfl) rfl; have oc := oc_158_94_46; omega) (show (z74).toInt = (y42_2).toInt + 1 from (by (first | have a0 := in_u i144a | (have a0 := i144a; unfold In at a0)); (first | have a1 := in_u i47 | (have a1 := i47; unfold In at a1)); (first | have a2 := in_u i71 | (have a2 := i71; unfold In at a2)); (first | have a3 := in_u i65 | (have a3 := i65; unfold In at a3)); (first | have a4 := in_u i164 | (have a4 := i164; unfold In at a4)); have a5 := t_add e164 i47 (in_c 1 rfl) rfl; (first | have a6 := in_u ((in_c 1 rfl)) | (have a6 := (in_c 1 rfl); unfold In at a6)); (first | have a7 := in_u i74 | (have a7 := i74; unfold In at a7)); have a8 := t_add e74 i71 (in_c 1 rfl) rfl; (first | have a9 := in_u i160 | (have a9 := i160; unfold In at a9)); have a10 := t_add e160 i47 (in_c 1 rfl) rfl; (first | have a11 := in_u i154 | (have a11 := i154; unfold In at a11)); have a12 := t_add e154 i47 (in_c 1 rfl) rfl; (first | have a13 := in_u i144 | (have a13 := i144; unfold In at a13)); have a14 := t_add e139 i47 (in_c 1 rfl) rfl; have oc := oc_158_94_46; omega)) (show ((sL (sI sc42 97 z74.toNatClampNeg y42_3) 98 z74.toNatClampNeg (Int64.ofInt 0)).1 97 z74.toNatClampNeg).toNatClampNeg = (y42_3).toNatClampNeg from (by rw [show (sL (sI sc42 97 z74.toNatClampNeg y42_3) 98 z74.toNatClampNeg (Int64.ofInt 0)).1 97 = upd (sc42.1 97) z74.toNatClampNeg y42_3 from (show (sI sc42 97 z74.toNatClampNeg y42_3).1 97 = upd (sc42.1 97) z74.toNatClampNeg y42_3 from sI_q), ug_at])) (fun l hl => by rw [show (sL (sI sc42 97 z74.toNatClampNeg y42_3) 98 z74.toNatClampNeg (Int64.ofInt 0)).1 97 = upd (sc42.1 97) z74.toNatClampNeg y42_3 from (show (sI sc42 97 z74.toNatClampNeg y42_3).1 97 = upd (sc42.1 97) z74.toNatClampNeg y42_3 from sI_q)]; exact ug_ne hl) (fun y => by rw [show (sL (sI sc42 97 z74.toNatClampNeg y42_3) 98 z74.toNatClampNeg (Int64.ofInt 0)).2.1 98 = vp_updL (sc42.2.1 98) z74.toNatClampNeg (Int64.ofInt 0) from sL_w]; rw [show z74.toInt.toNat = z74.toNatClampNeg from rfl, vp_at]; exact blx_z) (fun l hl => by rw [show (sL (sI sc42 97 z74.toNatClampNeg y42_3) 98 z74.toNatClampNeg (Int64.ofInt 0)).2.1 98 = vp_updL (sc42.2.1 98) z74.toNatClampNeg (Int64.ofInt 0) from sL_w]; exact vp_ne hl) lp2 lx
              have n42b : ∀ y : Nat, blt ((s161).2.2.2.1 94 1) y = true ↔ y = (s.2.2.1 46 1).toInt.toNat := by intro y; rw [show s161.2.2.2.1 94 1 = sc42.2.2.2.1 94 1 from ((hF161.2.2.2 94 1 rfl).trans (hF134.2.2.2 94 1 rfl))]; exact g42_1 y
              exact gg_w (by first | exact Nat.le_add_right _ _ | exact gw2 | exact gw3 | exact gwe rfl | exact gwf rfl | exact gwg rfl | exact gwh rfl | omega) (gg_f (gf_cons rfl (gf_cons rfl (gf_cons rfl (gf_cons rfl gf_nil)))) (ih42 s161 z74 z164 hI161 (fr_tr rfl (fr_tr rfl (fr_sL rfl (fr_sI rfl hFc42)) hF134) hF161) (in_w 0 10 i74 rfl) (in_w 0 60 i164 rfl) n42 n42a n42b (m_up mm42 (t_add e164 i47 (in_c 1 rfl) rfl) (in_w 1 1 (in_c 1 rfl) rfl))))
  refine g_enter2 (k := 158) (N := 55801) (by first | exact dq1 hd rfl | exact dq0 hd rfl | exact dq2 hd rfl | exact dq3 hd rfl | omega) rfl (Nat.le_of_ble_eq_true rfl) ?_
  refine g_aload_n 1 (gd rfl) rfl rfl ?_
  refine g_getA (q2 := 95) 4 (gd rfl) rfl rfl rfl rfl ?_
  refine g_lconst 0 5 (gd rfl) rfl rfl ?_
  refine g_calls (As := [.ref (A 95), .long (Int64.ofInt 0)]) (r := []) 8 (gd rfl) rfl rfl rfl rfl rfl (Nat.le_of_ble_eq_true rfl) (Nat.zero_le _) (Nat.zero_le _) (k_fillL 95 (by first | exact dq1 hd rfl | exact dq0 hd rfl | exact dq2 hd rfl | exact dq3 hd rfl | omega) hI (n := 61) rfl rfl rfl (lw 0 2305843009213693951 (l_c 0 rfl) rfl)) (fun v u h => ?_)
  obtain ⟨s5, hI5, hF5, rfl, rfl, fl5⟩ := h
  show GG _ _ _ _ _ _ _ _ [] _ _ _
  refine g_aload_n 9 (gd rfl) rfl rfl ?_
  refine g_getA (q2 := 96) 12 (gd rfl) rfl rfl rfl rfl ?_
  refine g_lconst 0 13 (gd rfl) rfl rfl ?_
  refine g_calls (As := [.ref (A 96), .long (Int64.ofInt 0)]) (r := []) 16 (gd rfl) rfl rfl rfl rfl rfl (Nat.le_of_ble_eq_true rfl) (Nat.zero_le _) (Nat.zero_le _) (k_fillL 96 (by first | exact dq1 hd rfl | exact dq0 hd rfl | exact dq2 hd rfl | exact dq3 hd rfl | omega) hI5 (n := 26) rfl rfl rfl (lw 0 1152921504606846975 (l_c 0 rfl) rfl)) (fun v u h => ?_)
  obtain ⟨s13, hI13, hF13, rfl, rfl, fl13⟩ := h
  show GG _ _ _ _ _ _ _ _ [] _ _ _
  refine g_aload_n 17 (gd rfl) rfl rfl ?_
  refine g_lconst 1 18 (gd rfl) rfl rfl ?_
  refine g_putL 21 (gd rfl) rfl rfl rfl rfl ?_
  have hI18 := inv_sG (q := 94) (j := 0) (x := (Int64.ofInt 1)) hI13 rfl (lw 0 2305843009213693951 (l_c 1 rfl) rfl)
  refine g_aload_n 22 (gd rfl) rfl rfl ?_
  refine g_lconst 1 23 (gd rfl) rfl rfl ?_
  refine g_aload_n 24 (gd rfl) rfl rfl ?_
  refine g_getI 27 (gd rfl) rfl rfl rfl (fun z24 e24 => ?_)
  have q24 : u_46_1 = z24 := (sG_F (fr_F (fr_F (e_46_1) hF5 rfl) hF13 rfl)).trans e24.symm
  subst q24
  refine g_lshl 28 (gd rfl) rfl (fun z27 e27 => ?_)
  have i27 := l_shl 60 e27 r_46_1 rfl
  refine g_putL 31 (gd rfl) rfl rfl rfl rfl ?_
  have hI28 := inv_sG (q := 94) (j := 1) (x := z27) hI18 rfl (lw 0 2305843009213693951 i27 rfl)
  refine g_aload_n 32 (gd rfl) rfl rfl ?_
  refine g_getA (q2 := 98) 35 (gd rfl) rfl rfl rfl rfl ?_
  refine g_iconst 0 36 (gd rfl) rfl rfl ?_
  refine g_lconst 0 37 (gd rfl) rfl rfl ?_
  refine g_lastore 38 (gd rfl) rfl (n := 11) rfl (in_ix (in_c 0 rfl) rfl) ?_
  have hI37 := inv_sL (q := 98) (j := (Int32.ofInt 0).toNatClampNeg) (x := (Int64.ofInt 0)) hI28 rfl (lw 0 1152921504606846975 (l_c 0 rfl) rfl)
  refine g_iconst 0 39 (gd rfl) rfl rfl ?_
  refine g_istore_n 40 (gd rfl) rfl (Nat.le_of_ble_eq_true rfl) ?_
  refine g_iconst 0 41 (gd rfl) rfl rfl ?_
  refine g_istore_n 42 (gd rfl) rfl (Nat.le_of_ble_eq_true rfl) ?_
  have n42 : ((Int32.ofInt 0)).toInt ≤ (u_46_1).toInt := by (first | have a0 := in_u r_46_1 | (have a0 := r_46_1; unfold In at a0)); (first | have a1 := in_u ((in_c 0 rfl)) | (have a1 := (in_c 0 rfl); unfold In at a1)); have oc := oc_158_94_46; omega
  have n42a : BLD (s.1 47) (s.2.2.1 46 1).toInt.toNat ((Int32.ofInt 0)).toNatClampNeg ((Int32.ofInt 0)).toInt (((sL (sG (sG s13 94 0 (Int64.ofInt 1)) 94 1 z27) 98 (Int32.ofInt 0).toNatClampNeg (Int64.ofInt 0))).1 97) (((sL (sG (sG s13 94 0 (Int64.ofInt 1)) 94 1 z27) 98 (Int32.ofInt 0).toNatClampNeg (Int64.ofInt 0))).2.1 95) (((sL (sG (sG s13 94 0 (Int64.ofInt 1)) 94 1 z27) 98 (Int32.ofInt 0).toNatClampNeg (Int64.ofInt 0))).2.1 96) (((sL (sG (sG s13 94 0 (Int64.ofInt 1)) 94 1 z27) 98 (Int32.ofInt 0).toNatClampNeg (Int64.ofInt 0))).2.1 98) (((sL (sG (sG s13 94 0 (Int64.ofInt 1)) 94 1 z27) 98 (Int32.ofInt 0).toNatClampNeg (Int64.ofInt 0))).2.2.2.1 94 0) := by obtain ⟨bb, hg⟩ := q_0; exact bld_0 hg (fun x hx => (congrFun (sLx_o rfl : (sL (sG (sG s13 94 0 (Int64.ofInt 1)) 94 1 z27) 98 (Int32.ofInt 0).toNatClampNeg (Int64.ofInt 0)).2.1 95 = s13.2.1 95) x).trans ((congrFun (hF13.2.1 95 rfl) x).trans (fl5 x hx))) (fun c hc => (congrFun (sLx_o rfl : (sL (sG (sG s13 94 0 (Int64.ofInt 1)) 94 1 z27) 98 (Int32.ofInt 0).toNatClampNeg (Int64.ofInt 0)).2.1 96 = s13.2.1 96) c).trans (fl13 c hc)) (show (sL (sG (sG s13 94 0 (Int64.ofInt 1)) 94 1 z27) 98 (Int32.ofInt 0).toNatClampNeg (Int64.ofInt 0)).2.1 98 0 = Int64.ofInt 0 from (congrFun sL_w 0).trans (if_pos rfl)) (by first | rfl | simp [sL, sG])
  have n42b : ∀ y : Nat, blt (((sL (sG (sG s13 94 0 (Int64.ofInt 1)) 94 1 z27) 98 (Int32.ofInt 0).toNatClampNeg (Int64.ofInt 0))).2.2.2.1 94 1) y = true ↔ y = (s.2.2.1 46 1).toInt.toNat := by intro y; rw [show (sL (sG (sG s13 94 0 (Int64.ofInt 1)) 94 1 z27) 98 (Int32.ofInt 0).toNatClampNeg (Int64.ofInt 0)).2.2.2.1 94 1 = z27 from sG_get.symm]; exact blx_1 e27 (show In u_46_1 0 63 from ⟨by (first | have a0 := in_u r_46_1 | (have a0 := r_46_1; unfold In at a0)); (first | have a1 := in_u ((in_c 0 rfl)) | (have a1 := (in_c 0 rfl); unfold In at a1)); have oc := oc_158_94_46; omega, by (first | have a0 := in_u r_46_1 | (have a0 := r_46_1; unfold In at a0)); (first | have a1 := in_u ((in_c 0 rfl)) | (have a1 := (in_c 0 rfl); unfold In at a1)); have oc := oc_158_94_46; omega⟩) (show u_46_1.toNatClampNeg = (s.2.2.1 46 1).toInt.toNat from (by show u_46_1.toInt.toNat = _; rw [e_46_1])) y
  exact gg_w (by first | exact Nat.le_of_ble_eq_true rfl | omega) (gg_f (gf_cons rfl (gf_cons rfl (gf_cons rfl (gf_cons rfl gf_nil)))) (ct42 61 (sL (sG (sG s13 94 0 (Int64.ofInt 1)) 94 1 z27) 98 (Int32.ofInt 0).toNatClampNeg (Int64.ofInt 0)) (Int32.ofInt 0) (Int32.ofInt 0) hI37 (fr_sL rfl (fr_sG rfl (fr_sG rfl (fr_tr rfl (fr_tr rfl fr_rf hF5) hF13)))) (in_w 0 10 (in_c 0 rfl) rfl) (in_w 0 60 (in_c 0 rfl) rfl) n42 n42a n42b (m_in 61 (in_w 0 60 (in_c 0 rfl) rfl) rfl)))

theorem oc_383_109 : (Int32.ofInt (-1)).toInt = (-1) ∧ (Int32.ofInt 0).toInt = 0 ∧ (Int32.ofInt 1).toInt = 1 ∧ (Int32.ofInt 60).toInt = 60 ∧ (Int64.ofInt 0).toInt = 0 ∧ (Int64.ofInt 1).toInt = 1 := ⟨rfl, rfl, rfl, rfl, rfl, rfl⟩
/-- GraphHouseModel.follow -/
theorem f_383 {Z : AmZ} {A : Nat → Nat} {s : GS} {ex : va_W} {d : Nat} {X : AmX} {x1 : Int64} {x2 : Int64} (hd : 1 ≤ d) (hI : Inv s)  : GC Z d 383 [.ref (A 109), .long x1, .long x2] (WW Z A s ++ ex) 0 0 (fun v u => ∃ t : GS, Inv t ∧ Fr fm_383 s t ∧ v = none ∧ u = WW Z A t ++ ex ∧ (∀ p : Nat, p < 60 → ∀ o : Nat, blt ((t).2.1 175 p) o = true ↔ (blt (s.2.1 175 p) o = true ∨ (blt (x1) p = true ∧ blt (x2) o = true)))) X := by
  intro post xp hP hX
  have ct3 : ∀ (k3 : Nat) (sc3 : GS) (y3_5 : Int32), Inv sc3 → Fr fm_383 s sc3 → (In y3_5 0 60) → (FLW (s.2.1 175) ((sc3).2.1 175) x1 x2 (y3_5).toNatClampNeg) → 60 - (y3_5).toInt < (k3 : Int) → GG Z (d - 1) 383 post (gx xp) (1 + k3 * 900) 3 (fun j => xlook j [(0, .ref (A 109)), (1, .long x1), (3, .long x2), (5, .int y3_5)]) [] (WW Z A sc3 ++ ex) 0 0 := by
    intro k3
    induction k3 with
    | zero => intro sc3 y3_5 hIc3 hFc3 j3_5 g3_0 mm3; exact m_no mm3 j3_5 rfl
    | succ k3 ih3 =>
      intro sc3 y3_5 hIc3 hFc3 j3_5 g3_0 mm3
      refine gg_w (M := 1 + k3 * 900 + 900) gws ?_
      refine g_iload 5 (gd rfl) rfl rfl ?_
      refine g_bipush 60 7 (gd rfl) rfl rfl ?_
      refine g_cmp_ge 10 42 (gd rfl) rfl rfl (fun c7 => ?_) (fun c7 => ?_)
      · skip
        have i7 := r_le2 60 60 c7 (in_c 60 rfl) j3_5 rfl
        have n42 : ∀ p : Nat, p < 60 → ∀ o : Nat, blt ((sc3).2.1 175 p) o = true ↔ (blt (s.2.1 175 p) o = true ∨ (blt (x1) p = true ∧ blt (x2) o = true)) := by exact flw_e g3_0 (show 60 ≤ (y3_5).toInt.toNat from (by (first | have a0 := in_u i7 | (have a0 := i7; unfold In at a0)); have oc := oc_383_109; omega))
        exact g_return (gd rfl) rfl (hP _ _ ⟨sc3, hIc3, hFc3, rfl, rfl, n42⟩)
      · skip
        have i7 := r_lt1 0 59 c7 j3_5 (in_c 60 rfl) rfl
        refine g_aload_n 11 (gd rfl) rfl rfl ?_
        refine g_getA (q2 := 175) 14 (gd rfl) rfl rfl rfl rfl ?_
        refine g_iload 16 (gd rfl) rfl rfl ?_
        refine g_dup2 17 (gd rfl) rfl rfl rfl ?_
        refine g_laload 18 (gd rfl) rfl (n := 60) rfl (in_ix i7 rfl) (fun z17 e17 => ?_)
        refine g_lload_n 19 (gd rfl) rfl rfl ?_
        refine g_iload 21 (gd rfl) rfl rfl ?_
        refine g_lshr 22 (gd rfl) rfl (fun z21 e21 => ?_)
        refine g_lconst 1 23 (gd rfl) rfl rfl ?_
        refine g_land 24 (gd rfl) rfl (fun z23 e23 => ?_)
        have i23 := inl_and2 e23 (l_c 1 rfl) rfl
        refine g_lconst 1 25 (gd rfl) rfl rfl ?_
        refine g_lcmp 26 (gd rfl) rfl (fun z25 e25 => ?_)
        have i25 := lc_in e25
        refine g_if_ne 29 33 (gd rfl) rfl rfl (fun c26 => ?_) (fun c26 => ?_)
        · skip
          have c26a := lc_ne e25 c26
          have i26 := lr_ne1 0 0 c26a i23 (l_c 1 rfl) rfl
          refine g_lconst 0 34 (gd rfl) rfl rfl ?_
          refine g_lor 35 (gd rfl) rfl (fun z34 e34 => ?_)
          refine g_lastore 36 (gd rfl) rfl (n := 60) rfl (in_ix i7 rfl) ?_
          have hI35 := inv_sL (q := 175) (j := y3_5.toNatClampNeg) (x := z34) hIc3 rfl (l_rng z34)
          refine g_iinc 39 (gd rfl) rfl rfl (Nat.le_of_ble_eq_true rfl) (fun z36 e36 => ?_)
          have i36 := in_add 1 60 e36 i7 (in_c 1 rfl) rfl rfl
          refine g_goto 3 (gd rfl) rfl ?_
          have n3 : FLW (s.2.1 175) (((sL sc3 175 y3_5.toNatClampNeg z34)).2.1 175) x1 x2 (z36).toNatClampNeg := by have bb : (z23).toInt = if blt x1 (y3_5).toNatClampNeg then 1 else 0 := blx_ask e21 e23 ⟨by (first | have a0 := in_u i7 | (have a0 := i7; unfold In at a0)); (first | have a1 := in_u i36 | (have a1 := i36; unfold In at a1)); have a2 := t_add e36 i7 (in_c 1 rfl) rfl; (first | have a3 := in_u ((in_c 1 rfl)) | (have a3 := (in_c 1 rfl); unfold In at a3)); have oc := oc_383_109; omega, by (first | have a0 := in_u i7 | (have a0 := i7; unfold In at a0)); (first | have a1 := in_u i36 | (have a1 := i36; unfold In at a1)); have a2 := t_add e36 i7 (in_c 1 rfl) rfl; (first | have a3 := in_u ((in_c 1 rfl)) | (have a3 := (in_c 1 rfl); unfold In at a3)); have oc := oc_383_109; omega⟩; have nb : ¬ blt x1 (y3_5).toNatClampNeg = true := (fun q => by rw [if_pos q] at bb; exact c26a bb); rw [sL_w]; exact flw_s (y := Int64.ofInt 0) g3_0 (show (y3_5).toNatClampNeg < 60 from (by show (y3_5).toInt.toNat < 60; (first | have a0 := in_u i7 | (have a0 := i7; unfold In at a0)); (first | have a1 := in_u i36 | (have a1 := i36; unfold In at a1)); have a2 := t_add e36 i7 (in_c 1 rfl) rfl; (first | have a3 := in_u ((in_c 1 rfl)) | (have a3 := (in_c 1 rfl); unfold In at a3)); have oc := oc_383_109; (first | exact zt_l (by decide) (by omega) | omega))) (by rw [← e17]; exact e34) (fun o => ⟨(fun q => (by rw [blx_z] at q; cases q)), fun q => absurd q.1 nb⟩) (show (z36).toNatClampNeg = (y3_5).toNatClampNeg + 1 from (by show (z36).toInt.toNat = (y3_5).toInt.toNat + 1; (first | have a0 := in_u i7 | (have a0 := i7; unfold In at a0)); (first | have a1 := in_u i36 | (have a1 := i36; unfold In at a1)); have a2 := t_add e36 i7 (in_c 1 rfl) rfl; (first | have a3 := in_u ((in_c 1 rfl)) | (have a3 := (in_c 1 rfl); unfold In at a3)); have oc := oc_383_109; (first | exact zt_s (by omega) (by omega) | omega)))
          exact gg_w (by first | exact Nat.le_add_right _ _ | exact gw2 | exact gw3 | exact gwe rfl | exact gwf rfl | exact gwg rfl | exact gwh rfl | omega) (gg_f (gf_cons rfl (gf_cons rfl (gf_cons rfl (gf_cons rfl gf_nil)))) (ih3 (sL sc3 175 y3_5.toNatClampNeg z34) z36 hI35 (fr_sL rfl hFc3) (in_w 0 60 i36 rfl) n3 (m_up mm3 (t_add e36 i7 (in_c 1 rfl) rfl) (in_w 1 1 (in_c 1 rfl) rfl))))
        · skip
          have i26 := z_eq 0 0 c26 i25 rfl
          have c26a := lc_eq e25 c26
          have i26a := lr_eq1 1 1 c26a i23 (l_c 1 rfl) rfl
          refine g_lload_n 30 (gd rfl) rfl rfl ?_
          refine g_goto 34 (gd rfl) rfl ?_
          refine g_lor 35 (gd rfl) rfl (fun z34 e34 => ?_)
          refine g_lastore 36 (gd rfl) rfl (n := 60) rfl (in_ix i7 rfl) ?_
          have hI35 := inv_sL (q := 175) (j := y3_5.toNatClampNeg) (x := z34) hIc3 rfl (l_rng z34)
          refine g_iinc 39 (gd rfl) rfl rfl (Nat.le_of_ble_eq_true rfl) (fun z36 e36 => ?_)
          have i36 := in_add 1 60 e36 i7 (in_c 1 rfl) rfl rfl
          refine g_goto 3 (gd rfl) rfl ?_
          have n3 : FLW (s.2.1 175) (((sL sc3 175 y3_5.toNatClampNeg z34)).2.1 175) x1 x2 (z36).toNatClampNeg := by have bb : (z23).toInt = if blt x1 (y3_5).toNatClampNeg then 1 else 0 := blx_ask e21 e23 ⟨by (first | have a0 := in_u i7 | (have a0 := i7; unfold In at a0)); (first | have a1 := in_u i36 | (have a1 := i36; unfold In at a1)); have a2 := t_add e36 i7 (in_c 1 rfl) rfl; (first | have a3 := in_u ((in_c 1 rfl)) | (have a3 := (in_c 1 rfl); unfold In at a3)); have oc := oc_383_109; omega, by (first | have a0 := in_u i7 | (have a0 := i7; unfold In at a0)); (first | have a1 := in_u i36 | (have a1 := i36; unfold In at a1)); have a2 := t_add e36 i7 (in_c 1 rfl) rfl; (first | have a3 := in_u ((in_c 1 rfl)) | (have a3 := (in_c 1 rfl); unfold In at a3)); have oc := oc_383_109; omega⟩; have yb : blt x1 (y3_5).toNatClampNeg = true := (Classical.byContradiction fun q => by rw [if_neg q, show (z23).toInt = 1 from c26a] at bb; exact absurd bb (by decide)); rw [sL_w]; exact flw_s (y := x2) g3_0 (show (y3_5).toNatClampNeg < 60 from (by show (y3_5).toInt.toNat < 60; (first | have a0 := in_u i7 | (have a0 := i7; unfold In at a0)); (first | have a1 := in_u i36 | (have a1 := i36; unfold In at a1)); have a2 := t_add e36 i7 (in_c 1 rfl) rfl; (first | have a3 := in_u ((in_c 1 rfl)) | (have a3 := (in_c 1 rfl); unfold In at a3)); have oc := oc_383_109; (first | exact zt_l (by decide) (by omega) | omega))) (by rw [← e17]; exact e34) (fun o => ⟨fun q => ⟨yb, q⟩, fun q => q.2⟩) (show (z36).toNatClampNeg = (y3_5).toNatClampNeg + 1 from (by show (z36).toInt.toNat = (y3_5).toInt.toNat + 1; (first | have a0 := in_u i7 | (have a0 := i7; unfold In at a0)); (first | have a1 := in_u i36 | (have a1 := i36; unfold In at a1)); have a2 := t_add e36 i7 (in_c 1 rfl) rfl; (first | have a3 := in_u ((in_c 1 rfl)) | (have a3 := (in_c 1 rfl); unfold In at a3)); have oc := oc_383_109; (first | exact zt_s (by omega) (by omega) | omega)))
          exact gg_w (by first | exact Nat.le_add_right _ _ | exact gw2 | exact gw3 | exact gwe rfl | exact gwf rfl | exact gwg rfl | exact gwh rfl | omega) (gg_f (gf_cons rfl (gf_cons rfl (gf_cons rfl (gf_cons rfl gf_nil)))) (ih3 (sL sc3 175 y3_5.toNatClampNeg z34) z36 hI35 (fr_sL rfl hFc3) (in_w 0 60 i36 rfl) n3 (m_up mm3 (t_add e36 i7 (in_c 1 rfl) rfl) (in_w 1 1 (in_c 1 rfl) rfl))))
  refine g_enter2 (k := 383) (N := 55801) (by first | exact dq1 hd rfl | exact dq0 hd rfl | exact dq2 hd rfl | exact dq3 hd rfl | omega) rfl (Nat.le_of_ble_eq_true rfl) ?_
  refine g_iconst 0 1 (gd rfl) rfl rfl ?_
  refine g_istore 3 (gd rfl) rfl (Nat.le_of_ble_eq_true rfl) ?_
  have n3 : FLW (s.2.1 175) ((s).2.1 175) x1 x2 ((Int32.ofInt 0)).toNatClampNeg := by exact flw_0 rfl
  exact gg_w (by first | exact Nat.le_of_ble_eq_true rfl | omega) (gg_f (gf_cons rfl (gf_cons rfl (gf_cons rfl (gf_cons rfl gf_nil)))) (ct3 61 s (Int32.ofInt 0) hI fr_rf (in_w 0 60 (in_c 0 rfl) rfl) n3 (m_in 61 (in_w 0 60 (in_c 0 rfl) rfl) rfl)))

theorem oc_384_109 : (Int32.ofInt (-1)).toInt = (-1) ∧ (Int32.ofInt 0).toInt = 0 ∧ (Int32.ofInt 1).toInt = 1 ∧ (Int64.ofInt 0).toInt = 0 := ⟨rfl, rfl, rfl, rfl⟩
set_option maxHeartbeats 2000000 in
/-- GraphHouseModel.flush -/
theorem f_384 {Z : AmZ} {A : Nat → Nat} {s : GS} {ex : va_W} {d : Nat} {X : AmX}  (hd : 2 ≤ d) (hI : Inv s)  : GC Z d 384 [.ref (A 109)] (WW Z A s ++ ex) 0 0 (fun v u => ∃ t : GS, Inv t ∧ Fr fm_384 s t ∧ v = none ∧ u = WW Z A t ++ ex ∧ (∀ (k bg : Nat) (r : PSR), PKM s (lvN s) k bg r → PKM t (lvN s) k k (prG k (lvN s) bg r))) X := by
  intro post xp hP hX
  obtain ⟨u_109_96, e_109_96⟩ : ∃ w, w = s.2.2.1 109 96 := ⟨_, rfl⟩
  have ro_109_96 := inv_F hI 0 10 rfl e_109_96
  obtain ⟨u_109_99, e_109_99⟩ : ∃ w, w = s.2.2.1 109 99 := ⟨_, rfl⟩
  have ro_109_99 := inv_F hI 0 1 rfl e_109_99
  refine g_enter2 (k := 384) (N := 900) (by first | exact dq1 hd rfl | exact dq0 hd rfl | exact dq2 hd rfl | exact dq3 hd rfl | omega) rfl (Nat.le_of_ble_eq_true rfl) ?_
  refine g_aload_n 1 (gd rfl) rfl rfl ?_
  refine g_getZ 4 (gd rfl) rfl rfl rfl (fun z1 e1 => ?_)
  have i1 := inv_F hI 0 1 rfl e1
  refine g_if_eq 7 123 (gd rfl) rfl rfl (fun c4 => ?_) (fun c4 => ?_)
  · skip
    have i4 := z_eq 0 0 c4 i1 rfl
    refine g_aload_n 124 (gd rfl) rfl rfl ?_
    refine g_iconst 0 125 (gd rfl) rfl rfl ?_
    refine g_putZ 128 (gd rfl) rfl rfl rfl rfl (in01 (in_w 0 1 (in_c 0 rfl) rfl)) ?_
    have hI125 := inv_sF (q := 109) (j := 97) hI rfl (in_w 0 1 (in_c 0 rfl) rfl)
    refine g_aload_n 129 (gd rfl) rfl rfl ?_
    refine g_iconst 0 130 (gd rfl) rfl rfl ?_
    refine g_putZ 133 (gd rfl) rfl rfl rfl rfl (in01 (in_w 0 1 (in_c 0 rfl) rfl)) ?_
    have hI130 := inv_sF (q := 109) (j := 98) hI125 rfl (in_w 0 1 (in_c 0 rfl) rfl)
    have n133 : ∀ (k bg : Nat) (r : PSR), PKM s (lvN s) k bg r → PKM (sF (sF s 109 97 (Int32.ofInt 0)) 109 98 (Int32.ofInt 0)) (lvN s) k k (prG k (lvN s) bg r) := by have eD : lvN s = u_109_96.toNatClampNeg := congrArg Int32.toNatClampNeg e_109_96.symm; intro k bg r h; rw [eD] at h ⊢; exact pmk_n h (by rw [← e1]; (first | have a0 := in_u ro_109_99 | (have a0 := ro_109_99; unfold In at a0)); (first | have a1 := in_u ro_109_96 | (have a1 := ro_109_96; unfold In at a1)); (first | have a2 := in_u ((in_c 0 rfl)) | (have a2 := (in_c 0 rfl); unfold In at a2)); have oc := oc_384_109; omega) rfl rfl rfl rfl rfl rfl rfl rfl
    exact g_return (gd rfl) rfl (hP _ _ ⟨(sF (sF s 109 97 (Int32.ofInt 0)) 109 98 (Int32.ofInt 0)), hI130, (fr_sF rfl (fr_sF rfl fr_rf)), rfl, rfl, n133⟩)
  · skip
    have i4 := z_ne 1 1 c4 i1 rfl
    refine g_aload_n 8 (gd rfl) rfl rfl ?_
    refine g_aload_n 9 (gd rfl) rfl rfl ?_
    refine g_getA (q2 := 182) 12 (gd rfl) rfl rfl rfl rfl ?_
    refine g_aload_n 13 (gd rfl) rfl rfl ?_
    refine g_getI 16 (gd rfl) rfl rfl rfl (fun z13 e13 => ?_)
    have q13 : u_109_96 = z13 := (e_109_96).trans e13.symm
    subst q13
    refine g_laload 17 (gd rfl) rfl (n := 12) rfl (in_ix ro_109_96 rfl) (fun z16 e16 => ?_)
    refine g_aload_n 18 (gd rfl) rfl rfl ?_
    refine g_getL 21 (gd rfl) rfl rfl rfl (fun z18 e18 => ?_)
    refine g_callv (X := _) (As := [.long z16, .long z18]) (r := []) (b := A 109) (q := 109) 24 (gd rfl) rfl rfl rfl rfl rfl (ww_o rfl) (Nat.le_of_ble_eq_true rfl) (Nat.zero_le _) (Nat.zero_le _) (f_383 (by first | exact dq1 hd rfl | exact dq0 hd rfl | exact dq2 hd rfl | exact dq3 hd rfl | omega) hI ) (fun e u h => h) (fun v u h => ?_)
    obtain ⟨s21, hI21, hF21, rfl, rfl, p21⟩ := h
    show GG _ _ _ _ _ _ _ _ [] _ _ _
    refine g_aload_n 25 (gd rfl) rfl rfl ?_
    refine g_getA (q2 := 181) 28 (gd rfl) rfl rfl rfl rfl ?_
    refine g_aload_n 29 (gd rfl) rfl rfl ?_
    refine g_getI 32 (gd rfl) rfl rfl rfl (fun z29 e29 => ?_)
    have q29 : u_109_96 = z29 := (fr_F (e_109_96) hF21 rfl).trans e29.symm
    subst q29
    refine g_dup2 33 (gd rfl) rfl rfl rfl ?_
    refine g_laload 34 (gd rfl) rfl (n := 12) rfl (in_ix ro_109_96 rfl) (fun z33 e33 => ?_)
    refine g_aload_n 35 (gd rfl) rfl rfl ?_
    refine g_getA (q2 := 180) 38 (gd rfl) rfl rfl rfl rfl ?_
    refine g_aload_n 39 (gd rfl) rfl rfl ?_
    refine g_getI 42 (gd rfl) rfl rfl rfl (fun z39 e39 => ?_)
    have q39 : u_109_96 = z39 := (fr_F (e_109_96) hF21 rfl).trans e39.symm
    subst q39
    refine g_baload 43 (gd rfl) rfl (n := 12) rfl (in_ix ro_109_96 rfl) (fun z42 e42 => ?_)
    have i42 := inv_I hI21 (n := 12) (t := 3) 0 1 rfl (in_ix ro_109_96 rfl) rfl e42
    refine g_if_eq 46 53 (gd rfl) rfl rfl (fun c43 => ?_) (fun c43 => ?_)
    · skip
      have i43 := z_eq 0 0 c43 i42 rfl
      refine g_lconst 0 54 (gd rfl) rfl rfl ?_
      refine g_lor 55 (gd rfl) rfl (fun z54 e54 => ?_)
      refine g_lastore 56 (gd rfl) rfl (n := 12) rfl (in_ix ro_109_96 rfl) ?_
      have hI55 := inv_sL (q := 181) (j := u_109_96.toNatClampNeg) (x := z54) hI21 rfl (l_rng z54)
      refine g_aload_n 57 (gd rfl) rfl rfl ?_
      refine g_getA (q2 := 182) 60 (gd rfl) rfl rfl rfl rfl ?_
      refine g_aload_n 61 (gd rfl) rfl rfl ?_
      refine g_getI 64 (gd rfl) rfl rfl rfl (fun z61 e61 => ?_)
      have q61 : u_109_96 = z61 := (sL_F (fr_F (e_109_96) hF21 rfl)).trans e61.symm
      subst q61
      refine g_aload_n 65 (gd rfl) rfl rfl ?_
      refine g_getL 68 (gd rfl) rfl rfl rfl (fun z65 e65 => ?_)
      refine g_aload_n 69 (gd rfl) rfl rfl ?_
      refine g_getZ 72 (gd rfl) rfl rfl rfl (fun z69 e69 => ?_)
      have q69 : u_109_99 = z69 := (sL_F (fr_F (e_109_99) hF21 rfl)).trans e69.symm
      subst q69
      refine g_if_eq 75 87 (gd rfl) rfl rfl (fun c72 => ?_) (fun c72 => ?_)
      · skip
        have i72 := z_eq 0 0 c72 ro_109_99 rfl
        refine g_lconst 0 88 (gd rfl) rfl rfl ?_
        refine g_lor 89 (gd rfl) rfl (fun z88 e88 => ?_)
        refine g_lastore 90 (gd rfl) rfl (n := 12) rfl (in_ix ro_109_96 rfl) ?_
        have hI89 := inv_sL (q := 182) (j := u_109_96.toNatClampNeg) (x := z88) hI55 rfl (l_rng z88)
        refine g_aload_n 91 (gd rfl) rfl rfl ?_
        refine g_getA (q2 := 180) 94 (gd rfl) rfl rfl rfl rfl ?_
        refine g_aload_n 95 (gd rfl) rfl rfl ?_
        refine g_getI 98 (gd rfl) rfl rfl rfl (fun z95 e95 => ?_)
        have q95 : u_109_96 = z95 := (sL_F (sL_F (fr_F (e_109_96) hF21 rfl))).trans e95.symm
        subst q95
        refine g_aload_n 99 (gd rfl) rfl rfl ?_
        refine g_getA (q2 := 180) 102 (gd rfl) rfl rfl rfl rfl ?_
        refine g_aload_n 103 (gd rfl) rfl rfl ?_
        refine g_getI 106 (gd rfl) rfl rfl rfl (fun z103 e103 => ?_)
        have q103 : u_109_96 = z103 := (sL_F (sL_F (fr_F (e_109_96) hF21 rfl))).trans e103.symm
        subst q103
        refine g_baload 107 (gd rfl) rfl (n := 12) rfl (in_ix ro_109_96 rfl) (fun z106 e106 => ?_)
        have q106 : z42 = z106 := (sL_I (sL_I (e42))).trans e106.symm
        subst q106
        refine g_if_eq 110 121 (gd rfl) rfl rfl (fun c107 => ?_) (fun c107 => ?_)
        · skip
          refine g_iconst 0 122 (gd rfl) rfl rfl ?_
          refine g_bastore 123 (gd rfl) rfl (n := 12) rfl (in_ix ro_109_96 rfl) ?_
          have hI122 := inv_sI (q := 180) (j := u_109_96.toNatClampNeg) hI89 rfl (in_w 0 1 (nar01 (in_w 0 1 (in_c 0 rfl) rfl)) rfl)
          refine g_aload_n 124 (gd rfl) rfl rfl ?_
          refine g_iconst 0 125 (gd rfl) rfl rfl ?_
          refine g_putZ 128 (gd rfl) rfl rfl rfl rfl (in01 (in_w 0 1 (in_c 0 rfl) rfl)) ?_
          have hI125 := inv_sF (q := 109) (j := 97) hI122 rfl (in_w 0 1 (in_c 0 rfl) rfl)
          refine g_aload_n 129 (gd rfl) rfl rfl ?_
          refine g_iconst 0 130 (gd rfl) rfl rfl ?_
          refine g_putZ 133 (gd rfl) rfl rfl rfl rfl (in01 (in_w 0 1 (in_c 0 rfl) rfl)) ?_
          have hI130 := inv_sF (q := 109) (j := 98) hI125 rfl (in_w 0 1 (in_c 0 rfl) rfl)
          have n133 : ∀ (k bg : Nat) (r : PSR), PKM s (lvN s) k bg r → PKM (sF (sF (sI (sL (sL s21 181 u_109_96.toNatClampNeg z54) 182 u_109_96.toNatClampNeg z88) 180 u_109_96.toNatClampNeg (vp_nar .boolean (Int32.ofInt 0))) 109 97 (Int32.ofInt 0)) 109 98 (Int32.ofInt 0)) (lvN s) k k (prG k (lvN s) bg r) := by have eD : lvN s = u_109_96.toNatClampNeg := congrArg Int32.toNatClampNeg e_109_96.symm; have r42 : z42 = s.1 180 u_109_96.toNatClampNeg := e42.trans (congrFun (hF21.1 180 rfl) _); have r33 : z33 = s.2.1 181 u_109_96.toNatClampNeg := e33.trans (congrFun (hF21.2.1 181 rfl) _); have r65 : z65 = s.2.2.2.1 109 101 := e65.trans (hF21.2.2.2 109 101 rfl); intro k bg r h; rw [eD] at h ⊢; exact pmk_f (v := vp_nar .boolean (Int32.ofInt 0)) (z := z54) (w := z88) h (by rw [← e1]; (first | have a0 := in_u i72 | (have a0 := i72; unfold In at a0)); (first | have a1 := in_u ro_109_96 | (have a1 := ro_109_96; unfold In at a1)); (first | have a2 := in_u ((in_c 0 rfl)) | (have a2 := (in_c 0 rfl); unfold In at a2)); have oc := oc_384_109; omega) (congrArg (fun f => upd f u_109_96.toNatClampNeg (vp_nar .boolean (Int32.ofInt 0))) (hF21.1 180 rfl)) (⟨fun q => absurd (show (vp_nar .boolean (Int32.ofInt 0)).toInt = 0 from (by rw [nar_b (in_w 0 1 (in_c 0 rfl) rfl)]; rfl)) q, fun q => by rw [← r42, ← e_109_99] at q; exfalso; (first | have a0 := in_u i72 | (have a0 := i72; unfold In at a0)); (first | have a1 := in_u ro_109_96 | (have a1 := ro_109_96; unfold In at a1)); (first | have a2 := in_u ((in_c 0 rfl)) | (have a2 := (in_c 0 rfl); unfold In at a2)); have oc := oc_384_109; omega⟩) (congrArg (fun f => vp_updL f u_109_96.toNatClampNeg z54) (hF21.2.1 181 rfl)) (fun p => by rw [blx_or e54, Bool.or_eq_true, r33, blx_z]; exact ⟨fun q => q.imp id (fun q => (by cases q)), fun q => q.elim Or.inl (fun q => by have q9 := q.1; rw [← r42] at q9; exfalso; (first | have a0 := in_u i72 | (have a0 := i72; unfold In at a0)); (first | have a1 := in_u ro_109_96 | (have a1 := ro_109_96; unfold In at a1)); (first | have a2 := in_u ((in_c 0 rfl)) | (have a2 := (in_c 0 rfl); unfold In at a2)); have oc := oc_384_109; omega)⟩) (congrArg (fun f => vp_updL f u_109_96.toNatClampNeg z88) (hF21.2.1 182 rfl)) (fun p => by rw [blx_or e88, Bool.or_eq_true, r65, blx_z]; exact ⟨fun q => q.imp id (fun q => (by cases q)), fun q => q.elim Or.inl (fun q => by have q9 := q.1; rw [← e_109_99] at q9; exfalso; (first | have a0 := in_u i72 | (have a0 := i72; unfold In at a0)); (first | have a1 := in_u ro_109_96 | (have a1 := ro_109_96; unfold In at a1)); (first | have a2 := in_u ((in_c 0 rfl)) | (have a2 := (in_c 0 rfl); unfold In at a2)); have oc := oc_384_109; omega)⟩) (hF21.1 177 rfl) (hF21.2.1 178 rfl) (hF21.2.1 179 rfl) (by rw [← e16, ← e18]; exact p21) rfl
          exact g_return (gd rfl) rfl (hP _ _ ⟨(sF (sF (sI (sL (sL s21 181 u_109_96.toNatClampNeg z54) 182 u_109_96.toNatClampNeg z88) 180 u_109_96.toNatClampNeg (vp_nar .boolean (Int32.ofInt 0))) 109 97 (Int32.ofInt 0)) 109 98 (Int32.ofInt 0)), hI130, (fr_sF rfl (fr_sF rfl (fr_sI rfl (fr_sL rfl (fr_sL rfl (fr_tr rfl fr_rf hF21)))))), rfl, rfl, n133⟩)
        · skip
          exact zn_ne c107 i43 rfl
      · skip
        have i72 := z_ne 1 1 c72 ro_109_99 rfl
        refine g_aload_n 76 (gd rfl) rfl rfl ?_
        refine g_getA (q2 := 182) 79 (gd rfl) rfl rfl rfl rfl ?_
        refine g_aload_n 80 (gd rfl) rfl rfl ?_
        refine g_getI 83 (gd rfl) rfl rfl rfl (fun z80 e80 => ?_)
        have q80 : u_109_96 = z80 := (sL_F (fr_F (e_109_96) hF21 rfl)).trans e80.symm
        subst q80
        refine g_laload 84 (gd rfl) rfl (n := 12) rfl (in_ix ro_109_96 rfl) (fun z83 e83 => ?_)
        refine g_goto 88 (gd rfl) rfl ?_
        refine g_lor 89 (gd rfl) rfl (fun z88 e88 => ?_)
        refine g_lastore 90 (gd rfl) rfl (n := 12) rfl (in_ix ro_109_96 rfl) ?_
        have hI89 := inv_sL (q := 182) (j := u_109_96.toNatClampNeg) (x := z88) hI55 rfl (l_rng z88)
        refine g_aload_n 91 (gd rfl) rfl rfl ?_
        refine g_getA (q2 := 180) 94 (gd rfl) rfl rfl rfl rfl ?_
        refine g_aload_n 95 (gd rfl) rfl rfl ?_
        refine g_getI 98 (gd rfl) rfl rfl rfl (fun z95 e95 => ?_)
        have q95 : u_109_96 = z95 := (sL_F (sL_F (fr_F (e_109_96) hF21 rfl))).trans e95.symm
        subst q95
        refine g_aload_n 99 (gd rfl) rfl rfl ?_
        refine g_getA (q2 := 180) 102 (gd rfl) rfl rfl rfl rfl ?_
        refine g_aload_n 103 (gd rfl) rfl rfl ?_
        refine g_getI 106 (gd rfl) rfl rfl rfl (fun z103 e103 => ?_)
        have q103 : u_109_96 = z103 := (sL_F (sL_F (fr_F (e_109_96) hF21 rfl))).trans e103.symm
        subst q103
        refine g_baload 107 (gd rfl) rfl (n := 12) rfl (in_ix ro_109_96 rfl) (fun z106 e106 => ?_)
        have q106 : z42 = z106 := (sL_I (sL_I (e42))).trans e106.symm
        subst q106
        refine g_if_eq 110 121 (gd rfl) rfl rfl (fun c107 => ?_) (fun c107 => ?_)
        · skip
          refine g_iconst 0 122 (gd rfl) rfl rfl ?_
          refine g_bastore 123 (gd rfl) rfl (n := 12) rfl (in_ix ro_109_96 rfl) ?_
          have hI122 := inv_sI (q := 180) (j := u_109_96.toNatClampNeg) hI89 rfl (in_w 0 1 (nar01 (in_w 0 1 (in_c 0 rfl) rfl)) rfl)
          refine g_aload_n 124 (gd rfl) rfl rfl ?_
          refine g_iconst 0 125 (gd rfl) rfl rfl ?_
          refine g_putZ 128 (gd rfl) rfl rfl rfl rfl (in01 (in_w 0 1 (in_c 0 rfl) rfl)) ?_
          have hI125 := inv_sF (q := 109) (j := 97) hI122 rfl (in_w 0 1 (in_c 0 rfl) rfl)
          refine g_aload_n 129 (gd rfl) rfl rfl ?_
          refine g_iconst 0 130 (gd rfl) rfl rfl ?_
          refine g_putZ 133 (gd rfl) rfl rfl rfl rfl (in01 (in_w 0 1 (in_c 0 rfl) rfl)) ?_
          have hI130 := inv_sF (q := 109) (j := 98) hI125 rfl (in_w 0 1 (in_c 0 rfl) rfl)
          have n133 : ∀ (k bg : Nat) (r : PSR), PKM s (lvN s) k bg r → PKM (sF (sF (sI (sL (sL s21 181 u_109_96.toNatClampNeg z54) 182 u_109_96.toNatClampNeg z88) 180 u_109_96.toNatClampNeg (vp_nar .boolean (Int32.ofInt 0))) 109 97 (Int32.ofInt 0)) 109 98 (Int32.ofInt 0)) (lvN s) k k (prG k (lvN s) bg r) := by have eD : lvN s = u_109_96.toNatClampNeg := congrArg Int32.toNatClampNeg e_109_96.symm; have r42 : z42 = s.1 180 u_109_96.toNatClampNeg := e42.trans (congrFun (hF21.1 180 rfl) _); have r33 : z33 = s.2.1 181 u_109_96.toNatClampNeg := e33.trans (congrFun (hF21.2.1 181 rfl) _); have r65 : z65 = s.2.2.2.1 109 101 := e65.trans (hF21.2.2.2 109 101 rfl); have r83 : z83 = s.2.1 182 u_109_96.toNatClampNeg := e83.trans (congrFun ((sLx_o rfl).trans (hF21.2.1 182 rfl)) _); intro k bg r h; rw [eD] at h ⊢; exact pmk_f (v := vp_nar .boolean (Int32.ofInt 0)) (z := z54) (w := z88) h (by rw [← e1]; (first | have a0 := in_u i72 | (have a0 := i72; unfold In at a0)); (first | have a1 := in_u ro_109_96 | (have a1 := ro_109_96; unfold In at a1)); (first | have a2 := in_u ((in_c 0 rfl)) | (have a2 := (in_c 0 rfl); unfold In at a2)); have oc := oc_384_109; omega) (congrArg (fun f => upd f u_109_96.toNatClampNeg (vp_nar .boolean (Int32.ofInt 0))) (hF21.1 180 rfl)) (⟨fun q => absurd (show (vp_nar .boolean (Int32.ofInt 0)).toInt = 0 from (by rw [nar_b (in_w 0 1 (in_c 0 rfl) rfl)]; rfl)) q, fun q => by rw [← r42, ← e_109_99] at q; exfalso; (first | have a0 := in_u i72 | (have a0 := i72; unfold In at a0)); (first | have a1 := in_u ro_109_96 | (have a1 := ro_109_96; unfold In at a1)); (first | have a2 := in_u ((in_c 0 rfl)) | (have a2 := (in_c 0 rfl); unfold In at a2)); have oc := oc_384_109; omega⟩) (congrArg (fun f => vp_updL f u_109_96.toNatClampNeg z54) (hF21.2.1 181 rfl)) (fun p => by rw [blx_or e54, Bool.or_eq_true, r33, blx_z]; exact ⟨fun q => q.imp id (fun q => (by cases q)), fun q => q.elim Or.inl (fun q => by have q9 := q.1; rw [← r42] at q9; exfalso; (first | have a0 := in_u i72 | (have a0 := i72; unfold In at a0)); (first | have a1 := in_u ro_109_96 | (have a1 := ro_109_96; unfold In at a1)); (first | have a2 := in_u ((in_c 0 rfl)) | (have a2 := (in_c 0 rfl); unfold In at a2)); have oc := oc_384_109; omega)⟩) (congrArg (fun f => vp_updL f u_109_96.toNatClampNeg z88) (hF21.2.1 182 rfl)) (fun p => by rw [blx_or e88, Bool.or_eq_true, r65, r83]; exact ⟨fun q => q.imp id (fun q => ⟨by rw [← e_109_99]; (first | have a0 := in_u i72 | (have a0 := i72; unfold In at a0)); (first | have a1 := in_u ro_109_96 | (have a1 := ro_109_96; unfold In at a1)); (first | have a2 := in_u ((in_c 0 rfl)) | (have a2 := (in_c 0 rfl); unfold In at a2)); have oc := oc_384_109; omega, q⟩), fun q => q.imp id (fun q => q.2)⟩) (hF21.1 177 rfl) (hF21.2.1 178 rfl) (hF21.2.1 179 rfl) (by rw [← e16, ← e18]; exact p21) rfl
          exact g_return (gd rfl) rfl (hP _ _ ⟨(sF (sF (sI (sL (sL s21 181 u_109_96.toNatClampNeg z54) 182 u_109_96.toNatClampNeg z88) 180 u_109_96.toNatClampNeg (vp_nar .boolean (Int32.ofInt 0))) 109 97 (Int32.ofInt 0)) 109 98 (Int32.ofInt 0)), hI130, (fr_sF rfl (fr_sF rfl (fr_sI rfl (fr_sL rfl (fr_sL rfl (fr_tr rfl fr_rf hF21)))))), rfl, rfl, n133⟩)
        · skip
          exact zn_ne c107 i43 rfl
    · skip
      have i43 := z_ne 1 1 c43 i42 rfl
      refine g_aload_n 47 (gd rfl) rfl rfl ?_
      refine g_getL 50 (gd rfl) rfl rfl rfl (fun z47 e47 => ?_)
      refine g_goto 54 (gd rfl) rfl ?_
      refine g_lor 55 (gd rfl) rfl (fun z54 e54 => ?_)
      refine g_lastore 56 (gd rfl) rfl (n := 12) rfl (in_ix ro_109_96 rfl) ?_
      have hI55 := inv_sL (q := 181) (j := u_109_96.toNatClampNeg) (x := z54) hI21 rfl (l_rng z54)
      refine g_aload_n 57 (gd rfl) rfl rfl ?_
      refine g_getA (q2 := 182) 60 (gd rfl) rfl rfl rfl rfl ?_
      refine g_aload_n 61 (gd rfl) rfl rfl ?_
      refine g_getI 64 (gd rfl) rfl rfl rfl (fun z61 e61 => ?_)
      have q61 : u_109_96 = z61 := (sL_F (fr_F (e_109_96) hF21 rfl)).trans e61.symm
      subst q61
      refine g_aload_n 65 (gd rfl) rfl rfl ?_
      refine g_getL 68 (gd rfl) rfl rfl rfl (fun z65 e65 => ?_)
      refine g_aload_n 69 (gd rfl) rfl rfl ?_
      refine g_getZ 72 (gd rfl) rfl rfl rfl (fun z69 e69 => ?_)
      have q69 : u_109_99 = z69 := (sL_F (fr_F (e_109_99) hF21 rfl)).trans e69.symm
      subst q69
      refine g_if_eq 75 87 (gd rfl) rfl rfl (fun c72 => ?_) (fun c72 => ?_)
      · skip
        have i72 := z_eq 0 0 c72 ro_109_99 rfl
        refine g_lconst 0 88 (gd rfl) rfl rfl ?_
        refine g_lor 89 (gd rfl) rfl (fun z88 e88 => ?_)
        refine g_lastore 90 (gd rfl) rfl (n := 12) rfl (in_ix ro_109_96 rfl) ?_
        have hI89 := inv_sL (q := 182) (j := u_109_96.toNatClampNeg) (x := z88) hI55 rfl (l_rng z88)
        refine g_aload_n 91 (gd rfl) rfl rfl ?_
        refine g_getA (q2 := 180) 94 (gd rfl) rfl rfl rfl rfl ?_
        refine g_aload_n 95 (gd rfl) rfl rfl ?_
        refine g_getI 98 (gd rfl) rfl rfl rfl (fun z95 e95 => ?_)
        have q95 : u_109_96 = z95 := (sL_F (sL_F (fr_F (e_109_96) hF21 rfl))).trans e95.symm
        subst q95
        refine g_aload_n 99 (gd rfl) rfl rfl ?_
        refine g_getA (q2 := 180) 102 (gd rfl) rfl rfl rfl rfl ?_
        refine g_aload_n 103 (gd rfl) rfl rfl ?_
        refine g_getI 106 (gd rfl) rfl rfl rfl (fun z103 e103 => ?_)
        have q103 : u_109_96 = z103 := (sL_F (sL_F (fr_F (e_109_96) hF21 rfl))).trans e103.symm
        subst q103
        refine g_baload 107 (gd rfl) rfl (n := 12) rfl (in_ix ro_109_96 rfl) (fun z106 e106 => ?_)
        have q106 : z42 = z106 := (sL_I (sL_I (e42))).trans e106.symm
        subst q106
        refine g_if_eq 110 121 (gd rfl) rfl rfl (fun c107 => ?_) (fun c107 => ?_)
        · skip
          exact zn_eq c107 i43 rfl
        · skip
          refine g_aload_n 111 (gd rfl) rfl rfl ?_
          refine g_getZ 114 (gd rfl) rfl rfl rfl (fun z111 e111 => ?_)
          have q111 : u_109_99 = z111 := (sL_F (sL_F (fr_F (e_109_99) hF21 rfl))).trans e111.symm
          subst q111
          refine g_if_eq 117 121 (gd rfl) rfl rfl (fun c114 => ?_) (fun c114 => ?_)
          · skip
            refine g_iconst 0 122 (gd rfl) rfl rfl ?_
            refine g_bastore 123 (gd rfl) rfl (n := 12) rfl (in_ix ro_109_96 rfl) ?_
            have hI122 := inv_sI (q := 180) (j := u_109_96.toNatClampNeg) hI89 rfl (in_w 0 1 (nar01 (in_w 0 1 (in_c 0 rfl) rfl)) rfl)
            refine g_aload_n 124 (gd rfl) rfl rfl ?_
            refine g_iconst 0 125 (gd rfl) rfl rfl ?_
            refine g_putZ 128 (gd rfl) rfl rfl rfl rfl (in01 (in_w 0 1 (in_c 0 rfl) rfl)) ?_
            have hI125 := inv_sF (q := 109) (j := 97) hI122 rfl (in_w 0 1 (in_c 0 rfl) rfl)
            refine g_aload_n 129 (gd rfl) rfl rfl ?_
            refine g_iconst 0 130 (gd rfl) rfl rfl ?_
            refine g_putZ 133 (gd rfl) rfl rfl rfl rfl (in01 (in_w 0 1 (in_c 0 rfl) rfl)) ?_
            have hI130 := inv_sF (q := 109) (j := 98) hI125 rfl (in_w 0 1 (in_c 0 rfl) rfl)
            have n133 : ∀ (k bg : Nat) (r : PSR), PKM s (lvN s) k bg r → PKM (sF (sF (sI (sL (sL s21 181 u_109_96.toNatClampNeg z54) 182 u_109_96.toNatClampNeg z88) 180 u_109_96.toNatClampNeg (vp_nar .boolean (Int32.ofInt 0))) 109 97 (Int32.ofInt 0)) 109 98 (Int32.ofInt 0)) (lvN s) k k (prG k (lvN s) bg r) := by have eD : lvN s = u_109_96.toNatClampNeg := congrArg Int32.toNatClampNeg e_109_96.symm; have r42 : z42 = s.1 180 u_109_96.toNatClampNeg := e42.trans (congrFun (hF21.1 180 rfl) _); have r33 : z33 = s.2.1 181 u_109_96.toNatClampNeg := e33.trans (congrFun (hF21.2.1 181 rfl) _); have r65 : z65 = s.2.2.2.1 109 101 := e65.trans (hF21.2.2.2 109 101 rfl); have r47 : z47 = s.2.2.2.1 109 100 := e47.trans (hF21.2.2.2 109 100 rfl); intro k bg r h; rw [eD] at h ⊢; exact pmk_f (v := vp_nar .boolean (Int32.ofInt 0)) (z := z54) (w := z88) h (by rw [← e1]; (first | have a0 := in_u i72 | (have a0 := i72; unfold In at a0)); (first | have a1 := in_u ro_109_96 | (have a1 := ro_109_96; unfold In at a1)); (first | have a2 := in_u ((in_c 0 rfl)) | (have a2 := (in_c 0 rfl); unfold In at a2)); have oc := oc_384_109; omega) (congrArg (fun f => upd f u_109_96.toNatClampNeg (vp_nar .boolean (Int32.ofInt 0))) (hF21.1 180 rfl)) (⟨fun q => absurd (show (vp_nar .boolean (Int32.ofInt 0)).toInt = 0 from (by rw [nar_b (in_w 0 1 (in_c 0 rfl) rfl)]; rfl)) q, fun q => by rw [← r42, ← e_109_99] at q; exfalso; (first | have a0 := in_u i72 | (have a0 := i72; unfold In at a0)); (first | have a1 := in_u ro_109_96 | (have a1 := ro_109_96; unfold In at a1)); (first | have a2 := in_u ((in_c 0 rfl)) | (have a2 := (in_c 0 rfl); unfold In at a2)); have oc := oc_384_109; omega⟩) (congrArg (fun f => vp_updL f u_109_96.toNatClampNeg z54) (hF21.2.1 181 rfl)) (fun p => by rw [blx_or e54, Bool.or_eq_true, r33, r47]; exact ⟨fun q => q.imp id (fun q => ⟨by rw [← r42]; (first | have a0 := in_u i72 | (have a0 := i72; unfold In at a0)); (first | have a1 := in_u ro_109_96 | (have a1 := ro_109_96; unfold In at a1)); (first | have a2 := in_u ((in_c 0 rfl)) | (have a2 := (in_c 0 rfl); unfold In at a2)); have oc := oc_384_109; omega, q⟩), fun q => q.imp id (fun q => q.2)⟩) (congrArg (fun f => vp_updL f u_109_96.toNatClampNeg z88) (hF21.2.1 182 rfl)) (fun p => by rw [blx_or e88, Bool.or_eq_true, r65, blx_z]; exact ⟨fun q => q.imp id (fun q => (by cases q)), fun q => q.elim Or.inl (fun q => by have q9 := q.1; rw [← e_109_99] at q9; exfalso; (first | have a0 := in_u i72 | (have a0 := i72; unfold In at a0)); (first | have a1 := in_u ro_109_96 | (have a1 := ro_109_96; unfold In at a1)); (first | have a2 := in_u ((in_c 0 rfl)) | (have a2 := (in_c 0 rfl); unfold In at a2)); have oc := oc_384_109; omega)⟩) (hF21.1 177 rfl) (hF21.2.1 178 rfl) (hF21.2.1 179 rfl) (by rw [← e16, ← e18]; exact p21) rfl
            exact g_return (gd rfl) rfl (hP _ _ ⟨(sF (sF (sI (sL (sL s21 181 u_109_96.toNatClampNeg z54) 182 u_109_96.toNatClampNeg z88) 180 u_109_96.toNatClampNeg (vp_nar .boolean (Int32.ofInt 0))) 109 97 (Int32.ofInt 0)) 109 98 (Int32.ofInt 0)), hI130, (fr_sF rfl (fr_sF rfl (fr_sI rfl (fr_sL rfl (fr_sL rfl (fr_tr rfl fr_rf hF21)))))), rfl, rfl, n133⟩)
          · skip
            exact zn_ne c114 i72 rfl
      · skip
        have i72 := z_ne 1 1 c72 ro_109_99 rfl
        refine g_aload_n 76 (gd rfl) rfl rfl ?_
        refine g_getA (q2 := 182) 79 (gd rfl) rfl rfl rfl rfl ?_
        refine g_aload_n 80 (gd rfl) rfl rfl ?_
        refine g_getI 83 (gd rfl) rfl rfl rfl (fun z80 e80 => ?_)
        have q80 : u_109_96 = z80 := (sL_F (fr_F (e_109_96) hF21 rfl)).trans e80.symm
        subst q80
        refine g_laload 84 (gd rfl) rfl (n := 12) rfl (in_ix ro_109_96 rfl) (fun z83 e83 => ?_)
        refine g_goto 88 (gd rfl) rfl ?_
        refine g_lor 89 (gd rfl) rfl (fun z88 e88 => ?_)
        refine g_lastore 90 (gd rfl) rfl (n := 12) rfl (in_ix ro_109_96 rfl) ?_
        have hI89 := inv_sL (q := 182) (j := u_109_96.toNatClampNeg) (x := z88) hI55 rfl (l_rng z88)
        refine g_aload_n 91 (gd rfl) rfl rfl ?_
        refine g_getA (q2 := 180) 94 (gd rfl) rfl rfl rfl rfl ?_
        refine g_aload_n 95 (gd rfl) rfl rfl ?_
        refine g_getI 98 (gd rfl) rfl rfl rfl (fun z95 e95 => ?_)
        have q95 : u_109_96 = z95 := (sL_F (sL_F (fr_F (e_109_96) hF21 rfl))).trans e95.symm
        subst q95
        refine g_aload_n 99 (gd rfl) rfl rfl ?_
        refine g_getA (q2 := 180) 102 (gd rfl) rfl rfl rfl rfl ?_
        refine g_aload_n 103 (gd rfl) rfl rfl ?_
        refine g_getI 106 (gd rfl) rfl rfl rfl (fun z103 e103 => ?_)
        have q103 : u_109_96 = z103 := (sL_F (sL_F (fr_F (e_109_96) hF21 rfl))).trans e103.symm
        subst q103
        refine g_baload 107 (gd rfl) rfl (n := 12) rfl (in_ix ro_109_96 rfl) (fun z106 e106 => ?_)
        have q106 : z42 = z106 := (sL_I (sL_I (e42))).trans e106.symm
        subst q106
        refine g_if_eq 110 121 (gd rfl) rfl rfl (fun c107 => ?_) (fun c107 => ?_)
        · skip
          exact zn_eq c107 i43 rfl
        · skip
          refine g_aload_n 111 (gd rfl) rfl rfl ?_
          refine g_getZ 114 (gd rfl) rfl rfl rfl (fun z111 e111 => ?_)
          have q111 : u_109_99 = z111 := (sL_F (sL_F (fr_F (e_109_99) hF21 rfl))).trans e111.symm
          subst q111
          refine g_if_eq 117 121 (gd rfl) rfl rfl (fun c114 => ?_) (fun c114 => ?_)
          · skip
            exact zn_eq c114 i72 rfl
          · skip
            refine g_iconst 1 118 (gd rfl) rfl rfl ?_
            refine g_goto 122 (gd rfl) rfl ?_
            refine g_bastore 123 (gd rfl) rfl (n := 12) rfl (in_ix ro_109_96 rfl) ?_
            have hI122 := inv_sI (q := 180) (j := u_109_96.toNatClampNeg) hI89 rfl (in_w 0 1 (nar01 (in_w 0 1 (in_c 1 rfl) rfl)) rfl)
            refine g_aload_n 124 (gd rfl) rfl rfl ?_
            refine g_iconst 0 125 (gd rfl) rfl rfl ?_
            refine g_putZ 128 (gd rfl) rfl rfl rfl rfl (in01 (in_w 0 1 (in_c 0 rfl) rfl)) ?_
            have hI125 := inv_sF (q := 109) (j := 97) hI122 rfl (in_w 0 1 (in_c 0 rfl) rfl)
            refine g_aload_n 129 (gd rfl) rfl rfl ?_
            refine g_iconst 0 130 (gd rfl) rfl rfl ?_
            refine g_putZ 133 (gd rfl) rfl rfl rfl rfl (in01 (in_w 0 1 (in_c 0 rfl) rfl)) ?_
            have hI130 := inv_sF (q := 109) (j := 98) hI125 rfl (in_w 0 1 (in_c 0 rfl) rfl)
            have n133 : ∀ (k bg : Nat) (r : PSR), PKM s (lvN s) k bg r → PKM (sF (sF (sI (sL (sL s21 181 u_109_96.toNatClampNeg z54) 182 u_109_96.toNatClampNeg z88) 180 u_109_96.toNatClampNeg (vp_nar .boolean (Int32.ofInt 1))) 109 97 (Int32.ofInt 0)) 109 98 (Int32.ofInt 0)) (lvN s) k k (prG k (lvN s) bg r) := by have eD : lvN s = u_109_96.toNatClampNeg := congrArg Int32.toNatClampNeg e_109_96.symm; have r42 : z42 = s.1 180 u_109_96.toNatClampNeg := e42.trans (congrFun (hF21.1 180 rfl) _); have r33 : z33 = s.2.1 181 u_109_96.toNatClampNeg := e33.trans (congrFun (hF21.2.1 181 rfl) _); have r65 : z65 = s.2.2.2.1 109 101 := e65.trans (hF21.2.2.2 109 101 rfl); have r47 : z47 = s.2.2.2.1 109 100 := e47.trans (hF21.2.2.2 109 100 rfl); have r83 : z83 = s.2.1 182 u_109_96.toNatClampNeg := e83.trans (congrFun ((sLx_o rfl).trans (hF21.2.1 182 rfl)) _); intro k bg r h; rw [eD] at h ⊢; exact pmk_f (v := vp_nar .boolean (Int32.ofInt 1)) (z := z54) (w := z88) h (by rw [← e1]; (first | have a0 := in_u i72 | (have a0 := i72; unfold In at a0)); (first | have a1 := in_u ro_109_96 | (have a1 := ro_109_96; unfold In at a1)); (first | have a2 := in_u ((in_c 0 rfl)) | (have a2 := (in_c 0 rfl); unfold In at a2)); have oc := oc_384_109; omega) (congrArg (fun f => upd f u_109_96.toNatClampNeg (vp_nar .boolean (Int32.ofInt 1))) (hF21.1 180 rfl)) (⟨fun _ => by rw [← r42, ← e_109_99]; constructor; ((first | have a0 := in_u i72 | (have a0 := i72; unfold In at a0)); (first | have a1 := in_u ro_109_96 | (have a1 := ro_109_96; unfold In at a1)); (first | have a2 := in_u ((in_c 0 rfl)) | (have a2 := (in_c 0 rfl); unfold In at a2)); have oc := oc_384_109; omega); ((first | have a0 := in_u i72 | (have a0 := i72; unfold In at a0)); (first | have a1 := in_u ro_109_96 | (have a1 := ro_109_96; unfold In at a1)); (first | have a2 := in_u ((in_c 0 rfl)) | (have a2 := (in_c 0 rfl); unfold In at a2)); have oc := oc_384_109; omega), fun _ => (show (vp_nar .boolean (Int32.ofInt 1)).toInt ≠ 0 from (by rw [(show (vp_nar .boolean (Int32.ofInt 1)).toInt = 1 from (by rw [nar_b (in_w 0 1 (in_c 1 rfl) rfl)]; rfl))]; decide))⟩) (congrArg (fun f => vp_updL f u_109_96.toNatClampNeg z54) (hF21.2.1 181 rfl)) (fun p => by rw [blx_or e54, Bool.or_eq_true, r33, r47]; exact ⟨fun q => q.imp id (fun q => ⟨by rw [← r42]; (first | have a0 := in_u i72 | (have a0 := i72; unfold In at a0)); (first | have a1 := in_u ro_109_96 | (have a1 := ro_109_96; unfold In at a1)); (first | have a2 := in_u ((in_c 0 rfl)) | (have a2 := (in_c 0 rfl); unfold In at a2)); have oc := oc_384_109; omega, q⟩), fun q => q.imp id (fun q => q.2)⟩) (congrArg (fun f => vp_updL f u_109_96.toNatClampNeg z88) (hF21.2.1 182 rfl)) (fun p => by rw [blx_or e88, Bool.or_eq_true, r65, r83]; exact ⟨fun q => q.imp id (fun q => ⟨by rw [← e_109_99]; (first | have a0 := in_u i72 | (have a0 := i72; unfold In at a0)); (first | have a1 := in_u ro_109_96 | (have a1 := ro_109_96; unfold In at a1)); (first | have a2 := in_u ((in_c 0 rfl)) | (have a2 := (in_c 0 rfl); unfold In at a2)); have oc := oc_384_109; omega, q⟩), fun q => q.imp id (fun q => q.2)⟩) (hF21.1 177 rfl) (hF21.2.1 178 rfl) (hF21.2.1 179 rfl) (by rw [← e16, ← e18]; exact p21) rfl
            exact g_return (gd rfl) rfl (hP _ _ ⟨(sF (sF (sI (sL (sL s21 181 u_109_96.toNatClampNeg z54) 182 u_109_96.toNatClampNeg z88) 180 u_109_96.toNatClampNeg (vp_nar .boolean (Int32.ofInt 1))) 109 97 (Int32.ofInt 0)) 109 98 (Int32.ofInt 0)), hI130, (fr_sF rfl (fr_sF rfl (fr_sI rfl (fr_sL rfl (fr_sL rfl (fr_tr rfl fr_rf hF21)))))), rfl, rfl, n133⟩)

theorem oc_385_109 : (Int32.ofInt (-1)).toInt = (-1) ∧ (Int32.ofInt 0).toInt = 0 ∧ (Int32.ofInt 1).toInt = 1 := ⟨rfl, rfl, rfl⟩
set_option maxHeartbeats 2000000 in
/-- GraphHouseModel.endSequence -/
theorem f_385 {Z : AmZ} {A : Nat → Nat} {s : GS} {ex : va_W} {d : Nat} {X : AmX}  (hd : 3 ≤ d) (hI : Inv s)  : GC Z d 385 [.ref (A 109)] (WW Z A s ++ ex) 0 0 (fun v u => ∃ t : GS, Inv t ∧ Fr fm_385 s t ∧ v = none ∧ u = WW Z A t ++ ex ∧ (∀ (k bg : Nat) (r : PSR), PKM s (lvN s) k bg r → PKM t (lvN s) k k (prA (lvN s) (prG k (lvN s) bg r)))) X := by
  intro post xp hP hX
  obtain ⟨u_109_96, e_109_96⟩ : ∃ w, w = s.2.2.1 109 96 := ⟨_, rfl⟩
  have ro_109_96 := inv_F hI 0 10 rfl e_109_96
  refine g_enter2 (k := 385) (N := 900) (by first | exact dq1 hd rfl | exact dq0 hd rfl | exact dq2 hd rfl | exact dq3 hd rfl | omega) rfl (Nat.le_of_ble_eq_true rfl) ?_
  refine g_aload_n 1 (gd rfl) rfl rfl ?_
  refine g_callv (X := _) (As := []) (r := []) (b := A 109) (q := 109) 4 (gd rfl) rfl rfl rfl rfl rfl (ww_o rfl) (Nat.le_of_ble_eq_true rfl) (Nat.zero_le _) (Nat.zero_le _) (f_384 (by first | exact dq1 hd rfl | exact dq0 hd rfl | exact dq2 hd rfl | exact dq3 hd rfl | omega) hI ) (fun e u h => h) (fun v u h => ?_)
  obtain ⟨s1, hI1, hF1, rfl, rfl, p1⟩ := h
  show GG _ _ _ _ _ _ _ _ [] _ _ _
  refine g_aload_n 5 (gd rfl) rfl rfl ?_
  refine g_getA (q2 := 176) 8 (gd rfl) rfl rfl rfl rfl ?_
  refine g_aload_n 9 (gd rfl) rfl rfl ?_
  refine g_getI 12 (gd rfl) rfl rfl rfl (fun z9 e9 => ?_)
  have q9 : u_109_96 = z9 := (fr_F (e_109_96) hF1 rfl).trans e9.symm
  subst q9
  refine g_iconst 1 13 (gd rfl) rfl rfl ?_
  refine g_bastore 14 (gd rfl) rfl (n := 12) rfl (in_ix ro_109_96 rfl) ?_
  have hI13 := inv_sI (q := 176) (j := u_109_96.toNatClampNeg) hI1 rfl (in_w 0 1 (nar01 (in_w 0 1 (in_c 1 rfl) rfl)) rfl)
  refine g_aload_n 15 (gd rfl) rfl rfl ?_
  refine g_getA (q2 := 177) 18 (gd rfl) rfl rfl rfl rfl ?_
  refine g_aload_n 19 (gd rfl) rfl rfl ?_
  refine g_getI 22 (gd rfl) rfl rfl rfl (fun z19 e19 => ?_)
  have q19 : u_109_96 = z19 := (sI_F (fr_F (e_109_96) hF1 rfl)).trans e19.symm
  subst q19
  refine g_aload_n 23 (gd rfl) rfl rfl ?_
  refine g_getA (q2 := 177) 26 (gd rfl) rfl rfl rfl rfl ?_
  refine g_aload_n 27 (gd rfl) rfl rfl ?_
  refine g_getI 30 (gd rfl) rfl rfl rfl (fun z27 e27 => ?_)
  have q27 : u_109_96 = z27 := (sI_F (fr_F (e_109_96) hF1 rfl)).trans e27.symm
  subst q27
  refine g_baload 31 (gd rfl) rfl (n := 12) rfl (in_ix ro_109_96 rfl) (fun z30 e30 => ?_)
  have i30 := inv_I hI13 (n := 12) (t := 3) 0 1 rfl (in_ix ro_109_96 rfl) rfl e30
  refine g_if_ne 34 46 (gd rfl) rfl rfl (fun c31 => ?_) (fun c31 => ?_)
  · skip
    have i31 := z_ne 1 1 c31 i30 rfl
    refine g_iconst 1 47 (gd rfl) rfl rfl ?_
    refine g_goto 51 (gd rfl) rfl ?_
    refine g_bastore 52 (gd rfl) rfl (n := 12) rfl (in_ix ro_109_96 rfl) ?_
    have hI51 := inv_sI (q := 177) (j := u_109_96.toNatClampNeg) hI13 rfl (in_w 0 1 (nar01 (in_w 0 1 (in_c 1 rfl) rfl)) rfl)
    refine g_aload_n 53 (gd rfl) rfl rfl ?_
    refine g_getA (q2 := 178) 56 (gd rfl) rfl rfl rfl rfl ?_
    refine g_aload_n 57 (gd rfl) rfl rfl ?_
    refine g_getI 60 (gd rfl) rfl rfl rfl (fun z57 e57 => ?_)
    have q57 : u_109_96 = z57 := (sI_F (sI_F (fr_F (e_109_96) hF1 rfl))).trans e57.symm
    subst q57
    refine g_dup2 61 (gd rfl) rfl rfl rfl ?_
    refine g_laload 62 (gd rfl) rfl (n := 12) rfl (in_ix ro_109_96 rfl) (fun z61 e61 => ?_)
    refine g_aload_n 63 (gd rfl) rfl rfl ?_
    refine g_getA (q2 := 181) 66 (gd rfl) rfl rfl rfl rfl ?_
    refine g_aload_n 67 (gd rfl) rfl rfl ?_
    refine g_getI 70 (gd rfl) rfl rfl rfl (fun z67 e67 => ?_)
    have q67 : u_109_96 = z67 := (sI_F (sI_F (fr_F (e_109_96) hF1 rfl))).trans e67.symm
    subst q67
    refine g_laload 71 (gd rfl) rfl (n := 12) rfl (in_ix ro_109_96 rfl) (fun z70 e70 => ?_)
    refine g_lor 72 (gd rfl) rfl (fun z71 e71 => ?_)
    refine g_lastore 73 (gd rfl) rfl (n := 12) rfl (in_ix ro_109_96 rfl) ?_
    have hI72 := inv_sL (q := 178) (j := u_109_96.toNatClampNeg) (x := z71) hI51 rfl (l_rng z71)
    refine g_aload_n 74 (gd rfl) rfl rfl ?_
    refine g_getA (q2 := 179) 77 (gd rfl) rfl rfl rfl rfl ?_
    refine g_aload_n 78 (gd rfl) rfl rfl ?_
    refine g_getI 81 (gd rfl) rfl rfl rfl (fun z78 e78 => ?_)
    have q78 : u_109_96 = z78 := (sL_F (sI_F (sI_F (fr_F (e_109_96) hF1 rfl)))).trans e78.symm
    subst q78
    refine g_dup2 82 (gd rfl) rfl rfl rfl ?_
    refine g_laload 83 (gd rfl) rfl (n := 12) rfl (in_ix ro_109_96 rfl) (fun z82 e82 => ?_)
    refine g_aload_n 84 (gd rfl) rfl rfl ?_
    refine g_getA (q2 := 182) 87 (gd rfl) rfl rfl rfl rfl ?_
    refine g_aload_n 88 (gd rfl) rfl rfl ?_
    refine g_getI 91 (gd rfl) rfl rfl rfl (fun z88 e88 => ?_)
    have q88 : u_109_96 = z88 := (sL_F (sI_F (sI_F (fr_F (e_109_96) hF1 rfl)))).trans e88.symm
    subst q88
    refine g_laload 92 (gd rfl) rfl (n := 12) rfl (in_ix ro_109_96 rfl) (fun z91 e91 => ?_)
    refine g_lor 93 (gd rfl) rfl (fun z92 e92 => ?_)
    refine g_lastore 94 (gd rfl) rfl (n := 12) rfl (in_ix ro_109_96 rfl) ?_
    have hI93 := inv_sL (q := 179) (j := u_109_96.toNatClampNeg) (x := z92) hI72 rfl (l_rng z92)
    have n94 : ∀ (k bg : Nat) (r : PSR), PKM s (lvN s) k bg r → PKM (sL (sL (sI (sI s1 176 u_109_96.toNatClampNeg (vp_nar .boolean (Int32.ofInt 1))) 177 u_109_96.toNatClampNeg (vp_nar .boolean (Int32.ofInt 1))) 178 u_109_96.toNatClampNeg z71) 179 u_109_96.toNatClampNeg z92) (lvN s) k k (prA (lvN s) (prG k (lvN s) bg r)) := by have eD : lvN s = u_109_96.toNatClampNeg := congrArg Int32.toNatClampNeg e_109_96.symm; have r30 : z30 = s1.1 177 u_109_96.toNatClampNeg := e30; intro k bg r h; have p9 := p1 k bg r h; rw [eD] at p9 ⊢; exact pmk_a (az := z71) (aw := z92) p9 rfl rfl rfl rfl (by exact ⟨fun _ => Or.inl (by rw [← r30]; (first | have a0 := in_u ro_109_96 | (have a0 := ro_109_96; unfold In at a0)); have oc := oc_385_109; omega), fun _ => (show (vp_nar .boolean (Int32.ofInt 1)).toInt ≠ 0 from (by rw [(show (vp_nar .boolean (Int32.ofInt 1)).toInt = 1 from (by rw [nar_b (in_w 0 1 (in_c 1 rfl) rfl)]; rfl))]; decide))⟩) rfl (by rw [← (show z61 = s1.2.1 178 u_109_96.toNatClampNeg from e61), ← (show z70 = s1.2.1 181 u_109_96.toNatClampNeg from e70)]; exact e71) rfl (by rw [← (show z82 = s1.2.1 179 u_109_96.toNatClampNeg from e82), ← (show z91 = s1.2.1 182 u_109_96.toNatClampNeg from e91)]; exact e92) rfl rfl
    exact g_return (gd rfl) rfl (hP _ _ ⟨(sL (sL (sI (sI s1 176 u_109_96.toNatClampNeg (vp_nar .boolean (Int32.ofInt 1))) 177 u_109_96.toNatClampNeg (vp_nar .boolean (Int32.ofInt 1))) 178 u_109_96.toNatClampNeg z71) 179 u_109_96.toNatClampNeg z92), hI93, (fr_sL rfl (fr_sL rfl (fr_sI rfl (fr_sI rfl (fr_tr rfl fr_rf hF1))))), rfl, rfl, n94⟩)
  · skip
    have i31 := z_eq 0 0 c31 i30 rfl
    refine g_aload_n 35 (gd rfl) rfl rfl ?_
    refine g_getA (q2 := 180) 38 (gd rfl) rfl rfl rfl rfl ?_
    refine g_aload_n 39 (gd rfl) rfl rfl ?_
    refine g_getI 42 (gd rfl) rfl rfl rfl (fun z39 e39 => ?_)
    have q39 : u_109_96 = z39 := (sI_F (fr_F (e_109_96) hF1 rfl)).trans e39.symm
    subst q39
    refine g_baload 43 (gd rfl) rfl (n := 12) rfl (in_ix ro_109_96 rfl) (fun z42 e42 => ?_)
    have i42 := inv_I hI13 (n := 12) (t := 3) 0 1 rfl (in_ix ro_109_96 rfl) rfl e42
    refine g_if_eq 46 50 (gd rfl) rfl rfl (fun c43 => ?_) (fun c43 => ?_)
    · skip
      have i43 := z_eq 0 0 c43 i42 rfl
      refine g_iconst 0 51 (gd rfl) rfl rfl ?_
      refine g_bastore 52 (gd rfl) rfl (n := 12) rfl (in_ix ro_109_96 rfl) ?_
      have hI51 := inv_sI (q := 177) (j := u_109_96.toNatClampNeg) hI13 rfl (in_w 0 1 (nar01 (in_w 0 1 (in_c 0 rfl) rfl)) rfl)
      refine g_aload_n 53 (gd rfl) rfl rfl ?_
      refine g_getA (q2 := 178) 56 (gd rfl) rfl rfl rfl rfl ?_
      refine g_aload_n 57 (gd rfl) rfl rfl ?_
      refine g_getI 60 (gd rfl) rfl rfl rfl (fun z57 e57 => ?_)
      have q57 : u_109_96 = z57 := (sI_F (sI_F (fr_F (e_109_96) hF1 rfl))).trans e57.symm
      subst q57
      refine g_dup2 61 (gd rfl) rfl rfl rfl ?_
      refine g_laload 62 (gd rfl) rfl (n := 12) rfl (in_ix ro_109_96 rfl) (fun z61 e61 => ?_)
      refine g_aload_n 63 (gd rfl) rfl rfl ?_
      refine g_getA (q2 := 181) 66 (gd rfl) rfl rfl rfl rfl ?_
      refine g_aload_n 67 (gd rfl) rfl rfl ?_
      refine g_getI 70 (gd rfl) rfl rfl rfl (fun z67 e67 => ?_)
      have q67 : u_109_96 = z67 := (sI_F (sI_F (fr_F (e_109_96) hF1 rfl))).trans e67.symm
      subst q67
      refine g_laload 71 (gd rfl) rfl (n := 12) rfl (in_ix ro_109_96 rfl) (fun z70 e70 => ?_)
      refine g_lor 72 (gd rfl) rfl (fun z71 e71 => ?_)
      refine g_lastore 73 (gd rfl) rfl (n := 12) rfl (in_ix ro_109_96 rfl) ?_
      have hI72 := inv_sL (q := 178) (j := u_109_96.toNatClampNeg) (x := z71) hI51 rfl (l_rng z71)
      refine g_aload_n 74 (gd rfl) rfl rfl ?_
      refine g_getA (q2 := 179) 77 (gd rfl) rfl rfl rfl rfl ?_
      refine g_aload_n 78 (gd rfl) rfl rfl ?_
      refine g_getI 81 (gd rfl) rfl rfl rfl (fun z78 e78 => ?_)
      have q78 : u_109_96 = z78 := (sL_F (sI_F (sI_F (fr_F (e_109_96) hF1 rfl)))).trans e78.symm
      subst q78
      refine g_dup2 82 (gd rfl) rfl rfl rfl ?_
      refine g_laload 83 (gd rfl) rfl (n := 12) rfl (in_ix ro_109_96 rfl) (fun z82 e82 => ?_)
      refine g_aload_n 84 (gd rfl) rfl rfl ?_
      refine g_getA (q2 := 182) 87 (gd rfl) rfl rfl rfl rfl ?_
      refine g_aload_n 88 (gd rfl) rfl rfl ?_
      refine g_getI 91 (gd rfl) rfl rfl rfl (fun z88 e88 => ?_)
      have q88 : u_109_96 = z88 := (sL_F (sI_F (sI_F (fr_F (e_109_96) hF1 rfl)))).trans e88.symm
      subst q88
      refine g_laload 92 (gd rfl) rfl (n := 12) rfl (in_ix ro_109_96 rfl) (fun z91 e91 => ?_)
      refine g_lor 93 (gd rfl) rfl (fun z92 e92 => ?_)
      refine g_lastore 94 (gd rfl) rfl (n := 12) rfl (in_ix ro_109_96 rfl) ?_
      have hI93 := inv_sL (q := 179) (j := u_109_96.toNatClampNeg) (x := z92) hI72 rfl (l_rng z92)
      have n94 : ∀ (k bg : Nat) (r : PSR), PKM s (lvN s) k bg r → PKM (sL (sL (sI (sI s1 176 u_109_96.toNatClampNeg (vp_nar .boolean (Int32.ofInt 1))) 177 u_109_96.toNatClampNeg (vp_nar .boolean (Int32.ofInt 0))) 178 u_109_96.toNatClampNeg z71) 179 u_109_96.toNatClampNeg z92) (lvN s) k k (prA (lvN s) (prG k (lvN s) bg r)) := by have eD : lvN s = u_109_96.toNatClampNeg := congrArg Int32.toNatClampNeg e_109_96.symm; have r30 : z30 = s1.1 177 u_109_96.toNatClampNeg := e30; have r42 : z42 = s1.1 180 u_109_96.toNatClampNeg := e42; intro k bg r h; have p9 := p1 k bg r h; rw [eD] at p9 ⊢; exact pmk_a (az := z71) (aw := z92) p9 rfl rfl rfl rfl (by first | exact ⟨fun _ => Or.inr (by rw [← r42]; (first | have a0 := in_u ro_109_96 | (have a0 := ro_109_96; unfold In at a0)); have oc := oc_385_109; omega), fun _ => (show (vp_nar .boolean (Int32.ofInt 1)).toInt ≠ 0 from (by rw [(show (vp_nar .boolean (Int32.ofInt 1)).toInt = 1 from (by rw [nar_b (in_w 0 1 (in_c 1 rfl) rfl)]; rfl))]; decide))⟩ | exact ⟨fun q => absurd (show (vp_nar .boolean (Int32.ofInt 0)).toInt = 0 from (by rw [nar_b (in_w 0 1 (in_c 0 rfl) rfl)]; rfl)) q, fun q => by rw [← r30, ← r42] at q; exfalso; (first | have a0 := in_u ro_109_96 | (have a0 := ro_109_96; unfold In at a0)); have oc := oc_385_109; omega⟩) rfl (by rw [← (show z61 = s1.2.1 178 u_109_96.toNatClampNeg from e61), ← (show z70 = s1.2.1 181 u_109_96.toNatClampNeg from e70)]; exact e71) rfl (by rw [← (show z82 = s1.2.1 179 u_109_96.toNatClampNeg from e82), ← (show z91 = s1.2.1 182 u_109_96.toNatClampNeg from e91)]; exact e92) rfl rfl
      exact g_return (gd rfl) rfl (hP _ _ ⟨(sL (sL (sI (sI s1 176 u_109_96.toNatClampNeg (vp_nar .boolean (Int32.ofInt 1))) 177 u_109_96.toNatClampNeg (vp_nar .boolean (Int32.ofInt 0))) 178 u_109_96.toNatClampNeg z71) 179 u_109_96.toNatClampNeg z92), hI93, (fr_sL rfl (fr_sL rfl (fr_sI rfl (fr_sI rfl (fr_tr rfl fr_rf hF1))))), rfl, rfl, n94⟩)
    · skip
      have i43 := z_ne 1 1 c43 i42 rfl
      refine g_iconst 1 47 (gd rfl) rfl rfl ?_
      refine g_goto 51 (gd rfl) rfl ?_
      refine g_bastore 52 (gd rfl) rfl (n := 12) rfl (in_ix ro_109_96 rfl) ?_
      have hI51 := inv_sI (q := 177) (j := u_109_96.toNatClampNeg) hI13 rfl (in_w 0 1 (nar01 (in_w 0 1 (in_c 1 rfl) rfl)) rfl)
      refine g_aload_n 53 (gd rfl) rfl rfl ?_
      refine g_getA (q2 := 178) 56 (gd rfl) rfl rfl rfl rfl ?_
      refine g_aload_n 57 (gd rfl) rfl rfl ?_
      refine g_getI 60 (gd rfl) rfl rfl rfl (fun z57 e57 => ?_)
      have q57 : u_109_96 = z57 := (sI_F (sI_F (fr_F (e_109_96) hF1 rfl))).trans e57.symm
      subst q57
      refine g_dup2 61 (gd rfl) rfl rfl rfl ?_
      refine g_laload 62 (gd rfl) rfl (n := 12) rfl (in_ix ro_109_96 rfl) (fun z61 e61 => ?_)
      refine g_aload_n 63 (gd rfl) rfl rfl ?_
      refine g_getA (q2 := 181) 66 (gd rfl) rfl rfl rfl rfl ?_
      refine g_aload_n 67 (gd rfl) rfl rfl ?_
      refine g_getI 70 (gd rfl) rfl rfl rfl (fun z67 e67 => ?_)
      have q67 : u_109_96 = z67 := (sI_F (sI_F (fr_F (e_109_96) hF1 rfl))).trans e67.symm
      subst q67
      refine g_laload 71 (gd rfl) rfl (n := 12) rfl (in_ix ro_109_96 rfl) (fun z70 e70 => ?_)
      refine g_lor 72 (gd rfl) rfl (fun z71 e71 => ?_)
      refine g_lastore 73 (gd rfl) rfl (n := 12) rfl (in_ix ro_109_96 rfl) ?_
      have hI72 := inv_sL (q := 178) (j := u_109_96.toNatClampNeg) (x := z71) hI51 rfl (l_rng z71)
      refine g_aload_n 74 (gd rfl) rfl rfl ?_
      refine g_getA (q2 := 179) 77 (gd rfl) rfl rfl rfl rfl ?_
      refine g_aload_n 78 (gd rfl) rfl rfl ?_
      refine g_getI 81 (gd rfl) rfl rfl rfl (fun z78 e78 => ?_)
      have q78 : u_109_96 = z78 := (sL_F (sI_F (sI_F (fr_F (e_109_96) hF1 rfl)))).trans e78.symm
      subst q78
      refine g_dup2 82 (gd rfl) rfl rfl rfl ?_
      refine g_laload 83 (gd rfl) rfl (n := 12) rfl (in_ix ro_109_96 rfl) (fun z82 e82 => ?_)
      refine g_aload_n 84 (gd rfl) rfl rfl ?_
      refine g_getA (q2 := 182) 87 (gd rfl) rfl rfl rfl rfl ?_
      refine g_aload_n 88 (gd rfl) rfl rfl ?_
      refine g_getI 91 (gd rfl) rfl rfl rfl (fun z88 e88 => ?_)
      have q88 : u_109_96 = z88 := (sL_F (sI_F (sI_F (fr_F (e_109_96) hF1 rfl)))).trans e88.symm
      subst q88
      refine g_laload 92 (gd rfl) rfl (n := 12) rfl (in_ix ro_109_96 rfl) (fun z91 e91 => ?_)
      refine g_lor 93 (gd rfl) rfl (fun z92 e92 => ?_)
      refine g_lastore 94 (gd rfl) rfl (n := 12) rfl (in_ix ro_109_96 rfl) ?_
      have hI93 := inv_sL (q := 179) (j := u_109_96.toNatClampNeg) (x := z92) hI72 rfl (l_rng z92)
      have n94 : ∀ (k bg : Nat) (r : PSR), PKM s (lvN s) k bg r → PKM (sL (sL (sI (sI s1 176 u_109_96.toNatClampNeg (vp_nar .boolean (Int32.ofInt 1))) 177 u_109_96.toNatClampNeg (vp_nar .boolean (Int32.ofInt 1))) 178 u_109_96.toNatClampNeg z71) 179 u_109_96.toNatClampNeg z92) (lvN s) k k (prA (lvN s) (prG k (lvN s) bg r)) := by have eD : lvN s = u_109_96.toNatClampNeg := congrArg Int32.toNatClampNeg e_109_96.symm; have r30 : z30 = s1.1 177 u_109_96.toNatClampNeg := e30; have r42 : z42 = s1.1 180 u_109_96.toNatClampNeg := e42; intro k bg r h; have p9 := p1 k bg r h; rw [eD] at p9 ⊢; exact pmk_a (az := z71) (aw := z92) p9 rfl rfl rfl rfl (by first | exact ⟨fun _ => Or.inr (by rw [← r42]; (first | have a0 := in_u ro_109_96 | (have a0 := ro_109_96; unfold In at a0)); have oc := oc_385_109; omega), fun _ => (show (vp_nar .boolean (Int32.ofInt 1)).toInt ≠ 0 from (by rw [(show (vp_nar .boolean (Int32.ofInt 1)).toInt = 1 from (by rw [nar_b (in_w 0 1 (in_c 1 rfl) rfl)]; rfl))]; decide))⟩ | exact ⟨fun q => absurd (show (vp_nar .boolean (Int32.ofInt 0)).toInt = 0 from (by rw [nar_b (in_w 0 1 (in_c 0 rfl) rfl)]; rfl)) q, fun q => by rw [← r30, ← r42] at q; exfalso; (first | have a0 := in_u ro_109_96 | (have a0 := ro_109_96; unfold In at a0)); have oc := oc_385_109; omega⟩) rfl (by rw [← (show z61 = s1.2.1 178 u_109_96.toNatClampNeg from e61), ← (show z70 = s1.2.1 181 u_109_96.toNatClampNeg from e70)]; exact e71) rfl (by rw [← (show z82 = s1.2.1 179 u_109_96.toNatClampNeg from e82), ← (show z91 = s1.2.1 182 u_109_96.toNatClampNeg from e91)]; exact e92) rfl rfl
      exact g_return (gd rfl) rfl (hP _ _ ⟨(sL (sL (sI (sI s1 176 u_109_96.toNatClampNeg (vp_nar .boolean (Int32.ofInt 1))) 177 u_109_96.toNatClampNeg (vp_nar .boolean (Int32.ofInt 1))) 178 u_109_96.toNatClampNeg z71) 179 u_109_96.toNatClampNeg z92), hI93, (fr_sL rfl (fr_sL rfl (fr_sI rfl (fr_sI rfl (fr_tr rfl fr_rf hF1))))), rfl, rfl, n94⟩)
