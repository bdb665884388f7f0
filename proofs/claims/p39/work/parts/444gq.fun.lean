/-! FUNCTIONAL CONTRACTS, by fgen.py -/
set_option maxHeartbeats 4000000 in
/-- GraphHouse$Ways.countBy -/
theorem f_203_49_32 {Z : AmZ} {A : Nat → Nat} {s : GS} {ex : va_W} {d : Nat} {X : AmX} {x2 : Int32} {x3 : Int32} {x4 : Int32} (hd : 5 ≤ d) (hI : Inv s) (h2 : In x2 0 31) (h3 : In x3 0 31) (h4 : In x4 0 31) (q_0 : TQD s) (q_1 : NDQ (gvD s)) : GC Z d 203 [.ref (A 49), .ref (A 32), .int x2, .int x3, .int x4] (WW Z A s ++ ex) 0 0 (fun v u => ∃ t : GS, Inv t ∧ Fr fm_203_49_32 s t ∧ ∃ z : Int32, v = some (.int z) ∧ u = WW Z A t ++ ex ∧ In z (-2147483648) 2147483647 ∧ (SHC (gvD s) (x2).toNatClampNeg (x3).toNatClampNeg (x4).toNatClampNeg (z).toInt)) X := by
  intro post xp hP hX
  refine g_enter2 (k := 203) (N := 900) (by first | exact dq1 hd rfl | exact dq0 hd rfl | exact dq2 hd rfl | exact dq3 hd rfl | omega) rfl (Nat.le_of_ble_eq_true rfl) ?_
  refine g_aload_n 1 (gd rfl) rfl rfl ?_
  refine g_aload_n 2 (gd rfl) rfl rfl ?_
  refine g_iload_n 3 (gd rfl) rfl rfl ?_
  have p3 : TQD s := by exact q_0
  have p3a : NDQ (gvD s) := by exact q_1
  refine g_callv (X := _) (As := [.ref (A 32), .int x2]) (r := []) (b := A 49) (q := 49) 6 (gd rfl) rfl rfl rfl rfl rfl (ww_o rfl) (Nat.le_of_ble_eq_true rfl) (Nat.zero_le _) (Nat.zero_le _) (f_204_49_32 (by first | exact dq1 hd rfl | exact dq0 hd rfl | exact dq2 hd rfl | exact dq3 hd rfl | omega) hI (in_w 0 31 h2 rfl) p3 p3a) (fun e u h => h) (fun v u h => ?_)
  obtain ⟨s3, hI3, hF3, rfl, rfl, p3b⟩ := h
  show GG _ _ _ _ _ _ _ _ [] _ _ _
  refine g_aload_n 7 (gd rfl) rfl rfl ?_
  refine g_getA (q2 := 52) 10 (gd rfl) rfl rfl rfl rfl ?_
  refine g_iload_n 11 (gd rfl) rfl rfl ?_
  refine g_iaload 12 (gd rfl) rfl (n := 32) rfl (in_ix h3 rfl) (fun z11 e11 => ?_)
  refine g_istore 14 (gd rfl) rfl (Nat.le_of_ble_eq_true rfl) ?_
  refine g_aload_n 15 (gd rfl) rfl rfl ?_
  refine g_getA (q2 := 52) 18 (gd rfl) rfl rfl rfl rfl ?_
  refine g_iload 20 (gd rfl) rfl rfl ?_
  refine g_iaload 21 (gd rfl) rfl (n := 32) rfl (in_ix h4 rfl) (fun z20 e20 => ?_)
  refine g_istore 23 (gd rfl) rfl (Nat.le_of_ble_eq_true rfl) ?_
  refine g_aload_n 24 (gd rfl) rfl rfl ?_
  refine g_getA (q2 := 53) 27 (gd rfl) rfl rfl rfl rfl ?_
  refine g_iload 29 (gd rfl) rfl rfl ?_
  refine g_laload 30 (gd rfl) rfl (n := 32) rfl (in_ix h4 rfl) (fun z29 e29 => ?_)
  refine g_lstore 32 (gd rfl) rfl (Nat.le_of_ble_eq_true rfl) ?_
  refine g_iload 34 (gd rfl) rfl rfl ?_
  refine g_iconst (-1) 35 (gd rfl) rfl rfl ?_
  refine g_cmp_eq 38 44 (gd rfl) rfl rfl (fun c35 => ?_) (fun c35 => ?_)
  · skip
    have i35 := r_eq1 (-1) (-1) c35 (i_rng z11) (in_c (-1) rfl) rfl
    refine g_iconst 0 45 (gd rfl) rfl rfl ?_
    have n45 : SHC (gvD s) (x2).toNatClampNeg (x3).toNatClampNeg (x4).toNatClampNeg ((Int32.ofInt 0)).toInt := by have p0 : HPS (ARE (gvD s) 0) (ARE (gvD s) 1) (x2).toNatClampNeg (x3).toNatClampNeg (z11).toInt (s3.2.1 53 (x3).toNatClampNeg).toInt := (by rw [e11]; exact p3b _ (show (x3).toNatClampNeg < 32 from (by show (x3).toInt.toNat < 32; have h9 := h3; unfold In at h9; omega))); have p1 : HPS (ARE (gvD s) 0) (ARE (gvD s) 1) (x2).toNatClampNeg (x4).toNatClampNeg (z20).toInt (z29).toInt := (by rw [e20, e29]; exact p3b _ (show (x4).toNatClampNeg < 32 from (by show (x4).toInt.toNat < 32; have h9 := h4; unfold In at h9; omega))); obtain ⟨d2, c2, p2⟩ := @hps_ex (ARE (gvD s) 0) (ARE (gvD s) 1) (x4).toNatClampNeg (x3).toNatClampNeg; have om : (Int32.ofInt (-1)).toInt = -1 := rfl; exact ⟨_, _, _, _, _, _, p0, p1, p2, (if_neg (fun y => (by have h9 := c35; have h8 := y.2.2; have h7 := y.1; have h6 := y.2.1; omega))).symm⟩
    exact g_ireturn (gd rfl) rfl rfl (hP _ _ ⟨s3, hI3, (fr_tr rfl fr_rf hF3), (Int32.ofInt 0), rfl, rfl, in_w (-2147483648) 2147483647 (in_c 0 rfl) rfl, n45⟩)
  · skip
    refine g_iload 40 (gd rfl) rfl rfl ?_
    refine g_iconst (-1) 41 (gd rfl) rfl rfl ?_
    refine g_cmp_ne 44 46 (gd rfl) rfl rfl (fun c41 => ?_) (fun c41 => ?_)
    · skip
      refine g_iload 48 (gd rfl) rfl rfl ?_
      refine g_iload_n 49 (gd rfl) rfl rfl ?_
      refine g_cmp_eq 52 59 (gd rfl) rfl rfl (fun c49 => ?_) (fun c49 => ?_)
      · skip
        refine g_aload_n 60 (gd rfl) rfl rfl ?_
        refine g_getA (q2 := 52) 63 (gd rfl) rfl rfl rfl rfl ?_
        refine g_iload_n 64 (gd rfl) rfl rfl ?_
        refine g_iaload 65 (gd rfl) rfl (n := 32) rfl (in_ix h3 rfl) (fun z64 e64 => ?_)
        have q64 : z11 = z64 := (e11).trans e64.symm
        subst q64
        refine g_iconst (-1) 66 (gd rfl) rfl rfl ?_
        refine g_cmp_eq 69 83 (gd rfl) rfl rfl (fun c66 => ?_) (fun c66 => ?_)
        · skip
          exact absurd c66 c35
        · skip
          refine g_iload 71 (gd rfl) rfl rfl ?_
          refine g_aload_n 72 (gd rfl) rfl rfl ?_
          refine g_getA (q2 := 52) 75 (gd rfl) rfl rfl rfl rfl ?_
          refine g_iload_n 76 (gd rfl) rfl rfl ?_
          refine g_iaload 77 (gd rfl) rfl (n := 32) rfl (in_ix h3 rfl) (fun z76 e76 => ?_)
          have q76 : z11 = z76 := (e11).trans e76.symm
          subst q76
          refine g_iadd 78 (gd rfl) rfl (fun z77 e77 => ?_)
          refine g_iload 80 (gd rfl) rfl rfl ?_
          refine g_cmp_eq 83 85 (gd rfl) rfl rfl (fun c80 => ?_) (fun c80 => ?_)
          · skip
            refine g_lload 87 (gd rfl) rfl rfl ?_
            refine g_aload_n 88 (gd rfl) rfl rfl ?_
            refine g_getA (q2 := 53) 91 (gd rfl) rfl rfl rfl rfl ?_
            refine g_iload_n 92 (gd rfl) rfl rfl ?_
            refine g_laload 93 (gd rfl) rfl (n := 32) rfl (in_ix h3 rfl) (fun z92 e92 => ?_)
            refine g_lmul 94 (gd rfl) rfl (fun z93 e93 => ?_)
            refine g_ldc2_w 1000000007 97 (gd rfl) rfl rfl ?_
            refine g_lrem 98 (gd rfl) rfl (by decide) (fun z97 e97 => ?_)
            have i97 := l_rem (-1000000006) 1000000006 e97 rfl
            refine g_l2i 99 (gd rfl) rfl (fun z98 e98 => ?_)
            have n99 : SHC (gvD s) (x2).toNatClampNeg (x3).toNatClampNeg (x4).toNatClampNeg (z98).toInt := by have p0 : HPS (ARE (gvD s) 0) (ARE (gvD s) 1) (x2).toNatClampNeg (x3).toNatClampNeg (z11).toInt (s3.2.1 53 (x3).toNatClampNeg).toInt := (by rw [e11]; exact p3b _ (show (x3).toNatClampNeg < 32 from (by show (x3).toInt.toNat < 32; have h9 := h3; unfold In at h9; omega))); have p1 : HPS (ARE (gvD s) 0) (ARE (gvD s) 1) (x2).toNatClampNeg (x4).toNatClampNeg (z20).toInt (z29).toInt := (by rw [e20, e29]; exact p3b _ (show (x4).toNatClampNeg < 32 from (by show (x4).toInt.toNat < 32; have h9 := h4; unfold In at h9; omega))); have p2 : HPS (ARE (gvD s) 0) (ARE (gvD s) 1) (x4).toNatClampNeg (x3).toNatClampNeg (z11).toInt (s3.2.1 53 (x3).toNatClampNeg).toInt := (by rw [show (x4).toNatClampNeg = (x2).toNatClampNeg from (by show (x4).toInt.toNat = (x2).toInt.toNat; have h9 := c49; omega)]; exact p0); have h32 := (show ∀ u w, AJF (ARE (gvD s) 0) (ARE (gvD s) 1) u w → u < 32 ∧ w < 32 from (fun u w q => by have h9 := ajf_g q_1 (n := (s.2.2.1 32 1).toInt.toNat) (by show _ = (s.2.2.1 32 1).toInt; have h8 := inv_F hI (z := s.2.2.1 32 1) 0 32 rfl rfl; unfold In at h8; omega) u w q; have h8 := inv_F hI (z := s.2.2.1 32 1) 0 32 rfl rfl; unfold In at h8; omega)); have b0 := hps_b p0; have b1 := hps_b p1; have b2 := hps_b p2; have d1 := hps_32 p1 h32 (show (x4).toNatClampNeg < 32 from (by show (x4).toInt.toNat < 32; have h9 := h4; unfold In at h9; omega)); have d2 := hps_32 p2 h32 (show (x3).toNatClampNeg < 32 from (by show (x3).toInt.toNat < 32; have h9 := h3; unfold In at h9; omega)); have om : (Int32.ofInt (-1)).toInt = -1 := rfl; have w : (z77).toInt = (z20).toInt + (z11).toInt := t_add e77 (show In z20 0 32 from ⟨by have h9 := c41; omega, d1⟩) (show In z11 0 32 from ⟨by have h9 := c35; omega, d2⟩) rfl; exact ⟨_, _, _, _, _, _, p0, p1, p2, by rw [if_pos ⟨by have h9 := c41; omega, by have h9 := c35; omega, by have h9 := c80; omega⟩, ← (show z92 = s3.2.1 53 (x3).toNatClampNeg from e92)]; exact cm_v e93 e97 e98 b1.2 (by rw [show z92 = s3.2.1 53 (x3).toNatClampNeg from e92]; exact b2.2)⟩
            exact g_ireturn (gd rfl) rfl rfl (hP _ _ ⟨s3, hI3, (fr_tr rfl fr_rf hF3), z98, rfl, rfl, in_w (-2147483648) 2147483647 (i_rng z98) rfl, n99⟩)
          · skip
            refine g_iconst 0 84 (gd rfl) rfl rfl ?_
            have n84 : SHC (gvD s) (x2).toNatClampNeg (x3).toNatClampNeg (x4).toNatClampNeg ((Int32.ofInt 0)).toInt := by have p0 : HPS (ARE (gvD s) 0) (ARE (gvD s) 1) (x2).toNatClampNeg (x3).toNatClampNeg (z11).toInt (s3.2.1 53 (x3).toNatClampNeg).toInt := (by rw [e11]; exact p3b _ (show (x3).toNatClampNeg < 32 from (by show (x3).toInt.toNat < 32; have h9 := h3; unfold In at h9; omega))); have p1 : HPS (ARE (gvD s) 0) (ARE (gvD s) 1) (x2).toNatClampNeg (x4).toNatClampNeg (z20).toInt (z29).toInt := (by rw [e20, e29]; exact p3b _ (show (x4).toNatClampNeg < 32 from (by show (x4).toInt.toNat < 32; have h9 := h4; unfold In at h9; omega))); have p2 : HPS (ARE (gvD s) 0) (ARE (gvD s) 1) (x4).toNatClampNeg (x3).toNatClampNeg (z11).toInt (s3.2.1 53 (x3).toNatClampNeg).toInt := (by rw [show (x4).toNatClampNeg = (x2).toNatClampNeg from (by show (x4).toInt.toNat = (x2).toInt.toNat; have h9 := c49; omega)]; exact p0); have h32 := (show ∀ u w, AJF (ARE (gvD s) 0) (ARE (gvD s) 1) u w → u < 32 ∧ w < 32 from (fun u w q => by have h9 := ajf_g q_1 (n := (s.2.2.1 32 1).toInt.toNat) (by show _ = (s.2.2.1 32 1).toInt; have h8 := inv_F hI (z := s.2.2.1 32 1) 0 32 rfl rfl; unfold In at h8; omega) u w q; have h8 := inv_F hI (z := s.2.2.1 32 1) 0 32 rfl rfl; unfold In at h8; omega)); have b0 := hps_b p0; have b1 := hps_b p1; have b2 := hps_b p2; have d1 := hps_32 p1 h32 (show (x4).toNatClampNeg < 32 from (by show (x4).toInt.toNat < 32; have h9 := h4; unfold In at h9; omega)); have d2 := hps_32 p2 h32 (show (x3).toNatClampNeg < 32 from (by show (x3).toInt.toNat < 32; have h9 := h3; unfold In at h9; omega)); have om : (Int32.ofInt (-1)).toInt = -1 := rfl; have w : (z77).toInt = (z20).toInt + (z11).toInt := t_add e77 (show In z20 0 32 from ⟨by have h9 := c41; omega, d1⟩) (show In z11 0 32 from ⟨by have h9 := c35; omega, d2⟩) rfl; exact ⟨_, _, _, _, _, _, p0, p1, p2, (if_neg (fun y => (by have h9 := c80; have h8 := y.2.2; omega))).symm⟩
            exact g_ireturn (gd rfl) rfl rfl (hP _ _ ⟨s3, hI3, (fr_tr rfl fr_rf hF3), (Int32.ofInt 0), rfl, rfl, in_w (-2147483648) 2147483647 (in_c 0 rfl) rfl, n84⟩)
      · skip
        refine g_aload_n 53 (gd rfl) rfl rfl ?_
        refine g_aload_n 54 (gd rfl) rfl rfl ?_
        refine g_iload 56 (gd rfl) rfl rfl ?_
        have p56 : TQD s3 := by exact tqd_fr q_0 hF3 rfl
        have p56a : NDQ (gvD s3) := by rw [gvD_fr hF3 rfl]; exact q_1
        refine g_callv (X := _) (As := [.ref (A 32), .int x4]) (r := []) (b := A 49) (q := 49) 59 (gd rfl) rfl rfl rfl rfl rfl (ww_o rfl) (Nat.le_of_ble_eq_true rfl) (Nat.zero_le _) (Nat.zero_le _) (f_204_49_32 (by first | exact dq1 hd rfl | exact dq0 hd rfl | exact dq2 hd rfl | exact dq3 hd rfl | omega) hI3 (in_w 0 31 h4 rfl) p56 p56a) (fun e u h => h) (fun v u h => ?_)
        obtain ⟨s56, hI56, hF56, rfl, rfl, p56b⟩ := h
        show GG _ _ _ _ _ _ _ _ [] _ _ _
        refine g_aload_n 60 (gd rfl) rfl rfl ?_
        refine g_getA (q2 := 52) 63 (gd rfl) rfl rfl rfl rfl ?_
        refine g_iload_n 64 (gd rfl) rfl rfl ?_
        refine g_iaload 65 (gd rfl) rfl (n := 32) rfl (in_ix h3 rfl) (fun z64 e64 => ?_)
        refine g_iconst (-1) 66 (gd rfl) rfl rfl ?_
        refine g_cmp_eq 69 83 (gd rfl) rfl rfl (fun c66 => ?_) (fun c66 => ?_)
        · skip
          have i66 := r_eq1 (-1) (-1) c66 (i_rng z64) (in_c (-1) rfl) rfl
          refine g_iconst 0 84 (gd rfl) rfl rfl ?_
          have n84 : SHC (gvD s) (x2).toNatClampNeg (x3).toNatClampNeg (x4).toNatClampNeg ((Int32.ofInt 0)).toInt := by have p0 : HPS (ARE (gvD s) 0) (ARE (gvD s) 1) (x2).toNatClampNeg (x3).toNatClampNeg (z11).toInt (s3.2.1 53 (x3).toNatClampNeg).toInt := (by rw [e11]; exact p3b _ (show (x3).toNatClampNeg < 32 from (by show (x3).toInt.toNat < 32; have h9 := h3; unfold In at h9; omega))); have p1 : HPS (ARE (gvD s) 0) (ARE (gvD s) 1) (x2).toNatClampNeg (x4).toNatClampNeg (z20).toInt (z29).toInt := (by rw [e20, e29]; exact p3b _ (show (x4).toNatClampNeg < 32 from (by show (x4).toInt.toNat < 32; have h9 := h4; unfold In at h9; omega))); have p2 : HPS (ARE (gvD s) 0) (ARE (gvD s) 1) (x4).toNatClampNeg (x3).toNatClampNeg (z64).toInt (s56.2.1 53 (x3).toNatClampNeg).toInt := (by rw [e64]; have h9 := p56b _ (show (x3).toNatClampNeg < 32 from (by show (x3).toInt.toNat < 32; have h9 := h3; unfold In at h9; omega)); rw [gvD_fr hF3 rfl] at h9; exact h9); have h32 := (show ∀ u w, AJF (ARE (gvD s) 0) (ARE (gvD s) 1) u w → u < 32 ∧ w < 32 from (fun u w q => by have h9 := ajf_g q_1 (n := (s.2.2.1 32 1).toInt.toNat) (by show _ = (s.2.2.1 32 1).toInt; have h8 := inv_F hI (z := s.2.2.1 32 1) 0 32 rfl rfl; unfold In at h8; omega) u w q; have h8 := inv_F hI (z := s.2.2.1 32 1) 0 32 rfl rfl; unfold In at h8; omega)); have b0 := hps_b p0; have b1 := hps_b p1; have b2 := hps_b p2; have d1 := hps_32 p1 h32 (show (x4).toNatClampNeg < 32 from (by show (x4).toInt.toNat < 32; have h9 := h4; unfold In at h9; omega)); have d2 := hps_32 p2 h32 (show (x3).toNatClampNeg < 32 from (by show (x3).toInt.toNat < 32; have h9 := h3; unfold In at h9; omega)); have om : (Int32.ofInt (-1)).toInt = -1 := rfl; exact ⟨_, _, _, _, _, _, p0, p1, p2, (if_neg (fun y => (by have h9 := c66; have h8 := y.2.1; omega))).symm⟩
          exact g_ireturn (gd rfl) rfl rfl (hP _ _ ⟨s56, hI56, (fr_tr rfl (fr_tr rfl fr_rf hF3) hF56), (Int32.ofInt 0), rfl, rfl, in_w (-2147483648) 2147483647 (in_c 0 rfl) rfl, n84⟩)
        · skip
          refine g_iload 71 (gd rfl) rfl rfl ?_
          refine g_aload_n 72 (gd rfl) rfl rfl ?_
          refine g_getA (q2 := 52) 75 (gd rfl) rfl rfl rfl rfl ?_
          refine g_iload_n 76 (gd rfl) rfl rfl ?_
          refine g_iaload 77 (gd rfl) rfl (n := 32) rfl (in_ix h3 rfl) (fun z76 e76 => ?_)
          have q76 : z64 = z76 := (e64).trans e76.symm
          subst q76
          refine g_iadd 78 (gd rfl) rfl (fun z77 e77 => ?_)
          refine g_iload 80 (gd rfl) rfl rfl ?_
          refine g_cmp_eq 83 85 (gd rfl) rfl rfl (fun c80 => ?_) (fun c80 => ?_)
          · skip
            refine g_lload 87 (gd rfl) rfl rfl ?_
            refine g_aload_n 88 (gd rfl) rfl rfl ?_
            refine g_getA (q2 := 53) 91 (gd rfl) rfl rfl rfl rfl ?_
            refine g_iload_n 92 (gd rfl) rfl rfl ?_
            refine g_laload 93 (gd rfl) rfl (n := 32) rfl (in_ix h3 rfl) (fun z92 e92 => ?_)
            refine g_lmul 94 (gd rfl) rfl (fun z93 e93 => ?_)
            refine g_ldc2_w 1000000007 97 (gd rfl) rfl rfl ?_
            refine g_lrem 98 (gd rfl) rfl (by decide) (fun z97 e97 => ?_)
            have i97 := l_rem (-1000000006) 1000000006 e97 rfl
            refine g_l2i 99 (gd rfl) rfl (fun z98 e98 => ?_)
            have n99 : SHC (gvD s) (x2).toNatClampNeg (x3).toNatClampNeg (x4).toNatClampNeg (z98).toInt := by have p0 : HPS (ARE (gvD s) 0) (ARE (gvD s) 1) (x2).toNatClampNeg (x3).toNatClampNeg (z11).toInt (s3.2.1 53 (x3).toNatClampNeg).toInt := (by rw [e11]; exact p3b _ (show (x3).toNatClampNeg < 32 from (by show (x3).toInt.toNat < 32; have h9 := h3; unfold In at h9; omega))); have p1 : HPS (ARE (gvD s) 0) (ARE (gvD s) 1) (x2).toNatClampNeg (x4).toNatClampNeg (z20).toInt (z29).toInt := (by rw [e20, e29]; exact p3b _ (show (x4).toNatClampNeg < 32 from (by show (x4).toInt.toNat < 32; have h9 := h4; unfold In at h9; omega))); have p2 : HPS (ARE (gvD s) 0) (ARE (gvD s) 1) (x4).toNatClampNeg (x3).toNatClampNeg (z64).toInt (s56.2.1 53 (x3).toNatClampNeg).toInt := (by rw [e64]; have h9 := p56b _ (show (x3).toNatClampNeg < 32 from (by show (x3).toInt.toNat < 32; have h9 := h3; unfold In at h9; omega)); rw [gvD_fr hF3 rfl] at h9; exact h9); have h32 := (show ∀ u w, AJF (ARE (gvD s) 0) (ARE (gvD s) 1) u w → u < 32 ∧ w < 32 from (fun u w q => by have h9 := ajf_g q_1 (n := (s.2.2.1 32 1).toInt.toNat) (by show _ = (s.2.2.1 32 1).toInt; have h8 := inv_F hI (z := s.2.2.1 32 1) 0 32 rfl rfl; unfold In at h8; omega) u w q; have h8 := inv_F hI (z := s.2.2.1 32 1) 0 32 rfl rfl; unfold In at h8; omega)); have b0 := hps_b p0; have b1 := hps_b p1; have b2 := hps_b p2; have d1 := hps_32 p1 h32 (show (x4).toNatClampNeg < 32 from (by show (x4).toInt.toNat < 32; have h9 := h4; unfold In at h9; omega)); have d2 := hps_32 p2 h32 (show (x3).toNatClampNeg < 32 from (by show (x3).toInt.toNat < 32; have h9 := h3; unfold In at h9; omega)); have om : (Int32.ofInt (-1)).toInt = -1 := rfl; have w : (z77).toInt = (z20).toInt + (z64).toInt := t_add e77 (show In z20 0 32 from ⟨by have h9 := c41; omega, d1⟩) (show In z64 0 32 from ⟨by have h9 := c66; omega, d2⟩) rfl; exact ⟨_, _, _, _, _, _, p0, p1, p2, by rw [if_pos ⟨by have h9 := c41; omega, by have h9 := c66; omega, by have h9 := c80; omega⟩, ← (show z92 = s56.2.1 53 (x3).toNatClampNeg from e92)]; exact cm_v e93 e97 e98 b1.2 (by rw [show z92 = s56.2.1 53 (x3).toNatClampNeg from e92]; exact b2.2)⟩
            exact g_ireturn (gd rfl) rfl rfl (hP _ _ ⟨s56, hI56, (fr_tr rfl (fr_tr rfl fr_rf hF3) hF56), z98, rfl, rfl, in_w (-2147483648) 2147483647 (i_rng z98) rfl, n99⟩)
          · skip
            refine g_iconst 0 84 (gd rfl) rfl rfl ?_
            have n84 : SHC (gvD s) (x2).toNatClampNeg (x3).toNatClampNeg (x4).toNatClampNeg ((Int32.ofInt 0)).toInt := by have p0 : HPS (ARE (gvD s) 0) (ARE (gvD s) 1) (x2).toNatClampNeg (x3).toNatClampNeg (z11).toInt (s3.2.1 53 (x3).toNatClampNeg).toInt := (by rw [e11]; exact p3b _ (show (x3).toNatClampNeg < 32 from (by show (x3).toInt.toNat < 32; have h9 := h3; unfold In at h9; omega))); have p1 : HPS (ARE (gvD s) 0) (ARE (gvD s) 1) (x2).toNatClampNeg (x4).toNatClampNeg (z20).toInt (z29).toInt := (by rw [e20, e29]; exact p3b _ (show (x4).toNatClampNeg < 32 from (by show (x4).toInt.toNat < 32; have h9 := h4; unfold In at h9; omega))); have p2 : HPS (ARE (gvD s) 0) (ARE (gvD s) 1) (x4).toNatClampNeg (x3).toNatClampNeg (z64).toInt (s56.2.1 53 (x3).toNatClampNeg).toInt := (by rw [e64]; have h9 := p56b _ (show (x3).toNatClampNeg < 32 from (by show (x3).toInt.toNat < 32; have h9 := h3; unfold In at h9; omega)); rw [gvD_fr hF3 rfl] at h9; exact h9); have h32 := (show ∀ u w, AJF (ARE (gvD s) 0) (ARE (gvD s) 1) u w → u < 32 ∧ w < 32 from (fun u w q => by have h9 := ajf_g q_1 (n := (s.2.2.1 32 1).toInt.toNat) (by show _ = (s.2.2.1 32 1).toInt; have h8 := inv_F hI (z := s.2.2.1 32 1) 0 32 rfl rfl; unfold In at h8; omega) u w q; have h8 := inv_F hI (z := s.2.2.1 32 1) 0 32 rfl rfl; unfold In at h8; omega)); have b0 := hps_b p0; have b1 := hps_b p1; have b2 := hps_b p2; have d1 := hps_32 p1 h32 (show (x4).toNatClampNeg < 32 from (by show (x4).toInt.toNat < 32; have h9 := h4; unfold In at h9; omega)); have d2 := hps_32 p2 h32 (show (x3).toNatClampNeg < 32 from (by show (x3).toInt.toNat < 32; have h9 := h3; unfold In at h9; omega)); have om : (Int32.ofInt (-1)).toInt = -1 := rfl; have w : (z77).toInt = (z20).toInt + (z64).toInt := t_add e77 (show In z20 0 32 from ⟨by have h9 := c41; omega, d1⟩) (show In z64 0 32 from ⟨by have h9 := c66; omega, d2⟩) rfl; exact ⟨_, _, _, _, _, _, p0, p1, p2, (if_neg (fun y => (by have h9 := c80; have h8 := y.2.2; omega))).symm⟩
            exact g_ireturn (gd rfl) rfl rfl (hP _ _ ⟨s56, hI56, (fr_tr rfl (fr_tr rfl fr_rf hF3) hF56), (Int32.ofInt 0), rfl, rfl, in_w (-2147483648) 2147483647 (in_c 0 rfl) rfl, n84⟩)
    · skip
      have i41 := r_eq1 (-1) (-1) c41 (i_rng z20) (in_c (-1) rfl) rfl
      refine g_iconst 0 45 (gd rfl) rfl rfl ?_
      have n45 : SHC (gvD s) (x2).toNatClampNeg (x3).toNatClampNeg (x4).toNatClampNeg ((Int32.ofInt 0)).toInt := by have p0 : HPS (ARE (gvD s) 0) (ARE (gvD s) 1) (x2).toNatClampNeg (x3).toNatClampNeg (z11).toInt (s3.2.1 53 (x3).toNatClampNeg).toInt := (by rw [e11]; exact p3b _ (show (x3).toNatClampNeg < 32 from (by show (x3).toInt.toNat < 32; have h9 := h3; unfold In at h9; omega))); have p1 : HPS (ARE (gvD s) 0) (ARE (gvD s) 1) (x2).toNatClampNeg (x4).toNatClampNeg (z20).toInt (z29).toInt := (by rw [e20, e29]; exact p3b _ (show (x4).toNatClampNeg < 32 from (by show (x4).toInt.toNat < 32; have h9 := h4; unfold In at h9; omega))); obtain ⟨d2, c2, p2⟩ := @hps_ex (ARE (gvD s) 0) (ARE (gvD s) 1) (x4).toNatClampNeg (x3).toNatClampNeg; have om : (Int32.ofInt (-1)).toInt = -1 := rfl; exact ⟨_, _, _, _, _, _, p0, p1, p2, (if_neg (fun y => (by have h9 := c41; have h8 := y.1; omega))).symm⟩
      exact g_ireturn (gd rfl) rfl rfl (hP _ _ ⟨s3, hI3, (fr_tr rfl fr_rf hF3), (Int32.ofInt 0), rfl, rfl, in_w (-2147483648) 2147483647 (in_c 0 rfl) rfl, n45⟩)

theorem oc_202_49_2 : (Int32.ofInt (-1)).toInt = (-1) ∧ (Int32.ofInt 0).toInt = 0 ∧ (Int32.ofInt 1).toInt = 1 := ⟨rfl, rfl, rfl⟩
def fm_202_49_2 : FM := ([9, 10, 11, 12, 13, 14, 15, 52, 54], [53], [(2, 4)], [])
set_option maxHeartbeats 4000000 in
/-- GraphHouse$Ways.fewestArcs -/
theorem f_202_49_2 {Z : AmZ} {A : Nat → Nat} {s : GS} {ex : va_W} {d : Nat} {X : AmX} {x2 : Int32} {x3 : Int32} (hd : 5 ≤ d) (hI : Inv s) (h2 : In x2 0 31) (h3 : In x3 0 31) (q_0 : TQ s) (q_1 : NDQ (gvC s)) : GC Z d 202 [.ref (A 49), .ref (A 2), .int x2, .int x3] (WW Z A s ++ ex) 0 0 (fun v u => ∃ t : GS, Inv t ∧ Fr fm_202_49_2 s t ∧ ∃ z : Int32, v = some (.int z) ∧ u = WW Z A t ++ ex ∧ In z (-2147483648) 2147483647 ∧ ((∃ c : Int, HPS (ARE (gvC s) 0) (ARE (gvC s) 1) (x2).toNatClampNeg (x3).toNatClampNeg (z).toInt c))) X := by
  intro post xp hP hX
  refine g_enter2 (k := 202) (N := 900) (by first | exact dq1 hd rfl | exact dq0 hd rfl | exact dq2 hd rfl | exact dq3 hd rfl | omega) rfl (Nat.le_of_ble_eq_true rfl) ?_
  refine g_aload_n 1 (gd rfl) rfl rfl ?_
  refine g_aload_n 2 (gd rfl) rfl rfl ?_
  refine g_iload_n 3 (gd rfl) rfl rfl ?_
  have p3 : TQ s := by exact q_0
  have p3a : NDQ (gvC s) := by exact q_1
  refine g_callv (X := _) (As := [.ref (A 2), .int x2]) (r := []) (b := A 49) (q := 49) 6 (gd rfl) rfl rfl rfl rfl rfl (ww_o rfl) (Nat.le_of_ble_eq_true rfl) (Nat.zero_le _) (Nat.zero_le _) (f_204_49_2 (by first | exact dq1 hd rfl | exact dq0 hd rfl | exact dq2 hd rfl | exact dq3 hd rfl | omega) hI (in_w 0 31 h2 rfl) p3 p3a) (fun e u h => h) (fun v u h => ?_)
  obtain ⟨s3, hI3, hF3, rfl, rfl, p3b⟩ := h
  show GG _ _ _ _ _ _ _ _ [] _ _ _
  refine g_aload_n 7 (gd rfl) rfl rfl ?_
  refine g_getA (q2 := 52) 10 (gd rfl) rfl rfl rfl rfl ?_
  refine g_iload_n 11 (gd rfl) rfl rfl ?_
  refine g_iaload 12 (gd rfl) rfl (n := 32) rfl (in_ix h3 rfl) (fun z11 e11 => ?_)
  have n12 : (∃ c : Int, HPS (ARE (gvC s) 0) (ARE (gvC s) 1) (x2).toNatClampNeg (x3).toNatClampNeg (z11).toInt c) := by exact ⟨_, by rw [e11]; exact p3b _ (show (x3).toNatClampNeg < 32 from (by show (x3).toInt.toNat < 32; exact (have a0 := in_u h3; have a1 := in_u h2; have oc := oc_202_49_2; by omega)))⟩
  exact g_ireturn (gd rfl) rfl rfl (hP _ _ ⟨s3, hI3, (fr_tr rfl fr_rf hF3), z11, rfl, rfl, in_w (-2147483648) 2147483647 (i_rng z11) rfl, n12⟩)

theorem oc_202_49_32 : (Int32.ofInt (-1)).toInt = (-1) ∧ (Int32.ofInt 0).toInt = 0 ∧ (Int32.ofInt 1).toInt = 1 := ⟨rfl, rfl, rfl⟩
def fm_202_49_32 : FM := ([39, 40, 41, 42, 43, 44, 45, 52, 54], [53], [(32, 4)], [])
set_option maxHeartbeats 4000000 in
/-- GraphHouse$Ways.fewestArcs -/
theorem f_202_49_32 {Z : AmZ} {A : Nat → Nat} {s : GS} {ex : va_W} {d : Nat} {X : AmX} {x2 : Int32} {x3 : Int32} (hd : 5 ≤ d) (hI : Inv s) (h2 : In x2 0 31) (h3 : In x3 0 31) (q_0 : TQD s) (q_1 : NDQ (gvD s)) : GC Z d 202 [.ref (A 49), .ref (A 32), .int x2, .int x3] (WW Z A s ++ ex) 0 0 (fun v u => ∃ t : GS, Inv t ∧ Fr fm_202_49_32 s t ∧ ∃ z : Int32, v = some (.int z) ∧ u = WW Z A t ++ ex ∧ In z (-2147483648) 2147483647 ∧ ((∃ c : Int, HPS (ARE (gvD s) 0) (ARE (gvD s) 1) (x2).toNatClampNeg (x3).toNatClampNeg (z).toInt c))) X := by
  intro post xp hP hX
  refine g_enter2 (k := 202) (N := 900) (by first | exact dq1 hd rfl | exact dq0 hd rfl | exact dq2 hd rfl | exact dq3 hd rfl | omega) rfl (Nat.le_of_ble_eq_true rfl) ?_
  refine g_aload_n 1 (gd rfl) rfl rfl ?_
  refine g_aload_n 2 (gd rfl) rfl rfl ?_
  refine g_iload_n 3 (gd rfl) rfl rfl ?_
  have p3 : TQD s := by exact q_0
  have p3a : NDQ (gvD s) := by exact q_1
  refine g_callv (X := _) (As := [.ref (A 32), .int x2]) (r := []) (b := A 49) (q := 49) 6 (gd rfl) rfl rfl rfl rfl rfl (ww_o rfl) (Nat.le_of_ble_eq_true rfl) (Nat.zero_le _) (Nat.zero_le _) (f_204_49_32 (by first | exact dq1 hd rfl | exact dq0 hd rfl | exact dq2 hd rfl | exact dq3 hd rfl | omega) hI (in_w 0 31 h2 rfl) p3 p3a) (fun e u h => h) (fun v u h => ?_)
  obtain ⟨s3, hI3, hF3, rfl, rfl, p3b⟩ := h
  show GG _ _ _ _ _ _ _ _ [] _ _ _
  refine g_aload_n 7 (gd rfl) rfl rfl ?_
  refine g_getA (q2 := 52) 10 (gd rfl) rfl rfl rfl rfl ?_
  refine g_iload_n 11 (gd rfl) rfl rfl ?_
  refine g_iaload 12 (gd rfl) rfl (n := 32) rfl (in_ix h3 rfl) (fun z11 e11 => ?_)
  have n12 : (∃ c : Int, HPS (ARE (gvD s) 0) (ARE (gvD s) 1) (x2).toNatClampNeg (x3).toNatClampNeg (z11).toInt c) := by exact ⟨_, by rw [e11]; exact p3b _ (show (x3).toNatClampNeg < 32 from (by show (x3).toInt.toNat < 32; exact (have a0 := in_u h3; have a1 := in_u h2; have oc := oc_202_49_32; by omega)))⟩
  exact g_ireturn (gd rfl) rfl rfl (hP _ _ ⟨s3, hI3, (fr_tr rfl fr_rf hF3), z11, rfl, rfl, in_w (-2147483648) 2147483647 (i_rng z11) rfl, n12⟩)

theorem oc_249_0 : (Int32.ofInt (-1)).toInt = (-1) ∧ (Int32.ofInt 0).toInt = 0 ∧ (Int32.ofInt 1).toInt = 1 ∧ (Int32.ofInt 2).toInt = 2 := ⟨rfl, rfl, rfl, rfl⟩
/-- GraphHouse.shortest -/
theorem f_249_0 {Z : AmZ} {A : Nat → Nat} {s : GS} {ex : va_W} {d : Nat} {x1 : Int32} {x2 : Int32} {x3 : Int32} {x4 : Int32} (hd : 7 ≤ d) (hI : Inv s) (q_0 : TQ s) (q_1 : TQD s) (q_2 : NDC s) : GC Z d 249 [.ref (A 0), .int x1, .int x2, .int x3, .int x4] (WW Z A s ++ ex) 3 18 (fun v u => ∃ t : GS, Inv t ∧ Fr fm_249_0 s t ∧ ∃ z : Int32, v = some (.int z) ∧ u = WW Z A t ++ ex ∧ In z (-2147483648) 2147483647 ∧ (SHP4 (shC s).2.2.2.2.2.2.1 x1 x2 x3 x4 ∧ SHS (shC s) x1.toNatClampNeg x2.toNatClampNeg x3.toInt x4.toNatClampNeg (z).toInt)) (gEx Z A ex fm_249_0 s (¬ SHP4 (shC s).2.2.2.2.2.2.1 x1 x2 x3 x4) (False)) := by
  intro post xp hP hX
  obtain ⟨u_0_2, e_0_2⟩ : ∃ w, w = s.2.2.1 0 2 := ⟨_, rfl⟩
  have ro_0_2 := inv_F hI (-1) 4000 rfl e_0_2
  obtain ⟨u_2_1, e_2_1⟩ : ∃ w, w = s.2.2.1 2 1 := ⟨_, rfl⟩
  have ro_2_1 := inv_F hI 0 32 rfl e_2_1
  obtain ⟨u_32_1, e_32_1⟩ : ∃ w, w = s.2.2.1 32 1 := ⟨_, rfl⟩
  have ro_32_1 := inv_F hI 0 32 rfl e_32_1
  refine g_enter2 (k := 249) (N := 900) (by first | exact dq1 hd rfl | exact dq0 hd rfl | exact dq2 hd rfl | exact dq3 hd rfl | omega) rfl (Nat.le_of_ble_eq_true rfl) ?_
  refine g_aload_n 1 (gd rfl) rfl rfl ?_
  refine g_callv (X := _) (As := []) (r := []) (b := A 0) (q := 0) 4 (gd rfl) rfl rfl rfl rfl rfl (ww_o rfl) (Nat.le_of_ble_eq_true rfl) (mc := 0) (ms := 0) (Nat.zero_le _) (Nat.zero_le _) (P := fun v u => _) ?_ (fun e u h => h) (fun v u h => h)
  intro po1 xx1 hp1 hx1
  refine g_enter2 (k := 259) (N := 300) (by first | exact dq1 hd rfl | exact dq0 hd rfl | exact dq2 hd rfl | exact dq3 hd rfl | omega) rfl (Nat.le_of_ble_eq_true rfl) ?_
  refine g_aload_n 1 (gd rfl) rfl rfl ?_
  refine g_getI 4 (gd rfl) rfl rfl rfl (fun z1x1 e1x1 => ?_)
  have q1x1 : u_0_2 = z1x1 := (e_0_2).trans e1x1.symm
  subst q1x1
  refine g_iconst (-1) 5 (gd rfl) rfl rfl ?_
  refine g_cmp_ne 8 18 (gd rfl) rfl rfl (fun c1x5 => ?_) (fun c1x5 => ?_)
  · skip
    have i1x5 := r_ne1 0 4000 c1x5 ro_0_2 (in_c (-1) rfl) rfl
    refine g_aload_n 19 (gd rfl) rfl rfl ?_
    refine g_getA (q2 := 32) 22 (gd rfl) rfl rfl rfl rfl ?_
    refine g_areturn (gd rfl) rfl (hp1 _ _ ?_)
    show GG _ _ _ _ _ _ _ _ [.ref (A 32)] _ _ _
    refine g_astore 6 (gd rfl) rfl (Nat.le_of_ble_eq_true rfl) ?_
    refine g_aload 8 (gd rfl) rfl rfl ?_
    refine g_iload_n 9 (gd rfl) rfl rfl ?_
    refine g_callv (X := _) (As := [.int x1]) (r := []) (b := A 32) (q := 32) 12 (gd rfl) rfl rfl rfl rfl rfl (ww_o rfl) (Nat.le_of_ble_eq_true rfl) (mc := 0) (ms := 0) (Nat.zero_le _) (Nat.zero_le _) (P := fun v u => _) ?_ (fun e u h => h) (fun v u h => h)
    intro po9 xx9 hp9 hx9
    refine g_enter2 (k := 94) (N := 300) (by first | exact dq1 hd rfl | exact dq0 hd rfl | exact dq2 hd rfl | exact dq3 hd rfl | omega) rfl (Nat.le_of_ble_eq_true rfl) ?_
    refine g_iload_n 1 (gd rfl) rfl rfl ?_
    refine g_if_lt 4 16 (gd rfl) rfl rfl (fun c9x1 => ?_) (fun c9x1 => ?_)
    · skip
      have i9x1 := z_lt (-2147483648) (-1) c9x1 (i_rng x1) rfl
      refine g_iconst 0 17 (gd rfl) rfl rfl ?_
      refine g_ireturn (gd rfl) rfl (nb01 (in_w 0 1 (in_c 0 rfl) rfl)) (hp9 _ _ ?_)
      show GG _ _ _ _ _ _ _ _ [.int (Int32.ofInt 0)] _ _ _
      refine g_if_eq 15 47 (gd rfl) rfl rfl (fun c12 => ?_) (fun c12 => ?_)
      · skip
        refine g_iconst 0 48 (gd rfl) rfl rfl ?_
        refine g_thr (E := am_IA) (y := yX11_allow) 51 (gd rfl) rfl rfl (Or.inl ⟨rfl, rfl, rfl⟩) (by first | exact dq1 hd rfl | exact dq0 hd rfl | exact dq2 hd rfl | exact dq3 hd rfl | omega) (Nat.le_of_ble_eq_true rfl) (Nat.le_of_ble_eq_true rfl) (Nat.le_of_ble_eq_true rfl) (fun c48 => ?_) (fun c48 => ?_)
        · skip
          exact zn_ne c48 (in_c 0 rfl) rfl
        · skip
          have n48 : ¬ SHP4 (shC s).2.2.2.2.2.2.1 x1 x2 x3 x4 := by first | (rw [shC_n (by rw [← e1x1]; exact c1x5)]; show ¬ SHP4 (s.2.2.1 2 1).toInt x1 x2 x3 x4; unfold SHP4 In; rw [← e_2_1]; exact (have a0 := in_u ro_32_1; have a1 := in_u ro_2_1; have a2 := in_u i1x5; have a3 := in_u i9x1; have oc := oc_249_0; by omega)) | (rw [shC_d (by rw [← e1x1]; exact c1x5)]; show ¬ SHP4 (s.2.2.1 32 1).toInt x1 x2 x3 x4; unfold SHP4 In; rw [← e_32_1]; exact (have a0 := in_u ro_32_1; have a1 := in_u ro_2_1; have a2 := in_u i1x5; have a3 := in_u i9x1; have oc := oc_249_0; by omega))
          exact (hX _ _ ⟨Or.inl ⟨rfl, n48⟩, s, hI, fr_rf, rfl⟩)
      · skip
        exact zn_ne c12 (in_c 0 rfl) rfl
    · skip
      have i9x1 := z_ge 0 2147483647 c9x1 (i_rng x1) rfl
      refine g_iload_n 5 (gd rfl) rfl rfl ?_
      refine g_aload_n 6 (gd rfl) rfl rfl ?_
      refine g_getI 9 (gd rfl) rfl rfl rfl (fun z9x6 e9x6 => ?_)
      have q9x6 : u_32_1 = z9x6 := (e_32_1).trans e9x6.symm
      subst q9x6
      refine g_cmp_ge 12 16 (gd rfl) rfl rfl (fun c9x9 => ?_) (fun c9x9 => ?_)
      · skip
        refine g_iconst 0 17 (gd rfl) rfl rfl ?_
        refine g_ireturn (gd rfl) rfl (nb01 (in_w 0 1 (in_c 0 rfl) rfl)) (hp9 _ _ ?_)
        show GG _ _ _ _ _ _ _ _ [.int (Int32.ofInt 0)] _ _ _
        refine g_if_eq 15 47 (gd rfl) rfl rfl (fun c12 => ?_) (fun c12 => ?_)
        · skip
          refine g_iconst 0 48 (gd rfl) rfl rfl ?_
          refine g_thr (E := am_IA) (y := yX11_allow) 51 (gd rfl) rfl rfl (Or.inl ⟨rfl, rfl, rfl⟩) (by first | exact dq1 hd rfl | exact dq0 hd rfl | exact dq2 hd rfl | exact dq3 hd rfl | omega) (Nat.le_of_ble_eq_true rfl) (Nat.le_of_ble_eq_true rfl) (Nat.le_of_ble_eq_true rfl) (fun c48 => ?_) (fun c48 => ?_)
          · skip
            exact zn_ne c48 (in_c 0 rfl) rfl
          · skip
            have n48 : ¬ SHP4 (shC s).2.2.2.2.2.2.1 x1 x2 x3 x4 := by first | (rw [shC_n (by rw [← e1x1]; exact c1x5)]; show ¬ SHP4 (s.2.2.1 2 1).toInt x1 x2 x3 x4; unfold SHP4 In; rw [← e_2_1]; exact (have a0 := in_u ro_32_1; have a1 := in_u ro_2_1; have a2 := in_u i1x5; have a3 := in_u i9x1; have oc := oc_249_0; by omega)) | (rw [shC_d (by rw [← e1x1]; exact c1x5)]; show ¬ SHP4 (s.2.2.1 32 1).toInt x1 x2 x3 x4; unfold SHP4 In; rw [← e_32_1]; exact (have a0 := in_u ro_32_1; have a1 := in_u ro_2_1; have a2 := in_u i1x5; have a3 := in_u i9x1; have oc := oc_249_0; by omega))
            exact (hX _ _ ⟨Or.inl ⟨rfl, n48⟩, s, hI, fr_rf, rfl⟩)
        · skip
          exact zn_ne c12 (in_c 0 rfl) rfl
      · skip
        have i9x9 := r_lt1 0 31 c9x9 i9x1 ro_32_1 rfl
        have i9x9a := r_lt2 1 32 c9x9 i9x1 ro_32_1 rfl
        refine g_iconst 1 13 (gd rfl) rfl rfl ?_
        refine g_goto 17 (gd rfl) rfl ?_
        refine g_ireturn (gd rfl) rfl (nb01 (in_w 0 1 (in_c 1 rfl) rfl)) (hp9 _ _ ?_)
        show GG _ _ _ _ _ _ _ _ [.int (Int32.ofInt 1)] _ _ _
        refine g_if_eq 15 47 (gd rfl) rfl rfl (fun c12 => ?_) (fun c12 => ?_)
        · skip
          exact zn_eq c12 (in_c 1 rfl) rfl
        · skip
          refine g_aload 17 (gd rfl) rfl rfl ?_
          refine g_iload_n 18 (gd rfl) rfl rfl ?_
          refine g_callv (X := _) (As := [.int x2]) (r := []) (b := A 32) (q := 32) 21 (gd rfl) rfl rfl rfl rfl rfl (ww_o rfl) (Nat.le_of_ble_eq_true rfl) (mc := 0) (ms := 0) (Nat.zero_le _) (Nat.zero_le _) (P := fun v u => _) ?_ (fun e u h => h) (fun v u h => h)
          intro po18 xx18 hp18 hx18
          refine g_enter2 (k := 94) (N := 300) (by first | exact dq1 hd rfl | exact dq0 hd rfl | exact dq2 hd rfl | exact dq3 hd rfl | omega) rfl (Nat.le_of_ble_eq_true rfl) ?_
          refine g_iload_n 1 (gd rfl) rfl rfl ?_
          refine g_if_lt 4 16 (gd rfl) rfl rfl (fun c18x1 => ?_) (fun c18x1 => ?_)
          · skip
            have i18x1 := z_lt (-2147483648) (-1) c18x1 (i_rng x2) rfl
            refine g_iconst 0 17 (gd rfl) rfl rfl ?_
            refine g_ireturn (gd rfl) rfl (nb01 (in_w 0 1 (in_c 0 rfl) rfl)) (hp18 _ _ ?_)
            show GG _ _ _ _ _ _ _ _ [.int (Int32.ofInt 0)] _ _ _
            refine g_if_eq 24 47 (gd rfl) rfl rfl (fun c21 => ?_) (fun c21 => ?_)
            · skip
              refine g_iconst 0 48 (gd rfl) rfl rfl ?_
              refine g_thr (E := am_IA) (y := yX11_allow) 51 (gd rfl) rfl rfl (Or.inl ⟨rfl, rfl, rfl⟩) (by first | exact dq1 hd rfl | exact dq0 hd rfl | exact dq2 hd rfl | exact dq3 hd rfl | omega) (Nat.le_of_ble_eq_true rfl) (Nat.le_of_ble_eq_true rfl) (Nat.le_of_ble_eq_true rfl) (fun c48 => ?_) (fun c48 => ?_)
              · skip
                exact zn_ne c48 (in_c 0 rfl) rfl
              · skip
                have n48 : ¬ SHP4 (shC s).2.2.2.2.2.2.1 x1 x2 x3 x4 := by first | (rw [shC_n (by rw [← e1x1]; exact c1x5)]; show ¬ SHP4 (s.2.2.1 2 1).toInt x1 x2 x3 x4; unfold SHP4 In; rw [← e_2_1]; exact (have a0 := in_u i9x9; have a1 := in_u i9x9a; have a2 := in_u ro_2_1; have a3 := in_u i1x5; have a4 := in_u i18x1; have oc := oc_249_0; by omega)) | (rw [shC_d (by rw [← e1x1]; exact c1x5)]; show ¬ SHP4 (s.2.2.1 32 1).toInt x1 x2 x3 x4; unfold SHP4 In; rw [← e_32_1]; exact (have a0 := in_u i9x9; have a1 := in_u i9x9a; have a2 := in_u ro_2_1; have a3 := in_u i1x5; have a4 := in_u i18x1; have oc := oc_249_0; by omega))
                exact (hX _ _ ⟨Or.inl ⟨rfl, n48⟩, s, hI, fr_rf, rfl⟩)
            · skip
              exact zn_ne c21 (in_c 0 rfl) rfl
          · skip
            have i18x1 := z_ge 0 2147483647 c18x1 (i_rng x2) rfl
            refine g_iload_n 5 (gd rfl) rfl rfl ?_
            refine g_aload_n 6 (gd rfl) rfl rfl ?_
            refine g_getI 9 (gd rfl) rfl rfl rfl (fun z18x6 e18x6 => ?_)
            have q18x6 : u_32_1 = z18x6 := (e_32_1).trans e18x6.symm
            subst q18x6
            refine g_cmp_ge 12 16 (gd rfl) rfl rfl (fun c18x9 => ?_) (fun c18x9 => ?_)
            · skip
              have i18x9 := r_le2 1 2147483647 c18x9 i9x9a i18x1 rfl
              refine g_iconst 0 17 (gd rfl) rfl rfl ?_
              refine g_ireturn (gd rfl) rfl (nb01 (in_w 0 1 (in_c 0 rfl) rfl)) (hp18 _ _ ?_)
              show GG _ _ _ _ _ _ _ _ [.int (Int32.ofInt 0)] _ _ _
              refine g_if_eq 24 47 (gd rfl) rfl rfl (fun c21 => ?_) (fun c21 => ?_)
              · skip
                refine g_iconst 0 48 (gd rfl) rfl rfl ?_
                refine g_thr (E := am_IA) (y := yX11_allow) 51 (gd rfl) rfl rfl (Or.inl ⟨rfl, rfl, rfl⟩) (by first | exact dq1 hd rfl | exact dq0 hd rfl | exact dq2 hd rfl | exact dq3 hd rfl | omega) (Nat.le_of_ble_eq_true rfl) (Nat.le_of_ble_eq_true rfl) (Nat.le_of_ble_eq_true rfl) (fun c48 => ?_) (fun c48 => ?_)
                · skip
                  exact zn_ne c48 (in_c 0 rfl) rfl
                · skip
                  have n48 : ¬ SHP4 (shC s).2.2.2.2.2.2.1 x1 x2 x3 x4 := by first | (rw [shC_n (by rw [← e1x1]; exact c1x5)]; show ¬ SHP4 (s.2.2.1 2 1).toInt x1 x2 x3 x4; unfold SHP4 In; rw [← e_2_1]; exact (have a0 := in_u i9x9; have a1 := in_u i9x9a; have a2 := in_u ro_2_1; have a3 := in_u i1x5; have a4 := in_u i18x9; have oc := oc_249_0; by omega)) | (rw [shC_d (by rw [← e1x1]; exact c1x5)]; show ¬ SHP4 (s.2.2.1 32 1).toInt x1 x2 x3 x4; unfold SHP4 In; rw [← e_32_1]; exact (have a0 := in_u i9x9; have a1 := in_u i9x9a; have a2 := in_u ro_2_1; have a3 := in_u i1x5; have a4 := in_u i18x9; have oc := oc_249_0; by omega))
                  exact (hX _ _ ⟨Or.inl ⟨rfl, n48⟩, s, hI, fr_rf, rfl⟩)
              · skip
                exact zn_ne c21 (in_c 0 rfl) rfl
            · skip
              have i18x9 := r_lt1 0 31 c18x9 i18x1 i9x9a rfl
              refine g_iconst 1 13 (gd rfl) rfl rfl ?_
              refine g_goto 17 (gd rfl) rfl ?_
              refine g_ireturn (gd rfl) rfl (nb01 (in_w 0 1 (in_c 1 rfl) rfl)) (hp18 _ _ ?_)
              show GG _ _ _ _ _ _ _ _ [.int (Int32.ofInt 1)] _ _ _
              refine g_if_eq 24 47 (gd rfl) rfl rfl (fun c21 => ?_) (fun c21 => ?_)
              · skip
                exact zn_eq c21 (in_c 1 rfl) rfl
              · skip
                refine g_iload_n 25 (gd rfl) rfl rfl ?_
                refine g_if_lt 28 47 (gd rfl) rfl rfl (fun c25 => ?_) (fun c25 => ?_)
                · skip
                  have i25 := z_lt (-2147483648) (-1) c25 (i_rng x3) rfl
                  refine g_iconst 0 48 (gd rfl) rfl rfl ?_
                  refine g_thr (E := am_IA) (y := yX11_allow) 51 (gd rfl) rfl rfl (Or.inl ⟨rfl, rfl, rfl⟩) (by first | exact dq1 hd rfl | exact dq0 hd rfl | exact dq2 hd rfl | exact dq3 hd rfl | omega) (Nat.le_of_ble_eq_true rfl) (Nat.le_of_ble_eq_true rfl) (Nat.le_of_ble_eq_true rfl) (fun c48 => ?_) (fun c48 => ?_)
                  · skip
                    exact zn_ne c48 (in_c 0 rfl) rfl
                  · skip
                    have n48 : ¬ SHP4 (shC s).2.2.2.2.2.2.1 x1 x2 x3 x4 := by first | (rw [shC_n (by rw [← e1x1]; exact c1x5)]; show ¬ SHP4 (s.2.2.1 2 1).toInt x1 x2 x3 x4; unfold SHP4 In; rw [← e_2_1]; exact (have a0 := in_u i18x9; have a1 := in_u i9x9; have a2 := in_u i9x9a; have a3 := in_u ro_2_1; have a4 := in_u i1x5; have a5 := in_u i25; have oc := oc_249_0; by omega)) | (rw [shC_d (by rw [← e1x1]; exact c1x5)]; show ¬ SHP4 (s.2.2.1 32 1).toInt x1 x2 x3 x4; unfold SHP4 In; rw [← e_32_1]; exact (have a0 := in_u i18x9; have a1 := in_u i9x9; have a2 := in_u i9x9a; have a3 := in_u ro_2_1; have a4 := in_u i1x5; have a5 := in_u i25; have oc := oc_249_0; by omega))
                    exact (hX _ _ ⟨Or.inl ⟨rfl, n48⟩, s, hI, fr_rf, rfl⟩)
                · skip
                  have i25 := z_ge 0 2147483647 c25 (i_rng x3) rfl
                  refine g_iload_n 29 (gd rfl) rfl rfl ?_
                  refine g_iconst 2 30 (gd rfl) rfl rfl ?_
                  refine g_cmp_gt 33 47 (gd rfl) rfl rfl (fun c30 => ?_) (fun c30 => ?_)
                  · skip
                    have i30 := r_lt2 3 2147483647 c30 (in_c 2 rfl) i25 rfl
                    refine g_iconst 0 48 (gd rfl) rfl rfl ?_
                    refine g_thr (E := am_IA) (y := yX11_allow) 51 (gd rfl) rfl rfl (Or.inl ⟨rfl, rfl, rfl⟩) (by first | exact dq1 hd rfl | exact dq0 hd rfl | exact dq2 hd rfl | exact dq3 hd rfl | omega) (Nat.le_of_ble_eq_true rfl) (Nat.le_of_ble_eq_true rfl) (Nat.le_of_ble_eq_true rfl) (fun c48 => ?_) (fun c48 => ?_)
                    · skip
                      exact zn_ne c48 (in_c 0 rfl) rfl
                    · skip
                      have n48 : ¬ SHP4 (shC s).2.2.2.2.2.2.1 x1 x2 x3 x4 := by first | (rw [shC_n (by rw [← e1x1]; exact c1x5)]; show ¬ SHP4 (s.2.2.1 2 1).toInt x1 x2 x3 x4; unfold SHP4 In; rw [← e_2_1]; exact (have a0 := in_u i18x9; have a1 := in_u i9x9; have a2 := in_u i9x9a; have a3 := in_u ro_2_1; have a4 := in_u i1x5; have a5 := in_u i30; have oc := oc_249_0; by omega)) | (rw [shC_d (by rw [← e1x1]; exact c1x5)]; show ¬ SHP4 (s.2.2.1 32 1).toInt x1 x2 x3 x4; unfold SHP4 In; rw [← e_32_1]; exact (have a0 := in_u i18x9; have a1 := in_u i9x9; have a2 := in_u i9x9a; have a3 := in_u ro_2_1; have a4 := in_u i1x5; have a5 := in_u i30; have oc := oc_249_0; by omega))
                      exact (hX _ _ ⟨Or.inl ⟨rfl, n48⟩, s, hI, fr_rf, rfl⟩)
                  · skip
                    have i30 := r_le1 0 2 c30 i25 (in_c 2 rfl) rfl
                    refine g_aload 35 (gd rfl) rfl rfl ?_
                    refine g_iload 37 (gd rfl) rfl rfl ?_
                    refine g_callv (X := _) (As := [.int x4]) (r := []) (b := A 32) (q := 32) 40 (gd rfl) rfl rfl rfl rfl rfl (ww_o rfl) (Nat.le_of_ble_eq_true rfl) (mc := 0) (ms := 0) (Nat.zero_le _) (Nat.zero_le _) (P := fun v u => _) ?_ (fun e u h => h) (fun v u h => h)
                    intro po37 xx37 hp37 hx37
                    refine g_enter2 (k := 94) (N := 300) (by first | exact dq1 hd rfl | exact dq0 hd rfl | exact dq2 hd rfl | exact dq3 hd rfl | omega) rfl (Nat.le_of_ble_eq_true rfl) ?_
                    refine g_iload_n 1 (gd rfl) rfl rfl ?_
                    refine g_if_lt 4 16 (gd rfl) rfl rfl (fun c37x1 => ?_) (fun c37x1 => ?_)
                    · skip
                      have i37x1 := z_lt (-2147483648) (-1) c37x1 (i_rng x4) rfl
                      refine g_iconst 0 17 (gd rfl) rfl rfl ?_
                      refine g_ireturn (gd rfl) rfl (nb01 (in_w 0 1 (in_c 0 rfl) rfl)) (hp37 _ _ ?_)
                      show GG _ _ _ _ _ _ _ _ [.int (Int32.ofInt 0)] _ _ _
                      refine g_if_eq 43 47 (gd rfl) rfl rfl (fun c40 => ?_) (fun c40 => ?_)
                      · skip
                        refine g_iconst 0 48 (gd rfl) rfl rfl ?_
                        refine g_thr (E := am_IA) (y := yX11_allow) 51 (gd rfl) rfl rfl (Or.inl ⟨rfl, rfl, rfl⟩) (by first | exact dq1 hd rfl | exact dq0 hd rfl | exact dq2 hd rfl | exact dq3 hd rfl | omega) (Nat.le_of_ble_eq_true rfl) (Nat.le_of_ble_eq_true rfl) (Nat.le_of_ble_eq_true rfl) (fun c48 => ?_) (fun c48 => ?_)
                        · skip
                          exact zn_ne c48 (in_c 0 rfl) rfl
                        · skip
                          have n48 : ¬ SHP4 (shC s).2.2.2.2.2.2.1 x1 x2 x3 x4 := by first | (rw [shC_n (by rw [← e1x1]; exact c1x5)]; show ¬ SHP4 (s.2.2.1 2 1).toInt x1 x2 x3 x4; unfold SHP4 In; rw [← e_2_1]; exact (have a0 := in_u i30; have a1 := in_u i18x9; have a2 := in_u i9x9; have a3 := in_u i9x9a; have a4 := in_u ro_2_1; have a5 := in_u i1x5; have a6 := in_u i37x1; have oc := oc_249_0; by omega)) | (rw [shC_d (by rw [← e1x1]; exact c1x5)]; show ¬ SHP4 (s.2.2.1 32 1).toInt x1 x2 x3 x4; unfold SHP4 In; rw [← e_32_1]; exact (have a0 := in_u i30; have a1 := in_u i18x9; have a2 := in_u i9x9; have a3 := in_u i9x9a; have a4 := in_u ro_2_1; have a5 := in_u i1x5; have a6 := in_u i37x1; have oc := oc_249_0; by omega))
                          exact (hX _ _ ⟨Or.inl ⟨rfl, n48⟩, s, hI, fr_rf, rfl⟩)
                      · skip
                        exact zn_ne c40 (in_c 0 rfl) rfl
                    · skip
                      have i37x1 := z_ge 0 2147483647 c37x1 (i_rng x4) rfl
                      refine g_iload_n 5 (gd rfl) rfl rfl ?_
                      refine g_aload_n 6 (gd rfl) rfl rfl ?_
                      refine g_getI 9 (gd rfl) rfl rfl rfl (fun z37x6 e37x6 => ?_)
                      have q37x6 : u_32_1 = z37x6 := (e_32_1).trans e37x6.symm
                      subst q37x6
                      refine g_cmp_ge 12 16 (gd rfl) rfl rfl (fun c37x9 => ?_) (fun c37x9 => ?_)
                      · skip
                        have i37x9 := r_le2 1 2147483647 c37x9 i9x9a i37x1 rfl
                        refine g_iconst 0 17 (gd rfl) rfl rfl ?_
                        refine g_ireturn (gd rfl) rfl (nb01 (in_w 0 1 (in_c 0 rfl) rfl)) (hp37 _ _ ?_)
                        show GG _ _ _ _ _ _ _ _ [.int (Int32.ofInt 0)] _ _ _
                        refine g_if_eq 43 47 (gd rfl) rfl rfl (fun c40 => ?_) (fun c40 => ?_)
                        · skip
                          refine g_iconst 0 48 (gd rfl) rfl rfl ?_
                          refine g_thr (E := am_IA) (y := yX11_allow) 51 (gd rfl) rfl rfl (Or.inl ⟨rfl, rfl, rfl⟩) (by first | exact dq1 hd rfl | exact dq0 hd rfl | exact dq2 hd rfl | exact dq3 hd rfl | omega) (Nat.le_of_ble_eq_true rfl) (Nat.le_of_ble_eq_true rfl) (Nat.le_of_ble_eq_true rfl) (fun c48 => ?_) (fun c48 => ?_)
                          · skip
                            exact zn_ne c48 (in_c 0 rfl) rfl
                          · skip
                            have n48 : ¬ SHP4 (shC s).2.2.2.2.2.2.1 x1 x2 x3 x4 := by first | (rw [shC_n (by rw [← e1x1]; exact c1x5)]; show ¬ SHP4 (s.2.2.1 2 1).toInt x1 x2 x3 x4; unfold SHP4 In; rw [← e_2_1]; exact (have a0 := in_u i30; have a1 := in_u i18x9; have a2 := in_u i9x9; have a3 := in_u i9x9a; have a4 := in_u ro_2_1; have a5 := in_u i1x5; have a6 := in_u i37x9; have oc := oc_249_0; by omega)) | (rw [shC_d (by rw [← e1x1]; exact c1x5)]; show ¬ SHP4 (s.2.2.1 32 1).toInt x1 x2 x3 x4; unfold SHP4 In; rw [← e_32_1]; exact (have a0 := in_u i30; have a1 := in_u i18x9; have a2 := in_u i9x9; have a3 := in_u i9x9a; have a4 := in_u ro_2_1; have a5 := in_u i1x5; have a6 := in_u i37x9; have oc := oc_249_0; by omega))
                            exact (hX _ _ ⟨Or.inl ⟨rfl, n48⟩, s, hI, fr_rf, rfl⟩)
                        · skip
                          exact zn_ne c40 (in_c 0 rfl) rfl
                      · skip
                        have i37x9 := r_lt1 0 31 c37x9 i37x1 i9x9a rfl
                        refine g_iconst 1 13 (gd rfl) rfl rfl ?_
                        refine g_goto 17 (gd rfl) rfl ?_
                        refine g_ireturn (gd rfl) rfl (nb01 (in_w 0 1 (in_c 1 rfl) rfl)) (hp37 _ _ ?_)
                        show GG _ _ _ _ _ _ _ _ [.int (Int32.ofInt 1)] _ _ _
                        refine g_if_eq 43 47 (gd rfl) rfl rfl (fun c40 => ?_) (fun c40 => ?_)
                        · skip
                          exact zn_eq c40 (in_c 1 rfl) rfl
                        · skip
                          refine g_iconst 1 44 (gd rfl) rfl rfl ?_
                          refine g_goto 48 (gd rfl) rfl ?_
                          refine g_thr (E := am_IA) (y := yX11_allow) 51 (gd rfl) rfl rfl (Or.inl ⟨rfl, rfl, rfl⟩) (by first | exact dq1 hd rfl | exact dq0 hd rfl | exact dq2 hd rfl | exact dq3 hd rfl | omega) (Nat.le_of_ble_eq_true rfl) (Nat.le_of_ble_eq_true rfl) (Nat.le_of_ble_eq_true rfl) (fun c48 => ?_) (fun c48 => ?_)
                          · skip
                            refine g_iload_n 52 (gd rfl) rfl rfl ?_
                            refine g_if_ne 55 67 (gd rfl) rfl rfl (fun c52 => ?_) (fun c52 => ?_)
                            · skip
                              have i52 := z_ne 1 2 c52 i30 rfl
                              refine g_iload_n 68 (gd rfl) rfl rfl ?_
                              refine g_iconst 1 69 (gd rfl) rfl rfl ?_
                              refine g_cmp_ne 72 87 (gd rfl) rfl rfl (fun c69 => ?_) (fun c69 => ?_)
                              · skip
                                have i69 := r_ne1 2 2 c69 i52 (in_c 1 rfl) rfl
                                refine g_aload_n 88 (gd rfl) rfl rfl ?_
                                refine g_getA (q2 := 49) 91 (gd rfl) rfl rfl rfl rfl ?_
                                refine g_aload 93 (gd rfl) rfl rfl ?_
                                refine g_iload_n 94 (gd rfl) rfl rfl ?_
                                refine g_iload_n 95 (gd rfl) rfl rfl ?_
                                refine g_iload 97 (gd rfl) rfl rfl ?_
                                have p97 : TQD s := by first | exact q_0 | exact q_1
                                have p97a : NDQ (gvD s) := by first | (rw [← shC_n (by rw [← e1x1]; exact c1x5)]; exact q_2) | (rw [← shC_d (by rw [← e1x1]; exact c1x5)]; exact q_2)
                                refine g_callv (X := _) (As := [.ref (A 32), .int x1, .int x2, .int x4]) (r := []) (b := A 49) (q := 49) 100 (gd rfl) rfl rfl rfl rfl rfl (ww_o rfl) (Nat.le_of_ble_eq_true rfl) (Nat.zero_le _) (Nat.zero_le _) (f_203_49_32 (by first | exact dq1 hd rfl | exact dq0 hd rfl | exact dq2 hd rfl | exact dq3 hd rfl | omega) hI (in_w 0 31 i9x9 rfl) (in_w 0 31 i18x9 rfl) (in_w 0 31 i37x9 rfl) p97 p97a) (fun e u h => h) (fun v u h => ?_)
                                obtain ⟨s97, hI97, hF97, z97, rfl, rfl, i97, p97b⟩ := h
                                show GG _ _ _ _ _ _ _ _ [.int z97] _ _ _
                                have n100 : SHP4 (shC s).2.2.2.2.2.2.1 x1 x2 x3 x4 ∧ SHS (shC s) x1.toNatClampNeg x2.toNatClampNeg x3.toInt x4.toNatClampNeg (z97).toInt := by first | (rw [shC_n (by rw [← e1x1]; exact c1x5)]; exact ⟨(show SHP4 (s.2.2.1 2 1).toInt x1 x2 x3 x4 from ⟨⟨by exact (have a0 := in_u i37x9; have a1 := in_u i69; have a2 := in_u i18x9; have a3 := in_u i9x9; have a4 := in_u i9x9a; have a5 := in_u ro_2_1; have a6 := in_u i1x5; have oc := oc_249_0; by omega), by rw [← e_2_1]; exact (have a0 := in_u i37x9; have a1 := in_u i69; have a2 := in_u i18x9; have a3 := in_u i9x9; have a4 := in_u i9x9a; have a5 := in_u ro_2_1; have a6 := in_u i1x5; have oc := oc_249_0; by omega)⟩, ⟨by exact (have a0 := in_u i37x9; have a1 := in_u i69; have a2 := in_u i18x9; have a3 := in_u i9x9; have a4 := in_u i9x9a; have a5 := in_u ro_2_1; have a6 := in_u i1x5; have oc := oc_249_0; by omega), by rw [← e_2_1]; exact (have a0 := in_u i37x9; have a1 := in_u i69; have a2 := in_u i18x9; have a3 := in_u i9x9; have a4 := in_u i9x9a; have a5 := in_u ro_2_1; have a6 := in_u i1x5; have oc := oc_249_0; by omega)⟩, ⟨by exact (have a0 := in_u i37x9; have a1 := in_u i69; have a2 := in_u i18x9; have a3 := in_u i9x9; have a4 := in_u i9x9a; have a5 := in_u ro_2_1; have a6 := in_u i1x5; have oc := oc_249_0; by omega), by exact (have a0 := in_u i37x9; have a1 := in_u i69; have a2 := in_u i18x9; have a3 := in_u i9x9; have a4 := in_u i9x9a; have a5 := in_u ro_2_1; have a6 := in_u i1x5; have oc := oc_249_0; by omega)⟩, ⟨by exact (have a0 := in_u i37x9; have a1 := in_u i69; have a2 := in_u i18x9; have a3 := in_u i9x9; have a4 := in_u i9x9a; have a5 := in_u ro_2_1; have a6 := in_u i1x5; have oc := oc_249_0; by omega), by rw [← e_2_1]; exact (have a0 := in_u i37x9; have a1 := in_u i69; have a2 := in_u i18x9; have a3 := in_u i9x9; have a4 := in_u i9x9a; have a5 := in_u ro_2_1; have a6 := in_u i1x5; have oc := oc_249_0; by omega)⟩⟩), shs_2 (by exact (have a0 := in_u i37x9; have a1 := in_u i69; have a2 := in_u i18x9; have a3 := in_u i9x9; have a4 := in_u i9x9a; have a5 := in_u ro_2_1; have a6 := in_u i1x5; have oc := oc_249_0; by omega)) p97b⟩) | (rw [shC_d (by rw [← e1x1]; exact c1x5)]; exact ⟨(show SHP4 (s.2.2.1 32 1).toInt x1 x2 x3 x4 from ⟨⟨by exact (have a0 := in_u i37x9; have a1 := in_u i69; have a2 := in_u i18x9; have a3 := in_u i9x9; have a4 := in_u i9x9a; have a5 := in_u ro_2_1; have a6 := in_u i1x5; have oc := oc_249_0; by omega), by rw [← e_32_1]; exact (have a0 := in_u i37x9; have a1 := in_u i69; have a2 := in_u i18x9; have a3 := in_u i9x9; have a4 := in_u i9x9a; have a5 := in_u ro_2_1; have a6 := in_u i1x5; have oc := oc_249_0; by omega)⟩, ⟨by exact (have a0 := in_u i37x9; have a1 := in_u i69; have a2 := in_u i18x9; have a3 := in_u i9x9; have a4 := in_u i9x9a; have a5 := in_u ro_2_1; have a6 := in_u i1x5; have oc := oc_249_0; by omega), by rw [← e_32_1]; exact (have a0 := in_u i37x9; have a1 := in_u i69; have a2 := in_u i18x9; have a3 := in_u i9x9; have a4 := in_u i9x9a; have a5 := in_u ro_2_1; have a6 := in_u i1x5; have oc := oc_249_0; by omega)⟩, ⟨by exact (have a0 := in_u i37x9; have a1 := in_u i69; have a2 := in_u i18x9; have a3 := in_u i9x9; have a4 := in_u i9x9a; have a5 := in_u ro_2_1; have a6 := in_u i1x5; have oc := oc_249_0; by omega), by exact (have a0 := in_u i37x9; have a1 := in_u i69; have a2 := in_u i18x9; have a3 := in_u i9x9; have a4 := in_u i9x9a; have a5 := in_u ro_2_1; have a6 := in_u i1x5; have oc := oc_249_0; by omega)⟩, ⟨by exact (have a0 := in_u i37x9; have a1 := in_u i69; have a2 := in_u i18x9; have a3 := in_u i9x9; have a4 := in_u i9x9a; have a5 := in_u ro_2_1; have a6 := in_u i1x5; have oc := oc_249_0; by omega), by rw [← e_32_1]; exact (have a0 := in_u i37x9; have a1 := in_u i69; have a2 := in_u i18x9; have a3 := in_u i9x9; have a4 := in_u i9x9a; have a5 := in_u ro_2_1; have a6 := in_u i1x5; have oc := oc_249_0; by omega)⟩⟩), shs_2 (by exact (have a0 := in_u i37x9; have a1 := in_u i69; have a2 := in_u i18x9; have a3 := in_u i9x9; have a4 := in_u i9x9a; have a5 := in_u ro_2_1; have a6 := in_u i1x5; have oc := oc_249_0; by omega)) p97b⟩)
                                exact g_ireturn (gd rfl) rfl rfl (hP _ _ ⟨s97, hI97, (fr_tr rfl fr_rf hF97), z97, rfl, rfl, in_w (-2147483648) 2147483647 i97 rfl, n100⟩)
                              · skip
                                have i69 := r_eq1 1 1 c69 i52 (in_c 1 rfl) rfl
                                refine g_aload_n 73 (gd rfl) rfl rfl ?_
                                refine g_getA (q2 := 49) 76 (gd rfl) rfl rfl rfl rfl ?_
                                refine g_aload 78 (gd rfl) rfl rfl ?_
                                refine g_iload_n 79 (gd rfl) rfl rfl ?_
                                refine g_iload_n 80 (gd rfl) rfl rfl ?_
                                refine g_iload_n 81 (gd rfl) rfl rfl ?_
                                have p81 : TQD s := by first | exact q_0 | exact q_1
                                have p81a : NDQ (gvD s) := by first | (rw [← shC_n (by rw [← e1x1]; exact c1x5)]; exact q_2) | (rw [← shC_d (by rw [← e1x1]; exact c1x5)]; exact q_2)
                                refine g_callv (X := _) (As := [.ref (A 32), .int x1, .int x2, .int x1]) (r := []) (b := A 49) (q := 49) 84 (gd rfl) rfl rfl rfl rfl rfl (ww_o rfl) (Nat.le_of_ble_eq_true rfl) (Nat.zero_le _) (Nat.zero_le _) (f_203_49_32 (by first | exact dq1 hd rfl | exact dq0 hd rfl | exact dq2 hd rfl | exact dq3 hd rfl | omega) hI (in_w 0 31 i9x9 rfl) (in_w 0 31 i18x9 rfl) (in_w 0 31 i9x9 rfl) p81 p81a) (fun e u h => h) (fun v u h => ?_)
                                obtain ⟨s81, hI81, hF81, z81, rfl, rfl, i81, p81b⟩ := h
                                show GG _ _ _ _ _ _ _ _ [.int z81] _ _ _
                                refine g_goto 100 (gd rfl) rfl ?_
                                have n100 : SHP4 (shC s).2.2.2.2.2.2.1 x1 x2 x3 x4 ∧ SHS (shC s) x1.toNatClampNeg x2.toNatClampNeg x3.toInt x4.toNatClampNeg (z81).toInt := by first | (rw [shC_n (by rw [← e1x1]; exact c1x5)]; obtain ⟨d1, c1, p1⟩ := @hps_ex (ARE (gvC s) 0) (ARE (gvC s) 1) (x1).toNatClampNeg (x4).toNatClampNeg; obtain ⟨d2, c2, p2⟩ := @hps_ex (ARE (gvC s) 0) (ARE (gvC s) 1) (x4).toNatClampNeg (x2).toNatClampNeg; obtain ⟨h, c, p0, e⟩ := shc_1 p81b; exact ⟨(show SHP4 (s.2.2.1 2 1).toInt x1 x2 x3 x4 from ⟨⟨by exact (have a0 := in_u i37x9; have a1 := in_u i69; have a2 := in_u i18x9; have a3 := in_u i9x9; have a4 := in_u i9x9a; have a5 := in_u ro_2_1; have a6 := in_u i1x5; have oc := oc_249_0; by omega), by rw [← e_2_1]; exact (have a0 := in_u i37x9; have a1 := in_u i69; have a2 := in_u i18x9; have a3 := in_u i9x9; have a4 := in_u i9x9a; have a5 := in_u ro_2_1; have a6 := in_u i1x5; have oc := oc_249_0; by omega)⟩, ⟨by exact (have a0 := in_u i37x9; have a1 := in_u i69; have a2 := in_u i18x9; have a3 := in_u i9x9; have a4 := in_u i9x9a; have a5 := in_u ro_2_1; have a6 := in_u i1x5; have oc := oc_249_0; by omega), by rw [← e_2_1]; exact (have a0 := in_u i37x9; have a1 := in_u i69; have a2 := in_u i18x9; have a3 := in_u i9x9; have a4 := in_u i9x9a; have a5 := in_u ro_2_1; have a6 := in_u i1x5; have oc := oc_249_0; by omega)⟩, ⟨by exact (have a0 := in_u i37x9; have a1 := in_u i69; have a2 := in_u i18x9; have a3 := in_u i9x9; have a4 := in_u i9x9a; have a5 := in_u ro_2_1; have a6 := in_u i1x5; have oc := oc_249_0; by omega), by exact (have a0 := in_u i37x9; have a1 := in_u i69; have a2 := in_u i18x9; have a3 := in_u i9x9; have a4 := in_u i9x9a; have a5 := in_u ro_2_1; have a6 := in_u i1x5; have oc := oc_249_0; by omega)⟩, ⟨by exact (have a0 := in_u i37x9; have a1 := in_u i69; have a2 := in_u i18x9; have a3 := in_u i9x9; have a4 := in_u i9x9a; have a5 := in_u ro_2_1; have a6 := in_u i1x5; have oc := oc_249_0; by omega), by rw [← e_2_1]; exact (have a0 := in_u i37x9; have a1 := in_u i69; have a2 := in_u i18x9; have a3 := in_u i9x9; have a4 := in_u i9x9a; have a5 := in_u ro_2_1; have a6 := in_u i1x5; have oc := oc_249_0; by omega)⟩⟩), shs_1 p0 p1 p2 (by exact (have a0 := in_u i37x9; have a1 := in_u i69; have a2 := in_u i18x9; have a3 := in_u i9x9; have a4 := in_u i9x9a; have a5 := in_u ro_2_1; have a6 := in_u i1x5; have oc := oc_249_0; by omega)) e⟩) | (rw [shC_d (by rw [← e1x1]; exact c1x5)]; obtain ⟨d1, c1, p1⟩ := @hps_ex (ARE (gvD s) 0) (ARE (gvD s) 1) (x1).toNatClampNeg (x4).toNatClampNeg; obtain ⟨d2, c2, p2⟩ := @hps_ex (ARE (gvD s) 0) (ARE (gvD s) 1) (x4).toNatClampNeg (x2).toNatClampNeg; obtain ⟨h, c, p0, e⟩ := shc_1 p81b; exact ⟨(show SHP4 (s.2.2.1 32 1).toInt x1 x2 x3 x4 from ⟨⟨by exact (have a0 := in_u i37x9; have a1 := in_u i69; have a2 := in_u i18x9; have a3 := in_u i9x9; have a4 := in_u i9x9a; have a5 := in_u ro_2_1; have a6 := in_u i1x5; have oc := oc_249_0; by omega), by rw [← e_32_1]; exact (have a0 := in_u i37x9; have a1 := in_u i69; have a2 := in_u i18x9; have a3 := in_u i9x9; have a4 := in_u i9x9a; have a5 := in_u ro_2_1; have a6 := in_u i1x5; have oc := oc_249_0; by omega)⟩, ⟨by exact (have a0 := in_u i37x9; have a1 := in_u i69; have a2 := in_u i18x9; have a3 := in_u i9x9; have a4 := in_u i9x9a; have a5 := in_u ro_2_1; have a6 := in_u i1x5; have oc := oc_249_0; by omega), by rw [← e_32_1]; exact (have a0 := in_u i37x9; have a1 := in_u i69; have a2 := in_u i18x9; have a3 := in_u i9x9; have a4 := in_u i9x9a; have a5 := in_u ro_2_1; have a6 := in_u i1x5; have oc := oc_249_0; by omega)⟩, ⟨by exact (have a0 := in_u i37x9; have a1 := in_u i69; have a2 := in_u i18x9; have a3 := in_u i9x9; have a4 := in_u i9x9a; have a5 := in_u ro_2_1; have a6 := in_u i1x5; have oc := oc_249_0; by omega), by exact (have a0 := in_u i37x9; have a1 := in_u i69; have a2 := in_u i18x9; have a3 := in_u i9x9; have a4 := in_u i9x9a; have a5 := in_u ro_2_1; have a6 := in_u i1x5; have oc := oc_249_0; by omega)⟩, ⟨by exact (have a0 := in_u i37x9; have a1 := in_u i69; have a2 := in_u i18x9; have a3 := in_u i9x9; have a4 := in_u i9x9a; have a5 := in_u ro_2_1; have a6 := in_u i1x5; have oc := oc_249_0; by omega), by rw [← e_32_1]; exact (have a0 := in_u i37x9; have a1 := in_u i69; have a2 := in_u i18x9; have a3 := in_u i9x9; have a4 := in_u i9x9a; have a5 := in_u ro_2_1; have a6 := in_u i1x5; have oc := oc_249_0; by omega)⟩⟩), shs_1 p0 p1 p2 (by exact (have a0 := in_u i37x9; have a1 := in_u i69; have a2 := in_u i18x9; have a3 := in_u i9x9; have a4 := in_u i9x9a; have a5 := in_u ro_2_1; have a6 := in_u i1x5; have oc := oc_249_0; by omega)) e⟩)
                                exact g_ireturn (gd rfl) rfl rfl (hP _ _ ⟨s81, hI81, (fr_tr rfl fr_rf hF81), z81, rfl, rfl, in_w (-2147483648) 2147483647 i81 rfl, n100⟩)
                            · skip
                              have i52 := z_eq 0 0 c52 i30 rfl
                              refine g_aload_n 56 (gd rfl) rfl rfl ?_
                              refine g_getA (q2 := 49) 59 (gd rfl) rfl rfl rfl rfl ?_
                              refine g_aload 61 (gd rfl) rfl rfl ?_
                              refine g_iload_n 62 (gd rfl) rfl rfl ?_
                              refine g_iload_n 63 (gd rfl) rfl rfl ?_
                              have p63 : TQD s := by first | exact q_0 | exact q_1
                              have p63a : NDQ (gvD s) := by first | (rw [← shC_n (by rw [← e1x1]; exact c1x5)]; exact q_2) | (rw [← shC_d (by rw [← e1x1]; exact c1x5)]; exact q_2)
                              refine g_callv (X := _) (As := [.ref (A 32), .int x1, .int x2]) (r := []) (b := A 49) (q := 49) 66 (gd rfl) rfl rfl rfl rfl rfl (ww_o rfl) (Nat.le_of_ble_eq_true rfl) (Nat.zero_le _) (Nat.zero_le _) (f_202_49_32 (by first | exact dq1 hd rfl | exact dq0 hd rfl | exact dq2 hd rfl | exact dq3 hd rfl | omega) hI (in_w 0 31 i9x9 rfl) (in_w 0 31 i18x9 rfl) p63 p63a) (fun e u h => h) (fun v u h => ?_)
                              obtain ⟨s63, hI63, hF63, z63, rfl, rfl, i63, p63b⟩ := h
                              show GG _ _ _ _ _ _ _ _ [.int z63] _ _ _
                              have n66 : SHP4 (shC s).2.2.2.2.2.2.1 x1 x2 x3 x4 ∧ SHS (shC s) x1.toNatClampNeg x2.toNatClampNeg x3.toInt x4.toNatClampNeg (z63).toInt := by first | (rw [shC_n (by rw [← e1x1]; exact c1x5)]; obtain ⟨d1, c1, p1⟩ := @hps_ex (ARE (gvC s) 0) (ARE (gvC s) 1) (x1).toNatClampNeg (x4).toNatClampNeg; obtain ⟨d2, c2, p2⟩ := @hps_ex (ARE (gvC s) 0) (ARE (gvC s) 1) (x4).toNatClampNeg (x2).toNatClampNeg; obtain ⟨c, p0⟩ := p63b; exact ⟨(show SHP4 (s.2.2.1 2 1).toInt x1 x2 x3 x4 from ⟨⟨by exact (have a0 := in_u i37x9; have a1 := in_u i52; have a2 := in_u i18x9; have a3 := in_u i9x9; have a4 := in_u i9x9a; have a5 := in_u ro_2_1; have a6 := in_u i1x5; have oc := oc_249_0; by omega), by rw [← e_2_1]; exact (have a0 := in_u i37x9; have a1 := in_u i52; have a2 := in_u i18x9; have a3 := in_u i9x9; have a4 := in_u i9x9a; have a5 := in_u ro_2_1; have a6 := in_u i1x5; have oc := oc_249_0; by omega)⟩, ⟨by exact (have a0 := in_u i37x9; have a1 := in_u i52; have a2 := in_u i18x9; have a3 := in_u i9x9; have a4 := in_u i9x9a; have a5 := in_u ro_2_1; have a6 := in_u i1x5; have oc := oc_249_0; by omega), by rw [← e_2_1]; exact (have a0 := in_u i37x9; have a1 := in_u i52; have a2 := in_u i18x9; have a3 := in_u i9x9; have a4 := in_u i9x9a; have a5 := in_u ro_2_1; have a6 := in_u i1x5; have oc := oc_249_0; by omega)⟩, ⟨by exact (have a0 := in_u i37x9; have a1 := in_u i52; have a2 := in_u i18x9; have a3 := in_u i9x9; have a4 := in_u i9x9a; have a5 := in_u ro_2_1; have a6 := in_u i1x5; have oc := oc_249_0; by omega), by exact (have a0 := in_u i37x9; have a1 := in_u i52; have a2 := in_u i18x9; have a3 := in_u i9x9; have a4 := in_u i9x9a; have a5 := in_u ro_2_1; have a6 := in_u i1x5; have oc := oc_249_0; by omega)⟩, ⟨by exact (have a0 := in_u i37x9; have a1 := in_u i52; have a2 := in_u i18x9; have a3 := in_u i9x9; have a4 := in_u i9x9a; have a5 := in_u ro_2_1; have a6 := in_u i1x5; have oc := oc_249_0; by omega), by rw [← e_2_1]; exact (have a0 := in_u i37x9; have a1 := in_u i52; have a2 := in_u i18x9; have a3 := in_u i9x9; have a4 := in_u i9x9a; have a5 := in_u ro_2_1; have a6 := in_u i1x5; have oc := oc_249_0; by omega)⟩⟩), shs_0 p0 p1 p2 (by exact (have a0 := in_u i37x9; have a1 := in_u i52; have a2 := in_u i18x9; have a3 := in_u i9x9; have a4 := in_u i9x9a; have a5 := in_u ro_2_1; have a6 := in_u i1x5; have oc := oc_249_0; by omega)) rfl⟩) | (rw [shC_d (by rw [← e1x1]; exact c1x5)]; obtain ⟨d1, c1, p1⟩ := @hps_ex (ARE (gvD s) 0) (ARE (gvD s) 1) (x1).toNatClampNeg (x4).toNatClampNeg; obtain ⟨d2, c2, p2⟩ := @hps_ex (ARE (gvD s) 0) (ARE (gvD s) 1) (x4).toNatClampNeg (x2).toNatClampNeg; obtain ⟨c, p0⟩ := p63b; exact ⟨(show SHP4 (s.2.2.1 32 1).toInt x1 x2 x3 x4 from ⟨⟨by exact (have a0 := in_u i37x9; have a1 := in_u i52; have a2 := in_u i18x9; have a3 := in_u i9x9; have a4 := in_u i9x9a; have a5 := in_u ro_2_1; have a6 := in_u i1x5; have oc := oc_249_0; by omega), by rw [← e_32_1]; exact (have a0 := in_u i37x9; have a1 := in_u i52; have a2 := in_u i18x9; have a3 := in_u i9x9; have a4 := in_u i9x9a; have a5 := in_u ro_2_1; have a6 := in_u i1x5; have oc := oc_249_0; by omega)⟩, ⟨by exact (have a0 := in_u i37x9; have a1 := in_u i52; have a2 := in_u i18x9; have a3 := in_u i9x9; have a4 := in_u i9x9a; have a5 := in_u ro_2_1; have a6 := in_u i1x5; have oc := oc_249_0; by omega), by rw [← e_32_1]; exact (have a0 := in_u i37x9; have a1 := in_u i52; have a2 := in_u i18x9; have a3 := in_u i9x9; have a4 := in_u i9x9a; have a5 := in_u ro_2_1; have a6 := in_u i1x5; have oc := oc_249_0; by omega)⟩, ⟨by exact (have a0 := in_u i37x9; have a1 := in_u i52; have a2 := in_u i18x9; have a3 := in_u i9x9; have a4 := in_u i9x9a; have a5 := in_u ro_2_1; have a6 := in_u i1x5; have oc := oc_249_0; by omega), by exact (have a0 := in_u i37x9; have a1 := in_u i52; have a2 := in_u i18x9; have a3 := in_u i9x9; have a4 := in_u i9x9a; have a5 := in_u ro_2_1; have a6 := in_u i1x5; have oc := oc_249_0; by omega)⟩, ⟨by exact (have a0 := in_u i37x9; have a1 := in_u i52; have a2 := in_u i18x9; have a3 := in_u i9x9; have a4 := in_u i9x9a; have a5 := in_u ro_2_1; have a6 := in_u i1x5; have oc := oc_249_0; by omega), by rw [← e_32_1]; exact (have a0 := in_u i37x9; have a1 := in_u i52; have a2 := in_u i18x9; have a3 := in_u i9x9; have a4 := in_u i9x9a; have a5 := in_u ro_2_1; have a6 := in_u i1x5; have oc := oc_249_0; by omega)⟩⟩), shs_0 p0 p1 p2 (by exact (have a0 := in_u i37x9; have a1 := in_u i52; have a2 := in_u i18x9; have a3 := in_u i9x9; have a4 := in_u i9x9a; have a5 := in_u ro_2_1; have a6 := in_u i1x5; have oc := oc_249_0; by omega)) rfl⟩)
                              exact g_ireturn (gd rfl) rfl rfl (hP _ _ ⟨s63, hI63, (fr_tr rfl fr_rf hF63), z63, rfl, rfl, in_w (-2147483648) 2147483647 i63 rfl, n66⟩)
                          · skip
                            exact zn_eq c48 (in_c 1 rfl) rfl
  · skip
    have i1x5 := r_eq1 (-1) (-1) c1x5 ro_0_2 (in_c (-1) rfl) rfl
    refine g_aload_n 9 (gd rfl) rfl rfl ?_
    refine g_getA (q2 := 1) 12 (gd rfl) rfl rfl rfl rfl ?_
    refine g_getA (q2 := 2) 15 (gd rfl) rfl rfl rfl rfl ?_
    refine g_goto 22 (gd rfl) rfl ?_
    refine g_areturn (gd rfl) rfl (hp1 _ _ ?_)
    show GG _ _ _ _ _ _ _ _ [.ref (A 2)] _ _ _
    refine g_astore 6 (gd rfl) rfl (Nat.le_of_ble_eq_true rfl) ?_
    refine g_aload 8 (gd rfl) rfl rfl ?_
    refine g_iload_n 9 (gd rfl) rfl rfl ?_
    refine g_callv (X := _) (As := [.int x1]) (r := []) (b := A 2) (q := 2) 12 (gd rfl) rfl rfl rfl rfl rfl (ww_o rfl) (Nat.le_of_ble_eq_true rfl) (mc := 0) (ms := 0) (Nat.zero_le _) (Nat.zero_le _) (P := fun v u => _) ?_ (fun e u h => h) (fun v u h => h)
    intro po9 xx9 hp9 hx9
    refine g_enter2 (k := 94) (N := 300) (by first | exact dq1 hd rfl | exact dq0 hd rfl | exact dq2 hd rfl | exact dq3 hd rfl | omega) rfl (Nat.le_of_ble_eq_true rfl) ?_
    refine g_iload_n 1 (gd rfl) rfl rfl ?_
    refine g_if_lt 4 16 (gd rfl) rfl rfl (fun c9x1 => ?_) (fun c9x1 => ?_)
    · skip
      have i9x1 := z_lt (-2147483648) (-1) c9x1 (i_rng x1) rfl
      refine g_iconst 0 17 (gd rfl) rfl rfl ?_
      refine g_ireturn (gd rfl) rfl (nb01 (in_w 0 1 (in_c 0 rfl) rfl)) (hp9 _ _ ?_)
      show GG _ _ _ _ _ _ _ _ [.int (Int32.ofInt 0)] _ _ _
      refine g_if_eq 15 47 (gd rfl) rfl rfl (fun c12 => ?_) (fun c12 => ?_)
      · skip
        refine g_iconst 0 48 (gd rfl) rfl rfl ?_
        refine g_thr (E := am_IA) (y := yX11_allow) 51 (gd rfl) rfl rfl (Or.inl ⟨rfl, rfl, rfl⟩) (by first | exact dq1 hd rfl | exact dq0 hd rfl | exact dq2 hd rfl | exact dq3 hd rfl | omega) (Nat.le_of_ble_eq_true rfl) (Nat.le_of_ble_eq_true rfl) (Nat.le_of_ble_eq_true rfl) (fun c48 => ?_) (fun c48 => ?_)
        · skip
          exact zn_ne c48 (in_c 0 rfl) rfl
        · skip
          have n48 : ¬ SHP4 (shC s).2.2.2.2.2.2.1 x1 x2 x3 x4 := by first | (rw [shC_n (by rw [← e1x1]; exact c1x5)]; show ¬ SHP4 (s.2.2.1 2 1).toInt x1 x2 x3 x4; unfold SHP4 In; rw [← e_2_1]; exact (have a0 := in_u ro_32_1; have a1 := in_u ro_2_1; have a2 := in_u i1x5; have a3 := in_u i9x1; have oc := oc_249_0; by omega)) | (rw [shC_d (by rw [← e1x1]; exact c1x5)]; show ¬ SHP4 (s.2.2.1 32 1).toInt x1 x2 x3 x4; unfold SHP4 In; rw [← e_32_1]; exact (have a0 := in_u ro_32_1; have a1 := in_u ro_2_1; have a2 := in_u i1x5; have a3 := in_u i9x1; have oc := oc_249_0; by omega))
          exact (hX _ _ ⟨Or.inl ⟨rfl, n48⟩, s, hI, fr_rf, rfl⟩)
      · skip
        exact zn_ne c12 (in_c 0 rfl) rfl
    · skip
      have i9x1 := z_ge 0 2147483647 c9x1 (i_rng x1) rfl
      refine g_iload_n 5 (gd rfl) rfl rfl ?_
      refine g_aload_n 6 (gd rfl) rfl rfl ?_
      refine g_getI 9 (gd rfl) rfl rfl rfl (fun z9x6 e9x6 => ?_)
      have q9x6 : u_2_1 = z9x6 := (e_2_1).trans e9x6.symm
      subst q9x6
      refine g_cmp_ge 12 16 (gd rfl) rfl rfl (fun c9x9 => ?_) (fun c9x9 => ?_)
      · skip
        refine g_iconst 0 17 (gd rfl) rfl rfl ?_
        refine g_ireturn (gd rfl) rfl (nb01 (in_w 0 1 (in_c 0 rfl) rfl)) (hp9 _ _ ?_)
        show GG _ _ _ _ _ _ _ _ [.int (Int32.ofInt 0)] _ _ _
        refine g_if_eq 15 47 (gd rfl) rfl rfl (fun c12 => ?_) (fun c12 => ?_)
        · skip
          refine g_iconst 0 48 (gd rfl) rfl rfl ?_
          refine g_thr (E := am_IA) (y := yX11_allow) 51 (gd rfl) rfl rfl (Or.inl ⟨rfl, rfl, rfl⟩) (by first | exact dq1 hd rfl | exact dq0 hd rfl | exact dq2 hd rfl | exact dq3 hd rfl | omega) (Nat.le_of_ble_eq_true rfl) (Nat.le_of_ble_eq_true rfl) (Nat.le_of_ble_eq_true rfl) (fun c48 => ?_) (fun c48 => ?_)
          · skip
            exact zn_ne c48 (in_c 0 rfl) rfl
          · skip
            have n48 : ¬ SHP4 (shC s).2.2.2.2.2.2.1 x1 x2 x3 x4 := by first | (rw [shC_n (by rw [← e1x1]; exact c1x5)]; show ¬ SHP4 (s.2.2.1 2 1).toInt x1 x2 x3 x4; unfold SHP4 In; rw [← e_2_1]; exact (have a0 := in_u ro_32_1; have a1 := in_u ro_2_1; have a2 := in_u i1x5; have a3 := in_u i9x1; have oc := oc_249_0; by omega)) | (rw [shC_d (by rw [← e1x1]; exact c1x5)]; show ¬ SHP4 (s.2.2.1 32 1).toInt x1 x2 x3 x4; unfold SHP4 In; rw [← e_32_1]; exact (have a0 := in_u ro_32_1; have a1 := in_u ro_2_1; have a2 := in_u i1x5; have a3 := in_u i9x1; have oc := oc_249_0; by omega))
            exact (hX _ _ ⟨Or.inl ⟨rfl, n48⟩, s, hI, fr_rf, rfl⟩)
        · skip
          exact zn_ne c12 (in_c 0 rfl) rfl
      · skip
        have i9x9 := r_lt1 0 31 c9x9 i9x1 ro_2_1 rfl
        have i9x9a := r_lt2 1 32 c9x9 i9x1 ro_2_1 rfl
        refine g_iconst 1 13 (gd rfl) rfl rfl ?_
        refine g_goto 17 (gd rfl) rfl ?_
        refine g_ireturn (gd rfl) rfl (nb01 (in_w 0 1 (in_c 1 rfl) rfl)) (hp9 _ _ ?_)
        show GG _ _ _ _ _ _ _ _ [.int (Int32.ofInt 1)] _ _ _
        refine g_if_eq 15 47 (gd rfl) rfl rfl (fun c12 => ?_) (fun c12 => ?_)
        · skip
          exact zn_eq c12 (in_c 1 rfl) rfl
        · skip
          refine g_aload 17 (gd rfl) rfl rfl ?_
          refine g_iload_n 18 (gd rfl) rfl rfl ?_
          refine g_callv (X := _) (As := [.int x2]) (r := []) (b := A 2) (q := 2) 21 (gd rfl) rfl rfl rfl rfl rfl (ww_o rfl) (Nat.le_of_ble_eq_true rfl) (mc := 0) (ms := 0) (Nat.zero_le _) (Nat.zero_le _) (P := fun v u => _) ?_ (fun e u h => h) (fun v u h => h)
          intro po18 xx18 hp18 hx18
          refine g_enter2 (k := 94) (N := 300) (by first | exact dq1 hd rfl | exact dq0 hd rfl | exact dq2 hd rfl | exact dq3 hd rfl | omega) rfl (Nat.le_of_ble_eq_true rfl) ?_
          refine g_iload_n 1 (gd rfl) rfl rfl ?_
          refine g_if_lt 4 16 (gd rfl) rfl rfl (fun c18x1 => ?_) (fun c18x1 => ?_)
          · skip
            have i18x1 := z_lt (-2147483648) (-1) c18x1 (i_rng x2) rfl
            refine g_iconst 0 17 (gd rfl) rfl rfl ?_
            refine g_ireturn (gd rfl) rfl (nb01 (in_w 0 1 (in_c 0 rfl) rfl)) (hp18 _ _ ?_)
            show GG _ _ _ _ _ _ _ _ [.int (Int32.ofInt 0)] _ _ _
            refine g_if_eq 24 47 (gd rfl) rfl rfl (fun c21 => ?_) (fun c21 => ?_)
            · skip
              refine g_iconst 0 48 (gd rfl) rfl rfl ?_
              refine g_thr (E := am_IA) (y := yX11_allow) 51 (gd rfl) rfl rfl (Or.inl ⟨rfl, rfl, rfl⟩) (by first | exact dq1 hd rfl | exact dq0 hd rfl | exact dq2 hd rfl | exact dq3 hd rfl | omega) (Nat.le_of_ble_eq_true rfl) (Nat.le_of_ble_eq_true rfl) (Nat.le_of_ble_eq_true rfl) (fun c48 => ?_) (fun c48 => ?_)
              · skip
                exact zn_ne c48 (in_c 0 rfl) rfl
              · skip
                have n48 : ¬ SHP4 (shC s).2.2.2.2.2.2.1 x1 x2 x3 x4 := by first | (rw [shC_n (by rw [← e1x1]; exact c1x5)]; show ¬ SHP4 (s.2.2.1 2 1).toInt x1 x2 x3 x4; unfold SHP4 In; rw [← e_2_1]; exact (have a0 := in_u i9x9; have a1 := in_u ro_32_1; have a2 := in_u i9x9a; have a3 := in_u i1x5; have a4 := in_u i18x1; have oc := oc_249_0; by omega)) | (rw [shC_d (by rw [← e1x1]; exact c1x5)]; show ¬ SHP4 (s.2.2.1 32 1).toInt x1 x2 x3 x4; unfold SHP4 In; rw [← e_32_1]; exact (have a0 := in_u i9x9; have a1 := in_u ro_32_1; have a2 := in_u i9x9a; have a3 := in_u i1x5; have a4 := in_u i18x1; have oc := oc_249_0; by omega))
                exact (hX _ _ ⟨Or.inl ⟨rfl, n48⟩, s, hI, fr_rf, rfl⟩)
            · skip
              exact zn_ne c21 (in_c 0 rfl) rfl
          · skip
            have i18x1 := z_ge 0 2147483647 c18x1 (i_rng x2) rfl
            refine g_iload_n 5 (gd rfl) rfl rfl ?_
            refine g_aload_n 6 (gd rfl) rfl rfl ?_
            refine g_getI 9 (gd rfl) rfl rfl rfl (fun z18x6 e18x6 => ?_)
            have q18x6 : u_2_1 = z18x6 := (e_2_1).trans e18x6.symm
            subst q18x6
            refine g_cmp_ge 12 16 (gd rfl) rfl rfl (fun c18x9 => ?_) (fun c18x9 => ?_)
            · skip
              have i18x9 := r_le2 1 2147483647 c18x9 i9x9a i18x1 rfl
              refine g_iconst 0 17 (gd rfl) rfl rfl ?_
              refine g_ireturn (gd rfl) rfl (nb01 (in_w 0 1 (in_c 0 rfl) rfl)) (hp18 _ _ ?_)
              show GG _ _ _ _ _ _ _ _ [.int (Int32.ofInt 0)] _ _ _
              refine g_if_eq 24 47 (gd rfl) rfl rfl (fun c21 => ?_) (fun c21 => ?_)
              · skip
                refine g_iconst 0 48 (gd rfl) rfl rfl ?_
                refine g_thr (E := am_IA) (y := yX11_allow) 51 (gd rfl) rfl rfl (Or.inl ⟨rfl, rfl, rfl⟩) (by first | exact dq1 hd rfl | exact dq0 hd rfl | exact dq2 hd rfl | exact dq3 hd rfl | omega) (Nat.le_of_ble_eq_true rfl) (Nat.le_of_ble_eq_true rfl) (Nat.le_of_ble_eq_true rfl) (fun c48 => ?_) (fun c48 => ?_)
                · skip
                  exact zn_ne c48 (in_c 0 rfl) rfl
                · skip
                  have n48 : ¬ SHP4 (shC s).2.2.2.2.2.2.1 x1 x2 x3 x4 := by first | (rw [shC_n (by rw [← e1x1]; exact c1x5)]; show ¬ SHP4 (s.2.2.1 2 1).toInt x1 x2 x3 x4; unfold SHP4 In; rw [← e_2_1]; exact (have a0 := in_u i9x9; have a1 := in_u ro_32_1; have a2 := in_u i9x9a; have a3 := in_u i1x5; have a4 := in_u i18x9; have oc := oc_249_0; by omega)) | (rw [shC_d (by rw [← e1x1]; exact c1x5)]; show ¬ SHP4 (s.2.2.1 32 1).toInt x1 x2 x3 x4; unfold SHP4 In; rw [← e_32_1]; exact (have a0 := in_u i9x9; have a1 := in_u ro_32_1; have a2 := in_u i9x9a; have a3 := in_u i1x5; have a4 := in_u i18x9; have oc := oc_249_0; by omega))
                  exact (hX _ _ ⟨Or.inl ⟨rfl, n48⟩, s, hI, fr_rf, rfl⟩)
              · skip
                exact zn_ne c21 (in_c 0 rfl) rfl
            · skip
              have i18x9 := r_lt1 0 31 c18x9 i18x1 i9x9a rfl
              refine g_iconst 1 13 (gd rfl) rfl rfl ?_
              refine g_goto 17 (gd rfl) rfl ?_
              refine g_ireturn (gd rfl) rfl (nb01 (in_w 0 1 (in_c 1 rfl) rfl)) (hp18 _ _ ?_)
              show GG _ _ _ _ _ _ _ _ [.int (Int32.ofInt 1)] _ _ _
              refine g_if_eq 24 47 (gd rfl) rfl rfl (fun c21 => ?_) (fun c21 => ?_)
              · skip
                exact zn_eq c21 (in_c 1 rfl) rfl
              · skip
                refine g_iload_n 25 (gd rfl) rfl rfl ?_
                refine g_if_lt 28 47 (gd rfl) rfl rfl (fun c25 => ?_) (fun c25 => ?_)
                · skip
                  have i25 := z_lt (-2147483648) (-1) c25 (i_rng x3) rfl
                  refine g_iconst 0 48 (gd rfl) rfl rfl ?_
                  refine g_thr (E := am_IA) (y := yX11_allow) 51 (gd rfl) rfl rfl (Or.inl ⟨rfl, rfl, rfl⟩) (by first | exact dq1 hd rfl | exact dq0 hd rfl | exact dq2 hd rfl | exact dq3 hd rfl | omega) (Nat.le_of_ble_eq_true rfl) (Nat.le_of_ble_eq_true rfl) (Nat.le_of_ble_eq_true rfl) (fun c48 => ?_) (fun c48 => ?_)
                  · skip
                    exact zn_ne c48 (in_c 0 rfl) rfl
                  · skip
                    have n48 : ¬ SHP4 (shC s).2.2.2.2.2.2.1 x1 x2 x3 x4 := by first | (rw [shC_n (by rw [← e1x1]; exact c1x5)]; show ¬ SHP4 (s.2.2.1 2 1).toInt x1 x2 x3 x4; unfold SHP4 In; rw [← e_2_1]; exact (have a0 := in_u i18x9; have a1 := in_u i9x9; have a2 := in_u ro_32_1; have a3 := in_u i9x9a; have a4 := in_u i1x5; have a5 := in_u i25; have oc := oc_249_0; by omega)) | (rw [shC_d (by rw [← e1x1]; exact c1x5)]; show ¬ SHP4 (s.2.2.1 32 1).toInt x1 x2 x3 x4; unfold SHP4 In; rw [← e_32_1]; exact (have a0 := in_u i18x9; have a1 := in_u i9x9; have a2 := in_u ro_32_1; have a3 := in_u i9x9a; have a4 := in_u i1x5; have a5 := in_u i25; have oc := oc_249_0; by omega))
                    exact (hX _ _ ⟨Or.inl ⟨rfl, n48⟩, s, hI, fr_rf, rfl⟩)
                · skip
                  have i25 := z_ge 0 2147483647 c25 (i_rng x3) rfl
                  refine g_iload_n 29 (gd rfl) rfl rfl ?_
                  refine g_iconst 2 30 (gd rfl) rfl rfl ?_
                  refine g_cmp_gt 33 47 (gd rfl) rfl rfl (fun c30 => ?_) (fun c30 => ?_)
                  · skip
                    have i30 := r_lt2 3 2147483647 c30 (in_c 2 rfl) i25 rfl
                    refine g_iconst 0 48 (gd rfl) rfl rfl ?_
                    refine g_thr (E := am_IA) (y := yX11_allow) 51 (gd rfl) rfl rfl (Or.inl ⟨rfl, rfl, rfl⟩) (by first | exact dq1 hd rfl | exact dq0 hd rfl | exact dq2 hd rfl | exact dq3 hd rfl | omega) (Nat.le_of_ble_eq_true rfl) (Nat.le_of_ble_eq_true rfl) (Nat.le_of_ble_eq_true rfl) (fun c48 => ?_) (fun c48 => ?_)
                    · skip
                      exact zn_ne c48 (in_c 0 rfl) rfl
                    · skip
                      have n48 : ¬ SHP4 (shC s).2.2.2.2.2.2.1 x1 x2 x3 x4 := by first | (rw [shC_n (by rw [← e1x1]; exact c1x5)]; show ¬ SHP4 (s.2.2.1 2 1).toInt x1 x2 x3 x4; unfold SHP4 In; rw [← e_2_1]; exact (have a0 := in_u i18x9; have a1 := in_u i9x9; have a2 := in_u ro_32_1; have a3 := in_u i9x9a; have a4 := in_u i1x5; have a5 := in_u i30; have oc := oc_249_0; by omega)) | (rw [shC_d (by rw [← e1x1]; exact c1x5)]; show ¬ SHP4 (s.2.2.1 32 1).toInt x1 x2 x3 x4; unfold SHP4 In; rw [← e_32_1]; exact (have a0 := in_u i18x9; have a1 := in_u i9x9; have a2 := in_u ro_32_1; have a3 := in_u i9x9a; have a4 := in_u i1x5; have a5 := in_u i30; have oc := oc_249_0; by omega))
                      exact (hX _ _ ⟨Or.inl ⟨rfl, n48⟩, s, hI, fr_rf, rfl⟩)
                  · skip
                    have i30 := r_le1 0 2 c30 i25 (in_c 2 rfl) rfl
                    refine g_aload 35 (gd rfl) rfl rfl ?_
                    refine g_iload 37 (gd rfl) rfl rfl ?_
                    refine g_callv (X := _) (As := [.int x4]) (r := []) (b := A 2) (q := 2) 40 (gd rfl) rfl rfl rfl rfl rfl (ww_o rfl) (Nat.le_of_ble_eq_true rfl) (mc := 0) (ms := 0) (Nat.zero_le _) (Nat.zero_le _) (P := fun v u => _) ?_ (fun e u h => h) (fun v u h => h)
                    intro po37 xx37 hp37 hx37
                    refine g_enter2 (k := 94) (N := 300) (by first | exact dq1 hd rfl | exact dq0 hd rfl | exact dq2 hd rfl | exact dq3 hd rfl | omega) rfl (Nat.le_of_ble_eq_true rfl) ?_
                    refine g_iload_n 1 (gd rfl) rfl rfl ?_
                    refine g_if_lt 4 16 (gd rfl) rfl rfl (fun c37x1 => ?_) (fun c37x1 => ?_)
                    · skip
                      have i37x1 := z_lt (-2147483648) (-1) c37x1 (i_rng x4) rfl
                      refine g_iconst 0 17 (gd rfl) rfl rfl ?_
                      refine g_ireturn (gd rfl) rfl (nb01 (in_w 0 1 (in_c 0 rfl) rfl)) (hp37 _ _ ?_)
                      show GG _ _ _ _ _ _ _ _ [.int (Int32.ofInt 0)] _ _ _
                      refine g_if_eq 43 47 (gd rfl) rfl rfl (fun c40 => ?_) (fun c40 => ?_)
                      · skip
                        refine g_iconst 0 48 (gd rfl) rfl rfl ?_
                        refine g_thr (E := am_IA) (y := yX11_allow) 51 (gd rfl) rfl rfl (Or.inl ⟨rfl, rfl, rfl⟩) (by first | exact dq1 hd rfl | exact dq0 hd rfl | exact dq2 hd rfl | exact dq3 hd rfl | omega) (Nat.le_of_ble_eq_true rfl) (Nat.le_of_ble_eq_true rfl) (Nat.le_of_ble_eq_true rfl) (fun c48 => ?_) (fun c48 => ?_)
                        · skip
                          exact zn_ne c48 (in_c 0 rfl) rfl
                        · skip
                          have n48 : ¬ SHP4 (shC s).2.2.2.2.2.2.1 x1 x2 x3 x4 := by first | (rw [shC_n (by rw [← e1x1]; exact c1x5)]; show ¬ SHP4 (s.2.2.1 2 1).toInt x1 x2 x3 x4; unfold SHP4 In; rw [← e_2_1]; exact (have a0 := in_u i30; have a1 := in_u i18x9; have a2 := in_u i9x9; have a3 := in_u ro_32_1; have a4 := in_u i9x9a; have a5 := in_u i1x5; have a6 := in_u i37x1; have oc := oc_249_0; by omega)) | (rw [shC_d (by rw [← e1x1]; exact c1x5)]; show ¬ SHP4 (s.2.2.1 32 1).toInt x1 x2 x3 x4; unfold SHP4 In; rw [← e_32_1]; exact (have a0 := in_u i30; have a1 := in_u i18x9; have a2 := in_u i9x9; have a3 := in_u ro_32_1; have a4 := in_u i9x9a; have a5 := in_u i1x5; have a6 := in_u i37x1; have oc := oc_249_0; by omega))
                          exact (hX _ _ ⟨Or.inl ⟨rfl, n48⟩, s, hI, fr_rf, rfl⟩)
                      · skip
                        exact zn_ne c40 (in_c 0 rfl) rfl
                    · skip
                      have i37x1 := z_ge 0 2147483647 c37x1 (i_rng x4) rfl
                      refine g_iload_n 5 (gd rfl) rfl rfl ?_
                      refine g_aload_n 6 (gd rfl) rfl rfl ?_
                      refine g_getI 9 (gd rfl) rfl rfl rfl (fun z37x6 e37x6 => ?_)
                      have q37x6 : u_2_1 = z37x6 := (e_2_1).trans e37x6.symm
                      subst q37x6
                      refine g_cmp_ge 12 16 (gd rfl) rfl rfl (fun c37x9 => ?_) (fun c37x9 => ?_)
                      · skip
                        have i37x9 := r_le2 1 2147483647 c37x9 i9x9a i37x1 rfl
                        refine g_iconst 0 17 (gd rfl) rfl rfl ?_
                        refine g_ireturn (gd rfl) rfl (nb01 (in_w 0 1 (in_c 0 rfl) rfl)) (hp37 _ _ ?_)
                        show GG _ _ _ _ _ _ _ _ [.int (Int32.ofInt 0)] _ _ _
                        refine g_if_eq 43 47 (gd rfl) rfl rfl (fun c40 => ?_) (fun c40 => ?_)
                        · skip
                          refine g_iconst 0 48 (gd rfl) rfl rfl ?_
                          refine g_thr (E := am_IA) (y := yX11_allow) 51 (gd rfl) rfl rfl (Or.inl ⟨rfl, rfl, rfl⟩) (by first | exact dq1 hd rfl | exact dq0 hd rfl | exact dq2 hd rfl | exact dq3 hd rfl | omega) (Nat.le_of_ble_eq_true rfl) (Nat.le_of_ble_eq_true rfl) (Nat.le_of_ble_eq_true rfl) (fun c48 => ?_) (fun c48 => ?_)
                          · skip
                            exact zn_ne c48 (in_c 0 rfl) rfl
                          · skip
                            have n48 : ¬ SHP4 (shC s).2.2.2.2.2.2.1 x1 x2 x3 x4 := by first | (rw [shC_n (by rw [← e1x1]; exact c1x5)]; show ¬ SHP4 (s.2.2.1 2 1).toInt x1 x2 x3 x4; unfold SHP4 In; rw [← e_2_1]; exact (have a0 := in_u i30; have a1 := in_u i18x9; have a2 := in_u i9x9; have a3 := in_u ro_32_1; have a4 := in_u i9x9a; have a5 := in_u i1x5; have a6 := in_u i37x9; have oc := oc_249_0; by omega)) | (rw [shC_d (by rw [← e1x1]; exact c1x5)]; show ¬ SHP4 (s.2.2.1 32 1).toInt x1 x2 x3 x4; unfold SHP4 In; rw [← e_32_1]; exact (have a0 := in_u i30; have a1 := in_u i18x9; have a2 := in_u i9x9; have a3 := in_u ro_32_1; have a4 := in_u i9x9a; have a5 := in_u i1x5; have a6 := in_u i37x9; have oc := oc_249_0; by omega))
                            exact (hX _ _ ⟨Or.inl ⟨rfl, n48⟩, s, hI, fr_rf, rfl⟩)
                        · skip
                          exact zn_ne c40 (in_c 0 rfl) rfl
                      · skip
                        have i37x9 := r_lt1 0 31 c37x9 i37x1 i9x9a rfl
                        refine g_iconst 1 13 (gd rfl) rfl rfl ?_
                        refine g_goto 17 (gd rfl) rfl ?_
                        refine g_ireturn (gd rfl) rfl (nb01 (in_w 0 1 (in_c 1 rfl) rfl)) (hp37 _ _ ?_)
                        show GG _ _ _ _ _ _ _ _ [.int (Int32.ofInt 1)] _ _ _
                        refine g_if_eq 43 47 (gd rfl) rfl rfl (fun c40 => ?_) (fun c40 => ?_)
                        · skip
                          exact zn_eq c40 (in_c 1 rfl) rfl
                        · skip
                          refine g_iconst 1 44 (gd rfl) rfl rfl ?_
                          refine g_goto 48 (gd rfl) rfl ?_
                          refine g_thr (E := am_IA) (y := yX11_allow) 51 (gd rfl) rfl rfl (Or.inl ⟨rfl, rfl, rfl⟩) (by first | exact dq1 hd rfl | exact dq0 hd rfl | exact dq2 hd rfl | exact dq3 hd rfl | omega) (Nat.le_of_ble_eq_true rfl) (Nat.le_of_ble_eq_true rfl) (Nat.le_of_ble_eq_true rfl) (fun c48 => ?_) (fun c48 => ?_)
                          · skip
                            refine g_iload_n 52 (gd rfl) rfl rfl ?_
                            refine g_if_ne 55 67 (gd rfl) rfl rfl (fun c52 => ?_) (fun c52 => ?_)
                            · skip
                              have i52 := z_ne 1 2 c52 i30 rfl
                              refine g_iload_n 68 (gd rfl) rfl rfl ?_
                              refine g_iconst 1 69 (gd rfl) rfl rfl ?_
                              refine g_cmp_ne 72 87 (gd rfl) rfl rfl (fun c69 => ?_) (fun c69 => ?_)
                              · skip
                                have i69 := r_ne1 2 2 c69 i52 (in_c 1 rfl) rfl
                                refine g_aload_n 88 (gd rfl) rfl rfl ?_
                                refine g_getA (q2 := 49) 91 (gd rfl) rfl rfl rfl rfl ?_
                                refine g_aload 93 (gd rfl) rfl rfl ?_
                                refine g_iload_n 94 (gd rfl) rfl rfl ?_
                                refine g_iload_n 95 (gd rfl) rfl rfl ?_
                                refine g_iload 97 (gd rfl) rfl rfl ?_
                                have p97 : TQ s := by first | exact q_0 | exact q_1
                                have p97a : NDQ (gvC s) := by first | (rw [← shC_n (by rw [← e1x1]; exact c1x5)]; exact q_2) | (rw [← shC_d (by rw [← e1x1]; exact c1x5)]; exact q_2)
                                refine g_callv (X := _) (As := [.ref (A 2), .int x1, .int x2, .int x4]) (r := []) (b := A 49) (q := 49) 100 (gd rfl) rfl rfl rfl rfl rfl (ww_o rfl) (Nat.le_of_ble_eq_true rfl) (Nat.zero_le _) (Nat.zero_le _) (f_203_49_2 (by first | exact dq1 hd rfl | exact dq0 hd rfl | exact dq2 hd rfl | exact dq3 hd rfl | omega) hI (in_w 0 31 i9x9 rfl) (in_w 0 31 i18x9 rfl) (in_w 0 31 i37x9 rfl) p97 p97a) (fun e u h => h) (fun v u h => ?_)
                                obtain ⟨s97, hI97, hF97, z97, rfl, rfl, i97, p97b⟩ := h
                                show GG _ _ _ _ _ _ _ _ [.int z97] _ _ _
                                have n100 : SHP4 (shC s).2.2.2.2.2.2.1 x1 x2 x3 x4 ∧ SHS (shC s) x1.toNatClampNeg x2.toNatClampNeg x3.toInt x4.toNatClampNeg (z97).toInt := by first | (rw [shC_n (by rw [← e1x1]; exact c1x5)]; exact ⟨(show SHP4 (s.2.2.1 2 1).toInt x1 x2 x3 x4 from ⟨⟨by exact (have a0 := in_u i37x9; have a1 := in_u i69; have a2 := in_u i18x9; have a3 := in_u i9x9; have a4 := in_u ro_32_1; have a5 := in_u i9x9a; have a6 := in_u i1x5; have oc := oc_249_0; by omega), by rw [← e_2_1]; exact (have a0 := in_u i37x9; have a1 := in_u i69; have a2 := in_u i18x9; have a3 := in_u i9x9; have a4 := in_u ro_32_1; have a5 := in_u i9x9a; have a6 := in_u i1x5; have oc := oc_249_0; by omega)⟩, ⟨by exact (have a0 := in_u i37x9; have a1 := in_u i69; have a2 := in_u i18x9; have a3 := in_u i9x9; have a4 := in_u ro_32_1; have a5 := in_u i9x9a; have a6 := in_u i1x5; have oc := oc_249_0; by omega), by rw [← e_2_1]; exact (have a0 := in_u i37x9; have a1 := in_u i69; have a2 := in_u i18x9; have a3 := in_u i9x9; have a4 := in_u ro_32_1; have a5 := in_u i9x9a; have a6 := in_u i1x5; have oc := oc_249_0; by omega)⟩, ⟨by exact (have a0 := in_u i37x9; have a1 := in_u i69; have a2 := in_u i18x9; have a3 := in_u i9x9; have a4 := in_u ro_32_1; have a5 := in_u i9x9a; have a6 := in_u i1x5; have oc := oc_249_0; by omega), by exact (have a0 := in_u i37x9; have a1 := in_u i69; have a2 := in_u i18x9; have a3 := in_u i9x9; have a4 := in_u ro_32_1; have a5 := in_u i9x9a; have a6 := in_u i1x5; have oc := oc_249_0; by omega)⟩, ⟨by exact (have a0 := in_u i37x9; have a1 := in_u i69; have a2 := in_u i18x9; have a3 := in_u i9x9; have a4 := in_u ro_32_1; have a5 := in_u i9x9a; have a6 := in_u i1x5; have oc := oc_249_0; by omega), by rw [← e_2_1]; exact (have a0 := in_u i37x9; have a1 := in_u i69; have a2 := in_u i18x9; have a3 := in_u i9x9; have a4 := in_u ro_32_1; have a5 := in_u i9x9a; have a6 := in_u i1x5; have oc := oc_249_0; by omega)⟩⟩), shs_2 (by exact (have a0 := in_u i37x9; have a1 := in_u i69; have a2 := in_u i18x9; have a3 := in_u i9x9; have a4 := in_u ro_32_1; have a5 := in_u i9x9a; have a6 := in_u i1x5; have oc := oc_249_0; by omega)) p97b⟩) | (rw [shC_d (by rw [← e1x1]; exact c1x5)]; exact ⟨(show SHP4 (s.2.2.1 32 1).toInt x1 x2 x3 x4 from ⟨⟨by exact (have a0 := in_u i37x9; have a1 := in_u i69; have a2 := in_u i18x9; have a3 := in_u i9x9; have a4 := in_u ro_32_1; have a5 := in_u i9x9a; have a6 := in_u i1x5; have oc := oc_249_0; by omega), by rw [← e_32_1]; exact (have a0 := in_u i37x9; have a1 := in_u i69; have a2 := in_u i18x9; have a3 := in_u i9x9; have a4 := in_u ro_32_1; have a5 := in_u i9x9a; have a6 := in_u i1x5; have oc := oc_249_0; by omega)⟩, ⟨by exact (have a0 := in_u i37x9; have a1 := in_u i69; have a2 := in_u i18x9; have a3 := in_u i9x9; have a4 := in_u ro_32_1; have a5 := in_u i9x9a; have a6 := in_u i1x5; have oc := oc_249_0; by omega), by rw [← e_32_1]; exact (have a0 := in_u i37x9; have a1 := in_u i69; have a2 := in_u i18x9; have a3 := in_u i9x9; have a4 := in_u ro_32_1; have a5 := in_u i9x9a; have a6 := in_u i1x5; have oc := oc_249_0; by omega)⟩, ⟨by exact (have a0 := in_u i37x9; have a1 := in_u i69; have a2 := in_u i18x9; have a3 := in_u i9x9; have a4 := in_u ro_32_1; have a5 := in_u i9x9a; have a6 := in_u i1x5; have oc := oc_249_0; by omega), by exact (have a0 := in_u i37x9; have a1 := in_u i69; have a2 := in_u i18x9; have a3 := in_u i9x9; have a4 := in_u ro_32_1; have a5 := in_u i9x9a; have a6 := in_u i1x5; have oc := oc_249_0; by omega)⟩, ⟨by exact (have a0 := in_u i37x9; have a1 := in_u i69; have a2 := in_u i18x9; have a3 := in_u i9x9; have a4 := in_u ro_32_1; have a5 := in_u i9x9a; have a6 := in_u i1x5; have oc := oc_249_0; by omega), by rw [← e_32_1]; exact (have a0 := in_u i37x9; have a1 := in_u i69; have a2 := in_u i18x9; have a3 := in_u i9x9; have a4 := in_u ro_32_1; have a5 := in_u i9x9a; have a6 := in_u i1x5; have oc := oc_249_0; by omega)⟩⟩), shs_2 (by exact (have a0 := in_u i37x9; have a1 := in_u i69; have a2 := in_u i18x9; have a3 := in_u i9x9; have a4 := in_u ro_32_1; have a5 := in_u i9x9a; have a6 := in_u i1x5; have oc := oc_249_0; by omega)) p97b⟩)
                                exact g_ireturn (gd rfl) rfl rfl (hP _ _ ⟨s97, hI97, (fr_tr rfl fr_rf hF97), z97, rfl, rfl, in_w (-2147483648) 2147483647 i97 rfl, n100⟩)
                              · skip
                                have i69 := r_eq1 1 1 c69 i52 (in_c 1 rfl) rfl
                                refine g_aload_n 73 (gd rfl) rfl rfl ?_
                                refine g_getA (q2 := 49) 76 (gd rfl) rfl rfl rfl rfl ?_
                                refine g_aload 78 (gd rfl) rfl rfl ?_
                                refine g_iload_n 79 (gd rfl) rfl rfl ?_
                                refine g_iload_n 80 (gd rfl) rfl rfl ?_
                                refine g_iload_n 81 (gd rfl) rfl rfl ?_
                                have p81 : TQ s := by first | exact q_0 | exact q_1
                                have p81a : NDQ (gvC s) := by first | (rw [← shC_n (by rw [← e1x1]; exact c1x5)]; exact q_2) | (rw [← shC_d (by rw [← e1x1]; exact c1x5)]; exact q_2)
                                refine g_callv (X := _) (As := [.ref (A 2), .int x1, .int x2, .int x1]) (r := []) (b := A 49) (q := 49) 84 (gd rfl) rfl rfl rfl rfl rfl (ww_o rfl) (Nat.le_of_ble_eq_true rfl) (Nat.zero_le _) (Nat.zero_le _) (f_203_49_2 (by first | exact dq1 hd rfl | exact dq0 hd rfl | exact dq2 hd rfl | exact dq3 hd rfl | omega) hI (in_w 0 31 i9x9 rfl) (in_w 0 31 i18x9 rfl) (in_w 0 31 i9x9 rfl) p81 p81a) (fun e u h => h) (fun v u h => ?_)
                                obtain ⟨s81, hI81, hF81, z81, rfl, rfl, i81, p81b⟩ := h
                                show GG _ _ _ _ _ _ _ _ [.int z81] _ _ _
                                refine g_goto 100 (gd rfl) rfl ?_
                                have n100 : SHP4 (shC s).2.2.2.2.2.2.1 x1 x2 x3 x4 ∧ SHS (shC s) x1.toNatClampNeg x2.toNatClampNeg x3.toInt x4.toNatClampNeg (z81).toInt := by first | (rw [shC_n (by rw [← e1x1]; exact c1x5)]; obtain ⟨d1, c1, p1⟩ := @hps_ex (ARE (gvC s) 0) (ARE (gvC s) 1) (x1).toNatClampNeg (x4).toNatClampNeg; obtain ⟨d2, c2, p2⟩ := @hps_ex (ARE (gvC s) 0) (ARE (gvC s) 1) (x4).toNatClampNeg (x2).toNatClampNeg; obtain ⟨h, c, p0, e⟩ := shc_1 p81b; exact ⟨(show SHP4 (s.2.2.1 2 1).toInt x1 x2 x3 x4 from ⟨⟨by exact (have a0 := in_u i37x9; have a1 := in_u i69; have a2 := in_u i18x9; have a3 := in_u i9x9; have a4 := in_u ro_32_1; have a5 := in_u i9x9a; have a6 := in_u i1x5; have oc := oc_249_0; by omega), by rw [← e_2_1]; exact (have a0 := in_u i37x9; have a1 := in_u i69; have a2 := in_u i18x9; have a3 := in_u i9x9; have a4 := in_u ro_32_1; have a5 := in_u i9x9a; have a6 := in_u i1x5; have oc := oc_249_0; by omega)⟩, ⟨by exact (have a0 := in_u i37x9; have a1 := in_u i69; have a2 := in_u i18x9; have a3 := in_u i9x9; have a4 := in_u ro_32_1; have a5 := in_u i9x9a; have a6 := in_u i1x5; have oc := oc_249_0; by omega), by rw [← e_2_1]; exact (have a0 := in_u i37x9; have a1 := in_u i69; have a2 := in_u i18x9; have a3 := in_u i9x9; have a4 := in_u ro_32_1; have a5 := in_u i9x9a; have a6 := in_u i1x5; have oc := oc_249_0; by omega)⟩, ⟨by exact (have a0 := in_u i37x9; have a1 := in_u i69; have a2 := in_u i18x9; have a3 := in_u i9x9; have a4 := in_u ro_32_1; have a5 := in_u i9x9a; have a6 := in_u i1x5; have oc := oc_249_0; by omega), by exact (have a0 := in_u i37x9; have a1 := in_u i69; have a2 := in_u i18x9; have a3 := in_u i9x9; have a4 := in_u ro_32_1; have a5 := in_u i9x9a; have a6 := in_u i1x5; have oc := oc_249_0; by omega)⟩, ⟨by exact (have a0 := in_u i37x9; have a1 := in_u i69; have a2 := in_u i18x9; have a3 := in_u i9x9; have a4 := in_u ro_32_1; have a5 := in_u i9x9a; have a6 := in_u i1x5; have oc := oc_249_0; by omega), by rw [← e_2_1]; exact (have a0 := in_u i37x9; have a1 := in_u i69; have a2 := in_u i18x9; have a3 := in_u i9x9; have a4 := in_u ro_32_1; have a5 := in_u i9x9a; have a6 := in_u i1x5; have oc := oc_249_0; by omega)⟩⟩), shs_1 p0 p1 p2 (by exact (have a0 := in_u i37x9; have a1 := in_u i69; have a2 := in_u i18x9; have a3 := in_u i9x9; have a4 := in_u ro_32_1; have a5 := in_u i9x9a; have a6 := in_u i1x5; have oc := oc_249_0; by omega)) e⟩) | (rw [shC_d (by rw [← e1x1]; exact c1x5)]; obtain ⟨d1, c1, p1⟩ := @hps_ex (ARE (gvD s) 0) (ARE (gvD s) 1) (x1).toNatClampNeg (x4).toNatClampNeg; obtain ⟨d2, c2, p2⟩ := @hps_ex (ARE (gvD s) 0) (ARE (gvD s) 1) (x4).toNatClampNeg (x2).toNatClampNeg; obtain ⟨h, c, p0, e⟩ := shc_1 p81b; exact ⟨(show SHP4 (s.2.2.1 32 1).toInt x1 x2 x3 x4 from ⟨⟨by exact (have a0 := in_u i37x9; have a1 := in_u i69; have a2 := in_u i18x9; have a3 := in_u i9x9; have a4 := in_u ro_32_1; have a5 := in_u i9x9a; have a6 := in_u i1x5; have oc := oc_249_0; by omega), by rw [← e_32_1]; exact (have a0 := in_u i37x9; have a1 := in_u i69; have a2 := in_u i18x9; have a3 := in_u i9x9; have a4 := in_u ro_32_1; have a5 := in_u i9x9a; have a6 := in_u i1x5; have oc := oc_249_0; by omega)⟩, ⟨by exact (have a0 := in_u i37x9; have a1 := in_u i69; have a2 := in_u i18x9; have a3 := in_u i9x9; have a4 := in_u ro_32_1; have a5 := in_u i9x9a; have a6 := in_u i1x5; have oc := oc_249_0; by omega), by rw [← e_32_1]; exact (have a0 := in_u i37x9; have a1 := in_u i69; have a2 := in_u i18x9; have a3 := in_u i9x9; have a4 := in_u ro_32_1; have a5 := in_u i9x9a; have a6 := in_u i1x5; have oc := oc_249_0; by omega)⟩, ⟨by exact (have a0 := in_u i37x9; have a1 := in_u i69; have a2 := in_u i18x9; have a3 := in_u i9x9; have a4 := in_u ro_32_1; have a5 := in_u i9x9a; have a6 := in_u i1x5; have oc := oc_249_0; by omega), by exact (have a0 := in_u i37x9; have a1 := in_u i69; have a2 := in_u i18x9; have a3 := in_u i9x9; have a4 := in_u ro_32_1; have a5 := in_u i9x9a; have a6 := in_u i1x5; have oc := oc_249_0; by omega)⟩, ⟨by exact (have a0 := in_u i37x9; have a1 := in_u i69; have a2 := in_u i18x9; have a3 := in_u i9x9; have a4 := in_u ro_32_1; have a5 := in_u i9x9a; have a6 := in_u i1x5; have oc := oc_249_0; by omega), by rw [← e_32_1]; exact (have a0 := in_u i37x9; have a1 := in_u i69; have a2 := in_u i18x9; have a3 := in_u i9x9; have a4 := in_u ro_32_1; have a5 := in_u i9x9a; have a6 := in_u i1x5; have oc := oc_249_0; by omega)⟩⟩), shs_1 p0 p1 p2 (by exact (have a0 := in_u i37x9; have a1 := in_u i69; have a2 := in_u i18x9; have a3 := in_u i9x9; have a4 := in_u ro_32_1; have a5 := in_u i9x9a; have a6 := in_u i1x5; have oc := oc_249_0; by omega)) e⟩)
                                exact g_ireturn (gd rfl) rfl rfl (hP _ _ ⟨s81, hI81, (fr_tr rfl fr_rf hF81), z81, rfl, rfl, in_w (-2147483648) 2147483647 i81 rfl, n100⟩)
                            · skip
                              have i52 := z_eq 0 0 c52 i30 rfl
                              refine g_aload_n 56 (gd rfl) rfl rfl ?_
                              refine g_getA (q2 := 49) 59 (gd rfl) rfl rfl rfl rfl ?_
                              refine g_aload 61 (gd rfl) rfl rfl ?_
                              refine g_iload_n 62 (gd rfl) rfl rfl ?_
                              refine g_iload_n 63 (gd rfl) rfl rfl ?_
                              have p63 : TQ s := by first | exact q_0 | exact q_1
                              have p63a : NDQ (gvC s) := by first | (rw [← shC_n (by rw [← e1x1]; exact c1x5)]; exact q_2) | (rw [← shC_d (by rw [← e1x1]; exact c1x5)]; exact q_2)
                              refine g_callv (X := _) (As := [.ref (A 2), .int x1, .int x2]) (r := []) (b := A 49) (q := 49) 66 (gd rfl) rfl rfl rfl rfl rfl (ww_o rfl) (Nat.le_of_ble_eq_true rfl) (Nat.zero_le _) (Nat.zero_le _) (f_202_49_2 (by first | exact dq1 hd rfl | exact dq0 hd rfl | exact dq2 hd rfl | exact dq3 hd rfl | omega) hI (in_w 0 31 i9x9 rfl) (in_w 0 31 i18x9 rfl) p63 p63a) (fun e u h => h) (fun v u h => ?_)
                              obtain ⟨s63, hI63, hF63, z63, rfl, rfl, i63, p63b⟩ := h
                              show GG _ _ _ _ _ _ _ _ [.int z63] _ _ _
                              have n66 : SHP4 (shC s).2.2.2.2.2.2.1 x1 x2 x3 x4 ∧ SHS (shC s) x1.toNatClampNeg x2.toNatClampNeg x3.toInt x4.toNatClampNeg (z63).toInt := by first | (rw [shC_n (by rw [← e1x1]; exact c1x5)]; obtain ⟨d1, c1, p1⟩ := @hps_ex (ARE (gvC s) 0) (ARE (gvC s) 1) (x1).toNatClampNeg (x4).toNatClampNeg; obtain ⟨d2, c2, p2⟩ := @hps_ex (ARE (gvC s) 0) (ARE (gvC s) 1) (x4).toNatClampNeg (x2).toNatClampNeg; obtain ⟨c, p0⟩ := p63b; exact ⟨(show SHP4 (s.2.2.1 2 1).toInt x1 x2 x3 x4 from ⟨⟨by exact (have a0 := in_u i37x9; have a1 := in_u i52; have a2 := in_u i18x9; have a3 := in_u i9x9; have a4 := in_u ro_32_1; have a5 := in_u i9x9a; have a6 := in_u i1x5; have oc := oc_249_0; by omega), by rw [← e_2_1]; exact (have a0 := in_u i37x9; have a1 := in_u i52; have a2 := in_u i18x9; have a3 := in_u i9x9; have a4 := in_u ro_32_1; have a5 := in_u i9x9a; have a6 := in_u i1x5; have oc := oc_249_0; by omega)⟩, ⟨by exact (have a0 := in_u i37x9; have a1 := in_u i52; have a2 := in_u i18x9; have a3 := in_u i9x9; have a4 := in_u ro_32_1; have a5 := in_u i9x9a; have a6 := in_u i1x5; have oc := oc_249_0; by omega), by rw [← e_2_1]; exact (have a0 := in_u i37x9; have a1 := in_u i52; have a2 := in_u i18x9; have a3 := in_u i9x9; have a4 := in_u ro_32_1; have a5 := in_u i9x9a; have a6 := in_u i1x5; have oc := oc_249_0; by omega)⟩, ⟨by exact (have a0 := in_u i37x9; have a1 := in_u i52; have a2 := in_u i18x9; have a3 := in_u i9x9; have a4 := in_u ro_32_1; have a5 := in_u i9x9a; have a6 := in_u i1x5; have oc := oc_249_0; by omega), by exact (have a0 := in_u i37x9; have a1 := in_u i52; have a2 := in_u i18x9; have a3 := in_u i9x9; have a4 := in_u ro_32_1; have a5 := in_u i9x9a; have a6 := in_u i1x5; have oc := oc_249_0; by omega)⟩, ⟨by exact (have a0 := in_u i37x9; have a1 := in_u i52; have a2 := in_u i18x9; have a3 := in_u i9x9; have a4 := in_u ro_32_1; have a5 := in_u i9x9a; have a6 := in_u i1x5; have oc := oc_249_0; by omega), by rw [← e_2_1]; exact (have a0 := in_u i37x9; have a1 := in_u i52; have a2 := in_u i18x9; have a3 := in_u i9x9; have a4 := in_u ro_32_1; have a5 := in_u i9x9a; have a6 := in_u i1x5; have oc := oc_249_0; by omega)⟩⟩), shs_0 p0 p1 p2 (by exact (have a0 := in_u i37x9; have a1 := in_u i52; have a2 := in_u i18x9; have a3 := in_u i9x9; have a4 := in_u ro_32_1; have a5 := in_u i9x9a; have a6 := in_u i1x5; have oc := oc_249_0; by omega)) rfl⟩) | (rw [shC_d (by rw [← e1x1]; exact c1x5)]; obtain ⟨d1, c1, p1⟩ := @hps_ex (ARE (gvD s) 0) (ARE (gvD s) 1) (x1).toNatClampNeg (x4).toNatClampNeg; obtain ⟨d2, c2, p2⟩ := @hps_ex (ARE (gvD s) 0) (ARE (gvD s) 1) (x4).toNatClampNeg (x2).toNatClampNeg; obtain ⟨c, p0⟩ := p63b; exact ⟨(show SHP4 (s.2.2.1 32 1).toInt x1 x2 x3 x4 from ⟨⟨by exact (have a0 := in_u i37x9; have a1 := in_u i52; have a2 := in_u i18x9; have a3 := in_u i9x9; have a4 := in_u ro_32_1; have a5 := in_u i9x9a; have a6 := in_u i1x5; have oc := oc_249_0; by omega), by rw [← e_32_1]; exact (have a0 := in_u i37x9; have a1 := in_u i52; have a2 := in_u i18x9; have a3 := in_u i9x9; have a4 := in_u ro_32_1; have a5 := in_u i9x9a; have a6 := in_u i1x5; have oc := oc_249_0; by omega)⟩, ⟨by exact (have a0 := in_u i37x9; have a1 := in_u i52; have a2 := in_u i18x9; have a3 := in_u i9x9; have a4 := in_u ro_32_1; have a5 := in_u i9x9a; have a6 := in_u i1x5; have oc := oc_249_0; by omega), by rw [← e_32_1]; exact (have a0 := in_u i37x9; have a1 := in_u i52; have a2 := in_u i18x9; have a3 := in_u i9x9; have a4 := in_u ro_32_1; have a5 := in_u i9x9a; have a6 := in_u i1x5; have oc := oc_249_0; by omega)⟩, ⟨by exact (have a0 := in_u i37x9; have a1 := in_u i52; have a2 := in_u i18x9; have a3 := in_u i9x9; have a4 := in_u ro_32_1; have a5 := in_u i9x9a; have a6 := in_u i1x5; have oc := oc_249_0; by omega), by exact (have a0 := in_u i37x9; have a1 := in_u i52; have a2 := in_u i18x9; have a3 := in_u i9x9; have a4 := in_u ro_32_1; have a5 := in_u i9x9a; have a6 := in_u i1x5; have oc := oc_249_0; by omega)⟩, ⟨by exact (have a0 := in_u i37x9; have a1 := in_u i52; have a2 := in_u i18x9; have a3 := in_u i9x9; have a4 := in_u ro_32_1; have a5 := in_u i9x9a; have a6 := in_u i1x5; have oc := oc_249_0; by omega), by rw [← e_32_1]; exact (have a0 := in_u i37x9; have a1 := in_u i52; have a2 := in_u i18x9; have a3 := in_u i9x9; have a4 := in_u ro_32_1; have a5 := in_u i9x9a; have a6 := in_u i1x5; have oc := oc_249_0; by omega)⟩⟩), shs_0 p0 p1 p2 (by exact (have a0 := in_u i37x9; have a1 := in_u i52; have a2 := in_u i18x9; have a3 := in_u i9x9; have a4 := in_u ro_32_1; have a5 := in_u i9x9a; have a6 := in_u i1x5; have oc := oc_249_0; by omega)) rfl⟩)
                              exact g_ireturn (gd rfl) rfl rfl (hP _ _ ⟨s63, hI63, (fr_tr rfl fr_rf hF63), z63, rfl, rfl, in_w (-2147483648) 2147483647 i63 rfl, n66⟩)
                          · skip
                            exact zn_eq c48 (in_c 1 rfl) rfl

theorem oc_371_109 : (Int32.ofInt (-1)).toInt = (-1) ∧ (Int32.ofInt 0).toInt = 0 ∧ (Int32.ofInt 1).toInt = 1 ∧ (Int64.ofInt 0).toInt = 0 ∧ (Int64.ofInt 2).toInt = 2 ∧ (Int64.ofInt 1000000007).toInt = 1000000007 := ⟨rfl, rfl, rfl, rfl, rfl, rfl⟩
set_option maxHeartbeats 4000000 in
/-- GraphHouseModel.shortest -/
theorem f_371 {Z : AmZ} {A : Nat → Nat} {s : GS} {ex : va_W} {d : Nat} {X : AmX} {x1 : Int32} {x2 : Int32} {x3 : Int32} {x4 : Int32} (hd : 4 ≤ d) (hI : Inv s)  : GC Z d 371 [.ref (A 109), .int x1, .int x2, .int x3, .int x4] (WW Z A s ++ ex) 0 0 (fun v u => ∃ t : GS, Inv t ∧ Fr fm_371 s t ∧ ∃ z : Int32, v = some (.int z) ∧ u = WW Z A t ++ ex ∧ In z (-2147483648) 2147483647 ∧ (SHT s t x1 x2 x3 x4 z)) X := by
  intro post xp hP hX
  obtain ⟨u_109_20, e_109_20⟩ : ∃ w, w = s.2.2.1 109 20 := ⟨_, rfl⟩
  have ro_109_20 := inv_F hI 0 32 rfl e_109_20
  refine g_enter2 (k := 371) (N := 900) (by first | exact dq1 hd rfl | exact dq0 hd rfl | exact dq2 hd rfl | exact dq3 hd rfl | omega) rfl (Nat.le_of_ble_eq_true rfl) ?_
  refine g_aload_n 1 (gd rfl) rfl rfl ?_
  refine g_aload_n 2 (gd rfl) rfl rfl ?_
  refine g_iload_n 3 (gd rfl) rfl rfl ?_
  refine g_callv (X := _) (As := [.int x1]) (r := [.ref (A 109)]) (b := A 109) (q := 109) 6 (gd rfl) rfl rfl rfl rfl rfl (ww_o rfl) (Nat.le_of_ble_eq_true rfl) (mc := 0) (ms := 0) (Nat.zero_le _) (Nat.zero_le _) (P := fun v u => _) ?_ (fun e u h => h) (fun v u h => h)
  intro po3 xx3 hp3 hx3
  refine g_enter2 (k := 272) (N := 300) (by first | exact dq1 hd rfl | exact dq0 hd rfl | exact dq2 hd rfl | exact dq3 hd rfl | omega) rfl (Nat.le_of_ble_eq_true rfl) ?_
  refine g_iload_n 1 (gd rfl) rfl rfl ?_
  refine g_if_lt 4 16 (gd rfl) rfl rfl (fun c3x1 => ?_) (fun c3x1 => ?_)
  · skip
    have i3x1 := z_lt (-2147483648) (-1) c3x1 (i_rng x1) rfl
    refine g_iconst 0 17 (gd rfl) rfl rfl ?_
    refine g_ireturn (gd rfl) rfl (nb01 (in_w 0 1 (in_c 0 rfl) rfl)) (hp3 _ _ ?_)
    show GG _ _ _ _ _ _ _ _ [.int (Int32.ofInt 0), .ref (A 109)] _ _ _
    refine g_if_eq 9 42 (gd rfl) rfl rfl (fun c6 => ?_) (fun c6 => ?_)
    · skip
      refine g_iconst 0 43 (gd rfl) rfl rfl ?_
      refine g_callv (X := _) (As := [.int (Int32.ofInt 0)]) (r := []) (b := A 109) (q := 109) 46 (gd rfl) rfl rfl rfl rfl rfl (ww_o rfl) (Nat.le_of_ble_eq_true rfl) (mc := 0) (ms := 0) (Nat.zero_le _) (Nat.zero_le _) (P := fun v u => _) ?_ (fun e u h => h) (fun v u h => h)
      intro po43 xx43 hp43 hx43
      refine g_enter2 (k := 271) (N := 300) (by first | exact dq1 hd rfl | exact dq0 hd rfl | exact dq2 hd rfl | exact dq3 hd rfl | omega) rfl (Nat.le_of_ble_eq_true rfl) ?_
      refine g_aload_n 1 (gd rfl) rfl rfl ?_
      refine g_iload_n 2 (gd rfl) rfl rfl ?_
      refine g_iconst 1 3 (gd rfl) rfl rfl ?_
      refine g_callv (X := _) (As := [.int (Int32.ofInt 0), .int (Int32.ofInt 1)]) (r := []) (b := A 109) (q := 109) 6 (gd rfl) rfl rfl rfl rfl rfl (ww_o rfl) (Nat.le_of_ble_eq_true rfl) (mc := 0) (ms := 0) (Nat.zero_le _) (Nat.zero_le _) (P := fun v u => _) ?_ (fun e u h => h) (fun v u h => h)
      intro po43x3 xx43x3 hp43x3 hx43x3
      refine g_enter2 (k := 270) (N := 300) (by first | exact dq1 hd rfl | exact dq0 hd rfl | exact dq2 hd rfl | exact dq3 hd rfl | omega) rfl (Nat.le_of_ble_eq_true rfl) ?_
      refine g_aload_n 1 (gd rfl) rfl rfl ?_
      refine g_iload_n 2 (gd rfl) rfl rfl ?_
      refine g_if_ne 5 9 (gd rfl) rfl rfl (fun c43x3x2 => ?_) (fun c43x3x2 => ?_)
      · skip
        exact zn_ne c43x3x2 (in_c 0 rfl) rfl
      · skip
        refine g_iconst 1 6 (gd rfl) rfl rfl ?_
        refine g_goto 18 (gd rfl) rfl ?_
        refine g_putI 21 (gd rfl) rfl rfl rfl rfl ?_
        have hI43x3x18 := inv_sF (q := 109) (j := 0) hI rfl (in_w 0 2 (in_c 1 rfl) rfl)
        refine g_aload_n 22 (gd rfl) rfl rfl ?_
        refine g_getI 25 (gd rfl) rfl rfl rfl (fun z43x3x22 e43x3x22 => ?_)
        have q43x3x22 : (Int32.ofInt 1) = z43x3x22 := (sF_get).trans e43x3x22.symm
        subst q43x3x22
        refine g_if_le 28 32 (gd rfl) rfl rfl (fun c43x3x25 => ?_) (fun c43x3x25 => ?_)
        · skip
          exact zn_le c43x3x25 (in_c 1 rfl) rfl
        · skip
          refine g_iconst 1 29 (gd rfl) rfl rfl ?_
          refine g_goto 33 (gd rfl) rfl ?_
          refine g_ireturn (gd rfl) rfl (nb01 (in_w 0 1 (in_c 1 rfl) rfl)) (hp43x3 _ _ ?_)
          show GG _ _ _ _ _ _ _ _ [.int (Int32.ofInt 1)] _ _ _
          refine g_ireturn (gd rfl) rfl (nb01 (in_w 0 1 (in_c 1 rfl) rfl)) (hp43 _ _ ?_)
          show GG _ _ _ _ _ _ _ _ [.int (Int32.ofInt 1)] _ _ _
          refine g_if_eq 49 51 (gd rfl) rfl rfl (fun c46 => ?_) (fun c46 => ?_)
          · skip
            exact zn_eq c46 (in_c 1 rfl) rfl
          · skip
            refine g_iconst 0 50 (gd rfl) rfl rfl ?_
            have n50 : SHT s (sF s 109 0 (Int32.ofInt 1)) x1 x2 x3 x4 (Int32.ofInt 0) := by exact Or.inl ⟨rfl, by unfold SHP4 In; rw [← e_109_20]; exact (have a0 := in_u ro_109_20; have a1 := in_u i3x1; have a2 := in_u ((in_c 1 rfl)); have oc := oc_371_109; by omega)⟩
            exact g_ireturn (gd rfl) rfl rfl (hP _ _ ⟨(sF s 109 0 (Int32.ofInt 1)), hI43x3x18, (fr_sF rfl fr_rf), (Int32.ofInt 0), rfl, rfl, in_w (-2147483648) 2147483647 (in_c 0 rfl) rfl, n50⟩)
    · skip
      exact zn_ne c6 (in_c 0 rfl) rfl
  · skip
    have i3x1 := z_ge 0 2147483647 c3x1 (i_rng x1) rfl
    refine g_iload_n 5 (gd rfl) rfl rfl ?_
    refine g_aload_n 6 (gd rfl) rfl rfl ?_
    refine g_getI 9 (gd rfl) rfl rfl rfl (fun z3x6 e3x6 => ?_)
    have q3x6 : u_109_20 = z3x6 := (e_109_20).trans e3x6.symm
    subst q3x6
    refine g_cmp_ge 12 16 (gd rfl) rfl rfl (fun c3x9 => ?_) (fun c3x9 => ?_)
    · skip
      refine g_iconst 0 17 (gd rfl) rfl rfl ?_
      refine g_ireturn (gd rfl) rfl (nb01 (in_w 0 1 (in_c 0 rfl) rfl)) (hp3 _ _ ?_)
      show GG _ _ _ _ _ _ _ _ [.int (Int32.ofInt 0), .ref (A 109)] _ _ _
      refine g_if_eq 9 42 (gd rfl) rfl rfl (fun c6 => ?_) (fun c6 => ?_)
      · skip
        refine g_iconst 0 43 (gd rfl) rfl rfl ?_
        refine g_callv (X := _) (As := [.int (Int32.ofInt 0)]) (r := []) (b := A 109) (q := 109) 46 (gd rfl) rfl rfl rfl rfl rfl (ww_o rfl) (Nat.le_of_ble_eq_true rfl) (mc := 0) (ms := 0) (Nat.zero_le _) (Nat.zero_le _) (P := fun v u => _) ?_ (fun e u h => h) (fun v u h => h)
        intro po43 xx43 hp43 hx43
        refine g_enter2 (k := 271) (N := 300) (by first | exact dq1 hd rfl | exact dq0 hd rfl | exact dq2 hd rfl | exact dq3 hd rfl | omega) rfl (Nat.le_of_ble_eq_true rfl) ?_
        refine g_aload_n 1 (gd rfl) rfl rfl ?_
        refine g_iload_n 2 (gd rfl) rfl rfl ?_
        refine g_iconst 1 3 (gd rfl) rfl rfl ?_
        refine g_callv (X := _) (As := [.int (Int32.ofInt 0), .int (Int32.ofInt 1)]) (r := []) (b := A 109) (q := 109) 6 (gd rfl) rfl rfl rfl rfl rfl (ww_o rfl) (Nat.le_of_ble_eq_true rfl) (mc := 0) (ms := 0) (Nat.zero_le _) (Nat.zero_le _) (P := fun v u => _) ?_ (fun e u h => h) (fun v u h => h)
        intro po43x3 xx43x3 hp43x3 hx43x3
        refine g_enter2 (k := 270) (N := 300) (by first | exact dq1 hd rfl | exact dq0 hd rfl | exact dq2 hd rfl | exact dq3 hd rfl | omega) rfl (Nat.le_of_ble_eq_true rfl) ?_
        refine g_aload_n 1 (gd rfl) rfl rfl ?_
        refine g_iload_n 2 (gd rfl) rfl rfl ?_
        refine g_if_ne 5 9 (gd rfl) rfl rfl (fun c43x3x2 => ?_) (fun c43x3x2 => ?_)
        · skip
          exact zn_ne c43x3x2 (in_c 0 rfl) rfl
        · skip
          refine g_iconst 1 6 (gd rfl) rfl rfl ?_
          refine g_goto 18 (gd rfl) rfl ?_
          refine g_putI 21 (gd rfl) rfl rfl rfl rfl ?_
          have hI43x3x18 := inv_sF (q := 109) (j := 0) hI rfl (in_w 0 2 (in_c 1 rfl) rfl)
          refine g_aload_n 22 (gd rfl) rfl rfl ?_
          refine g_getI 25 (gd rfl) rfl rfl rfl (fun z43x3x22 e43x3x22 => ?_)
          have q43x3x22 : (Int32.ofInt 1) = z43x3x22 := (sF_get).trans e43x3x22.symm
          subst q43x3x22
          refine g_if_le 28 32 (gd rfl) rfl rfl (fun c43x3x25 => ?_) (fun c43x3x25 => ?_)
          · skip
            exact zn_le c43x3x25 (in_c 1 rfl) rfl
          · skip
            refine g_iconst 1 29 (gd rfl) rfl rfl ?_
            refine g_goto 33 (gd rfl) rfl ?_
            refine g_ireturn (gd rfl) rfl (nb01 (in_w 0 1 (in_c 1 rfl) rfl)) (hp43x3 _ _ ?_)
            show GG _ _ _ _ _ _ _ _ [.int (Int32.ofInt 1)] _ _ _
            refine g_ireturn (gd rfl) rfl (nb01 (in_w 0 1 (in_c 1 rfl) rfl)) (hp43 _ _ ?_)
            show GG _ _ _ _ _ _ _ _ [.int (Int32.ofInt 1)] _ _ _
            refine g_if_eq 49 51 (gd rfl) rfl rfl (fun c46 => ?_) (fun c46 => ?_)
            · skip
              exact zn_eq c46 (in_c 1 rfl) rfl
            · skip
              refine g_iconst 0 50 (gd rfl) rfl rfl ?_
              have n50 : SHT s (sF s 109 0 (Int32.ofInt 1)) x1 x2 x3 x4 (Int32.ofInt 0) := by exact Or.inl ⟨rfl, by unfold SHP4 In; rw [← e_109_20]; exact (have a0 := in_u ro_109_20; have a1 := in_u i3x1; have a2 := in_u ((in_c 1 rfl)); have oc := oc_371_109; by omega)⟩
              exact g_ireturn (gd rfl) rfl rfl (hP _ _ ⟨(sF s 109 0 (Int32.ofInt 1)), hI43x3x18, (fr_sF rfl fr_rf), (Int32.ofInt 0), rfl, rfl, in_w (-2147483648) 2147483647 (in_c 0 rfl) rfl, n50⟩)
      · skip
        exact zn_ne c6 (in_c 0 rfl) rfl
    · skip
      have i3x9 := r_lt1 0 31 c3x9 i3x1 ro_109_20 rfl
      have i3x9a := r_lt2 1 32 c3x9 i3x1 ro_109_20 rfl
      refine g_iconst 1 13 (gd rfl) rfl rfl ?_
      refine g_goto 17 (gd rfl) rfl ?_
      refine g_ireturn (gd rfl) rfl (nb01 (in_w 0 1 (in_c 1 rfl) rfl)) (hp3 _ _ ?_)
      show GG _ _ _ _ _ _ _ _ [.int (Int32.ofInt 1), .ref (A 109)] _ _ _
      refine g_if_eq 9 42 (gd rfl) rfl rfl (fun c6 => ?_) (fun c6 => ?_)
      · skip
        exact zn_eq c6 (in_c 1 rfl) rfl
      · skip
        refine g_aload_n 10 (gd rfl) rfl rfl ?_
        refine g_iload_n 11 (gd rfl) rfl rfl ?_
        refine g_callv (X := _) (As := [.int x2]) (r := [.ref (A 109)]) (b := A 109) (q := 109) 14 (gd rfl) rfl rfl rfl rfl rfl (ww_o rfl) (Nat.le_of_ble_eq_true rfl) (mc := 0) (ms := 0) (Nat.zero_le _) (Nat.zero_le _) (P := fun v u => _) ?_ (fun e u h => h) (fun v u h => h)
        intro po11 xx11 hp11 hx11
        refine g_enter2 (k := 272) (N := 300) (by first | exact dq1 hd rfl | exact dq0 hd rfl | exact dq2 hd rfl | exact dq3 hd rfl | omega) rfl (Nat.le_of_ble_eq_true rfl) ?_
        refine g_iload_n 1 (gd rfl) rfl rfl ?_
        refine g_if_lt 4 16 (gd rfl) rfl rfl (fun c11x1 => ?_) (fun c11x1 => ?_)
        · skip
          have i11x1 := z_lt (-2147483648) (-1) c11x1 (i_rng x2) rfl
          refine g_iconst 0 17 (gd rfl) rfl rfl ?_
          refine g_ireturn (gd rfl) rfl (nb01 (in_w 0 1 (in_c 0 rfl) rfl)) (hp11 _ _ ?_)
          show GG _ _ _ _ _ _ _ _ [.int (Int32.ofInt 0), .ref (A 109)] _ _ _
          refine g_if_eq 17 42 (gd rfl) rfl rfl (fun c14 => ?_) (fun c14 => ?_)
          · skip
            refine g_iconst 0 43 (gd rfl) rfl rfl ?_
            refine g_callv (X := _) (As := [.int (Int32.ofInt 0)]) (r := []) (b := A 109) (q := 109) 46 (gd rfl) rfl rfl rfl rfl rfl (ww_o rfl) (Nat.le_of_ble_eq_true rfl) (mc := 0) (ms := 0) (Nat.zero_le _) (Nat.zero_le _) (P := fun v u => _) ?_ (fun e u h => h) (fun v u h => h)
            intro po43 xx43 hp43 hx43
            refine g_enter2 (k := 271) (N := 300) (by first | exact dq1 hd rfl | exact dq0 hd rfl | exact dq2 hd rfl | exact dq3 hd rfl | omega) rfl (Nat.le_of_ble_eq_true rfl) ?_
            refine g_aload_n 1 (gd rfl) rfl rfl ?_
            refine g_iload_n 2 (gd rfl) rfl rfl ?_
            refine g_iconst 1 3 (gd rfl) rfl rfl ?_
            refine g_callv (X := _) (As := [.int (Int32.ofInt 0), .int (Int32.ofInt 1)]) (r := []) (b := A 109) (q := 109) 6 (gd rfl) rfl rfl rfl rfl rfl (ww_o rfl) (Nat.le_of_ble_eq_true rfl) (mc := 0) (ms := 0) (Nat.zero_le _) (Nat.zero_le _) (P := fun v u => _) ?_ (fun e u h => h) (fun v u h => h)
            intro po43x3 xx43x3 hp43x3 hx43x3
            refine g_enter2 (k := 270) (N := 300) (by first | exact dq1 hd rfl | exact dq0 hd rfl | exact dq2 hd rfl | exact dq3 hd rfl | omega) rfl (Nat.le_of_ble_eq_true rfl) ?_
            refine g_aload_n 1 (gd rfl) rfl rfl ?_
            refine g_iload_n 2 (gd rfl) rfl rfl ?_
            refine g_if_ne 5 9 (gd rfl) rfl rfl (fun c43x3x2 => ?_) (fun c43x3x2 => ?_)
            · skip
              exact zn_ne c43x3x2 (in_c 0 rfl) rfl
            · skip
              refine g_iconst 1 6 (gd rfl) rfl rfl ?_
              refine g_goto 18 (gd rfl) rfl ?_
              refine g_putI 21 (gd rfl) rfl rfl rfl rfl ?_
              have hI43x3x18 := inv_sF (q := 109) (j := 0) hI rfl (in_w 0 2 (in_c 1 rfl) rfl)
              refine g_aload_n 22 (gd rfl) rfl rfl ?_
              refine g_getI 25 (gd rfl) rfl rfl rfl (fun z43x3x22 e43x3x22 => ?_)
              have q43x3x22 : (Int32.ofInt 1) = z43x3x22 := (sF_get).trans e43x3x22.symm
              subst q43x3x22
              refine g_if_le 28 32 (gd rfl) rfl rfl (fun c43x3x25 => ?_) (fun c43x3x25 => ?_)
              · skip
                exact zn_le c43x3x25 (in_c 1 rfl) rfl
              · skip
                refine g_iconst 1 29 (gd rfl) rfl rfl ?_
                refine g_goto 33 (gd rfl) rfl ?_
                refine g_ireturn (gd rfl) rfl (nb01 (in_w 0 1 (in_c 1 rfl) rfl)) (hp43x3 _ _ ?_)
                show GG _ _ _ _ _ _ _ _ [.int (Int32.ofInt 1)] _ _ _
                refine g_ireturn (gd rfl) rfl (nb01 (in_w 0 1 (in_c 1 rfl) rfl)) (hp43 _ _ ?_)
                show GG _ _ _ _ _ _ _ _ [.int (Int32.ofInt 1)] _ _ _
                refine g_if_eq 49 51 (gd rfl) rfl rfl (fun c46 => ?_) (fun c46 => ?_)
                · skip
                  exact zn_eq c46 (in_c 1 rfl) rfl
                · skip
                  refine g_iconst 0 50 (gd rfl) rfl rfl ?_
                  have n50 : SHT s (sF s 109 0 (Int32.ofInt 1)) x1 x2 x3 x4 (Int32.ofInt 0) := by exact Or.inl ⟨rfl, by unfold SHP4 In; rw [← e_109_20]; exact (have a0 := in_u i3x9; have a1 := in_u i3x9a; have a2 := in_u i11x1; have a3 := in_u ((in_c 1 rfl)); have oc := oc_371_109; by omega)⟩
                  exact g_ireturn (gd rfl) rfl rfl (hP _ _ ⟨(sF s 109 0 (Int32.ofInt 1)), hI43x3x18, (fr_sF rfl fr_rf), (Int32.ofInt 0), rfl, rfl, in_w (-2147483648) 2147483647 (in_c 0 rfl) rfl, n50⟩)
          · skip
            exact zn_ne c14 (in_c 0 rfl) rfl
        · skip
          have i11x1 := z_ge 0 2147483647 c11x1 (i_rng x2) rfl
          refine g_iload_n 5 (gd rfl) rfl rfl ?_
          refine g_aload_n 6 (gd rfl) rfl rfl ?_
          refine g_getI 9 (gd rfl) rfl rfl rfl (fun z11x6 e11x6 => ?_)
          have q11x6 : u_109_20 = z11x6 := (e_109_20).trans e11x6.symm
          subst q11x6
          refine g_cmp_ge 12 16 (gd rfl) rfl rfl (fun c11x9 => ?_) (fun c11x9 => ?_)
          · skip
            have i11x9 := r_le2 1 2147483647 c11x9 i3x9a i11x1 rfl
            refine g_iconst 0 17 (gd rfl) rfl rfl ?_
            refine g_ireturn (gd rfl) rfl (nb01 (in_w 0 1 (in_c 0 rfl) rfl)) (hp11 _ _ ?_)
            show GG _ _ _ _ _ _ _ _ [.int (Int32.ofInt 0), .ref (A 109)] _ _ _
            refine g_if_eq 17 42 (gd rfl) rfl rfl (fun c14 => ?_) (fun c14 => ?_)
            · skip
              refine g_iconst 0 43 (gd rfl) rfl rfl ?_
              refine g_callv (X := _) (As := [.int (Int32.ofInt 0)]) (r := []) (b := A 109) (q := 109) 46 (gd rfl) rfl rfl rfl rfl rfl (ww_o rfl) (Nat.le_of_ble_eq_true rfl) (mc := 0) (ms := 0) (Nat.zero_le _) (Nat.zero_le _) (P := fun v u => _) ?_ (fun e u h => h) (fun v u h => h)
              intro po43 xx43 hp43 hx43
              refine g_enter2 (k := 271) (N := 300) (by first | exact dq1 hd rfl | exact dq0 hd rfl | exact dq2 hd rfl | exact dq3 hd rfl | omega) rfl (Nat.le_of_ble_eq_true rfl) ?_
              refine g_aload_n 1 (gd rfl) rfl rfl ?_
              refine g_iload_n 2 (gd rfl) rfl rfl ?_
              refine g_iconst 1 3 (gd rfl) rfl rfl ?_
              refine g_callv (X := _) (As := [.int (Int32.ofInt 0), .int (Int32.ofInt 1)]) (r := []) (b := A 109) (q := 109) 6 (gd rfl) rfl rfl rfl rfl rfl (ww_o rfl) (Nat.le_of_ble_eq_true rfl) (mc := 0) (ms := 0) (Nat.zero_le _) (Nat.zero_le _) (P := fun v u => _) ?_ (fun e u h => h) (fun v u h => h)
              intro po43x3 xx43x3 hp43x3 hx43x3
              refine g_enter2 (k := 270) (N := 300) (by first | exact dq1 hd rfl | exact dq0 hd rfl | exact dq2 hd rfl | exact dq3 hd rfl | omega) rfl (Nat.le_of_ble_eq_true rfl) ?_
              refine g_aload_n 1 (gd rfl) rfl rfl ?_
              refine g_iload_n 2 (gd rfl) rfl rfl ?_
              refine g_if_ne 5 9 (gd rfl) rfl rfl (fun c43x3x2 => ?_) (fun c43x3x2 => ?_)
              · skip
                exact zn_ne c43x3x2 (in_c 0 rfl) rfl
              · skip
                refine g_iconst 1 6 (gd rfl) rfl rfl ?_
                refine g_goto 18 (gd rfl) rfl ?_
                refine g_putI 21 (gd rfl) rfl rfl rfl rfl ?_
                have hI43x3x18 := inv_sF (q := 109) (j := 0) hI rfl (in_w 0 2 (in_c 1 rfl) rfl)
                refine g_aload_n 22 (gd rfl) rfl rfl ?_
                refine g_getI 25 (gd rfl) rfl rfl rfl (fun z43x3x22 e43x3x22 => ?_)
                have q43x3x22 : (Int32.ofInt 1) = z43x3x22 := (sF_get).trans e43x3x22.symm
                subst q43x3x22
                refine g_if_le 28 32 (gd rfl) rfl rfl (fun c43x3x25 => ?_) (fun c43x3x25 => ?_)
                · skip
                  exact zn_le c43x3x25 (in_c 1 rfl) rfl
                · skip
                  refine g_iconst 1 29 (gd rfl) rfl rfl ?_
                  refine g_goto 33 (gd rfl) rfl ?_
                  refine g_ireturn (gd rfl) rfl (nb01 (in_w 0 1 (in_c 1 rfl) rfl)) (hp43x3 _ _ ?_)
                  show GG _ _ _ _ _ _ _ _ [.int (Int32.ofInt 1)] _ _ _
                  refine g_ireturn (gd rfl) rfl (nb01 (in_w 0 1 (in_c 1 rfl) rfl)) (hp43 _ _ ?_)
                  show GG _ _ _ _ _ _ _ _ [.int (Int32.ofInt 1)] _ _ _
                  refine g_if_eq 49 51 (gd rfl) rfl rfl (fun c46 => ?_) (fun c46 => ?_)
                  · skip
                    exact zn_eq c46 (in_c 1 rfl) rfl
                  · skip
                    refine g_iconst 0 50 (gd rfl) rfl rfl ?_
                    have n50 : SHT s (sF s 109 0 (Int32.ofInt 1)) x1 x2 x3 x4 (Int32.ofInt 0) := by exact Or.inl ⟨rfl, by unfold SHP4 In; rw [← e_109_20]; exact (have a0 := in_u i3x9; have a1 := in_u i3x9a; have a2 := in_u i11x9; have a3 := in_u ((in_c 1 rfl)); have oc := oc_371_109; by omega)⟩
                    exact g_ireturn (gd rfl) rfl rfl (hP _ _ ⟨(sF s 109 0 (Int32.ofInt 1)), hI43x3x18, (fr_sF rfl fr_rf), (Int32.ofInt 0), rfl, rfl, in_w (-2147483648) 2147483647 (in_c 0 rfl) rfl, n50⟩)
            · skip
              exact zn_ne c14 (in_c 0 rfl) rfl
          · skip
            have i11x9 := r_lt1 0 31 c11x9 i11x1 i3x9a rfl
            refine g_iconst 1 13 (gd rfl) rfl rfl ?_
            refine g_goto 17 (gd rfl) rfl ?_
            refine g_ireturn (gd rfl) rfl (nb01 (in_w 0 1 (in_c 1 rfl) rfl)) (hp11 _ _ ?_)
            show GG _ _ _ _ _ _ _ _ [.int (Int32.ofInt 1), .ref (A 109)] _ _ _
            refine g_if_eq 17 42 (gd rfl) rfl rfl (fun c14 => ?_) (fun c14 => ?_)
            · skip
              exact zn_eq c14 (in_c 1 rfl) rfl
            · skip
              refine g_iload_n 18 (gd rfl) rfl rfl ?_
              refine g_i2l 19 (gd rfl) rfl (fun z18 e18 => ?_)
              have i18 := l_i e18 (i_rng x3)
              refine g_lconst 0 20 (gd rfl) rfl rfl ?_
              refine g_ldc2_w 2 23 (gd rfl) rfl rfl ?_
              refine g_calls (As := [.long z18, .long (Int64.ofInt 0), .long (Int64.ofInt 2)]) (r := [.ref (A 109)]) 26 (gd rfl) rfl rfl rfl rfl rfl (Nat.le_of_ble_eq_true rfl) (mc := 0) (ms := 0) (Nat.zero_le _) (Nat.zero_le _) (P := fun v u => _) ?_ (fun v u h => h)
              intro po23 xx23 hp23 hx23
              refine g_enter2 (k := 269) (N := 300) (by first | exact dq1 hd rfl | exact dq0 hd rfl | exact dq2 hd rfl | exact dq3 hd rfl | omega) rfl (Nat.le_of_ble_eq_true rfl) ?_
              refine g_lload_n 1 (gd rfl) rfl rfl ?_
              refine g_lload_n 2 (gd rfl) rfl rfl ?_
              refine g_lcmp 3 (gd rfl) rfl (fun z23x2 e23x2 => ?_)
              have i23x2 := lc_in e23x2
              refine g_if_lt 6 17 (gd rfl) rfl rfl (fun c23x3 => ?_) (fun c23x3 => ?_)
              · skip
                have i23x3 := z_lt (-1) (-1) c23x3 i23x2 rfl
                have c23x3a := lc_lt e23x2 c23x3
                have i23x3a := lr_lt1 (-2147483648) (-1) c23x3a i18 (l_c 0 rfl) rfl
                have i23x3b := l_b e18 i23x3a
                refine g_iconst 0 18 (gd rfl) rfl rfl ?_
                refine g_ireturn (gd rfl) rfl (nb01 (in_w 0 1 (in_c 0 rfl) rfl)) (hp23 _ _ ?_)
                show GG _ _ _ _ _ _ _ _ [.int (Int32.ofInt 0), .ref (A 109)] _ _ _
                refine g_if_eq 29 42 (gd rfl) rfl rfl (fun c26 => ?_) (fun c26 => ?_)
                · skip
                  refine g_iconst 0 43 (gd rfl) rfl rfl ?_
                  refine g_callv (X := _) (As := [.int (Int32.ofInt 0)]) (r := []) (b := A 109) (q := 109) 46 (gd rfl) rfl rfl rfl rfl rfl (ww_o rfl) (Nat.le_of_ble_eq_true rfl) (mc := 0) (ms := 0) (Nat.zero_le _) (Nat.zero_le _) (P := fun v u => _) ?_ (fun e u h => h) (fun v u h => h)
                  intro po43 xx43 hp43 hx43
                  refine g_enter2 (k := 271) (N := 300) (by first | exact dq1 hd rfl | exact dq0 hd rfl | exact dq2 hd rfl | exact dq3 hd rfl | omega) rfl (Nat.le_of_ble_eq_true rfl) ?_
                  refine g_aload_n 1 (gd rfl) rfl rfl ?_
                  refine g_iload_n 2 (gd rfl) rfl rfl ?_
                  refine g_iconst 1 3 (gd rfl) rfl rfl ?_
                  refine g_callv (X := _) (As := [.int (Int32.ofInt 0), .int (Int32.ofInt 1)]) (r := []) (b := A 109) (q := 109) 6 (gd rfl) rfl rfl rfl rfl rfl (ww_o rfl) (Nat.le_of_ble_eq_true rfl) (mc := 0) (ms := 0) (Nat.zero_le _) (Nat.zero_le _) (P := fun v u => _) ?_ (fun e u h => h) (fun v u h => h)
                  intro po43x3 xx43x3 hp43x3 hx43x3
                  refine g_enter2 (k := 270) (N := 300) (by first | exact dq1 hd rfl | exact dq0 hd rfl | exact dq2 hd rfl | exact dq3 hd rfl | omega) rfl (Nat.le_of_ble_eq_true rfl) ?_
                  refine g_aload_n 1 (gd rfl) rfl rfl ?_
                  refine g_iload_n 2 (gd rfl) rfl rfl ?_
                  refine g_if_ne 5 9 (gd rfl) rfl rfl (fun c43x3x2 => ?_) (fun c43x3x2 => ?_)
                  · skip
                    exact zn_ne c43x3x2 (in_c 0 rfl) rfl
                  · skip
                    refine g_iconst 1 6 (gd rfl) rfl rfl ?_
                    refine g_goto 18 (gd rfl) rfl ?_
                    refine g_putI 21 (gd rfl) rfl rfl rfl rfl ?_
                    have hI43x3x18 := inv_sF (q := 109) (j := 0) hI rfl (in_w 0 2 (in_c 1 rfl) rfl)
                    refine g_aload_n 22 (gd rfl) rfl rfl ?_
                    refine g_getI 25 (gd rfl) rfl rfl rfl (fun z43x3x22 e43x3x22 => ?_)
                    have q43x3x22 : (Int32.ofInt 1) = z43x3x22 := (sF_get).trans e43x3x22.symm
                    subst q43x3x22
                    refine g_if_le 28 32 (gd rfl) rfl rfl (fun c43x3x25 => ?_) (fun c43x3x25 => ?_)
                    · skip
                      exact zn_le c43x3x25 (in_c 1 rfl) rfl
                    · skip
                      refine g_iconst 1 29 (gd rfl) rfl rfl ?_
                      refine g_goto 33 (gd rfl) rfl ?_
                      refine g_ireturn (gd rfl) rfl (nb01 (in_w 0 1 (in_c 1 rfl) rfl)) (hp43x3 _ _ ?_)
                      show GG _ _ _ _ _ _ _ _ [.int (Int32.ofInt 1)] _ _ _
                      refine g_ireturn (gd rfl) rfl (nb01 (in_w 0 1 (in_c 1 rfl) rfl)) (hp43 _ _ ?_)
                      show GG _ _ _ _ _ _ _ _ [.int (Int32.ofInt 1)] _ _ _
                      refine g_if_eq 49 51 (gd rfl) rfl rfl (fun c46 => ?_) (fun c46 => ?_)
                      · skip
                        exact zn_eq c46 (in_c 1 rfl) rfl
                      · skip
                        refine g_iconst 0 50 (gd rfl) rfl rfl ?_
                        have n50 : SHT s (sF s 109 0 (Int32.ofInt 1)) x1 x2 x3 x4 (Int32.ofInt 0) := by exact Or.inl ⟨rfl, by unfold SHP4 In; rw [← e_109_20]; exact (have a0 := in_u i11x9; have a1 := in_u i3x9; have a2 := in_u i3x9a; have a3 := in_u i23x3b; have a4 := in_u ((in_c 1 rfl)); have a5 := tx_i2l e18; have oc := oc_371_109; by omega)⟩
                        exact g_ireturn (gd rfl) rfl rfl (hP _ _ ⟨(sF s 109 0 (Int32.ofInt 1)), hI43x3x18, (fr_sF rfl fr_rf), (Int32.ofInt 0), rfl, rfl, in_w (-2147483648) 2147483647 (in_c 0 rfl) rfl, n50⟩)
                · skip
                  exact zn_ne c26 (in_c 0 rfl) rfl
              · skip
                have i23x3 := z_ge 0 1 c23x3 i23x2 rfl
                have c23x3a := lc_ge e23x2 c23x3
                have i23x3a := lr_le2 0 2147483647 c23x3a (l_c 0 rfl) i18 rfl
                have i23x3b := l_b e18 i23x3a
                refine g_lload_n 7 (gd rfl) rfl rfl ?_
                refine g_lload 9 (gd rfl) rfl rfl ?_
                refine g_lcmp 10 (gd rfl) rfl (fun z23x9 e23x9 => ?_)
                have i23x9 := lc_in e23x9
                refine g_if_gt 13 17 (gd rfl) rfl rfl (fun c23x10 => ?_) (fun c23x10 => ?_)
                · skip
                  have i23x10 := z_gt 1 1 c23x10 i23x9 rfl
                  have c23x10a := lc_gt e23x9 c23x10
                  have i23x10a := lr_lt2 3 2147483647 c23x10a (l_c 2 rfl) i23x3a rfl
                  have i23x10b := l_b e18 i23x10a
                  refine g_iconst 0 18 (gd rfl) rfl rfl ?_
                  refine g_ireturn (gd rfl) rfl (nb01 (in_w 0 1 (in_c 0 rfl) rfl)) (hp23 _ _ ?_)
                  show GG _ _ _ _ _ _ _ _ [.int (Int32.ofInt 0), .ref (A 109)] _ _ _
                  refine g_if_eq 29 42 (gd rfl) rfl rfl (fun c26 => ?_) (fun c26 => ?_)
                  · skip
                    refine g_iconst 0 43 (gd rfl) rfl rfl ?_
                    refine g_callv (X := _) (As := [.int (Int32.ofInt 0)]) (r := []) (b := A 109) (q := 109) 46 (gd rfl) rfl rfl rfl rfl rfl (ww_o rfl) (Nat.le_of_ble_eq_true rfl) (mc := 0) (ms := 0) (Nat.zero_le _) (Nat.zero_le _) (P := fun v u => _) ?_ (fun e u h => h) (fun v u h => h)
                    intro po43 xx43 hp43 hx43
                    refine g_enter2 (k := 271) (N := 300) (by first | exact dq1 hd rfl | exact dq0 hd rfl | exact dq2 hd rfl | exact dq3 hd rfl | omega) rfl (Nat.le_of_ble_eq_true rfl) ?_
                    refine g_aload_n 1 (gd rfl) rfl rfl ?_
                    refine g_iload_n 2 (gd rfl) rfl rfl ?_
                    refine g_iconst 1 3 (gd rfl) rfl rfl ?_
                    refine g_callv (X := _) (As := [.int (Int32.ofInt 0), .int (Int32.ofInt 1)]) (r := []) (b := A 109) (q := 109) 6 (gd rfl) rfl rfl rfl rfl rfl (ww_o rfl) (Nat.le_of_ble_eq_true rfl) (mc := 0) (ms := 0) (Nat.zero_le _) (Nat.zero_le _) (P := fun v u => _) ?_ (fun e u h => h) (fun v u h => h)
                    intro po43x3 xx43x3 hp43x3 hx43x3
                    refine g_enter2 (k := 270) (N := 300) (by first | exact dq1 hd rfl | exact dq0 hd rfl | exact dq2 hd rfl | exact dq3 hd rfl | omega) rfl (Nat.le_of_ble_eq_true rfl) ?_
                    refine g_aload_n 1 (gd rfl) rfl rfl ?_
                    refine g_iload_n 2 (gd rfl) rfl rfl ?_
                    refine g_if_ne 5 9 (gd rfl) rfl rfl (fun c43x3x2 => ?_) (fun c43x3x2 => ?_)
                    · skip
                      exact zn_ne c43x3x2 (in_c 0 rfl) rfl
                    · skip
                      refine g_iconst 1 6 (gd rfl) rfl rfl ?_
                      refine g_goto 18 (gd rfl) rfl ?_
                      refine g_putI 21 (gd rfl) rfl rfl rfl rfl ?_
                      have hI43x3x18 := inv_sF (q := 109) (j := 0) hI rfl (in_w 0 2 (in_c 1 rfl) rfl)
                      refine g_aload_n 22 (gd rfl) rfl rfl ?_
                      refine g_getI 25 (gd rfl) rfl rfl rfl (fun z43x3x22 e43x3x22 => ?_)
                      have q43x3x22 : (Int32.ofInt 1) = z43x3x22 := (sF_get).trans e43x3x22.symm
                      subst q43x3x22
                      refine g_if_le 28 32 (gd rfl) rfl rfl (fun c43x3x25 => ?_) (fun c43x3x25 => ?_)
                      · skip
                        exact zn_le c43x3x25 (in_c 1 rfl) rfl
                      · skip
                        refine g_iconst 1 29 (gd rfl) rfl rfl ?_
                        refine g_goto 33 (gd rfl) rfl ?_
                        refine g_ireturn (gd rfl) rfl (nb01 (in_w 0 1 (in_c 1 rfl) rfl)) (hp43x3 _ _ ?_)
                        show GG _ _ _ _ _ _ _ _ [.int (Int32.ofInt 1)] _ _ _
                        refine g_ireturn (gd rfl) rfl (nb01 (in_w 0 1 (in_c 1 rfl) rfl)) (hp43 _ _ ?_)
                        show GG _ _ _ _ _ _ _ _ [.int (Int32.ofInt 1)] _ _ _
                        refine g_if_eq 49 51 (gd rfl) rfl rfl (fun c46 => ?_) (fun c46 => ?_)
                        · skip
                          exact zn_eq c46 (in_c 1 rfl) rfl
                        · skip
                          refine g_iconst 0 50 (gd rfl) rfl rfl ?_
                          have n50 : SHT s (sF s 109 0 (Int32.ofInt 1)) x1 x2 x3 x4 (Int32.ofInt 0) := by exact Or.inl ⟨rfl, by unfold SHP4 In; rw [← e_109_20]; exact (have a0 := in_u i11x9; have a1 := in_u i3x9; have a2 := in_u i3x9a; have a3 := in_u i23x10b; have a4 := in_u ((in_c 1 rfl)); have a5 := tx_i2l e18; have oc := oc_371_109; by omega)⟩
                          exact g_ireturn (gd rfl) rfl rfl (hP _ _ ⟨(sF s 109 0 (Int32.ofInt 1)), hI43x3x18, (fr_sF rfl fr_rf), (Int32.ofInt 0), rfl, rfl, in_w (-2147483648) 2147483647 (in_c 0 rfl) rfl, n50⟩)
                  · skip
                    exact zn_ne c26 (in_c 0 rfl) rfl
                · skip
                  have i23x10 := z_le (-1) 0 c23x10 i23x9 rfl
                  have c23x10a := lc_le e23x9 c23x10
                  have i23x10a := lr_le1 0 2 c23x10a i23x3a (l_c 2 rfl) rfl
                  have i23x10b := l_b e18 i23x10a
                  refine g_iconst 1 14 (gd rfl) rfl rfl ?_
                  refine g_goto 18 (gd rfl) rfl ?_
                  refine g_ireturn (gd rfl) rfl (nb01 (in_w 0 1 (in_c 1 rfl) rfl)) (hp23 _ _ ?_)
                  show GG _ _ _ _ _ _ _ _ [.int (Int32.ofInt 1), .ref (A 109)] _ _ _
                  refine g_if_eq 29 42 (gd rfl) rfl rfl (fun c26 => ?_) (fun c26 => ?_)
                  · skip
                    exact zn_eq c26 (in_c 1 rfl) rfl
                  · skip
                    refine g_aload_n 30 (gd rfl) rfl rfl ?_
                    refine g_iload 32 (gd rfl) rfl rfl ?_
                    refine g_callv (X := _) (As := [.int x4]) (r := [.ref (A 109)]) (b := A 109) (q := 109) 35 (gd rfl) rfl rfl rfl rfl rfl (ww_o rfl) (Nat.le_of_ble_eq_true rfl) (mc := 0) (ms := 0) (Nat.zero_le _) (Nat.zero_le _) (P := fun v u => _) ?_ (fun e u h => h) (fun v u h => h)
                    intro po32 xx32 hp32 hx32
                    refine g_enter2 (k := 272) (N := 300) (by first | exact dq1 hd rfl | exact dq0 hd rfl | exact dq2 hd rfl | exact dq3 hd rfl | omega) rfl (Nat.le_of_ble_eq_true rfl) ?_
                    refine g_iload_n 1 (gd rfl) rfl rfl ?_
                    refine g_if_lt 4 16 (gd rfl) rfl rfl (fun c32x1 => ?_) (fun c32x1 => ?_)
                    · skip
                      have i32x1 := z_lt (-2147483648) (-1) c32x1 (i_rng x4) rfl
                      refine g_iconst 0 17 (gd rfl) rfl rfl ?_
                      refine g_ireturn (gd rfl) rfl (nb01 (in_w 0 1 (in_c 0 rfl) rfl)) (hp32 _ _ ?_)
                      show GG _ _ _ _ _ _ _ _ [.int (Int32.ofInt 0), .ref (A 109)] _ _ _
                      refine g_if_eq 38 42 (gd rfl) rfl rfl (fun c35 => ?_) (fun c35 => ?_)
                      · skip
                        refine g_iconst 0 43 (gd rfl) rfl rfl ?_
                        refine g_callv (X := _) (As := [.int (Int32.ofInt 0)]) (r := []) (b := A 109) (q := 109) 46 (gd rfl) rfl rfl rfl rfl rfl (ww_o rfl) (Nat.le_of_ble_eq_true rfl) (mc := 0) (ms := 0) (Nat.zero_le _) (Nat.zero_le _) (P := fun v u => _) ?_ (fun e u h => h) (fun v u h => h)
                        intro po43 xx43 hp43 hx43
                        refine g_enter2 (k := 271) (N := 300) (by first | exact dq1 hd rfl | exact dq0 hd rfl | exact dq2 hd rfl | exact dq3 hd rfl | omega) rfl (Nat.le_of_ble_eq_true rfl) ?_
                        refine g_aload_n 1 (gd rfl) rfl rfl ?_
                        refine g_iload_n 2 (gd rfl) rfl rfl ?_
                        refine g_iconst 1 3 (gd rfl) rfl rfl ?_
                        refine g_callv (X := _) (As := [.int (Int32.ofInt 0), .int (Int32.ofInt 1)]) (r := []) (b := A 109) (q := 109) 6 (gd rfl) rfl rfl rfl rfl rfl (ww_o rfl) (Nat.le_of_ble_eq_true rfl) (mc := 0) (ms := 0) (Nat.zero_le _) (Nat.zero_le _) (P := fun v u => _) ?_ (fun e u h => h) (fun v u h => h)
                        intro po43x3 xx43x3 hp43x3 hx43x3
                        refine g_enter2 (k := 270) (N := 300) (by first | exact dq1 hd rfl | exact dq0 hd rfl | exact dq2 hd rfl | exact dq3 hd rfl | omega) rfl (Nat.le_of_ble_eq_true rfl) ?_
                        refine g_aload_n 1 (gd rfl) rfl rfl ?_
                        refine g_iload_n 2 (gd rfl) rfl rfl ?_
                        refine g_if_ne 5 9 (gd rfl) rfl rfl (fun c43x3x2 => ?_) (fun c43x3x2 => ?_)
                        · skip
                          exact zn_ne c43x3x2 (in_c 0 rfl) rfl
                        · skip
                          refine g_iconst 1 6 (gd rfl) rfl rfl ?_
                          refine g_goto 18 (gd rfl) rfl ?_
                          refine g_putI 21 (gd rfl) rfl rfl rfl rfl ?_
                          have hI43x3x18 := inv_sF (q := 109) (j := 0) hI rfl (in_w 0 2 (in_c 1 rfl) rfl)
                          refine g_aload_n 22 (gd rfl) rfl rfl ?_
                          refine g_getI 25 (gd rfl) rfl rfl rfl (fun z43x3x22 e43x3x22 => ?_)
                          have q43x3x22 : (Int32.ofInt 1) = z43x3x22 := (sF_get).trans e43x3x22.symm
                          subst q43x3x22
                          refine g_if_le 28 32 (gd rfl) rfl rfl (fun c43x3x25 => ?_) (fun c43x3x25 => ?_)
                          · skip
                            exact zn_le c43x3x25 (in_c 1 rfl) rfl
                          · skip
                            refine g_iconst 1 29 (gd rfl) rfl rfl ?_
                            refine g_goto 33 (gd rfl) rfl ?_
                            refine g_ireturn (gd rfl) rfl (nb01 (in_w 0 1 (in_c 1 rfl) rfl)) (hp43x3 _ _ ?_)
                            show GG _ _ _ _ _ _ _ _ [.int (Int32.ofInt 1)] _ _ _
                            refine g_ireturn (gd rfl) rfl (nb01 (in_w 0 1 (in_c 1 rfl) rfl)) (hp43 _ _ ?_)
                            show GG _ _ _ _ _ _ _ _ [.int (Int32.ofInt 1)] _ _ _
                            refine g_if_eq 49 51 (gd rfl) rfl rfl (fun c46 => ?_) (fun c46 => ?_)
                            · skip
                              exact zn_eq c46 (in_c 1 rfl) rfl
                            · skip
                              refine g_iconst 0 50 (gd rfl) rfl rfl ?_
                              have n50 : SHT s (sF s 109 0 (Int32.ofInt 1)) x1 x2 x3 x4 (Int32.ofInt 0) := by exact Or.inl ⟨rfl, by unfold SHP4 In; rw [← e_109_20]; exact (have a0 := in_u i23x10b; have a1 := in_u i11x9; have a2 := in_u i3x9; have a3 := in_u i3x9a; have a4 := in_u i32x1; have a5 := in_u ((in_c 1 rfl)); have a6 := tx_i2l e18; have oc := oc_371_109; by omega)⟩
                              exact g_ireturn (gd rfl) rfl rfl (hP _ _ ⟨(sF s 109 0 (Int32.ofInt 1)), hI43x3x18, (fr_sF rfl fr_rf), (Int32.ofInt 0), rfl, rfl, in_w (-2147483648) 2147483647 (in_c 0 rfl) rfl, n50⟩)
                      · skip
                        exact zn_ne c35 (in_c 0 rfl) rfl
                    · skip
                      have i32x1 := z_ge 0 2147483647 c32x1 (i_rng x4) rfl
                      refine g_iload_n 5 (gd rfl) rfl rfl ?_
                      refine g_aload_n 6 (gd rfl) rfl rfl ?_
                      refine g_getI 9 (gd rfl) rfl rfl rfl (fun z32x6 e32x6 => ?_)
                      have q32x6 : u_109_20 = z32x6 := (e_109_20).trans e32x6.symm
                      subst q32x6
                      refine g_cmp_ge 12 16 (gd rfl) rfl rfl (fun c32x9 => ?_) (fun c32x9 => ?_)
                      · skip
                        have i32x9 := r_le2 1 2147483647 c32x9 i3x9a i32x1 rfl
                        refine g_iconst 0 17 (gd rfl) rfl rfl ?_
                        refine g_ireturn (gd rfl) rfl (nb01 (in_w 0 1 (in_c 0 rfl) rfl)) (hp32 _ _ ?_)
                        show GG _ _ _ _ _ _ _ _ [.int (Int32.ofInt 0), .ref (A 109)] _ _ _
                        refine g_if_eq 38 42 (gd rfl) rfl rfl (fun c35 => ?_) (fun c35 => ?_)
                        · skip
                          refine g_iconst 0 43 (gd rfl) rfl rfl ?_
                          refine g_callv (X := _) (As := [.int (Int32.ofInt 0)]) (r := []) (b := A 109) (q := 109) 46 (gd rfl) rfl rfl rfl rfl rfl (ww_o rfl) (Nat.le_of_ble_eq_true rfl) (mc := 0) (ms := 0) (Nat.zero_le _) (Nat.zero_le _) (P := fun v u => _) ?_ (fun e u h => h) (fun v u h => h)
                          intro po43 xx43 hp43 hx43
                          refine g_enter2 (k := 271) (N := 300) (by first | exact dq1 hd rfl | exact dq0 hd rfl | exact dq2 hd rfl | exact dq3 hd rfl | omega) rfl (Nat.le_of_ble_eq_true rfl) ?_
                          refine g_aload_n 1 (gd rfl) rfl rfl ?_
                          refine g_iload_n 2 (gd rfl) rfl rfl ?_
                          refine g_iconst 1 3 (gd rfl) rfl rfl ?_
                          refine g_callv (X := _) (As := [.int (Int32.ofInt 0), .int (Int32.ofInt 1)]) (r := []) (b := A 109) (q := 109) 6 (gd rfl) rfl rfl rfl rfl rfl (ww_o rfl) (Nat.le_of_ble_eq_true rfl) (mc := 0) (ms := 0) (Nat.zero_le _) (Nat.zero_le _) (P := fun v u => _) ?_ (fun e u h => h) (fun v u h => h)
                          intro po43x3 xx43x3 hp43x3 hx43x3
                          refine g_enter2 (k := 270) (N := 300) (by first | exact dq1 hd rfl | exact dq0 hd rfl | exact dq2 hd rfl | exact dq3 hd rfl | omega) rfl (Nat.le_of_ble_eq_true rfl) ?_
                          refine g_aload_n 1 (gd rfl) rfl rfl ?_
                          refine g_iload_n 2 (gd rfl) rfl rfl ?_
                          refine g_if_ne 5 9 (gd rfl) rfl rfl (fun c43x3x2 => ?_) (fun c43x3x2 => ?_)
                          · skip
                            exact zn_ne c43x3x2 (in_c 0 rfl) rfl
                          · skip
                            refine g_iconst 1 6 (gd rfl) rfl rfl ?_
                            refine g_goto 18 (gd rfl) rfl ?_
                            refine g_putI 21 (gd rfl) rfl rfl rfl rfl ?_
                            have hI43x3x18 := inv_sF (q := 109) (j := 0) hI rfl (in_w 0 2 (in_c 1 rfl) rfl)
                            refine g_aload_n 22 (gd rfl) rfl rfl ?_
                            refine g_getI 25 (gd rfl) rfl rfl rfl (fun z43x3x22 e43x3x22 => ?_)
                            have q43x3x22 : (Int32.ofInt 1) = z43x3x22 := (sF_get).trans e43x3x22.symm
                            subst q43x3x22
                            refine g_if_le 28 32 (gd rfl) rfl rfl (fun c43x3x25 => ?_) (fun c43x3x25 => ?_)
                            · skip
                              exact zn_le c43x3x25 (in_c 1 rfl) rfl
                            · skip
                              refine g_iconst 1 29 (gd rfl) rfl rfl ?_
                              refine g_goto 33 (gd rfl) rfl ?_
                              refine g_ireturn (gd rfl) rfl (nb01 (in_w 0 1 (in_c 1 rfl) rfl)) (hp43x3 _ _ ?_)
                              show GG _ _ _ _ _ _ _ _ [.int (Int32.ofInt 1)] _ _ _
                              refine g_ireturn (gd rfl) rfl (nb01 (in_w 0 1 (in_c 1 rfl) rfl)) (hp43 _ _ ?_)
                              show GG _ _ _ _ _ _ _ _ [.int (Int32.ofInt 1)] _ _ _
                              refine g_if_eq 49 51 (gd rfl) rfl rfl (fun c46 => ?_) (fun c46 => ?_)
                              · skip
                                exact zn_eq c46 (in_c 1 rfl) rfl
                              · skip
                                refine g_iconst 0 50 (gd rfl) rfl rfl ?_
                                have n50 : SHT s (sF s 109 0 (Int32.ofInt 1)) x1 x2 x3 x4 (Int32.ofInt 0) := by exact Or.inl ⟨rfl, by unfold SHP4 In; rw [← e_109_20]; exact (have a0 := in_u i23x10b; have a1 := in_u i11x9; have a2 := in_u i3x9; have a3 := in_u i3x9a; have a4 := in_u i32x9; have a5 := in_u ((in_c 1 rfl)); have a6 := tx_i2l e18; have oc := oc_371_109; by omega)⟩
                                exact g_ireturn (gd rfl) rfl rfl (hP _ _ ⟨(sF s 109 0 (Int32.ofInt 1)), hI43x3x18, (fr_sF rfl fr_rf), (Int32.ofInt 0), rfl, rfl, in_w (-2147483648) 2147483647 (in_c 0 rfl) rfl, n50⟩)
                        · skip
                          exact zn_ne c35 (in_c 0 rfl) rfl
                      · skip
                        have i32x9 := r_lt1 0 31 c32x9 i32x1 i3x9a rfl
                        refine g_iconst 1 13 (gd rfl) rfl rfl ?_
                        refine g_goto 17 (gd rfl) rfl ?_
                        refine g_ireturn (gd rfl) rfl (nb01 (in_w 0 1 (in_c 1 rfl) rfl)) (hp32 _ _ ?_)
                        show GG _ _ _ _ _ _ _ _ [.int (Int32.ofInt 1), .ref (A 109)] _ _ _
                        refine g_if_eq 38 42 (gd rfl) rfl rfl (fun c35 => ?_) (fun c35 => ?_)
                        · skip
                          exact zn_eq c35 (in_c 1 rfl) rfl
                        · skip
                          refine g_iconst 1 39 (gd rfl) rfl rfl ?_
                          refine g_goto 43 (gd rfl) rfl ?_
                          refine g_callv (X := _) (As := [.int (Int32.ofInt 1)]) (r := []) (b := A 109) (q := 109) 46 (gd rfl) rfl rfl rfl rfl rfl (ww_o rfl) (Nat.le_of_ble_eq_true rfl) (mc := 0) (ms := 0) (Nat.zero_le _) (Nat.zero_le _) (P := fun v u => _) ?_ (fun e u h => h) (fun v u h => h)
                          intro po43 xx43 hp43 hx43
                          refine g_enter2 (k := 271) (N := 300) (by first | exact dq1 hd rfl | exact dq0 hd rfl | exact dq2 hd rfl | exact dq3 hd rfl | omega) rfl (Nat.le_of_ble_eq_true rfl) ?_
                          refine g_aload_n 1 (gd rfl) rfl rfl ?_
                          refine g_iload_n 2 (gd rfl) rfl rfl ?_
                          refine g_iconst 1 3 (gd rfl) rfl rfl ?_
                          refine g_callv (X := _) (As := [.int (Int32.ofInt 1), .int (Int32.ofInt 1)]) (r := []) (b := A 109) (q := 109) 6 (gd rfl) rfl rfl rfl rfl rfl (ww_o rfl) (Nat.le_of_ble_eq_true rfl) (mc := 0) (ms := 0) (Nat.zero_le _) (Nat.zero_le _) (P := fun v u => _) ?_ (fun e u h => h) (fun v u h => h)
                          intro po43x3 xx43x3 hp43x3 hx43x3
                          refine g_enter2 (k := 270) (N := 300) (by first | exact dq1 hd rfl | exact dq0 hd rfl | exact dq2 hd rfl | exact dq3 hd rfl | omega) rfl (Nat.le_of_ble_eq_true rfl) ?_
                          refine g_aload_n 1 (gd rfl) rfl rfl ?_
                          refine g_iload_n 2 (gd rfl) rfl rfl ?_
                          refine g_if_ne 5 9 (gd rfl) rfl rfl (fun c43x3x2 => ?_) (fun c43x3x2 => ?_)
                          · skip
                            refine g_iload_n 10 (gd rfl) rfl rfl ?_
                            refine g_if_ne 13 17 (gd rfl) rfl rfl (fun c43x3x10 => ?_) (fun c43x3x10 => ?_)
                            · skip
                              refine g_iconst 0 18 (gd rfl) rfl rfl ?_
                              refine g_putI 21 (gd rfl) rfl rfl rfl rfl ?_
                              have hI43x3x18 := inv_sF (q := 109) (j := 0) hI rfl (in_w 0 2 (in_c 0 rfl) rfl)
                              refine g_aload_n 22 (gd rfl) rfl rfl ?_
                              refine g_getI 25 (gd rfl) rfl rfl rfl (fun z43x3x22 e43x3x22 => ?_)
                              have q43x3x22 : (Int32.ofInt 0) = z43x3x22 := (sF_get).trans e43x3x22.symm
                              subst q43x3x22
                              refine g_if_le 28 32 (gd rfl) rfl rfl (fun c43x3x25 => ?_) (fun c43x3x25 => ?_)
                              · skip
                                refine g_iconst 0 33 (gd rfl) rfl rfl ?_
                                refine g_ireturn (gd rfl) rfl (nb01 (in_w 0 1 (in_c 0 rfl) rfl)) (hp43x3 _ _ ?_)
                                show GG _ _ _ _ _ _ _ _ [.int (Int32.ofInt 0)] _ _ _
                                refine g_ireturn (gd rfl) rfl (nb01 (in_w 0 1 (in_c 0 rfl) rfl)) (hp43 _ _ ?_)
                                show GG _ _ _ _ _ _ _ _ [.int (Int32.ofInt 0)] _ _ _
                                refine g_if_eq 49 51 (gd rfl) rfl rfl (fun c46 => ?_) (fun c46 => ?_)
                                · skip
                                  refine g_aload_n 52 (gd rfl) rfl rfl ?_
                                  refine g_iload_n 53 (gd rfl) rfl rfl ?_
                                  refine g_iconst 0 54 (gd rfl) rfl rfl ?_
                                  refine g_aload_n 55 (gd rfl) rfl rfl ?_
                                  refine g_getA (q2 := 165) 58 (gd rfl) rfl rfl rfl rfl ?_
                                  refine g_aload_n 59 (gd rfl) rfl rfl ?_
                                  refine g_getA (q2 := 166) 62 (gd rfl) rfl rfl rfl rfl ?_
                                  refine g_callv (X := _) (As := [.int x1, .int (Int32.ofInt 0), .ref (A 165), .ref (A 166)]) (r := []) (b := A 109) (q := 109) 65 (gd rfl) rfl rfl rfl rfl rfl (ww_o rfl) (Nat.le_of_ble_eq_true rfl) (Nat.zero_le _) (Nat.zero_le _) (f_370_109_165_166 (by first | exact dq1 hd rfl | exact dq0 hd rfl | exact dq2 hd rfl | exact dq3 hd rfl | omega) hI43x3x18 (in_w 0 31 i3x9 rfl) (in_w 0 0 (in_c 0 rfl) rfl)) (fun e u h => h) (fun v u h => ?_)
                                  obtain ⟨s62, hI62, hF62, rfl, rfl, p62⟩ := h
                                  show GG _ _ _ _ _ _ _ _ [] _ _ _
                                  refine g_aload_n 66 (gd rfl) rfl rfl ?_
                                  refine g_iload_n 67 (gd rfl) rfl rfl ?_
                                  refine g_iconst 1 68 (gd rfl) rfl rfl ?_
                                  refine g_aload_n 69 (gd rfl) rfl rfl ?_
                                  refine g_getA (q2 := 167) 72 (gd rfl) rfl rfl rfl rfl ?_
                                  refine g_aload_n 73 (gd rfl) rfl rfl ?_
                                  refine g_getA (q2 := 168) 76 (gd rfl) rfl rfl rfl rfl ?_
                                  refine g_callv (X := _) (As := [.int x2, .int (Int32.ofInt 1), .ref (A 167), .ref (A 168)]) (r := []) (b := A 109) (q := 109) 79 (gd rfl) rfl rfl rfl rfl rfl (ww_o rfl) (Nat.le_of_ble_eq_true rfl) (Nat.zero_le _) (Nat.zero_le _) (f_370_109_167_168 (by first | exact dq1 hd rfl | exact dq0 hd rfl | exact dq2 hd rfl | exact dq3 hd rfl | omega) hI62 (in_w 0 31 i11x9 rfl) (in_w 1 1 (in_c 1 rfl) rfl)) (fun e u h => h) (fun v u h => ?_)
                                  obtain ⟨s76, hI76, hF76, rfl, rfl, p76⟩ := h
                                  show GG _ _ _ _ _ _ _ _ [] _ _ _
                                  refine g_iload_n 80 (gd rfl) rfl rfl ?_
                                  refine g_if_ne 83 90 (gd rfl) rfl rfl (fun c80 => ?_) (fun c80 => ?_)
                                  · skip
                                    have i80 := z_ne 1 2 c80 i23x10b rfl
                                    refine g_iload_n 91 (gd rfl) rfl rfl ?_
                                    refine g_iconst 1 92 (gd rfl) rfl rfl ?_
                                    refine g_cmp_ne 95 103 (gd rfl) rfl rfl (fun c92 => ?_) (fun c92 => ?_)
                                    · skip
                                      have i92 := r_ne1 2 2 c92 i80 (in_c 1 rfl) rfl
                                      refine g_aload_n 104 (gd rfl) rfl rfl ?_
                                      refine g_getA (q2 := 165) 107 (gd rfl) rfl rfl rfl rfl ?_
                                      refine g_iload 109 (gd rfl) rfl rfl ?_
                                      refine g_iaload 110 (gd rfl) rfl (n := 32) rfl (in_ix i32x9 rfl) (fun z109 e109 => ?_)
                                      refine g_if_lt 113 151 (gd rfl) rfl rfl (fun c110 => ?_) (fun c110 => ?_)
                                      · skip
                                        have i110 := z_lt (-2147483648) (-1) c110 (i_rng z109) rfl
                                        refine g_iconst 0 152 (gd rfl) rfl rfl ?_
                                        refine g_istore 154 (gd rfl) rfl (Nat.le_of_ble_eq_true rfl) ?_
                                        refine g_iload 156 (gd rfl) rfl rfl ?_
                                        refine g_if_eq 159 182 (gd rfl) rfl rfl (fun c156 => ?_) (fun c156 => ?_)
                                        · skip
                                          refine g_iconst 0 183 (gd rfl) rfl rfl ?_
                                          have n183 : SHT s s76 x1 x2 x3 x4 (Int32.ofInt 0) := by have a1 : ∀ v : Nat, v < (s.2.2.1 109 20).toInt.toNat → HPS (ARE (gvZ s) 0) (ARE (gvZ s) 1) (x1).toNatClampNeg v (s76.1 165 v).toInt (s76.2.1 166 v).toInt := (by rw [hF76.1 165 rfl, hF76.2.1 166 rfl]; have h9 := p62; rw [gvz_cg (show Fr ([], [], [(109, 0)], []) s (sF s 109 0 (Int32.ofInt 0)) from fr_sF rfl fr_rf) rfl, (show Fr ([], [], [(109, 0)], []) s (sF s 109 0 (Int32.ofInt 0)) from fr_sF rfl fr_rf).2.2.1 109 20 rfl] at h9; exact h9); have a2 : ∀ v : Nat, v < (s.2.2.1 109 20).toInt.toNat → HPS (ARE (gvZ s) 1) (ARE (gvZ s) 0) (x2).toNatClampNeg v (s76.1 167 v).toInt (s76.2.1 168 v).toInt := (by have h9 := p76; rw [gvz_cg (show Fr fm_371 s s62 from fr_tr rfl (fr_sF rfl fr_rf) hF62) rfl, (show Fr fm_371 s s62 from fr_tr rfl (fr_sF rfl fr_rf) hF62).2.2.1 109 20 rfl] at h9; exact h9); have p0 := a1 _ (show (x2).toNatClampNeg < (s.2.2.1 109 20).toInt.toNat from (by show (x2).toInt.toNat < _; rw [← e_109_20]; exact (have a0 := in_u i32x9; have a1 := in_u i92; have a2 := in_u i11x9; have a3 := in_u i3x9; have a4 := in_u i3x9a; have a5 := in_u ((in_c 0 rfl)); have a6 := tx_i2l e18; have oc := oc_371_109; by omega))); have p1 := a1 _ (show (x4).toNatClampNeg < (s.2.2.1 109 20).toInt.toNat from (by show (x4).toInt.toNat < _; rw [← e_109_20]; exact (have a0 := in_u i32x9; have a1 := in_u i92; have a2 := in_u i11x9; have a3 := in_u i3x9; have a4 := in_u i3x9a; have a5 := in_u ((in_c 0 rfl)); have a6 := tx_i2l e18; have oc := oc_371_109; by omega))); have p2 := hps_r (ftq_g (ndq_z hI)) (a2 _ (show (x4).toNatClampNeg < (s.2.2.1 109 20).toInt.toNat from (by show (x4).toInt.toNat < _; rw [← e_109_20]; exact (have a0 := in_u i32x9; have a1 := in_u i92; have a2 := in_u i11x9; have a3 := in_u i3x9; have a4 := in_u i3x9a; have a5 := in_u ((in_c 0 rfl)); have a6 := tx_i2l e18; have oc := oc_371_109; by omega)))); have b0 := hps_b p0; have b1 := hps_b p1; have b2 := hps_b p2; have h32 : ∀ u w, AJF (ARE (gvZ s) 0) (ARE (gvZ s) 1) u w → u < 32 ∧ w < 32 := (fun u w q => by have h9 := ajf_g (ndq_z hI) (n := (s.2.2.1 109 20).toInt.toNat) (by rw [gvz_n hI]; exact n20 hI) u w q; have h8 := inv_F hI (z := s.2.2.1 109 20) 0 32 rfl rfl; unfold In at h8; omega); have d1 := hps_32 p1 h32 (by show (x4).toInt.toNat < 32; exact (have a0 := in_u i32x9; have a1 := in_u i92; have a2 := in_u i11x9; have a3 := in_u i3x9; have a4 := in_u i3x9a; have a5 := in_u ((in_c 0 rfl)); have a6 := tx_i2l e18; have oc := oc_371_109; by omega)); have d2 := hps_32 p2 h32 (by show (x2).toInt.toNat < 32; exact (have a0 := in_u i32x9; have a1 := in_u i92; have a2 := in_u i11x9; have a3 := in_u i3x9; have a4 := in_u i3x9a; have a5 := in_u ((in_c 0 rfl)); have a6 := tx_i2l e18; have oc := oc_371_109; by omega)); have r1 : z109 = s76.1 165 (x4).toNatClampNeg := e109; rw [← r1] at p1 b1 d1; exact Or.inr ⟨(by rw [hF76.2.2.1 109 0 rfl, hF62.2.2.1 109 0 rfl]; rfl), ⟨⟨by exact (have a0 := in_u i32x9; have a1 := in_u i92; have a2 := in_u i11x9; have a3 := in_u i3x9; have a4 := in_u i3x9a; have a5 := in_u ((in_c 0 rfl)); have a6 := tx_i2l e18; have oc := oc_371_109; by omega), by rw [← e_109_20]; exact (have a0 := in_u i32x9; have a1 := in_u i92; have a2 := in_u i11x9; have a3 := in_u i3x9; have a4 := in_u i3x9a; have a5 := in_u ((in_c 0 rfl)); have a6 := tx_i2l e18; have oc := oc_371_109; by omega)⟩, ⟨by exact (have a0 := in_u i32x9; have a1 := in_u i92; have a2 := in_u i11x9; have a3 := in_u i3x9; have a4 := in_u i3x9a; have a5 := in_u ((in_c 0 rfl)); have a6 := tx_i2l e18; have oc := oc_371_109; by omega), by rw [← e_109_20]; exact (have a0 := in_u i32x9; have a1 := in_u i92; have a2 := in_u i11x9; have a3 := in_u i3x9; have a4 := in_u i3x9a; have a5 := in_u ((in_c 0 rfl)); have a6 := tx_i2l e18; have oc := oc_371_109; by omega)⟩, ⟨by exact (have a0 := in_u i32x9; have a1 := in_u i92; have a2 := in_u i11x9; have a3 := in_u i3x9; have a4 := in_u i3x9a; have a5 := in_u ((in_c 0 rfl)); have a6 := tx_i2l e18; have oc := oc_371_109; by omega), by exact (have a0 := in_u i32x9; have a1 := in_u i92; have a2 := in_u i11x9; have a3 := in_u i3x9; have a4 := in_u i3x9a; have a5 := in_u ((in_c 0 rfl)); have a6 := tx_i2l e18; have oc := oc_371_109; by omega)⟩, ⟨by exact (have a0 := in_u i32x9; have a1 := in_u i92; have a2 := in_u i11x9; have a3 := in_u i3x9; have a4 := in_u i3x9a; have a5 := in_u ((in_c 0 rfl)); have a6 := tx_i2l e18; have oc := oc_371_109; by omega), by rw [← e_109_20]; exact (have a0 := in_u i32x9; have a1 := in_u i92; have a2 := in_u i11x9; have a3 := in_u i3x9; have a4 := in_u i3x9a; have a5 := in_u ((in_c 0 rfl)); have a6 := tx_i2l e18; have oc := oc_371_109; by omega)⟩⟩, shs_2 (by exact (have a0 := in_u i32x9; have a1 := in_u i92; have a2 := in_u i11x9; have a3 := in_u i3x9; have a4 := in_u i3x9a; have a5 := in_u ((in_c 0 rfl)); have a6 := tx_i2l e18; have oc := oc_371_109; by omega)) ⟨_, _, _, _, _, _, p0, p1, p2, (if_neg (fun y => (by have h9 := c110; have h8 := y.1; omega))).symm⟩⟩
                                          exact g_ireturn (gd rfl) rfl rfl (hP _ _ ⟨s76, hI76, (fr_tr rfl (fr_tr rfl (fr_sF rfl fr_rf) hF62) hF76), (Int32.ofInt 0), rfl, rfl, in_w (-2147483648) 2147483647 (in_c 0 rfl) rfl, n183⟩)
                                        · skip
                                          exact zn_ne c156 (in_c 0 rfl) rfl
                                      · skip
                                        have i110 := z_ge 0 2147483647 c110 (i_rng z109) rfl
                                        refine g_aload_n 114 (gd rfl) rfl rfl ?_
                                        refine g_getA (q2 := 167) 117 (gd rfl) rfl rfl rfl rfl ?_
                                        refine g_iload 119 (gd rfl) rfl rfl ?_
                                        refine g_iaload 120 (gd rfl) rfl (n := 32) rfl (in_ix i32x9 rfl) (fun z119 e119 => ?_)
                                        refine g_if_lt 123 151 (gd rfl) rfl rfl (fun c120 => ?_) (fun c120 => ?_)
                                        · skip
                                          have i120 := z_lt (-2147483648) (-1) c120 (i_rng z119) rfl
                                          refine g_iconst 0 152 (gd rfl) rfl rfl ?_
                                          refine g_istore 154 (gd rfl) rfl (Nat.le_of_ble_eq_true rfl) ?_
                                          refine g_iload 156 (gd rfl) rfl rfl ?_
                                          refine g_if_eq 159 182 (gd rfl) rfl rfl (fun c156 => ?_) (fun c156 => ?_)
                                          · skip
                                            refine g_iconst 0 183 (gd rfl) rfl rfl ?_
                                            have n183 : SHT s s76 x1 x2 x3 x4 (Int32.ofInt 0) := by have a1 : ∀ v : Nat, v < (s.2.2.1 109 20).toInt.toNat → HPS (ARE (gvZ s) 0) (ARE (gvZ s) 1) (x1).toNatClampNeg v (s76.1 165 v).toInt (s76.2.1 166 v).toInt := (by rw [hF76.1 165 rfl, hF76.2.1 166 rfl]; have h9 := p62; rw [gvz_cg (show Fr ([], [], [(109, 0)], []) s (sF s 109 0 (Int32.ofInt 0)) from fr_sF rfl fr_rf) rfl, (show Fr ([], [], [(109, 0)], []) s (sF s 109 0 (Int32.ofInt 0)) from fr_sF rfl fr_rf).2.2.1 109 20 rfl] at h9; exact h9); have a2 : ∀ v : Nat, v < (s.2.2.1 109 20).toInt.toNat → HPS (ARE (gvZ s) 1) (ARE (gvZ s) 0) (x2).toNatClampNeg v (s76.1 167 v).toInt (s76.2.1 168 v).toInt := (by have h9 := p76; rw [gvz_cg (show Fr fm_371 s s62 from fr_tr rfl (fr_sF rfl fr_rf) hF62) rfl, (show Fr fm_371 s s62 from fr_tr rfl (fr_sF rfl fr_rf) hF62).2.2.1 109 20 rfl] at h9; exact h9); have p0 := a1 _ (show (x2).toNatClampNeg < (s.2.2.1 109 20).toInt.toNat from (by show (x2).toInt.toNat < _; rw [← e_109_20]; exact (have a0 := in_u i32x9; have a1 := in_u i92; have a2 := in_u i11x9; have a3 := in_u i3x9; have a4 := in_u i3x9a; have a5 := in_u ((in_c 0 rfl)); have a6 := tx_i2l e18; have oc := oc_371_109; by omega))); have p1 := a1 _ (show (x4).toNatClampNeg < (s.2.2.1 109 20).toInt.toNat from (by show (x4).toInt.toNat < _; rw [← e_109_20]; exact (have a0 := in_u i32x9; have a1 := in_u i92; have a2 := in_u i11x9; have a3 := in_u i3x9; have a4 := in_u i3x9a; have a5 := in_u ((in_c 0 rfl)); have a6 := tx_i2l e18; have oc := oc_371_109; by omega))); have p2 := hps_r (ftq_g (ndq_z hI)) (a2 _ (show (x4).toNatClampNeg < (s.2.2.1 109 20).toInt.toNat from (by show (x4).toInt.toNat < _; rw [← e_109_20]; exact (have a0 := in_u i32x9; have a1 := in_u i92; have a2 := in_u i11x9; have a3 := in_u i3x9; have a4 := in_u i3x9a; have a5 := in_u ((in_c 0 rfl)); have a6 := tx_i2l e18; have oc := oc_371_109; by omega)))); have b0 := hps_b p0; have b1 := hps_b p1; have b2 := hps_b p2; have h32 : ∀ u w, AJF (ARE (gvZ s) 0) (ARE (gvZ s) 1) u w → u < 32 ∧ w < 32 := (fun u w q => by have h9 := ajf_g (ndq_z hI) (n := (s.2.2.1 109 20).toInt.toNat) (by rw [gvz_n hI]; exact n20 hI) u w q; have h8 := inv_F hI (z := s.2.2.1 109 20) 0 32 rfl rfl; unfold In at h8; omega); have d1 := hps_32 p1 h32 (by show (x4).toInt.toNat < 32; exact (have a0 := in_u i32x9; have a1 := in_u i92; have a2 := in_u i11x9; have a3 := in_u i3x9; have a4 := in_u i3x9a; have a5 := in_u ((in_c 0 rfl)); have a6 := tx_i2l e18; have oc := oc_371_109; by omega)); have d2 := hps_32 p2 h32 (by show (x2).toInt.toNat < 32; exact (have a0 := in_u i32x9; have a1 := in_u i92; have a2 := in_u i11x9; have a3 := in_u i3x9; have a4 := in_u i3x9a; have a5 := in_u ((in_c 0 rfl)); have a6 := tx_i2l e18; have oc := oc_371_109; by omega)); have r1 : z109 = s76.1 165 (x4).toNatClampNeg := e109; rw [← r1] at p1 b1 d1; have r2 : z119 = s76.1 167 (x4).toNatClampNeg := e119; rw [← r2] at p2 b2 d2; exact Or.inr ⟨(by rw [hF76.2.2.1 109 0 rfl, hF62.2.2.1 109 0 rfl]; rfl), ⟨⟨by exact (have a0 := in_u i32x9; have a1 := in_u i92; have a2 := in_u i11x9; have a3 := in_u i3x9; have a4 := in_u i3x9a; have a5 := in_u ((in_c 0 rfl)); have a6 := tx_i2l e18; have oc := oc_371_109; by omega), by rw [← e_109_20]; exact (have a0 := in_u i32x9; have a1 := in_u i92; have a2 := in_u i11x9; have a3 := in_u i3x9; have a4 := in_u i3x9a; have a5 := in_u ((in_c 0 rfl)); have a6 := tx_i2l e18; have oc := oc_371_109; by omega)⟩, ⟨by exact (have a0 := in_u i32x9; have a1 := in_u i92; have a2 := in_u i11x9; have a3 := in_u i3x9; have a4 := in_u i3x9a; have a5 := in_u ((in_c 0 rfl)); have a6 := tx_i2l e18; have oc := oc_371_109; by omega), by rw [← e_109_20]; exact (have a0 := in_u i32x9; have a1 := in_u i92; have a2 := in_u i11x9; have a3 := in_u i3x9; have a4 := in_u i3x9a; have a5 := in_u ((in_c 0 rfl)); have a6 := tx_i2l e18; have oc := oc_371_109; by omega)⟩, ⟨by exact (have a0 := in_u i32x9; have a1 := in_u i92; have a2 := in_u i11x9; have a3 := in_u i3x9; have a4 := in_u i3x9a; have a5 := in_u ((in_c 0 rfl)); have a6 := tx_i2l e18; have oc := oc_371_109; by omega), by exact (have a0 := in_u i32x9; have a1 := in_u i92; have a2 := in_u i11x9; have a3 := in_u i3x9; have a4 := in_u i3x9a; have a5 := in_u ((in_c 0 rfl)); have a6 := tx_i2l e18; have oc := oc_371_109; by omega)⟩, ⟨by exact (have a0 := in_u i32x9; have a1 := in_u i92; have a2 := in_u i11x9; have a3 := in_u i3x9; have a4 := in_u i3x9a; have a5 := in_u ((in_c 0 rfl)); have a6 := tx_i2l e18; have oc := oc_371_109; by omega), by rw [← e_109_20]; exact (have a0 := in_u i32x9; have a1 := in_u i92; have a2 := in_u i11x9; have a3 := in_u i3x9; have a4 := in_u i3x9a; have a5 := in_u ((in_c 0 rfl)); have a6 := tx_i2l e18; have oc := oc_371_109; by omega)⟩⟩, shs_2 (by exact (have a0 := in_u i32x9; have a1 := in_u i92; have a2 := in_u i11x9; have a3 := in_u i3x9; have a4 := in_u i3x9a; have a5 := in_u ((in_c 0 rfl)); have a6 := tx_i2l e18; have oc := oc_371_109; by omega)) ⟨_, _, _, _, _, _, p0, p1, p2, (if_neg (fun y => (by have h9 := c120; have h8 := y.2.1; omega))).symm⟩⟩
                                            exact g_ireturn (gd rfl) rfl rfl (hP _ _ ⟨s76, hI76, (fr_tr rfl (fr_tr rfl (fr_sF rfl fr_rf) hF62) hF76), (Int32.ofInt 0), rfl, rfl, in_w (-2147483648) 2147483647 (in_c 0 rfl) rfl, n183⟩)
                                          · skip
                                            exact zn_ne c156 (in_c 0 rfl) rfl
                                        · skip
                                          have i120 := z_ge 0 2147483647 c120 (i_rng z119) rfl
                                          refine g_aload_n 124 (gd rfl) rfl rfl ?_
                                          refine g_getA (q2 := 165) 127 (gd rfl) rfl rfl rfl rfl ?_
                                          refine g_iload 129 (gd rfl) rfl rfl ?_
                                          refine g_iaload 130 (gd rfl) rfl (n := 32) rfl (in_ix i32x9 rfl) (fun z129 e129 => ?_)
                                          have q129 : z109 = z129 := (e109).trans e129.symm
                                          subst q129
                                          refine g_aload_n 131 (gd rfl) rfl rfl ?_
                                          refine g_getA (q2 := 167) 134 (gd rfl) rfl rfl rfl rfl ?_
                                          refine g_iload 136 (gd rfl) rfl rfl ?_
                                          refine g_iaload 137 (gd rfl) rfl (n := 32) rfl (in_ix i32x9 rfl) (fun z136 e136 => ?_)
                                          have q136 : z119 = z136 := (e119).trans e136.symm
                                          subst q136
                                          refine g_iadd 138 (gd rfl) rfl (fun z137 e137 => ?_)
                                          refine g_aload_n 139 (gd rfl) rfl rfl ?_
                                          refine g_getA (q2 := 165) 142 (gd rfl) rfl rfl rfl rfl ?_
                                          refine g_iload_n 143 (gd rfl) rfl rfl ?_
                                          refine g_iaload 144 (gd rfl) rfl (n := 32) rfl (in_ix i11x9 rfl) (fun z143 e143 => ?_)
                                          refine g_cmp_ne 147 151 (gd rfl) rfl rfl (fun c144 => ?_) (fun c144 => ?_)
                                          · skip
                                            refine g_iconst 0 152 (gd rfl) rfl rfl ?_
                                            refine g_istore 154 (gd rfl) rfl (Nat.le_of_ble_eq_true rfl) ?_
                                            refine g_iload 156 (gd rfl) rfl rfl ?_
                                            refine g_if_eq 159 182 (gd rfl) rfl rfl (fun c156 => ?_) (fun c156 => ?_)
                                            · skip
                                              refine g_iconst 0 183 (gd rfl) rfl rfl ?_
                                              have n183 : SHT s s76 x1 x2 x3 x4 (Int32.ofInt 0) := by have a1 : ∀ v : Nat, v < (s.2.2.1 109 20).toInt.toNat → HPS (ARE (gvZ s) 0) (ARE (gvZ s) 1) (x1).toNatClampNeg v (s76.1 165 v).toInt (s76.2.1 166 v).toInt := (by rw [hF76.1 165 rfl, hF76.2.1 166 rfl]; have h9 := p62; rw [gvz_cg (show Fr ([], [], [(109, 0)], []) s (sF s 109 0 (Int32.ofInt 0)) from fr_sF rfl fr_rf) rfl, (show Fr ([], [], [(109, 0)], []) s (sF s 109 0 (Int32.ofInt 0)) from fr_sF rfl fr_rf).2.2.1 109 20 rfl] at h9; exact h9); have a2 : ∀ v : Nat, v < (s.2.2.1 109 20).toInt.toNat → HPS (ARE (gvZ s) 1) (ARE (gvZ s) 0) (x2).toNatClampNeg v (s76.1 167 v).toInt (s76.2.1 168 v).toInt := (by have h9 := p76; rw [gvz_cg (show Fr fm_371 s s62 from fr_tr rfl (fr_sF rfl fr_rf) hF62) rfl, (show Fr fm_371 s s62 from fr_tr rfl (fr_sF rfl fr_rf) hF62).2.2.1 109 20 rfl] at h9; exact h9); have p0 := a1 _ (show (x2).toNatClampNeg < (s.2.2.1 109 20).toInt.toNat from (by show (x2).toInt.toNat < _; rw [← e_109_20]; exact (have a0 := in_u i32x9; have a1 := in_u i92; have a2 := in_u i11x9; have a3 := in_u i3x9; have a4 := in_u i3x9a; have a5 := in_u ((in_c 0 rfl)); have a6 := tx_i2l e18; have oc := oc_371_109; by omega))); have p1 := a1 _ (show (x4).toNatClampNeg < (s.2.2.1 109 20).toInt.toNat from (by show (x4).toInt.toNat < _; rw [← e_109_20]; exact (have a0 := in_u i32x9; have a1 := in_u i92; have a2 := in_u i11x9; have a3 := in_u i3x9; have a4 := in_u i3x9a; have a5 := in_u ((in_c 0 rfl)); have a6 := tx_i2l e18; have oc := oc_371_109; by omega))); have p2 := hps_r (ftq_g (ndq_z hI)) (a2 _ (show (x4).toNatClampNeg < (s.2.2.1 109 20).toInt.toNat from (by show (x4).toInt.toNat < _; rw [← e_109_20]; exact (have a0 := in_u i32x9; have a1 := in_u i92; have a2 := in_u i11x9; have a3 := in_u i3x9; have a4 := in_u i3x9a; have a5 := in_u ((in_c 0 rfl)); have a6 := tx_i2l e18; have oc := oc_371_109; by omega)))); have b0 := hps_b p0; have b1 := hps_b p1; have b2 := hps_b p2; have h32 : ∀ u w, AJF (ARE (gvZ s) 0) (ARE (gvZ s) 1) u w → u < 32 ∧ w < 32 := (fun u w q => by have h9 := ajf_g (ndq_z hI) (n := (s.2.2.1 109 20).toInt.toNat) (by rw [gvz_n hI]; exact n20 hI) u w q; have h8 := inv_F hI (z := s.2.2.1 109 20) 0 32 rfl rfl; unfold In at h8; omega); have d1 := hps_32 p1 h32 (by show (x4).toInt.toNat < 32; exact (have a0 := in_u i32x9; have a1 := in_u i92; have a2 := in_u i11x9; have a3 := in_u i3x9; have a4 := in_u i3x9a; have a5 := in_u ((in_c 0 rfl)); have a6 := tx_i2l e18; have oc := oc_371_109; by omega)); have d2 := hps_32 p2 h32 (by show (x2).toInt.toNat < 32; exact (have a0 := in_u i32x9; have a1 := in_u i92; have a2 := in_u i11x9; have a3 := in_u i3x9; have a4 := in_u i3x9a; have a5 := in_u ((in_c 0 rfl)); have a6 := tx_i2l e18; have oc := oc_371_109; by omega)); have r1 : z109 = s76.1 165 (x4).toNatClampNeg := e109; rw [← r1] at p1 b1 d1; have r2 : z119 = s76.1 167 (x4).toNatClampNeg := e119; rw [← r2] at p2 b2 d2; have r0 : z143 = s76.1 165 (x2).toNatClampNeg := e143; rw [← r0] at p0 b0; have w : (z137).toInt = (z109).toInt + (z119).toInt := t_add e137 (show In z109 0 32 from ⟨by have h9 := c110; omega, d1⟩) (show In z119 0 32 from ⟨by have h9 := c120; omega, d2⟩) rfl; exact Or.inr ⟨(by rw [hF76.2.2.1 109 0 rfl, hF62.2.2.1 109 0 rfl]; rfl), ⟨⟨by exact (have a0 := in_u i32x9; have a1 := in_u i92; have a2 := in_u i11x9; have a3 := in_u i3x9; have a4 := in_u i3x9a; have a5 := in_u ((in_c 0 rfl)); have a6 := tx_i2l e18; have oc := oc_371_109; by omega), by rw [← e_109_20]; exact (have a0 := in_u i32x9; have a1 := in_u i92; have a2 := in_u i11x9; have a3 := in_u i3x9; have a4 := in_u i3x9a; have a5 := in_u ((in_c 0 rfl)); have a6 := tx_i2l e18; have oc := oc_371_109; by omega)⟩, ⟨by exact (have a0 := in_u i32x9; have a1 := in_u i92; have a2 := in_u i11x9; have a3 := in_u i3x9; have a4 := in_u i3x9a; have a5 := in_u ((in_c 0 rfl)); have a6 := tx_i2l e18; have oc := oc_371_109; by omega), by rw [← e_109_20]; exact (have a0 := in_u i32x9; have a1 := in_u i92; have a2 := in_u i11x9; have a3 := in_u i3x9; have a4 := in_u i3x9a; have a5 := in_u ((in_c 0 rfl)); have a6 := tx_i2l e18; have oc := oc_371_109; by omega)⟩, ⟨by exact (have a0 := in_u i32x9; have a1 := in_u i92; have a2 := in_u i11x9; have a3 := in_u i3x9; have a4 := in_u i3x9a; have a5 := in_u ((in_c 0 rfl)); have a6 := tx_i2l e18; have oc := oc_371_109; by omega), by exact (have a0 := in_u i32x9; have a1 := in_u i92; have a2 := in_u i11x9; have a3 := in_u i3x9; have a4 := in_u i3x9a; have a5 := in_u ((in_c 0 rfl)); have a6 := tx_i2l e18; have oc := oc_371_109; by omega)⟩, ⟨by exact (have a0 := in_u i32x9; have a1 := in_u i92; have a2 := in_u i11x9; have a3 := in_u i3x9; have a4 := in_u i3x9a; have a5 := in_u ((in_c 0 rfl)); have a6 := tx_i2l e18; have oc := oc_371_109; by omega), by rw [← e_109_20]; exact (have a0 := in_u i32x9; have a1 := in_u i92; have a2 := in_u i11x9; have a3 := in_u i3x9; have a4 := in_u i3x9a; have a5 := in_u ((in_c 0 rfl)); have a6 := tx_i2l e18; have oc := oc_371_109; by omega)⟩⟩, shs_2 (by exact (have a0 := in_u i32x9; have a1 := in_u i92; have a2 := in_u i11x9; have a3 := in_u i3x9; have a4 := in_u i3x9a; have a5 := in_u ((in_c 0 rfl)); have a6 := tx_i2l e18; have oc := oc_371_109; by omega)) ⟨_, _, _, _, _, _, p0, p1, p2, (if_neg (fun y => (by have h9 := c144; have h8 := y.2.2; omega))).symm⟩⟩
                                              exact g_ireturn (gd rfl) rfl rfl (hP _ _ ⟨s76, hI76, (fr_tr rfl (fr_tr rfl (fr_sF rfl fr_rf) hF62) hF76), (Int32.ofInt 0), rfl, rfl, in_w (-2147483648) 2147483647 (in_c 0 rfl) rfl, n183⟩)
                                            · skip
                                              exact zn_ne c156 (in_c 0 rfl) rfl
                                          · skip
                                            refine g_iconst 1 148 (gd rfl) rfl rfl ?_
                                            refine g_goto 152 (gd rfl) rfl ?_
                                            refine g_istore 154 (gd rfl) rfl (Nat.le_of_ble_eq_true rfl) ?_
                                            refine g_iload 156 (gd rfl) rfl rfl ?_
                                            refine g_if_eq 159 182 (gd rfl) rfl rfl (fun c156 => ?_) (fun c156 => ?_)
                                            · skip
                                              exact zn_eq c156 (in_c 1 rfl) rfl
                                            · skip
                                              refine g_aload_n 160 (gd rfl) rfl rfl ?_
                                              refine g_getA (q2 := 166) 163 (gd rfl) rfl rfl rfl rfl ?_
                                              refine g_iload 165 (gd rfl) rfl rfl ?_
                                              refine g_laload 166 (gd rfl) rfl (n := 32) rfl (in_ix i32x9 rfl) (fun z165 e165 => ?_)
                                              refine g_aload_n 167 (gd rfl) rfl rfl ?_
                                              refine g_getA (q2 := 168) 170 (gd rfl) rfl rfl rfl rfl ?_
                                              refine g_iload 172 (gd rfl) rfl rfl ?_
                                              refine g_laload 173 (gd rfl) rfl (n := 32) rfl (in_ix i32x9 rfl) (fun z172 e172 => ?_)
                                              refine g_lmul 174 (gd rfl) rfl (fun z173 e173 => ?_)
                                              refine g_ldc2_w 1000000007 177 (gd rfl) rfl rfl ?_
                                              refine g_lrem 178 (gd rfl) rfl (by decide) (fun z177 e177 => ?_)
                                              have i177 := l_rem (-1000000006) 1000000006 e177 rfl
                                              refine g_l2i 179 (gd rfl) rfl (fun z178 e178 => ?_)
                                              refine g_goto 183 (gd rfl) rfl ?_
                                              have n183 : SHT s s76 x1 x2 x3 x4 z178 := by have a1 : ∀ v : Nat, v < (s.2.2.1 109 20).toInt.toNat → HPS (ARE (gvZ s) 0) (ARE (gvZ s) 1) (x1).toNatClampNeg v (s76.1 165 v).toInt (s76.2.1 166 v).toInt := (by rw [hF76.1 165 rfl, hF76.2.1 166 rfl]; have h9 := p62; rw [gvz_cg (show Fr ([], [], [(109, 0)], []) s (sF s 109 0 (Int32.ofInt 0)) from fr_sF rfl fr_rf) rfl, (show Fr ([], [], [(109, 0)], []) s (sF s 109 0 (Int32.ofInt 0)) from fr_sF rfl fr_rf).2.2.1 109 20 rfl] at h9; exact h9); have a2 : ∀ v : Nat, v < (s.2.2.1 109 20).toInt.toNat → HPS (ARE (gvZ s) 1) (ARE (gvZ s) 0) (x2).toNatClampNeg v (s76.1 167 v).toInt (s76.2.1 168 v).toInt := (by have h9 := p76; rw [gvz_cg (show Fr fm_371 s s62 from fr_tr rfl (fr_sF rfl fr_rf) hF62) rfl, (show Fr fm_371 s s62 from fr_tr rfl (fr_sF rfl fr_rf) hF62).2.2.1 109 20 rfl] at h9; exact h9); have p0 := a1 _ (show (x2).toNatClampNeg < (s.2.2.1 109 20).toInt.toNat from (by show (x2).toInt.toNat < _; rw [← e_109_20]; exact (have a0 := in_u i32x9; have a1 := in_u i92; have a2 := in_u i11x9; have a3 := in_u i3x9; have a4 := in_u i3x9a; have a5 := in_u ((in_c 1 rfl)); have a6 := in_u ((in_c 0 rfl)); have a7 := tx_i2l e18; have oc := oc_371_109; by omega))); have p1 := a1 _ (show (x4).toNatClampNeg < (s.2.2.1 109 20).toInt.toNat from (by show (x4).toInt.toNat < _; rw [← e_109_20]; exact (have a0 := in_u i32x9; have a1 := in_u i92; have a2 := in_u i11x9; have a3 := in_u i3x9; have a4 := in_u i3x9a; have a5 := in_u ((in_c 1 rfl)); have a6 := in_u ((in_c 0 rfl)); have a7 := tx_i2l e18; have oc := oc_371_109; by omega))); have p2 := hps_r (ftq_g (ndq_z hI)) (a2 _ (show (x4).toNatClampNeg < (s.2.2.1 109 20).toInt.toNat from (by show (x4).toInt.toNat < _; rw [← e_109_20]; exact (have a0 := in_u i32x9; have a1 := in_u i92; have a2 := in_u i11x9; have a3 := in_u i3x9; have a4 := in_u i3x9a; have a5 := in_u ((in_c 1 rfl)); have a6 := in_u ((in_c 0 rfl)); have a7 := tx_i2l e18; have oc := oc_371_109; by omega)))); have b0 := hps_b p0; have b1 := hps_b p1; have b2 := hps_b p2; have h32 : ∀ u w, AJF (ARE (gvZ s) 0) (ARE (gvZ s) 1) u w → u < 32 ∧ w < 32 := (fun u w q => by have h9 := ajf_g (ndq_z hI) (n := (s.2.2.1 109 20).toInt.toNat) (by rw [gvz_n hI]; exact n20 hI) u w q; have h8 := inv_F hI (z := s.2.2.1 109 20) 0 32 rfl rfl; unfold In at h8; omega); have d1 := hps_32 p1 h32 (by show (x4).toInt.toNat < 32; exact (have a0 := in_u i32x9; have a1 := in_u i92; have a2 := in_u i11x9; have a3 := in_u i3x9; have a4 := in_u i3x9a; have a5 := in_u ((in_c 1 rfl)); have a6 := in_u ((in_c 0 rfl)); have a7 := tx_i2l e18; have oc := oc_371_109; by omega)); have d2 := hps_32 p2 h32 (by show (x2).toInt.toNat < 32; exact (have a0 := in_u i32x9; have a1 := in_u i92; have a2 := in_u i11x9; have a3 := in_u i3x9; have a4 := in_u i3x9a; have a5 := in_u ((in_c 1 rfl)); have a6 := in_u ((in_c 0 rfl)); have a7 := tx_i2l e18; have oc := oc_371_109; by omega)); have r1 : z109 = s76.1 165 (x4).toNatClampNeg := e109; rw [← r1] at p1 b1 d1; have r2 : z119 = s76.1 167 (x4).toNatClampNeg := e119; rw [← r2] at p2 b2 d2; have r0 : z143 = s76.1 165 (x2).toNatClampNeg := e143; rw [← r0] at p0 b0; have w : (z137).toInt = (z109).toInt + (z119).toInt := t_add e137 (show In z109 0 32 from ⟨by have h9 := c110; omega, d1⟩) (show In z119 0 32 from ⟨by have h9 := c120; omega, d2⟩) rfl; exact Or.inr ⟨(by rw [hF76.2.2.1 109 0 rfl, hF62.2.2.1 109 0 rfl]; rfl), ⟨⟨by exact (have a0 := in_u i32x9; have a1 := in_u i92; have a2 := in_u i11x9; have a3 := in_u i3x9; have a4 := in_u i3x9a; have a5 := in_u ((in_c 1 rfl)); have a6 := in_u ((in_c 0 rfl)); have a7 := tx_i2l e18; have oc := oc_371_109; by omega), by rw [← e_109_20]; exact (have a0 := in_u i32x9; have a1 := in_u i92; have a2 := in_u i11x9; have a3 := in_u i3x9; have a4 := in_u i3x9a; have a5 := in_u ((in_c 1 rfl)); have a6 := in_u ((in_c 0 rfl)); have a7 := tx_i2l e18; have oc := oc_371_109; by omega)⟩, ⟨by exact (have a0 := in_u i32x9; have a1 := in_u i92; have a2 := in_u i11x9; have a3 := in_u i3x9; have a4 := in_u i3x9a; have a5 := in_u ((in_c 1 rfl)); have a6 := in_u ((in_c 0 rfl)); have a7 := tx_i2l e18; have oc := oc_371_109; by omega), by rw [← e_109_20]; exact (have a0 := in_u i32x9; have a1 := in_u i92; have a2 := in_u i11x9; have a3 := in_u i3x9; have a4 := in_u i3x9a; have a5 := in_u ((in_c 1 rfl)); have a6 := in_u ((in_c 0 rfl)); have a7 := tx_i2l e18; have oc := oc_371_109; by omega)⟩, ⟨by exact (have a0 := in_u i32x9; have a1 := in_u i92; have a2 := in_u i11x9; have a3 := in_u i3x9; have a4 := in_u i3x9a; have a5 := in_u ((in_c 1 rfl)); have a6 := in_u ((in_c 0 rfl)); have a7 := tx_i2l e18; have oc := oc_371_109; by omega), by exact (have a0 := in_u i32x9; have a1 := in_u i92; have a2 := in_u i11x9; have a3 := in_u i3x9; have a4 := in_u i3x9a; have a5 := in_u ((in_c 1 rfl)); have a6 := in_u ((in_c 0 rfl)); have a7 := tx_i2l e18; have oc := oc_371_109; by omega)⟩, ⟨by exact (have a0 := in_u i32x9; have a1 := in_u i92; have a2 := in_u i11x9; have a3 := in_u i3x9; have a4 := in_u i3x9a; have a5 := in_u ((in_c 1 rfl)); have a6 := in_u ((in_c 0 rfl)); have a7 := tx_i2l e18; have oc := oc_371_109; by omega), by rw [← e_109_20]; exact (have a0 := in_u i32x9; have a1 := in_u i92; have a2 := in_u i11x9; have a3 := in_u i3x9; have a4 := in_u i3x9a; have a5 := in_u ((in_c 1 rfl)); have a6 := in_u ((in_c 0 rfl)); have a7 := tx_i2l e18; have oc := oc_371_109; by omega)⟩⟩, shs_2 (by exact (have a0 := in_u i32x9; have a1 := in_u i92; have a2 := in_u i11x9; have a3 := in_u i3x9; have a4 := in_u i3x9a; have a5 := in_u ((in_c 1 rfl)); have a6 := in_u ((in_c 0 rfl)); have a7 := tx_i2l e18; have oc := oc_371_109; by omega)) ⟨_, _, _, _, _, _, p0, p1, p2, by rw [if_pos ⟨by have h9 := c110; omega, by have h9 := c120; omega, by have h9 := c144; omega⟩, ← (show z165 = s76.2.1 166 (x4).toNatClampNeg from e165), ← (show z172 = s76.2.1 168 (x4).toNatClampNeg from e172)]; exact cm_v e173 e177 e178 (by rw [(show z165 = s76.2.1 166 (x4).toNatClampNeg from e165)]; exact b1.2) (by rw [(show z172 = s76.2.1 168 (x4).toNatClampNeg from e172)]; exact b2.2)⟩⟩
                                              exact g_ireturn (gd rfl) rfl rfl (hP _ _ ⟨s76, hI76, (fr_tr rfl (fr_tr rfl (fr_sF rfl fr_rf) hF62) hF76), z178, rfl, rfl, in_w (-2147483648) 2147483647 (i_rng z178) rfl, n183⟩)
                                    · skip
                                      have i92 := r_eq1 1 1 c92 i80 (in_c 1 rfl) rfl
                                      refine g_aload_n 96 (gd rfl) rfl rfl ?_
                                      refine g_getA (q2 := 166) 99 (gd rfl) rfl rfl rfl rfl ?_
                                      refine g_iload_n 100 (gd rfl) rfl rfl ?_
                                      refine g_laload 101 (gd rfl) rfl (n := 32) rfl (in_ix i11x9 rfl) (fun z100 e100 => ?_)
                                      refine g_l2i 102 (gd rfl) rfl (fun z101 e101 => ?_)
                                      have n102 : SHT s s76 x1 x2 x3 x4 z101 := by have a1 : ∀ v : Nat, v < (s.2.2.1 109 20).toInt.toNat → HPS (ARE (gvZ s) 0) (ARE (gvZ s) 1) (x1).toNatClampNeg v (s76.1 165 v).toInt (s76.2.1 166 v).toInt := (by rw [hF76.1 165 rfl, hF76.2.1 166 rfl]; have h9 := p62; rw [gvz_cg (show Fr ([], [], [(109, 0)], []) s (sF s 109 0 (Int32.ofInt 0)) from fr_sF rfl fr_rf) rfl, (show Fr ([], [], [(109, 0)], []) s (sF s 109 0 (Int32.ofInt 0)) from fr_sF rfl fr_rf).2.2.1 109 20 rfl] at h9; exact h9); have a2 : ∀ v : Nat, v < (s.2.2.1 109 20).toInt.toNat → HPS (ARE (gvZ s) 1) (ARE (gvZ s) 0) (x2).toNatClampNeg v (s76.1 167 v).toInt (s76.2.1 168 v).toInt := (by have h9 := p76; rw [gvz_cg (show Fr fm_371 s s62 from fr_tr rfl (fr_sF rfl fr_rf) hF62) rfl, (show Fr fm_371 s s62 from fr_tr rfl (fr_sF rfl fr_rf) hF62).2.2.1 109 20 rfl] at h9; exact h9); have p0 := a1 _ (show (x2).toNatClampNeg < (s.2.2.1 109 20).toInt.toNat from (by show (x2).toInt.toNat < _; rw [← e_109_20]; exact (have a0 := in_u i32x9; have a1 := in_u i92; have a2 := in_u i11x9; have a3 := in_u i3x9; have a4 := in_u i3x9a; have a5 := in_u ((in_c 0 rfl)); have a6 := tx_i2l e18; have oc := oc_371_109; by omega))); have p1 := a1 _ (show (x4).toNatClampNeg < (s.2.2.1 109 20).toInt.toNat from (by show (x4).toInt.toNat < _; rw [← e_109_20]; exact (have a0 := in_u i32x9; have a1 := in_u i92; have a2 := in_u i11x9; have a3 := in_u i3x9; have a4 := in_u i3x9a; have a5 := in_u ((in_c 0 rfl)); have a6 := tx_i2l e18; have oc := oc_371_109; by omega))); have p2 := hps_r (ftq_g (ndq_z hI)) (a2 _ (show (x4).toNatClampNeg < (s.2.2.1 109 20).toInt.toNat from (by show (x4).toInt.toNat < _; rw [← e_109_20]; exact (have a0 := in_u i32x9; have a1 := in_u i92; have a2 := in_u i11x9; have a3 := in_u i3x9; have a4 := in_u i3x9a; have a5 := in_u ((in_c 0 rfl)); have a6 := tx_i2l e18; have oc := oc_371_109; by omega)))); have b0 := hps_b p0; have b1 := hps_b p1; have b2 := hps_b p2; have l : (z101).toInt = (s76.2.1 166 (x2).toNatClampNeg).toInt := (by rw [← (show z100 = s76.2.1 166 (x2).toNatClampNeg from e100)] at b0 ⊢; exact l2i_w e101 b0.2.1 (by omega)); exact Or.inr ⟨(by rw [hF76.2.2.1 109 0 rfl, hF62.2.2.1 109 0 rfl]; rfl), ⟨⟨by exact (have a0 := in_u i32x9; have a1 := in_u i92; have a2 := in_u i11x9; have a3 := in_u i3x9; have a4 := in_u i3x9a; have a5 := in_u ((in_c 0 rfl)); have a6 := tx_i2l e18; have oc := oc_371_109; by omega), by rw [← e_109_20]; exact (have a0 := in_u i32x9; have a1 := in_u i92; have a2 := in_u i11x9; have a3 := in_u i3x9; have a4 := in_u i3x9a; have a5 := in_u ((in_c 0 rfl)); have a6 := tx_i2l e18; have oc := oc_371_109; by omega)⟩, ⟨by exact (have a0 := in_u i32x9; have a1 := in_u i92; have a2 := in_u i11x9; have a3 := in_u i3x9; have a4 := in_u i3x9a; have a5 := in_u ((in_c 0 rfl)); have a6 := tx_i2l e18; have oc := oc_371_109; by omega), by rw [← e_109_20]; exact (have a0 := in_u i32x9; have a1 := in_u i92; have a2 := in_u i11x9; have a3 := in_u i3x9; have a4 := in_u i3x9a; have a5 := in_u ((in_c 0 rfl)); have a6 := tx_i2l e18; have oc := oc_371_109; by omega)⟩, ⟨by exact (have a0 := in_u i32x9; have a1 := in_u i92; have a2 := in_u i11x9; have a3 := in_u i3x9; have a4 := in_u i3x9a; have a5 := in_u ((in_c 0 rfl)); have a6 := tx_i2l e18; have oc := oc_371_109; by omega), by exact (have a0 := in_u i32x9; have a1 := in_u i92; have a2 := in_u i11x9; have a3 := in_u i3x9; have a4 := in_u i3x9a; have a5 := in_u ((in_c 0 rfl)); have a6 := tx_i2l e18; have oc := oc_371_109; by omega)⟩, ⟨by exact (have a0 := in_u i32x9; have a1 := in_u i92; have a2 := in_u i11x9; have a3 := in_u i3x9; have a4 := in_u i3x9a; have a5 := in_u ((in_c 0 rfl)); have a6 := tx_i2l e18; have oc := oc_371_109; by omega), by rw [← e_109_20]; exact (have a0 := in_u i32x9; have a1 := in_u i92; have a2 := in_u i11x9; have a3 := in_u i3x9; have a4 := in_u i3x9a; have a5 := in_u ((in_c 0 rfl)); have a6 := tx_i2l e18; have oc := oc_371_109; by omega)⟩⟩, shs_1 p0 p1 p2 (by exact (have a0 := in_u i32x9; have a1 := in_u i92; have a2 := in_u i11x9; have a3 := in_u i3x9; have a4 := in_u i3x9a; have a5 := in_u ((in_c 0 rfl)); have a6 := tx_i2l e18; have oc := oc_371_109; by omega)) l⟩
                                      exact g_ireturn (gd rfl) rfl rfl (hP _ _ ⟨s76, hI76, (fr_tr rfl (fr_tr rfl (fr_sF rfl fr_rf) hF62) hF76), z101, rfl, rfl, in_w (-2147483648) 2147483647 (i_rng z101) rfl, n102⟩)
                                  · skip
                                    have i80 := z_eq 0 0 c80 i23x10b rfl
                                    refine g_aload_n 84 (gd rfl) rfl rfl ?_
                                    refine g_getA (q2 := 165) 87 (gd rfl) rfl rfl rfl rfl ?_
                                    refine g_iload_n 88 (gd rfl) rfl rfl ?_
                                    refine g_iaload 89 (gd rfl) rfl (n := 32) rfl (in_ix i11x9 rfl) (fun z88 e88 => ?_)
                                    have n89 : SHT s s76 x1 x2 x3 x4 z88 := by have a1 : ∀ v : Nat, v < (s.2.2.1 109 20).toInt.toNat → HPS (ARE (gvZ s) 0) (ARE (gvZ s) 1) (x1).toNatClampNeg v (s76.1 165 v).toInt (s76.2.1 166 v).toInt := (by rw [hF76.1 165 rfl, hF76.2.1 166 rfl]; have h9 := p62; rw [gvz_cg (show Fr ([], [], [(109, 0)], []) s (sF s 109 0 (Int32.ofInt 0)) from fr_sF rfl fr_rf) rfl, (show Fr ([], [], [(109, 0)], []) s (sF s 109 0 (Int32.ofInt 0)) from fr_sF rfl fr_rf).2.2.1 109 20 rfl] at h9; exact h9); have a2 : ∀ v : Nat, v < (s.2.2.1 109 20).toInt.toNat → HPS (ARE (gvZ s) 1) (ARE (gvZ s) 0) (x2).toNatClampNeg v (s76.1 167 v).toInt (s76.2.1 168 v).toInt := (by have h9 := p76; rw [gvz_cg (show Fr fm_371 s s62 from fr_tr rfl (fr_sF rfl fr_rf) hF62) rfl, (show Fr fm_371 s s62 from fr_tr rfl (fr_sF rfl fr_rf) hF62).2.2.1 109 20 rfl] at h9; exact h9); have p0 := a1 _ (show (x2).toNatClampNeg < (s.2.2.1 109 20).toInt.toNat from (by show (x2).toInt.toNat < _; rw [← e_109_20]; exact (have a0 := in_u i32x9; have a1 := in_u i80; have a2 := in_u i11x9; have a3 := in_u i3x9; have a4 := in_u i3x9a; have a5 := in_u ((in_c 0 rfl)); have a6 := tx_i2l e18; have oc := oc_371_109; by omega))); have p1 := a1 _ (show (x4).toNatClampNeg < (s.2.2.1 109 20).toInt.toNat from (by show (x4).toInt.toNat < _; rw [← e_109_20]; exact (have a0 := in_u i32x9; have a1 := in_u i80; have a2 := in_u i11x9; have a3 := in_u i3x9; have a4 := in_u i3x9a; have a5 := in_u ((in_c 0 rfl)); have a6 := tx_i2l e18; have oc := oc_371_109; by omega))); have p2 := hps_r (ftq_g (ndq_z hI)) (a2 _ (show (x4).toNatClampNeg < (s.2.2.1 109 20).toInt.toNat from (by show (x4).toInt.toNat < _; rw [← e_109_20]; exact (have a0 := in_u i32x9; have a1 := in_u i80; have a2 := in_u i11x9; have a3 := in_u i3x9; have a4 := in_u i3x9a; have a5 := in_u ((in_c 0 rfl)); have a6 := tx_i2l e18; have oc := oc_371_109; by omega)))); have b0 := hps_b p0; have b1 := hps_b p1; have b2 := hps_b p2; exact Or.inr ⟨(by rw [hF76.2.2.1 109 0 rfl, hF62.2.2.1 109 0 rfl]; rfl), ⟨⟨by exact (have a0 := in_u i32x9; have a1 := in_u i80; have a2 := in_u i11x9; have a3 := in_u i3x9; have a4 := in_u i3x9a; have a5 := in_u ((in_c 0 rfl)); have a6 := tx_i2l e18; have oc := oc_371_109; by omega), by rw [← e_109_20]; exact (have a0 := in_u i32x9; have a1 := in_u i80; have a2 := in_u i11x9; have a3 := in_u i3x9; have a4 := in_u i3x9a; have a5 := in_u ((in_c 0 rfl)); have a6 := tx_i2l e18; have oc := oc_371_109; by omega)⟩, ⟨by exact (have a0 := in_u i32x9; have a1 := in_u i80; have a2 := in_u i11x9; have a3 := in_u i3x9; have a4 := in_u i3x9a; have a5 := in_u ((in_c 0 rfl)); have a6 := tx_i2l e18; have oc := oc_371_109; by omega), by rw [← e_109_20]; exact (have a0 := in_u i32x9; have a1 := in_u i80; have a2 := in_u i11x9; have a3 := in_u i3x9; have a4 := in_u i3x9a; have a5 := in_u ((in_c 0 rfl)); have a6 := tx_i2l e18; have oc := oc_371_109; by omega)⟩, ⟨by exact (have a0 := in_u i32x9; have a1 := in_u i80; have a2 := in_u i11x9; have a3 := in_u i3x9; have a4 := in_u i3x9a; have a5 := in_u ((in_c 0 rfl)); have a6 := tx_i2l e18; have oc := oc_371_109; by omega), by exact (have a0 := in_u i32x9; have a1 := in_u i80; have a2 := in_u i11x9; have a3 := in_u i3x9; have a4 := in_u i3x9a; have a5 := in_u ((in_c 0 rfl)); have a6 := tx_i2l e18; have oc := oc_371_109; by omega)⟩, ⟨by exact (have a0 := in_u i32x9; have a1 := in_u i80; have a2 := in_u i11x9; have a3 := in_u i3x9; have a4 := in_u i3x9a; have a5 := in_u ((in_c 0 rfl)); have a6 := tx_i2l e18; have oc := oc_371_109; by omega), by rw [← e_109_20]; exact (have a0 := in_u i32x9; have a1 := in_u i80; have a2 := in_u i11x9; have a3 := in_u i3x9; have a4 := in_u i3x9a; have a5 := in_u ((in_c 0 rfl)); have a6 := tx_i2l e18; have oc := oc_371_109; by omega)⟩⟩, shs_0 p0 p1 p2 (by exact (have a0 := in_u i32x9; have a1 := in_u i80; have a2 := in_u i11x9; have a3 := in_u i3x9; have a4 := in_u i3x9a; have a5 := in_u ((in_c 0 rfl)); have a6 := tx_i2l e18; have oc := oc_371_109; by omega)) (by rw [e88])⟩
                                    exact g_ireturn (gd rfl) rfl rfl (hP _ _ ⟨s76, hI76, (fr_tr rfl (fr_tr rfl (fr_sF rfl fr_rf) hF62) hF76), z88, rfl, rfl, in_w (-2147483648) 2147483647 (i_rng z88) rfl, n89⟩)
                                · skip
                                  exact zn_ne c46 (in_c 0 rfl) rfl
                              · skip
                                exact zn_gt c43x3x25 (in_c 0 rfl) rfl
                            · skip
                              exact zn_eq c43x3x10 (in_c 1 rfl) rfl
                          · skip
                            exact zn_eq c43x3x2 (in_c 1 rfl) rfl
