/-! methods, by vc.py -/
def fm_182_76 : FM := ([81], [80], [], [])
/-- GraphHouse$Trees.takeCheapest -/
theorem k_182_76 {Z : AmZ} {A : Nat → Nat} {s : GS} {ex : va_W} {d : Nat} {X : AmX} {x1 : Int32} {x2 : Int32} (hd : 2 ≤ d) (hI : Inv s) (h1 : In x1 0 32) (h2 : In x2 0 31) : GC Z d 182 [.ref (A 76), .int x1, .int x2] (WW Z A s ++ ex) 0 0 (fun v u => ∃ t : GS, Inv t ∧ Fr fm_182_76 s t ∧ ∃ z : Int32, v = some (.int z) ∧ u = WW Z A t ++ ex ∧ In z 0 1) X := by
  intro post xp hP hX
  obtain ⟨u_76_0, e_76_0⟩ : ∃ w, w = s.2.2.1 76 0 := ⟨_, rfl⟩
  have ro_76_0 := inv_F hI 0 160 rfl e_76_0
  have ct105 : ∀ (k105 : Nat) (sc105 : GS) (y105_3 : Int32), Inv sc105 → Fr fm_182_76 s sc105 → (In y105_3 0 32) → 32 - (y105_3).toInt < (k105 : Int) → GG Z (d - 1) 182 post (gx xp) (1 + k105 * 900) 105 (fun j => xlook j [(0, .ref (A 76)), (1, .int x1), (2, .int x2), (3, .int y105_3)]) [] (WW Z A sc105 ++ ex) 0 0 := by
    intro k105
    induction k105 with
    | zero => intro sc105 y105_3 hIc105 hFc105 j105_3 mm105; exact m_no mm105 j105_3 rfl
    | succ k105 ih105 =>
      intro sc105 y105_3 hIc105 hFc105 j105_3 mm105
      refine gg_w (M := 1 + k105 * 900 + 900) (by omega) ?_
      refine g_iload_n 106 (gd rfl) rfl rfl ?_
      refine g_iload_n 107 (gd rfl) rfl rfl ?_
      refine g_cmp_ge 110 131 (gd rfl) rfl rfl (fun c107 => ?_) (fun c107 => ?_)
      · skip
        refine g_iconst 1 132 (gd rfl) rfl rfl ?_
        exact g_ireturn (gd rfl) rfl (nb01 (in_w 0 1 (in_c 1 rfl) rfl)) (hP _ _ ⟨sc105, hIc105, hFc105, (Int32.ofInt 1), rfl, rfl, in_w 0 1 (in_c 1 rfl) rfl⟩)
      · skip
        have i107 := r_lt1 0 31 c107 j105_3 h1 rfl
        have i107a := r_lt2 1 32 c107 j105_3 h1 rfl
        refine g_aload_n 111 (gd rfl) rfl rfl ?_
        refine g_getA (q2 := 80) 114 (gd rfl) rfl rfl rfl rfl ?_
        refine g_iload_n 115 (gd rfl) rfl rfl ?_
        refine g_laload 116 (gd rfl) rfl (n := 32) rfl (in_ix i107 rfl) (fun z115 e115 => ?_)
        refine g_ldc2_w 9223372036854775807 119 (gd rfl) rfl rfl ?_
        refine g_lcmp 120 (gd rfl) rfl (fun z119 e119 => ?_)
        have i119 := lc_in e119
        refine g_if_ne 123 125 (gd rfl) rfl rfl (fun c120 => ?_) (fun c120 => ?_)
        · skip
          have c120a := lc_ne e119 c120
          have i120 := lr_ne1 (-9223372036854775808) 9223372036854775806 c120a (l_rng z115) (l_c 9223372036854775807 rfl) rfl
          refine g_iinc 128 (gd rfl) rfl rfl (Nat.le_of_ble_eq_true rfl) (fun z125 e125 => ?_)
          have i125 := in_add 1 32 e125 i107 (in_c 1 rfl) rfl rfl
          refine g_goto 105 (gd rfl) rfl ?_
          exact gg_w (by omega) (gg_f (gf_cons rfl (gf_cons rfl (gf_cons rfl (gf_cons rfl gf_nil)))) (ih105 sc105 z125 hIc105 hFc105 (in_w 0 32 i125 rfl) (m_up mm105 (t_add e125 i107 (in_c 1 rfl) rfl) (in_w 1 1 (in_c 1 rfl) rfl))))
        · skip
          have i120 := z_eq 0 0 c120 i119 rfl
          have c120a := lc_eq e119 c120
          have i120a := lr_eq1 9223372036854775807 9223372036854775807 c120a (l_rng z115) (l_c 9223372036854775807 rfl) rfl
          refine g_iconst 0 124 (gd rfl) rfl rfl ?_
          exact g_ireturn (gd rfl) rfl (nb01 (in_w 0 1 (in_c 0 rfl) rfl)) (hP _ _ ⟨sc105, hIc105, hFc105, (Int32.ofInt 0), rfl, rfl, in_w 0 1 (in_c 0 rfl) rfl⟩)
  have ct12 : ∀ (k12 : Nat) (sc12 : GS) (y12_3 : Int32), Inv sc12 → Fr fm_182_76 s sc12 → (In y12_3 0 160) → 160 - (y12_3).toInt < (k12 : Int) → GG Z (d - 1) 182 post (gx xp) (29702 + k12 * 900) 12 (fun j => xlook j [(0, .ref (A 76)), (1, .int x1), (2, .int x2), (3, .int y12_3)]) [] (WW Z A sc12 ++ ex) 0 0 := by
    intro k12
    induction k12 with
    | zero => intro sc12 y12_3 hIc12 hFc12 j12_3 mm12; exact m_no mm12 j12_3 rfl
    | succ k12 ih12 =>
      intro sc12 y12_3 hIc12 hFc12 j12_3 mm12
      refine gg_w (M := 29702 + k12 * 900 + 900) (by omega) ?_
      refine g_iload_n 13 (gd rfl) rfl rfl ?_
      refine g_aload_n 14 (gd rfl) rfl rfl ?_
      refine g_getI 17 (gd rfl) rfl rfl rfl (fun z14 e14 => ?_)
      have q14 : u_76_0 = z14 := (fr_F e_76_0 hFc12 rfl).trans e14.symm
      subst q14
      refine g_cmp_ge 20 96 (gd rfl) rfl rfl (fun c17 => ?_) (fun c17 => ?_)
      · skip
        refine g_aload_n 97 (gd rfl) rfl rfl ?_
        refine g_getA (q2 := 80) 100 (gd rfl) rfl rfl rfl rfl ?_
        refine g_iload_n 101 (gd rfl) rfl rfl ?_
        refine g_lconst 0 102 (gd rfl) rfl rfl ?_
        refine g_lastore 103 (gd rfl) rfl (n := 32) rfl (in_ix h2 rfl) ?_
        have hI102 := inv_sL (q := 80) (j := x2.toNatClampNeg) (x := (Int64.ofInt 0)) hIc12 rfl (l_rng (Int64.ofInt 0))
        refine g_iconst 0 104 (gd rfl) rfl rfl ?_
        refine g_istore_n 105 (gd rfl) rfl (Nat.le_of_ble_eq_true rfl) ?_
        exact gg_w (by omega) (gg_f (gf_cons rfl (gf_cons rfl (gf_cons rfl (gf_cons rfl gf_nil)))) (ct105 33 (sL sc12 80 x2.toNatClampNeg (Int64.ofInt 0)) (Int32.ofInt 0) hI102 (fr_sL rfl hFc12) (in_w 0 32 (in_c 0 rfl) rfl) (m_in 33 (in_w 0 32 (in_c 0 rfl) rfl) rfl)))
      · skip
        have i17 := r_lt1 0 159 c17 j12_3 ro_76_0 rfl
        have i17a := r_lt2 1 160 c17 j12_3 ro_76_0 rfl
        refine g_aload_n 21 (gd rfl) rfl rfl ?_
        refine g_getA (q2 := 77) 24 (gd rfl) rfl rfl rfl rfl ?_
        refine g_iload_n 25 (gd rfl) rfl rfl ?_
        refine g_iaload 26 (gd rfl) rfl (n := 160) rfl (in_ix i17 rfl) (fun z25 e25 => ?_)
        have i25 := inv_I hIc12 (n := 160) (t := 0) 0 31 rfl (in_ix i17 rfl) rfl e25
        refine g_aload_n 27 (gd rfl) rfl rfl ?_
        refine g_getA (q2 := 78) 30 (gd rfl) rfl rfl rfl rfl ?_
        refine g_iload_n 31 (gd rfl) rfl rfl ?_
        refine g_iaload 32 (gd rfl) rfl (n := 160) rfl (in_ix i17 rfl) (fun z31 e31 => ?_)
        have i31 := inv_I hIc12 (n := 160) (t := 0) 0 31 rfl (in_ix i17 rfl) rfl e31
        refine g_cmp_eq 35 90 (gd rfl) rfl rfl (fun c32 => ?_) (fun c32 => ?_)
        · skip
          refine g_iinc 93 (gd rfl) rfl rfl (Nat.le_of_ble_eq_true rfl) (fun z90 e90 => ?_)
          have i90 := in_add 1 160 e90 i17 (in_c 1 rfl) rfl rfl
          refine g_goto 12 (gd rfl) rfl ?_
          exact gg_w (by omega) (gg_f (gf_cons rfl (gf_cons rfl (gf_cons rfl (gf_cons rfl gf_nil)))) (ih12 sc12 z90 hIc12 hFc12 (in_w 0 160 i90 rfl) (m_up mm12 (t_add e90 i17 (in_c 1 rfl) rfl) (in_w 1 1 (in_c 1 rfl) rfl))))
        · skip
          refine g_aload_n 36 (gd rfl) rfl rfl ?_
          refine g_getA (q2 := 79) 39 (gd rfl) rfl rfl rfl rfl ?_
          refine g_iload_n 40 (gd rfl) rfl rfl ?_
          refine g_laload 41 (gd rfl) rfl (n := 160) rfl (in_ix i17 rfl) (fun z40 e40 => ?_)
          refine g_aload_n 42 (gd rfl) rfl rfl ?_
          refine g_getA (q2 := 80) 45 (gd rfl) rfl rfl rfl rfl ?_
          refine g_aload_n 46 (gd rfl) rfl rfl ?_
          refine g_getA (q2 := 78) 49 (gd rfl) rfl rfl rfl rfl ?_
          refine g_iload_n 50 (gd rfl) rfl rfl ?_
          refine g_iaload 51 (gd rfl) rfl (n := 160) rfl (in_ix i17 rfl) (fun z50 e50 => ?_)
          have q50 : z31 = z50 := (e31).trans e50.symm
          subst q50
          refine g_laload 52 (gd rfl) rfl (n := 32) rfl (in_ix i31 rfl) (fun z51 e51 => ?_)
          refine g_lcmp 53 (gd rfl) rfl (fun z52 e52 => ?_)
          have i52 := lc_in e52
          refine g_if_ge 56 90 (gd rfl) rfl rfl (fun c53 => ?_) (fun c53 => ?_)
          · skip
            have i53 := z_ge 0 1 c53 i52 rfl
            have c53a := lc_ge e52 c53
            refine g_iinc 93 (gd rfl) rfl rfl (Nat.le_of_ble_eq_true rfl) (fun z90 e90 => ?_)
            have i90 := in_add 1 160 e90 i17 (in_c 1 rfl) rfl rfl
            refine g_goto 12 (gd rfl) rfl ?_
            exact gg_w (by omega) (gg_f (gf_cons rfl (gf_cons rfl (gf_cons rfl (gf_cons rfl gf_nil)))) (ih12 sc12 z90 hIc12 hFc12 (in_w 0 160 i90 rfl) (m_up mm12 (t_add e90 i17 (in_c 1 rfl) rfl) (in_w 1 1 (in_c 1 rfl) rfl))))
          · skip
            have i53 := z_lt (-1) (-1) c53 i52 rfl
            have c53a := lc_lt e52 c53
            have i53a := lr_lt1 (-9223372036854775808) 9223372036854775806 c53a (l_rng z40) (l_rng z51) rfl
            have i53b := lr_lt2 (-9223372036854775807) 9223372036854775807 c53a (l_rng z40) (l_rng z51) rfl
            refine g_aload_n 57 (gd rfl) rfl rfl ?_
            refine g_getA (q2 := 80) 60 (gd rfl) rfl rfl rfl rfl ?_
            refine g_aload_n 61 (gd rfl) rfl rfl ?_
            refine g_getA (q2 := 78) 64 (gd rfl) rfl rfl rfl rfl ?_
            refine g_iload_n 65 (gd rfl) rfl rfl ?_
            refine g_iaload 66 (gd rfl) rfl (n := 160) rfl (in_ix i17 rfl) (fun z65 e65 => ?_)
            have q65 : z31 = z65 := (e31).trans e65.symm
            subst q65
            refine g_aload_n 67 (gd rfl) rfl rfl ?_
            refine g_getA (q2 := 79) 70 (gd rfl) rfl rfl rfl rfl ?_
            refine g_iload_n 71 (gd rfl) rfl rfl ?_
            refine g_laload 72 (gd rfl) rfl (n := 160) rfl (in_ix i17 rfl) (fun z71 e71 => ?_)
            refine g_lastore 73 (gd rfl) rfl (n := 32) rfl (in_ix i31 rfl) ?_
            have hI72 := inv_sL (q := 80) (j := z31.toNatClampNeg) (x := z71) hIc12 rfl (l_rng z71)
            refine g_aload_n 74 (gd rfl) rfl rfl ?_
            refine g_getA (q2 := 81) 77 (gd rfl) rfl rfl rfl rfl ?_
            refine g_aload_n 78 (gd rfl) rfl rfl ?_
            refine g_getA (q2 := 78) 81 (gd rfl) rfl rfl rfl rfl ?_
            refine g_iload_n 82 (gd rfl) rfl rfl ?_
            refine g_iaload 83 (gd rfl) rfl (n := 160) rfl (in_ix i17 rfl) (fun z82 e82 => ?_)
            have q82 : z31 = z82 := (sL_I (e31)).trans e82.symm
            subst q82
            refine g_aload_n 84 (gd rfl) rfl rfl ?_
            refine g_getA (q2 := 77) 87 (gd rfl) rfl rfl rfl rfl ?_
            refine g_iload_n 88 (gd rfl) rfl rfl ?_
            refine g_iaload 89 (gd rfl) rfl (n := 160) rfl (in_ix i17 rfl) (fun z88 e88 => ?_)
            have q88 : z25 = z88 := (sL_I (e25)).trans e88.symm
            subst q88
            refine g_iastore 90 (gd rfl) rfl (n := 32) rfl (in_ix i31 rfl) ?_
            have hI89 := inv_sI (q := 81) (j := z31.toNatClampNeg) hI72 rfl (in_w 0 31 i25 rfl)
            refine g_iinc 93 (gd rfl) rfl rfl (Nat.le_of_ble_eq_true rfl) (fun z90 e90 => ?_)
            have i90 := in_add 1 160 e90 i17 (in_c 1 rfl) rfl rfl
            refine g_goto 12 (gd rfl) rfl ?_
            exact gg_w (by omega) (gg_f (gf_cons rfl (gf_cons rfl (gf_cons rfl (gf_cons rfl gf_nil)))) (ih12 (sI (sL sc12 80 z31.toNatClampNeg z71) 81 z31.toNatClampNeg z25) z90 hI89 (fr_sI rfl (fr_sL rfl hFc12)) (in_w 0 160 i90 rfl) (m_up mm12 (t_add e90 i17 (in_c 1 rfl) rfl) (in_w 1 1 (in_c 1 rfl) rfl))))
  refine g_enter2 (k := 182) (N := 175502) (by omega) rfl (Nat.le_of_ble_eq_true rfl) ?_
  refine g_aload_n 1 (gd rfl) rfl rfl ?_
  refine g_getA (q2 := 80) 4 (gd rfl) rfl rfl rfl rfl ?_
  refine g_ldc2_w 9223372036854775807 7 (gd rfl) rfl rfl ?_
  refine g_calls (As := [.ref (A 80), .long (Int64.ofInt 9223372036854775807)]) (r := []) 10 (gd rfl) rfl rfl rfl rfl rfl (Nat.le_of_ble_eq_true rfl) (Nat.zero_le _) (Nat.zero_le _) (k_fillL 80 (by omega) hI (n := 32) rfl rfl rfl (l_rng (Int64.ofInt 9223372036854775807))) (fun v u h => ?_)
  obtain ⟨s7, hI7, hF7, rfl, rfl, fl7⟩ := h
  show GG _ _ _ _ _ _ _ _ [] _ _ _
  refine g_iconst 0 11 (gd rfl) rfl rfl ?_
  refine g_istore_n 12 (gd rfl) rfl (Nat.le_of_ble_eq_true rfl) ?_
  exact gg_w (by omega) (gg_f (gf_cons rfl (gf_cons rfl (gf_cons rfl (gf_cons rfl gf_nil)))) (ct12 161 s7 (Int32.ofInt 0) hI7 (fr_tr rfl fr_rf hF7) (in_w 0 160 (in_c 0 rfl) rfl) (m_in 161 (in_w 0 160 (in_c 0 rfl) rfl) rfl)))

def fm_183_76 : FM := ([82, 83], [], [], [])
/-- GraphHouse$Trees.nameRings -/
theorem k_183_76 {Z : AmZ} {A : Nat → Nat} {s : GS} {ex : va_W} {d : Nat} {X : AmX} {x1 : Int32} {x2 : Int32} (hd : 2 ≤ d) (hI : Inv s) (h1 : In x1 0 32) (h2 : In x2 0 31) : GC Z d 183 [.ref (A 76), .int x1, .int x2] (WW Z A s ++ ex) 0 0 (fun v u => ∃ t : GS, Inv t ∧ Fr fm_183_76 s t ∧ ∃ z : Int32, v = some (.int z) ∧ u = WW Z A t ++ ex ∧ In z 0 32 ∧ ((z).toInt + (c1m (t.1 83) 32 : Int) ≤ 32) ∧ (∀ v : Nat, v < 32 → (t.1 83 v).toInt < (z).toInt)) X := by
  intro post xp hP hX
  have ct21 : ∀ (k21 : Nat) (sc21 : GS) (y21_3 : Int32) (y21_4 : Int32), Inv sc21 → Fr fm_183_76 s sc21 → (In y21_3 0 32) → (In y21_4 0 32) → ((y21_3).toInt + (c1m (sc21.1 83) 32 : Int) ≤ 32) → (∀ v : Nat, v < 32 → (sc21.1 83 v).toInt < (y21_3).toInt) → 32 - (y21_4).toInt < (k21 : Int) → GG Z (d - 1) 183 post (gx xp) (1 + k21 * 64802) 21 (fun j => xlook j [(0, .ref (A 76)), (1, .int x1), (2, .int x2), (3, .int y21_3), (4, .int y21_4)]) [] (WW Z A sc21 ++ ex) 0 0 := by
    intro k21
    induction k21 with
    | zero => intro sc21 y21_3 y21_4 hIc21 hFc21 j21_3 j21_4 g21_0 g21_1 mm21; exact m_no mm21 j21_4 rfl
    | succ k21 ih21 =>
      intro sc21 y21_3 y21_4 hIc21 hFc21 j21_3 j21_4 g21_0 g21_1 mm21
      refine gg_w (M := 1 + k21 * 64802 + 64802) (by omega) ?_
      have ct113 : ∀ (k113 : Nat) (sc113 : GS) (y113_5 : Int32) (y113_6 : Int32), Inv sc113 → Fr fm_183_76 s sc113 → (In x1 1 32) → (In y21_4 0 31) → (In y113_5 0 31) → (In y113_6 0 32) → ((y21_3).toInt + (c1m (sc113.1 83) 32 : Int) + (if (y113_6).toInt = 0 then 0 else 1) ≤ 32) → (∀ v : Nat, v < 32 → (sc113.1 83 v).toInt ≤ (y21_3).toInt) → ((y113_6).toInt = 0 → (sc113.1 83 (y113_5).toNatClampNeg).toInt = -1) → 32 - (y113_6).toInt < (k113 : Int) → GG Z (d - 1) 183 post (gx xp) (1 + k21 * 64802 + 1 + k113 * 900) 113 (fun j => xlook j [(0, .ref (A 76)), (1, .int x1), (2, .int x2), (3, .int y21_3), (4, .int y21_4), (5, .int y113_5), (6, .int y113_6)]) [] (WW Z A sc113 ++ ex) 0 0 := by
        intro k113
        induction k113 with
        | zero => intro sc113 y113_5 y113_6 hIc113 hFc113 j113_1 j113_4 j113_5 j113_6 g113_0 g113_1 g113_2 mm113; exact m_no mm113 j113_6 rfl
        | succ k113 ih113 =>
          intro sc113 y113_5 y113_6 hIc113 hFc113 j113_1 j113_4 j113_5 j113_6 g113_0 g113_1 g113_2 mm113
          refine gg_w (M := 1 + k21 * 64802 + 1 + k113 * 900 + 900) (by omega) ?_
          refine g_iload 115 (gd rfl) rfl rfl ?_
          refine g_iload_n 116 (gd rfl) rfl rfl ?_
          refine g_cmp_ge 119 153 (gd rfl) rfl rfl (fun c116 => ?_) (fun c116 => ?_)
          · skip
            have i116 := r_le2 1 32 c116 j113_1 j113_6 rfl
            have hi : (y113_6).toInt ≠ 0 := (by have a0 := j113_4; unfold In at a0; have a1 := j21_3; unfold In at a1; have a2 := h2; unfold In at a2; have a3 := j113_1; unfold In at a3; have a4 := i116; unfold In at a4; have a5 := j113_5; unfold In at a5; omega)
            have hr9 : (y21_3).toInt + 1 + (c1m (sc113.1 83) 32 : Int) ≤ 32 := (by have h := g113_0; rw [if_neg hi] at h; omega)
            refine g_iinc 156 (gd rfl) rfl rfl (Nat.le_of_ble_eq_true rfl) (fun z153 e153 => ?_)
            have i153 := in_add 1 33 e153 j21_3 (in_c 1 rfl) rfl rfl
            refine g_iinc 159 (gd rfl) rfl rfl (Nat.le_of_ble_eq_true rfl) (fun z156 e156 => ?_)
            have i156 := in_add 1 32 e156 j113_4 (in_c 1 rfl) rfl rfl
            refine g_goto 21 (gd rfl) rfl ?_
            have i21 : In z153 0 32 := by exact ⟨by have a0 := j113_4; unfold In at a0; have a1 := j21_3; unfold In at a1; have a2 := h2; unfold In at a2; have a3 := j113_1; unfold In at a3; have a4 := i116; unfold In at a4; have a5 := j113_5; unfold In at a5; have a6 := i156; unfold In at a6; have a7 := t_add e156 j113_4 (in_c 1 rfl) rfl; have a8 := (in_c 1 rfl); unfold In at a8; have a9 := i153; unfold In at a9; have a10 := t_add e153 j21_3 (in_c 1 rfl) rfl; omega, by have a0 := j113_4; unfold In at a0; have a1 := j21_3; unfold In at a1; have a2 := h2; unfold In at a2; have a3 := j113_1; unfold In at a3; have a4 := i116; unfold In at a4; have a5 := j113_5; unfold In at a5; have a6 := i156; unfold In at a6; have a7 := t_add e156 j113_4 (in_c 1 rfl) rfl; have a8 := (in_c 1 rfl); unfold In at a8; have a9 := i153; unfold In at a9; have a10 := t_add e153 j21_3 (in_c 1 rfl) rfl; omega⟩
            have n21 : (z153).toInt + (c1m (sc113.1 83) 32 : Int) ≤ 32 := by have a0 := j113_4; unfold In at a0; have a1 := j21_3; unfold In at a1; have a2 := h2; unfold In at a2; have a3 := j113_1; unfold In at a3; have a4 := i116; unfold In at a4; have a5 := j113_5; unfold In at a5; have a6 := i156; unfold In at a6; have a7 := t_add e156 j113_4 (in_c 1 rfl) rfl; have a8 := (in_c 1 rfl); unfold In at a8; have a9 := i21; unfold In at a9; have a10 := t_add e153 j21_3 (in_c 1 rfl) rfl; omega
            have n21a : ∀ v : Nat, v < 32 → (sc113.1 83 v).toInt < (z153).toInt := by intro v hv; have h := g113_1 v hv; have a0 := j113_4; unfold In at a0; have a1 := j21_3; unfold In at a1; have a2 := h2; unfold In at a2; have a3 := j113_1; unfold In at a3; have a4 := i116; unfold In at a4; have a5 := j113_5; unfold In at a5; have a6 := i156; unfold In at a6; have a7 := t_add e156 j113_4 (in_c 1 rfl) rfl; have a8 := (in_c 1 rfl); unfold In at a8; have a9 := i21; unfold In at a9; have a10 := t_add e153 j21_3 (in_c 1 rfl) rfl; omega
            exact gg_w (by omega) (gg_f (gf_cons rfl (gf_cons rfl (gf_cons rfl (gf_cons rfl (gf_cons rfl gf_nil))))) (ih21 sc113 z153 z156 hIc113 hFc113 i21 (in_w 0 32 i156 rfl) n21 n21a (m_up mm21 (t_add e156 j113_4 (in_c 1 rfl) rfl) (in_w 1 1 (in_c 1 rfl) rfl))))
          · skip
            have i116 := r_lt1 0 31 c116 j113_6 j113_1 rfl
            refine g_aload_n 120 (gd rfl) rfl rfl ?_
            refine g_getA (q2 := 83) 123 (gd rfl) rfl rfl rfl rfl ?_
            refine g_iload 125 (gd rfl) rfl rfl ?_
            refine g_iaload 126 (gd rfl) rfl (n := 32) rfl (in_ix j113_5 rfl) (fun z125 e125 => ?_)
            have i125 := inv_I hIc113 (n := 32) (t := 0) (-1) 31 rfl (in_ix j113_5 rfl) rfl e125
            refine g_iconst (-1) 127 (gd rfl) rfl rfl ?_
            refine g_cmp_ne 130 153 (gd rfl) rfl rfl (fun c127 => ?_) (fun c127 => ?_)
            · skip
              have i127 := r_ne1 0 31 c127 i125 (in_c (-1) rfl) rfl
              have hi : (y113_6).toInt ≠ 0 := (fun h => c127 ((by rw [e125]; exact g113_2 h : (z125).toInt = -1).trans (by decide)))
              have hr9 : (y21_3).toInt + 1 + (c1m (sc113.1 83) 32 : Int) ≤ 32 := (by have h := g113_0; rw [if_neg hi] at h; omega)
              refine g_iinc 156 (gd rfl) rfl rfl (Nat.le_of_ble_eq_true rfl) (fun z153 e153 => ?_)
              have i153 := in_add 1 33 e153 j21_3 (in_c 1 rfl) rfl rfl
              refine g_iinc 159 (gd rfl) rfl rfl (Nat.le_of_ble_eq_true rfl) (fun z156 e156 => ?_)
              have i156 := in_add 1 32 e156 j113_4 (in_c 1 rfl) rfl rfl
              refine g_goto 21 (gd rfl) rfl ?_
              have i21 : In z153 0 32 := by exact ⟨by have a0 := j113_4; unfold In at a0; have a1 := j21_3; unfold In at a1; have a2 := h2; unfold In at a2; have a3 := j113_1; unfold In at a3; have a4 := i116; unfold In at a4; have a5 := j113_5; unfold In at a5; have a6 := i156; unfold In at a6; have a7 := t_add e156 j113_4 (in_c 1 rfl) rfl; have a8 := (in_c 1 rfl); unfold In at a8; have a9 := i153; unfold In at a9; have a10 := t_add e153 j21_3 (in_c 1 rfl) rfl; omega, by have a0 := j113_4; unfold In at a0; have a1 := j21_3; unfold In at a1; have a2 := h2; unfold In at a2; have a3 := j113_1; unfold In at a3; have a4 := i116; unfold In at a4; have a5 := j113_5; unfold In at a5; have a6 := i156; unfold In at a6; have a7 := t_add e156 j113_4 (in_c 1 rfl) rfl; have a8 := (in_c 1 rfl); unfold In at a8; have a9 := i153; unfold In at a9; have a10 := t_add e153 j21_3 (in_c 1 rfl) rfl; omega⟩
              have n21 : (z153).toInt + (c1m (sc113.1 83) 32 : Int) ≤ 32 := by have a0 := j113_4; unfold In at a0; have a1 := j21_3; unfold In at a1; have a2 := h2; unfold In at a2; have a3 := j113_1; unfold In at a3; have a4 := i116; unfold In at a4; have a5 := j113_5; unfold In at a5; have a6 := i156; unfold In at a6; have a7 := t_add e156 j113_4 (in_c 1 rfl) rfl; have a8 := (in_c 1 rfl); unfold In at a8; have a9 := i21; unfold In at a9; have a10 := t_add e153 j21_3 (in_c 1 rfl) rfl; omega
              have n21a : ∀ v : Nat, v < 32 → (sc113.1 83 v).toInt < (z153).toInt := by intro v hv; have h := g113_1 v hv; have a0 := j113_4; unfold In at a0; have a1 := j21_3; unfold In at a1; have a2 := h2; unfold In at a2; have a3 := j113_1; unfold In at a3; have a4 := i116; unfold In at a4; have a5 := j113_5; unfold In at a5; have a6 := i156; unfold In at a6; have a7 := t_add e156 j113_4 (in_c 1 rfl) rfl; have a8 := (in_c 1 rfl); unfold In at a8; have a9 := i21; unfold In at a9; have a10 := t_add e153 j21_3 (in_c 1 rfl) rfl; omega
              exact gg_w (by omega) (gg_f (gf_cons rfl (gf_cons rfl (gf_cons rfl (gf_cons rfl (gf_cons rfl gf_nil))))) (ih21 sc113 z153 z156 hIc113 hFc113 i21 (in_w 0 32 i156 rfl) n21 n21a (m_up mm21 (t_add e156 j113_4 (in_c 1 rfl) rfl) (in_w 1 1 (in_c 1 rfl) rfl))))
            · skip
              have i127 := r_eq1 (-1) (-1) c127 i125 (in_c (-1) rfl) rfl
              refine g_aload_n 131 (gd rfl) rfl rfl ?_
              refine g_getA (q2 := 83) 134 (gd rfl) rfl rfl rfl rfl ?_
              refine g_iload 136 (gd rfl) rfl rfl ?_
              refine g_iload_n 137 (gd rfl) rfl rfl ?_
              have i137 : In y21_3 0 31 := by have hq := c1m_pos (w := sc113.1 83) (n := 32) (by rw [← e125]; exact c127.trans (by decide)) (show (y113_5).toNatClampNeg < 32 from (by show (y113_5).toInt.toNat < 32; have a0 := j113_4; unfold In at a0; have a1 := j21_3; unfold In at a1; have a2 := h2; unfold In at a2; have a3 := j113_1; unfold In at a3; have a4 := i116; unfold In at a4; have a5 := j113_5; unfold In at a5; omega)); have h := g113_0; split at h <;> exact ⟨by have a0 := j113_4; unfold In at a0; have a1 := j21_3; unfold In at a1; have a2 := h2; unfold In at a2; have a3 := j113_1; unfold In at a3; have a4 := i116; unfold In at a4; have a5 := j113_5; unfold In at a5; omega, by have a0 := j113_4; unfold In at a0; have a1 := j21_3; unfold In at a1; have a2 := h2; unfold In at a2; have a3 := j113_1; unfold In at a3; have a4 := i116; unfold In at a4; have a5 := j113_5; unfold In at a5; omega⟩
              refine g_iastore 138 (gd rfl) rfl (n := 32) rfl (in_ix j113_5 rfl) ?_
              have hI137 := inv_sI (q := 83) (j := y113_5.toNatClampNeg) hIc113 rfl (in_w (-1) 31 i137 rfl)
              refine g_aload_n 139 (gd rfl) rfl rfl ?_
              refine g_getA (q2 := 81) 142 (gd rfl) rfl rfl rfl rfl ?_
              refine g_iload 144 (gd rfl) rfl rfl ?_
              refine g_iaload 145 (gd rfl) rfl (n := 32) rfl (in_ix j113_5 rfl) (fun z144 e144 => ?_)
              have i144 := inv_I hI137 (n := 32) (t := 0) 0 31 rfl (in_ix j113_5 rfl) rfl e144
              refine g_istore 147 (gd rfl) rfl (Nat.le_of_ble_eq_true rfl) ?_
              refine g_iinc 150 (gd rfl) rfl rfl (Nat.le_of_ble_eq_true rfl) (fun z147 e147 => ?_)
              have i147 := in_add 1 32 e147 i116 (in_c 1 rfl) rfl rfl
              refine g_goto 113 (gd rfl) rfl ?_
              have n113 : (y21_3).toInt + (c1m ((sI sc113 83 y113_5.toNatClampNeg y21_3).1 83) 32 : Int) + (if (z147).toInt = 0 then 0 else 1) ≤ 32 := by rw [sI_q, if_neg (by have a0 := j113_4; unfold In at a0; have a1 := i137; unfold In at a1; have a2 := h2; unfold In at a2; have a3 := j113_1; unfold In at a3; have a4 := i116; unfold In at a4; have a5 := j113_5; unfold In at a5; have a6 := i147; unfold In at a6; have a7 := t_add e147 i116 (in_c 1 rfl) rfl; have a8 := (in_c 1 rfl); unfold In at a8; have a9 := i144; unfold In at a9; omega)]; have h := g113_0; have h2 := c1m_up (w := sc113.1 83) (j := (y113_5).toNatClampNeg) (x := y21_3) (by rw [← e125]; exact c127.trans (by decide)) (by have a0 := j113_4; unfold In at a0; have a1 := i137; unfold In at a1; have a2 := h2; unfold In at a2; have a3 := j113_1; unfold In at a3; have a4 := i116; unfold In at a4; have a5 := j113_5; unfold In at a5; have a6 := i147; unfold In at a6; have a7 := t_add e147 i116 (in_c 1 rfl) rfl; have a8 := (in_c 1 rfl); unfold In at a8; have a9 := i144; unfold In at a9; omega) (n := 32) (show (y113_5).toNatClampNeg < 32 from (by show (y113_5).toInt.toNat < 32; have a0 := j113_4; unfold In at a0; have a1 := i137; unfold In at a1; have a2 := h2; unfold In at a2; have a3 := j113_1; unfold In at a3; have a4 := i116; unfold In at a4; have a5 := j113_5; unfold In at a5; have a6 := i147; unfold In at a6; have a7 := t_add e147 i116 (in_c 1 rfl) rfl; have a8 := (in_c 1 rfl); unfold In at a8; have a9 := i144; unfold In at a9; omega)); split at h <;> omega
              have n113a : ∀ v : Nat, v < 32 → ((sI sc113 83 y113_5.toNatClampNeg y21_3).1 83 v).toInt ≤ (y21_3).toInt := by intro v hv; rw [sI_q]; unfold upd; by_cases hq : v = (y113_5).toNatClampNeg; (rw [if_pos hq]; exact Int.le_refl _); (rw [if_neg hq]; exact g113_1 v hv)
              have n113b : (z147).toInt = 0 → ((sI sc113 83 y113_5.toNatClampNeg y21_3).1 83 (z144).toNatClampNeg).toInt = -1 := by intro h; exfalso; have a0 := j113_4; unfold In at a0; have a1 := i137; unfold In at a1; have a2 := h2; unfold In at a2; have a3 := j113_1; unfold In at a3; have a4 := i116; unfold In at a4; have a5 := j113_5; unfold In at a5; have a6 := i147; unfold In at a6; have a7 := t_add e147 i116 (in_c 1 rfl) rfl; have a8 := (in_c 1 rfl); unfold In at a8; have a9 := i144; unfold In at a9; omega
              exact gg_w (by omega) (gg_f (gf_cons rfl (gf_cons rfl (gf_cons rfl (gf_cons rfl (gf_cons rfl (gf_cons rfl (gf_cons rfl gf_nil))))))) (ih113 (sI sc113 83 y113_5.toNatClampNeg y21_3) z144 z147 hI137 (fr_sI rfl hFc113) (in_w 1 32 j113_1 rfl) (in_w 0 31 j113_4 rfl) (in_w 0 31 i144 rfl) (in_w 0 32 i147 rfl) n113 n113a n113b (m_up mm113 (t_add e147 i116 (in_c 1 rfl) rfl) (in_w 1 1 (in_c 1 rfl) rfl))))
      have ct34 : ∀ (k34 : Nat) (sc34 : GS) (y34_5 : Int32) (y34_6 : Int32), Inv sc34 → Fr fm_183_76 s sc34 → (In x1 1 32) → (In y21_4 0 31) → (In y34_5 0 31) → (In y34_6 0 33) → ((y21_3).toInt + (c1m (sc34.1 83) 32 : Int) ≤ 32) → (∀ v : Nat, v < 32 → (sc34.1 83 v).toInt < (y21_3).toInt) → 33 - (y34_6).toInt < (k34 : Int) → GG Z (d - 1) 183 post (gx xp) (1 + k21 * 64802 + 29702 + k34 * 900) 34 (fun j => xlook j [(0, .ref (A 76)), (1, .int x1), (2, .int x2), (3, .int y21_3), (4, .int y21_4), (5, .int y34_5), (6, .int y34_6)]) [] (WW Z A sc34 ++ ex) 0 0 := by
        intro k34
        induction k34 with
        | zero => intro sc34 y34_5 y34_6 hIc34 hFc34 j34_1 j34_4 j34_5 j34_6 g34_0 g34_1 mm34; exact m_no mm34 j34_6 rfl
        | succ k34 ih34 =>
          intro sc34 y34_5 y34_6 hIc34 hFc34 j34_1 j34_4 j34_5 j34_6 g34_0 g34_1 mm34
          refine gg_w (M := 1 + k21 * 64802 + 29702 + k34 * 900 + 900) (by omega) ?_
          refine g_iload 36 (gd rfl) rfl rfl ?_
          refine g_iload_n 37 (gd rfl) rfl rfl ?_
          refine g_cmp_gt 40 81 (gd rfl) rfl rfl (fun c37 => ?_) (fun c37 => ?_)
          · skip
            have i37 := r_lt2 2 33 c37 j34_1 j34_6 rfl
            refine g_iload 83 (gd rfl) rfl rfl ?_
            refine g_iload_n 84 (gd rfl) rfl rfl ?_
            refine g_cmp_eq 87 156 (gd rfl) rfl rfl (fun c84 => ?_) (fun c84 => ?_)
            · skip
              refine g_iinc 159 (gd rfl) rfl rfl (Nat.le_of_ble_eq_true rfl) (fun z156 e156 => ?_)
              have i156 := in_add 1 32 e156 j34_4 (in_c 1 rfl) rfl rfl
              refine g_goto 21 (gd rfl) rfl ?_
              have n21 : (y21_3).toInt + (c1m (sc34.1 83) 32 : Int) ≤ 32 := by exact g34_0
              have n21a : ∀ v : Nat, v < 32 → (sc34.1 83 v).toInt < (y21_3).toInt := by exact g34_1
              exact gg_w (by omega) (gg_f (gf_cons rfl (gf_cons rfl (gf_cons rfl (gf_cons rfl (gf_cons rfl gf_nil))))) (ih21 sc34 y21_3 z156 hIc34 hFc34 (in_w 0 32 j21_3 rfl) (in_w 0 32 i156 rfl) n21 n21a (m_up mm21 (t_add e156 j34_4 (in_c 1 rfl) rfl) (in_w 1 1 (in_c 1 rfl) rfl))))
            · skip
              refine g_aload_n 88 (gd rfl) rfl rfl ?_
              refine g_getA (q2 := 82) 91 (gd rfl) rfl rfl rfl rfl ?_
              refine g_iload 93 (gd rfl) rfl rfl ?_
              refine g_iaload 94 (gd rfl) rfl (n := 32) rfl (in_ix j34_5 rfl) (fun z93 e93 => ?_)
              refine g_iload 96 (gd rfl) rfl rfl ?_
              refine g_cmp_ne 99 156 (gd rfl) rfl rfl (fun c96 => ?_) (fun c96 => ?_)
              · skip
                refine g_iinc 159 (gd rfl) rfl rfl (Nat.le_of_ble_eq_true rfl) (fun z156 e156 => ?_)
                have i156 := in_add 1 32 e156 j34_4 (in_c 1 rfl) rfl rfl
                refine g_goto 21 (gd rfl) rfl ?_
                have n21 : (y21_3).toInt + (c1m (sc34.1 83) 32 : Int) ≤ 32 := by exact g34_0
                have n21a : ∀ v : Nat, v < 32 → (sc34.1 83 v).toInt < (y21_3).toInt := by exact g34_1
                exact gg_w (by omega) (gg_f (gf_cons rfl (gf_cons rfl (gf_cons rfl (gf_cons rfl (gf_cons rfl gf_nil))))) (ih21 sc34 y21_3 z156 hIc34 hFc34 (in_w 0 32 j21_3 rfl) (in_w 0 32 i156 rfl) n21 n21a (m_up mm21 (t_add e156 j34_4 (in_c 1 rfl) rfl) (in_w 1 1 (in_c 1 rfl) rfl))))
              · skip
                have i96 := r_eq1 0 31 c96 (i_rng z93) j34_4 rfl
                refine g_aload_n 100 (gd rfl) rfl rfl ?_
                refine g_getA (q2 := 83) 103 (gd rfl) rfl rfl rfl rfl ?_
                refine g_iload 105 (gd rfl) rfl rfl ?_
                refine g_iaload 106 (gd rfl) rfl (n := 32) rfl (in_ix j34_5 rfl) (fun z105 e105 => ?_)
                have i105 := inv_I hIc34 (n := 32) (t := 0) (-1) 31 rfl (in_ix j34_5 rfl) rfl e105
                refine g_iconst (-1) 107 (gd rfl) rfl rfl ?_
                refine g_cmp_ne 110 156 (gd rfl) rfl rfl (fun c107 => ?_) (fun c107 => ?_)
                · skip
                  have i107 := r_ne1 0 31 c107 i105 (in_c (-1) rfl) rfl
                  refine g_iinc 159 (gd rfl) rfl rfl (Nat.le_of_ble_eq_true rfl) (fun z156 e156 => ?_)
                  have i156 := in_add 1 32 e156 j34_4 (in_c 1 rfl) rfl rfl
                  refine g_goto 21 (gd rfl) rfl ?_
                  have n21 : (y21_3).toInt + (c1m (sc34.1 83) 32 : Int) ≤ 32 := by exact g34_0
                  have n21a : ∀ v : Nat, v < 32 → (sc34.1 83 v).toInt < (y21_3).toInt := by exact g34_1
                  exact gg_w (by omega) (gg_f (gf_cons rfl (gf_cons rfl (gf_cons rfl (gf_cons rfl (gf_cons rfl gf_nil))))) (ih21 sc34 y21_3 z156 hIc34 hFc34 (in_w 0 32 j21_3 rfl) (in_w 0 32 i156 rfl) n21 n21a (m_up mm21 (t_add e156 j34_4 (in_c 1 rfl) rfl) (in_w 1 1 (in_c 1 rfl) rfl))))
                · skip
                  have i107 := r_eq1 (-1) (-1) c107 i105 (in_c (-1) rfl) rfl
                  refine g_iconst 0 111 (gd rfl) rfl rfl ?_
                  refine g_istore 113 (gd rfl) rfl (Nat.le_of_ble_eq_true rfl) ?_
                  have n113 : (y21_3).toInt + (c1m (sc34.1 83) 32 : Int) + (if ((Int32.ofInt 0)).toInt = 0 then 0 else 1) ≤ 32 := by rw [if_pos (show (Int32.ofInt 0).toInt = 0 from (by decide))]; have h := g34_0; omega
                  have n113a : ∀ v : Nat, v < 32 → (sc34.1 83 v).toInt ≤ (y21_3).toInt := by intro v hv; exact Int.le_of_lt (g34_1 v hv)
                  have n113b : ((Int32.ofInt 0)).toInt = 0 → (sc34.1 83 (y34_5).toNatClampNeg).toInt = -1 := by intro _; rw [← e105]; exact c107.trans (by decide)
                  exact gg_w (by omega) (gg_f (gf_cons rfl (gf_cons rfl (gf_cons rfl (gf_cons rfl (gf_cons rfl (gf_cons rfl (gf_cons rfl gf_nil))))))) (ct113 33 sc34 y34_5 (Int32.ofInt 0) hIc34 hFc34 (in_w 1 32 j34_1 rfl) (in_w 0 31 j34_4 rfl) (in_w 0 31 j34_5 rfl) (in_w 0 32 (in_c 0 rfl) rfl) n113 n113a n113b (m_in 33 (in_w 0 32 (in_c 0 rfl) rfl) rfl)))
          · skip
            have i37 := r_le1 0 32 c37 j34_6 j34_1 rfl
            refine g_iload 42 (gd rfl) rfl rfl ?_
            refine g_iload_n 43 (gd rfl) rfl rfl ?_
            refine g_cmp_eq 46 81 (gd rfl) rfl rfl (fun c43 => ?_) (fun c43 => ?_)
            · skip
              refine g_iload 83 (gd rfl) rfl rfl ?_
              refine g_iload_n 84 (gd rfl) rfl rfl ?_
              refine g_cmp_eq 87 156 (gd rfl) rfl rfl (fun c84 => ?_) (fun c84 => ?_)
              · skip
                refine g_iinc 159 (gd rfl) rfl rfl (Nat.le_of_ble_eq_true rfl) (fun z156 e156 => ?_)
                have i156 := in_add 1 32 e156 j34_4 (in_c 1 rfl) rfl rfl
                refine g_goto 21 (gd rfl) rfl ?_
                have n21 : (y21_3).toInt + (c1m (sc34.1 83) 32 : Int) ≤ 32 := by exact g34_0
                have n21a : ∀ v : Nat, v < 32 → (sc34.1 83 v).toInt < (y21_3).toInt := by exact g34_1
                exact gg_w (by omega) (gg_f (gf_cons rfl (gf_cons rfl (gf_cons rfl (gf_cons rfl (gf_cons rfl gf_nil))))) (ih21 sc34 y21_3 z156 hIc34 hFc34 (in_w 0 32 j21_3 rfl) (in_w 0 32 i156 rfl) n21 n21a (m_up mm21 (t_add e156 j34_4 (in_c 1 rfl) rfl) (in_w 1 1 (in_c 1 rfl) rfl))))
              · skip
                refine g_aload_n 88 (gd rfl) rfl rfl ?_
                refine g_getA (q2 := 82) 91 (gd rfl) rfl rfl rfl rfl ?_
                refine g_iload 93 (gd rfl) rfl rfl ?_
                refine g_iaload 94 (gd rfl) rfl (n := 32) rfl (in_ix j34_5 rfl) (fun z93 e93 => ?_)
                refine g_iload 96 (gd rfl) rfl rfl ?_
                refine g_cmp_ne 99 156 (gd rfl) rfl rfl (fun c96 => ?_) (fun c96 => ?_)
                · skip
                  refine g_iinc 159 (gd rfl) rfl rfl (Nat.le_of_ble_eq_true rfl) (fun z156 e156 => ?_)
                  have i156 := in_add 1 32 e156 j34_4 (in_c 1 rfl) rfl rfl
                  refine g_goto 21 (gd rfl) rfl ?_
                  have n21 : (y21_3).toInt + (c1m (sc34.1 83) 32 : Int) ≤ 32 := by exact g34_0
                  have n21a : ∀ v : Nat, v < 32 → (sc34.1 83 v).toInt < (y21_3).toInt := by exact g34_1
                  exact gg_w (by omega) (gg_f (gf_cons rfl (gf_cons rfl (gf_cons rfl (gf_cons rfl (gf_cons rfl gf_nil))))) (ih21 sc34 y21_3 z156 hIc34 hFc34 (in_w 0 32 j21_3 rfl) (in_w 0 32 i156 rfl) n21 n21a (m_up mm21 (t_add e156 j34_4 (in_c 1 rfl) rfl) (in_w 1 1 (in_c 1 rfl) rfl))))
                · skip
                  have i96 := r_eq1 0 31 c96 (i_rng z93) j34_4 rfl
                  refine g_aload_n 100 (gd rfl) rfl rfl ?_
                  refine g_getA (q2 := 83) 103 (gd rfl) rfl rfl rfl rfl ?_
                  refine g_iload 105 (gd rfl) rfl rfl ?_
                  refine g_iaload 106 (gd rfl) rfl (n := 32) rfl (in_ix j34_5 rfl) (fun z105 e105 => ?_)
                  have i105 := inv_I hIc34 (n := 32) (t := 0) (-1) 31 rfl (in_ix j34_5 rfl) rfl e105
                  refine g_iconst (-1) 107 (gd rfl) rfl rfl ?_
                  refine g_cmp_ne 110 156 (gd rfl) rfl rfl (fun c107 => ?_) (fun c107 => ?_)
                  · skip
                    have i107 := r_ne1 0 31 c107 i105 (in_c (-1) rfl) rfl
                    refine g_iinc 159 (gd rfl) rfl rfl (Nat.le_of_ble_eq_true rfl) (fun z156 e156 => ?_)
                    have i156 := in_add 1 32 e156 j34_4 (in_c 1 rfl) rfl rfl
                    refine g_goto 21 (gd rfl) rfl ?_
                    have n21 : (y21_3).toInt + (c1m (sc34.1 83) 32 : Int) ≤ 32 := by exact g34_0
                    have n21a : ∀ v : Nat, v < 32 → (sc34.1 83 v).toInt < (y21_3).toInt := by exact g34_1
                    exact gg_w (by omega) (gg_f (gf_cons rfl (gf_cons rfl (gf_cons rfl (gf_cons rfl (gf_cons rfl gf_nil))))) (ih21 sc34 y21_3 z156 hIc34 hFc34 (in_w 0 32 j21_3 rfl) (in_w 0 32 i156 rfl) n21 n21a (m_up mm21 (t_add e156 j34_4 (in_c 1 rfl) rfl) (in_w 1 1 (in_c 1 rfl) rfl))))
                  · skip
                    have i107 := r_eq1 (-1) (-1) c107 i105 (in_c (-1) rfl) rfl
                    refine g_iconst 0 111 (gd rfl) rfl rfl ?_
                    refine g_istore 113 (gd rfl) rfl (Nat.le_of_ble_eq_true rfl) ?_
                    have n113 : (y21_3).toInt + (c1m (sc34.1 83) 32 : Int) + (if ((Int32.ofInt 0)).toInt = 0 then 0 else 1) ≤ 32 := by rw [if_pos (show (Int32.ofInt 0).toInt = 0 from (by decide))]; have h := g34_0; omega
                    have n113a : ∀ v : Nat, v < 32 → (sc34.1 83 v).toInt ≤ (y21_3).toInt := by intro v hv; exact Int.le_of_lt (g34_1 v hv)
                    have n113b : ((Int32.ofInt 0)).toInt = 0 → (sc34.1 83 (y34_5).toNatClampNeg).toInt = -1 := by intro _; rw [← e105]; exact c107.trans (by decide)
                    exact gg_w (by omega) (gg_f (gf_cons rfl (gf_cons rfl (gf_cons rfl (gf_cons rfl (gf_cons rfl (gf_cons rfl (gf_cons rfl gf_nil))))))) (ct113 33 sc34 y34_5 (Int32.ofInt 0) hIc34 hFc34 (in_w 1 32 j34_1 rfl) (in_w 0 31 j34_4 rfl) (in_w 0 31 j34_5 rfl) (in_w 0 32 (in_c 0 rfl) rfl) n113 n113a n113b (m_in 33 (in_w 0 32 (in_c 0 rfl) rfl) rfl)))
            · skip
              refine g_aload_n 47 (gd rfl) rfl rfl ?_
              refine g_getA (q2 := 82) 50 (gd rfl) rfl rfl rfl rfl ?_
              refine g_iload 52 (gd rfl) rfl rfl ?_
              refine g_iaload 53 (gd rfl) rfl (n := 32) rfl (in_ix j34_5 rfl) (fun z52 e52 => ?_)
              refine g_iconst (-1) 54 (gd rfl) rfl rfl ?_
              refine g_cmp_ne 57 81 (gd rfl) rfl rfl (fun c54 => ?_) (fun c54 => ?_)
              · skip
                refine g_iload 83 (gd rfl) rfl rfl ?_
                refine g_iload_n 84 (gd rfl) rfl rfl ?_
                refine g_cmp_eq 87 156 (gd rfl) rfl rfl (fun c84 => ?_) (fun c84 => ?_)
                · skip
                  refine g_iinc 159 (gd rfl) rfl rfl (Nat.le_of_ble_eq_true rfl) (fun z156 e156 => ?_)
                  have i156 := in_add 1 32 e156 j34_4 (in_c 1 rfl) rfl rfl
                  refine g_goto 21 (gd rfl) rfl ?_
                  have n21 : (y21_3).toInt + (c1m (sc34.1 83) 32 : Int) ≤ 32 := by exact g34_0
                  have n21a : ∀ v : Nat, v < 32 → (sc34.1 83 v).toInt < (y21_3).toInt := by exact g34_1
                  exact gg_w (by omega) (gg_f (gf_cons rfl (gf_cons rfl (gf_cons rfl (gf_cons rfl (gf_cons rfl gf_nil))))) (ih21 sc34 y21_3 z156 hIc34 hFc34 (in_w 0 32 j21_3 rfl) (in_w 0 32 i156 rfl) n21 n21a (m_up mm21 (t_add e156 j34_4 (in_c 1 rfl) rfl) (in_w 1 1 (in_c 1 rfl) rfl))))
                · skip
                  refine g_aload_n 88 (gd rfl) rfl rfl ?_
                  refine g_getA (q2 := 82) 91 (gd rfl) rfl rfl rfl rfl ?_
                  refine g_iload 93 (gd rfl) rfl rfl ?_
                  refine g_iaload 94 (gd rfl) rfl (n := 32) rfl (in_ix j34_5 rfl) (fun z93 e93 => ?_)
                  have q93 : z52 = z93 := (e52).trans e93.symm
                  subst q93
                  refine g_iload 96 (gd rfl) rfl rfl ?_
                  refine g_cmp_ne 99 156 (gd rfl) rfl rfl (fun c96 => ?_) (fun c96 => ?_)
                  · skip
                    refine g_iinc 159 (gd rfl) rfl rfl (Nat.le_of_ble_eq_true rfl) (fun z156 e156 => ?_)
                    have i156 := in_add 1 32 e156 j34_4 (in_c 1 rfl) rfl rfl
                    refine g_goto 21 (gd rfl) rfl ?_
                    have n21 : (y21_3).toInt + (c1m (sc34.1 83) 32 : Int) ≤ 32 := by exact g34_0
                    have n21a : ∀ v : Nat, v < 32 → (sc34.1 83 v).toInt < (y21_3).toInt := by exact g34_1
                    exact gg_w (by omega) (gg_f (gf_cons rfl (gf_cons rfl (gf_cons rfl (gf_cons rfl (gf_cons rfl gf_nil))))) (ih21 sc34 y21_3 z156 hIc34 hFc34 (in_w 0 32 j21_3 rfl) (in_w 0 32 i156 rfl) n21 n21a (m_up mm21 (t_add e156 j34_4 (in_c 1 rfl) rfl) (in_w 1 1 (in_c 1 rfl) rfl))))
                  · skip
                    have i96 := r_eq1 0 31 c96 (i_rng z52) j34_4 rfl
                    refine g_aload_n 100 (gd rfl) rfl rfl ?_
                    refine g_getA (q2 := 83) 103 (gd rfl) rfl rfl rfl rfl ?_
                    refine g_iload 105 (gd rfl) rfl rfl ?_
                    refine g_iaload 106 (gd rfl) rfl (n := 32) rfl (in_ix j34_5 rfl) (fun z105 e105 => ?_)
                    have i105 := inv_I hIc34 (n := 32) (t := 0) (-1) 31 rfl (in_ix j34_5 rfl) rfl e105
                    refine g_iconst (-1) 107 (gd rfl) rfl rfl ?_
                    refine g_cmp_ne 110 156 (gd rfl) rfl rfl (fun c107 => ?_) (fun c107 => ?_)
                    · skip
                      have i107 := r_ne1 0 31 c107 i105 (in_c (-1) rfl) rfl
                      refine g_iinc 159 (gd rfl) rfl rfl (Nat.le_of_ble_eq_true rfl) (fun z156 e156 => ?_)
                      have i156 := in_add 1 32 e156 j34_4 (in_c 1 rfl) rfl rfl
                      refine g_goto 21 (gd rfl) rfl ?_
                      have n21 : (y21_3).toInt + (c1m (sc34.1 83) 32 : Int) ≤ 32 := by exact g34_0
                      have n21a : ∀ v : Nat, v < 32 → (sc34.1 83 v).toInt < (y21_3).toInt := by exact g34_1
                      exact gg_w (by omega) (gg_f (gf_cons rfl (gf_cons rfl (gf_cons rfl (gf_cons rfl (gf_cons rfl gf_nil))))) (ih21 sc34 y21_3 z156 hIc34 hFc34 (in_w 0 32 j21_3 rfl) (in_w 0 32 i156 rfl) n21 n21a (m_up mm21 (t_add e156 j34_4 (in_c 1 rfl) rfl) (in_w 1 1 (in_c 1 rfl) rfl))))
                    · skip
                      have i107 := r_eq1 (-1) (-1) c107 i105 (in_c (-1) rfl) rfl
                      refine g_iconst 0 111 (gd rfl) rfl rfl ?_
                      refine g_istore 113 (gd rfl) rfl (Nat.le_of_ble_eq_true rfl) ?_
                      have n113 : (y21_3).toInt + (c1m (sc34.1 83) 32 : Int) + (if ((Int32.ofInt 0)).toInt = 0 then 0 else 1) ≤ 32 := by rw [if_pos (show (Int32.ofInt 0).toInt = 0 from (by decide))]; have h := g34_0; omega
                      have n113a : ∀ v : Nat, v < 32 → (sc34.1 83 v).toInt ≤ (y21_3).toInt := by intro v hv; exact Int.le_of_lt (g34_1 v hv)
                      have n113b : ((Int32.ofInt 0)).toInt = 0 → (sc34.1 83 (y34_5).toNatClampNeg).toInt = -1 := by intro _; rw [← e105]; exact c107.trans (by decide)
                      exact gg_w (by omega) (gg_f (gf_cons rfl (gf_cons rfl (gf_cons rfl (gf_cons rfl (gf_cons rfl (gf_cons rfl (gf_cons rfl gf_nil))))))) (ct113 33 sc34 y34_5 (Int32.ofInt 0) hIc34 hFc34 (in_w 1 32 j34_1 rfl) (in_w 0 31 j34_4 rfl) (in_w 0 31 j34_5 rfl) (in_w 0 32 (in_c 0 rfl) rfl) n113 n113a n113b (m_in 33 (in_w 0 32 (in_c 0 rfl) rfl) rfl)))
              · skip
                have i54 := r_eq1 (-1) (-1) c54 (i_rng z52) (in_c (-1) rfl) rfl
                refine g_aload_n 58 (gd rfl) rfl rfl ?_
                refine g_getA (q2 := 82) 61 (gd rfl) rfl rfl rfl rfl ?_
                refine g_iload 63 (gd rfl) rfl rfl ?_
                refine g_iload 65 (gd rfl) rfl rfl ?_
                refine g_iastore 66 (gd rfl) rfl (n := 32) rfl (in_ix j34_5 rfl) ?_
                have hI65 := inv_sI (q := 82) (j := y34_5.toNatClampNeg) hIc34 rfl (in_w (-2147483648) 2147483647 j34_4 rfl)
                refine g_aload_n 67 (gd rfl) rfl rfl ?_
                refine g_getA (q2 := 81) 70 (gd rfl) rfl rfl rfl rfl ?_
                refine g_iload 72 (gd rfl) rfl rfl ?_
                refine g_iaload 73 (gd rfl) rfl (n := 32) rfl (in_ix j34_5 rfl) (fun z72 e72 => ?_)
                have i72 := inv_I hI65 (n := 32) (t := 0) 0 31 rfl (in_ix j34_5 rfl) rfl e72
                refine g_istore 75 (gd rfl) rfl (Nat.le_of_ble_eq_true rfl) ?_
                refine g_iinc 78 (gd rfl) rfl rfl (Nat.le_of_ble_eq_true rfl) (fun z75 e75 => ?_)
                have i75 := in_add 1 33 e75 i37 (in_c 1 rfl) rfl rfl
                refine g_goto 34 (gd rfl) rfl ?_
                have n34 : (y21_3).toInt + (c1m ((sI sc34 82 y34_5.toNatClampNeg y21_4).1 83) 32 : Int) ≤ 32 := by rw [sI_r rfl]; exact g34_0
                have n34a : ∀ v : Nat, v < 32 → ((sI sc34 82 y34_5.toNatClampNeg y21_4).1 83 v).toInt < (y21_3).toInt := by rw [sI_r rfl]; exact g34_1
                exact gg_w (by omega) (gg_f (gf_cons rfl (gf_cons rfl (gf_cons rfl (gf_cons rfl (gf_cons rfl (gf_cons rfl (gf_cons rfl gf_nil))))))) (ih34 (sI sc34 82 y34_5.toNatClampNeg y21_4) z72 z75 hI65 (fr_sI rfl hFc34) (in_w 1 32 j34_1 rfl) (in_w 0 31 j34_4 rfl) (in_w 0 31 i72 rfl) (in_w 0 33 i75 rfl) n34 n34a (m_up mm34 (t_add e75 i37 (in_c 1 rfl) rfl) (in_w 1 1 (in_c 1 rfl) rfl))))
      refine g_iload 23 (gd rfl) rfl rfl ?_
      refine g_iload_n 24 (gd rfl) rfl rfl ?_
      refine g_cmp_ge 27 162 (gd rfl) rfl rfl (fun c24 => ?_) (fun c24 => ?_)
      · skip
        refine g_iload_n 163 (gd rfl) rfl rfl ?_
        have n163 : (y21_3).toInt + (c1m (sc21.1 83) 32 : Int) ≤ 32 := by exact g21_0
        have n163a : ∀ v : Nat, v < 32 → (sc21.1 83 v).toInt < (y21_3).toInt := by exact g21_1
        exact g_ireturn (gd rfl) rfl rfl (hP _ _ ⟨sc21, hIc21, hFc21, y21_3, rfl, rfl, in_w 0 32 j21_3 rfl, n163, n163a⟩)
      · skip
        have i24 := r_lt1 0 31 c24 j21_4 h1 rfl
        have i24a := r_lt2 1 32 c24 j21_4 h1 rfl
        refine g_iload 29 (gd rfl) rfl rfl ?_
        refine g_istore 31 (gd rfl) rfl (Nat.le_of_ble_eq_true rfl) ?_
        refine g_iconst 0 32 (gd rfl) rfl rfl ?_
        refine g_istore 34 (gd rfl) rfl (Nat.le_of_ble_eq_true rfl) ?_
        have n34 : (y21_3).toInt + (c1m (sc21.1 83) 32 : Int) ≤ 32 := by exact g21_0
        have n34a : ∀ v : Nat, v < 32 → (sc21.1 83 v).toInt < (y21_3).toInt := by exact g21_1
        exact gg_w (by omega) (gg_f (gf_cons rfl (gf_cons rfl (gf_cons rfl (gf_cons rfl (gf_cons rfl (gf_cons rfl (gf_cons rfl gf_nil))))))) (ct34 34 sc21 y21_4 (Int32.ofInt 0) hIc21 hFc21 (in_w 1 32 i24a rfl) (in_w 0 31 i24 rfl) (in_w 0 31 i24 rfl) (in_w 0 33 (in_c 0 rfl) rfl) n34 n34a (m_in 34 (in_w 0 33 (in_c 0 rfl) rfl) rfl)))
  refine g_enter2 (k := 183) (N := 2139367) (by omega) rfl (Nat.le_of_ble_eq_true rfl) ?_
  refine g_iconst 0 1 (gd rfl) rfl rfl ?_
  refine g_istore_n 2 (gd rfl) rfl (Nat.le_of_ble_eq_true rfl) ?_
  refine g_aload_n 3 (gd rfl) rfl rfl ?_
  refine g_getA (q2 := 83) 6 (gd rfl) rfl rfl rfl rfl ?_
  refine g_iconst (-1) 7 (gd rfl) rfl rfl ?_
  refine g_calls (As := [.ref (A 83), .int (Int32.ofInt (-1))]) (r := []) 10 (gd rfl) rfl rfl rfl rfl rfl (Nat.le_of_ble_eq_true rfl) (Nat.zero_le _) (Nat.zero_le _) (k_fillI 83 (by omega) hI (in_c (-1) rfl) (n := 32) rfl rfl rfl rfl) (fun v u h => ?_)
  obtain ⟨s7, hI7, hF7, rfl, rfl, fl7⟩ := h
  show GG _ _ _ _ _ _ _ _ [] _ _ _
  refine g_aload_n 11 (gd rfl) rfl rfl ?_
  refine g_getA (q2 := 82) 14 (gd rfl) rfl rfl rfl rfl ?_
  refine g_iconst (-1) 15 (gd rfl) rfl rfl ?_
  refine g_calls (As := [.ref (A 82), .int (Int32.ofInt (-1))]) (r := []) 18 (gd rfl) rfl rfl rfl rfl rfl (Nat.le_of_ble_eq_true rfl) (Nat.zero_le _) (Nat.zero_le _) (k_fillI 82 (by omega) hI7 (in_c (-1) rfl) (n := 32) rfl rfl rfl rfl) (fun v u h => ?_)
  obtain ⟨s15, hI15, hF15, rfl, rfl, fl15⟩ := h
  show GG _ _ _ _ _ _ _ _ [] _ _ _
  refine g_iconst 0 19 (gd rfl) rfl rfl ?_
  refine g_istore 21 (gd rfl) rfl (Nat.le_of_ble_eq_true rfl) ?_
  have n21 : ((Int32.ofInt 0)).toInt + (c1m (s15.1 83) 32 : Int) ≤ 32 := by have hq := c1m_le (w := s15.1 83) 32; have c0 : (Int32.ofInt 0).toInt = 0 := (by decide); omega
  have n21a : ∀ v : Nat, v < 32 → (s15.1 83 v).toInt < ((Int32.ofInt 0)).toInt := by intro v hv; rw [hF15.1 83 rfl, fl7 v hv]; decide
  exact gg_w (by omega) (gg_f (gf_cons rfl (gf_cons rfl (gf_cons rfl (gf_cons rfl (gf_cons rfl gf_nil))))) (ct21 33 s15 (Int32.ofInt 0) (Int32.ofInt 0) hI15 (fr_tr rfl (fr_tr rfl fr_rf hF7) hF15) (in_w 0 32 (in_c 0 rfl) rfl) (in_w 0 32 (in_c 0 rfl) rfl) n21 n21a (m_in 33 (in_w 0 32 (in_c 0 rfl) rfl) rfl)))

def fm_184_76 : FM := ([83], [], [], [])
/-- GraphHouse$Trees.nameOthers -/
theorem k_184_76 {Z : AmZ} {A : Nat → Nat} {s : GS} {ex : va_W} {d : Nat} {X : AmX} {x1 : Int32} {x2 : Int32} (hd : 1 ≤ d) (hI : Inv s) (h1 : In x1 0 32) (h2 : In x2 0 32) (q_0 : (x2).toInt + (c1m (s.1 83) 32 : Int) ≤ 32) (q_1 : ∀ v : Nat, v < 32 → (s.1 83 v).toInt < (x2).toInt) : GC Z d 184 [.ref (A 76), .int x1, .int x2] (WW Z A s ++ ex) 0 0 (fun v u => ∃ t : GS, Inv t ∧ Fr fm_184_76 s t ∧ ∃ z : Int32, v = some (.int z) ∧ u = WW Z A t ++ ex ∧ In z 0 32 ∧ (RN t (x1).toInt (z).toInt)) X := by
  intro post xp hP hX
  have ct5 : ∀ (k5 : Nat) (sc5 : GS) (y5_3 : Int32) (y5_4 : Int32), Inv sc5 → Fr fm_184_76 s sc5 → (In y5_3 0 32) → (In y5_4 0 32) → ((y5_3).toInt + (c1m (sc5.1 83) 32 : Int) ≤ 32) → (∀ v : Nat, v < 32 → (sc5.1 83 v).toInt < (y5_3).toInt) → (∀ i : Nat, (i : Int) < (y5_4).toInt → 0 ≤ (sc5.1 83 i).toInt) → 32 - (y5_4).toInt < (k5 : Int) → GG Z (d - 1) 184 post (gx xp) (1 + k5 * 900) 5 (fun j => xlook j [(0, .ref (A 76)), (1, .int x1), (2, .int x2), (3, .int y5_3), (4, .int y5_4)]) [] (WW Z A sc5 ++ ex) 0 0 := by
    intro k5
    induction k5 with
    | zero => intro sc5 y5_3 y5_4 hIc5 hFc5 j5_3 j5_4 g5_0 g5_1 g5_2 mm5; exact m_no mm5 j5_4 rfl
    | succ k5 ih5 =>
      intro sc5 y5_3 y5_4 hIc5 hFc5 j5_3 j5_4 g5_0 g5_1 g5_2 mm5
      refine gg_w (M := 1 + k5 * 900 + 900) (by omega) ?_
      refine g_iload 7 (gd rfl) rfl rfl ?_
      refine g_iload_n 8 (gd rfl) rfl rfl ?_
      refine g_cmp_ge 11 39 (gd rfl) rfl rfl (fun c8 => ?_) (fun c8 => ?_)
      · skip
        refine g_iload_n 40 (gd rfl) rfl rfl ?_
        have n40 : RN sc5 (x1).toInt (y5_3).toInt := by exact fun v hv => ⟨g5_1 v hv, fun h => g5_2 v (by have a0 := h2; unfold In at a0; have a1 := h1; unfold In at a1; have a2 := j5_4; unfold In at a2; have a3 := j5_3; unfold In at a3; omega)⟩
        exact g_ireturn (gd rfl) rfl rfl (hP _ _ ⟨sc5, hIc5, hFc5, y5_3, rfl, rfl, in_w 0 32 j5_3 rfl, n40⟩)
      · skip
        have i8 := r_lt1 0 31 c8 j5_4 h1 rfl
        have i8a := r_lt2 1 32 c8 j5_4 h1 rfl
        refine g_aload_n 12 (gd rfl) rfl rfl ?_
        refine g_getA (q2 := 83) 15 (gd rfl) rfl rfl rfl rfl ?_
        refine g_iload 17 (gd rfl) rfl rfl ?_
        refine g_iaload 18 (gd rfl) rfl (n := 32) rfl (in_ix i8 rfl) (fun z17 e17 => ?_)
        have i17 := inv_I hIc5 (n := 32) (t := 0) (-1) 31 rfl (in_ix i8 rfl) rfl e17
        refine g_iconst (-1) 19 (gd rfl) rfl rfl ?_
        refine g_cmp_ne 22 33 (gd rfl) rfl rfl (fun c19 => ?_) (fun c19 => ?_)
        · skip
          have i19 := r_ne1 0 31 c19 i17 (in_c (-1) rfl) rfl
          refine g_iinc 36 (gd rfl) rfl rfl (Nat.le_of_ble_eq_true rfl) (fun z33 e33 => ?_)
          have i33 := in_add 1 32 e33 i8 (in_c 1 rfl) rfl rfl
          refine g_goto 5 (gd rfl) rfl ?_
          have n5 : (y5_3).toInt + (c1m (sc5.1 83) 32 : Int) ≤ 32 := by exact g5_0
          have n5a : ∀ v : Nat, v < 32 → (sc5.1 83 v).toInt < (y5_3).toInt := by exact g5_1
          have n5b : ∀ i : Nat, (i : Int) < (z33).toInt → 0 ≤ (sc5.1 83 i).toInt := by intro i hi; by_cases hq : i = (y5_4).toNatClampNeg; (rw [hq, ← e17]; have c0 : (Int32.ofInt (-1)).toInt = -1 := (by decide); have h7 := i17; unfold In at h7; have a0 := h2; unfold In at a0; have a1 := i8a; unfold In at a1; have a2 := i8; unfold In at a2; have a3 := j5_3; unfold In at a3; have a4 := i33; unfold In at a4; have a5 := t_add e33 i8 (in_c 1 rfl) rfl; have a6 := (in_c 1 rfl); unfold In at a6; omega); (exact g5_2 i (by have e9 : (y5_4).toNatClampNeg = (y5_4).toInt.toNat := rfl; have a0 := h2; unfold In at a0; have a1 := i8a; unfold In at a1; have a2 := i8; unfold In at a2; have a3 := j5_3; unfold In at a3; have a4 := i33; unfold In at a4; have a5 := t_add e33 i8 (in_c 1 rfl) rfl; have a6 := (in_c 1 rfl); unfold In at a6; omega))
          exact gg_w (by omega) (gg_f (gf_cons rfl (gf_cons rfl (gf_cons rfl (gf_cons rfl (gf_cons rfl gf_nil))))) (ih5 sc5 y5_3 z33 hIc5 hFc5 (in_w 0 32 j5_3 rfl) (in_w 0 32 i33 rfl) n5 n5a n5b (m_up mm5 (t_add e33 i8 (in_c 1 rfl) rfl) (in_w 1 1 (in_c 1 rfl) rfl))))
        · skip
          have i19 := r_eq1 (-1) (-1) c19 i17 (in_c (-1) rfl) rfl
          refine g_aload_n 23 (gd rfl) rfl rfl ?_
          refine g_getA (q2 := 83) 26 (gd rfl) rfl rfl rfl rfl ?_
          refine g_iload 28 (gd rfl) rfl rfl ?_
          refine g_iload_n 29 (gd rfl) rfl rfl ?_
          have i29 : In y5_3 0 31 := by have hq := c1m_pos (w := sc5.1 83) (n := 32) (by rw [← e17]; exact c19.trans (by decide)) (show (y5_4).toNatClampNeg < 32 from (by show (y5_4).toInt.toNat < 32; have a0 := h2; unfold In at a0; have a1 := i8a; unfold In at a1; have a2 := i8; unfold In at a2; have a3 := j5_3; unfold In at a3; omega)); have h := g5_0; exact ⟨by have a0 := h2; unfold In at a0; have a1 := i8a; unfold In at a1; have a2 := i8; unfold In at a2; have a3 := j5_3; unfold In at a3; omega, by have a0 := h2; unfold In at a0; have a1 := i8a; unfold In at a1; have a2 := i8; unfold In at a2; have a3 := j5_3; unfold In at a3; omega⟩
          refine g_iastore 30 (gd rfl) rfl (n := 32) rfl (in_ix i8 rfl) ?_
          have hI29 := inv_sI (q := 83) (j := y5_4.toNatClampNeg) hIc5 rfl (in_w (-1) 31 i29 rfl)
          have hup := c1m_up (w := sc5.1 83) (j := (y5_4).toNatClampNeg) (x := y5_3) (by rw [← e17]; exact c19.trans (by decide)) (by have a0 := h2; unfold In at a0; have a1 := i8a; unfold In at a1; have a2 := i8; unfold In at a2; have a3 := i29; unfold In at a3; omega) (n := 32) (show (y5_4).toNatClampNeg < 32 from (by show (y5_4).toInt.toNat < 32; have a0 := h2; unfold In at a0; have a1 := i8a; unfold In at a1; have a2 := i8; unfold In at a2; have a3 := i29; unfold In at a3; omega))
          refine g_iinc 33 (gd rfl) rfl rfl (Nat.le_of_ble_eq_true rfl) (fun z30 e30 => ?_)
          have i30 := in_add 1 32 e30 i29 (in_c 1 rfl) rfl rfl
          refine g_iinc 36 (gd rfl) rfl rfl (Nat.le_of_ble_eq_true rfl) (fun z33 e33 => ?_)
          have i33 := in_add 1 32 e33 i8 (in_c 1 rfl) rfl rfl
          refine g_goto 5 (gd rfl) rfl ?_
          have n5 : (z30).toInt + (c1m ((sI sc5 83 y5_4.toNatClampNeg y5_3).1 83) 32 : Int) ≤ 32 := by rw [sI_q]; have a0 := h2; unfold In at a0; have a1 := i8a; unfold In at a1; have a2 := i8; unfold In at a2; have a3 := i29; unfold In at a3; have a4 := i33; unfold In at a4; have a5 := t_add e33 i8 (in_c 1 rfl) rfl; have a6 := (in_c 1 rfl); unfold In at a6; have a7 := i30; unfold In at a7; have a8 := t_add e30 i29 (in_c 1 rfl) rfl; omega
          have n5a : ∀ v : Nat, v < 32 → ((sI sc5 83 y5_4.toNatClampNeg y5_3).1 83 v).toInt < (z30).toInt := by intro v hv; rw [sI_q]; unfold upd; by_cases hq : v = (y5_4).toNatClampNeg; (rw [if_pos hq]; have a0 := h2; unfold In at a0; have a1 := i8a; unfold In at a1; have a2 := i8; unfold In at a2; have a3 := i29; unfold In at a3; have a4 := i33; unfold In at a4; have a5 := t_add e33 i8 (in_c 1 rfl) rfl; have a6 := (in_c 1 rfl); unfold In at a6; have a7 := i30; unfold In at a7; have a8 := t_add e30 i29 (in_c 1 rfl) rfl; omega); (rw [if_neg hq]; have h := g5_1 v hv; have a0 := h2; unfold In at a0; have a1 := i8a; unfold In at a1; have a2 := i8; unfold In at a2; have a3 := i29; unfold In at a3; have a4 := i33; unfold In at a4; have a5 := t_add e33 i8 (in_c 1 rfl) rfl; have a6 := (in_c 1 rfl); unfold In at a6; have a7 := i30; unfold In at a7; have a8 := t_add e30 i29 (in_c 1 rfl) rfl; omega)
          have n5b : ∀ i : Nat, (i : Int) < (z33).toInt → 0 ≤ ((sI sc5 83 y5_4.toNatClampNeg y5_3).1 83 i).toInt := by intro i hi; rw [sI_q]; unfold upd; by_cases hq : i = (y5_4).toNatClampNeg; (rw [if_pos hq]; have a0 := h2; unfold In at a0; have a1 := i8a; unfold In at a1; have a2 := i8; unfold In at a2; have a3 := i29; unfold In at a3; have a4 := i33; unfold In at a4; have a5 := t_add e33 i8 (in_c 1 rfl) rfl; have a6 := (in_c 1 rfl); unfold In at a6; have a7 := i30; unfold In at a7; have a8 := t_add e30 i29 (in_c 1 rfl) rfl; omega); (rw [if_neg hq]; exact g5_2 i (by have e9 : (y5_4).toNatClampNeg = (y5_4).toInt.toNat := rfl; have a0 := h2; unfold In at a0; have a1 := i8a; unfold In at a1; have a2 := i8; unfold In at a2; have a3 := i29; unfold In at a3; have a4 := i33; unfold In at a4; have a5 := t_add e33 i8 (in_c 1 rfl) rfl; have a6 := (in_c 1 rfl); unfold In at a6; have a7 := i30; unfold In at a7; have a8 := t_add e30 i29 (in_c 1 rfl) rfl; omega))
          exact gg_w (by omega) (gg_f (gf_cons rfl (gf_cons rfl (gf_cons rfl (gf_cons rfl (gf_cons rfl gf_nil))))) (ih5 (sI sc5 83 y5_4.toNatClampNeg y5_3) z30 z33 hI29 (fr_sI rfl hFc5) (in_w 0 32 i30 rfl) (in_w 0 32 i33 rfl) n5 n5a n5b (m_up mm5 (t_add e33 i8 (in_c 1 rfl) rfl) (in_w 1 1 (in_c 1 rfl) rfl))))
  refine g_enter2 (k := 184) (N := 30601) (by omega) rfl (Nat.le_of_ble_eq_true rfl) ?_
  refine g_iload_n 1 (gd rfl) rfl rfl ?_
  refine g_istore_n 2 (gd rfl) rfl (Nat.le_of_ble_eq_true rfl) ?_
  refine g_iconst 0 3 (gd rfl) rfl rfl ?_
  refine g_istore 5 (gd rfl) rfl (Nat.le_of_ble_eq_true rfl) ?_
  have n5 : (x2).toInt + (c1m (s.1 83) 32 : Int) ≤ 32 := by exact q_0
  have n5a : ∀ v : Nat, v < 32 → (s.1 83 v).toInt < (x2).toInt := by exact q_1
  have n5b : ∀ i : Nat, (i : Int) < ((Int32.ofInt 0)).toInt → 0 ≤ (s.1 83 i).toInt := by intro i hi; exfalso; have c0 : (Int32.ofInt 0).toInt = 0 := (by decide); omega
  exact gg_w (by omega) (gg_f (gf_cons rfl (gf_cons rfl (gf_cons rfl (gf_cons rfl (gf_cons rfl gf_nil))))) (ct5 33 s x2 (Int32.ofInt 0) hI fr_rf (in_w 0 32 h2 rfl) (in_w 0 32 (in_c 0 rfl) rfl) n5 n5a n5b (m_in 33 (in_w 0 32 (in_c 0 rfl) rfl) rfl)))

def fm_185_76 : FM := ([77, 78], [79], [], [])
/-- GraphHouse$Trees.shrinkRings -/
theorem k_185_76 {Z : AmZ} {A : Nat → Nat} {s : GS} {ex : va_W} {d : Nat} {X : AmX}  (hd : 1 ≤ d) (hI : Inv s) (q_0 : ∃ n m : Int, AE s n ∧ n ≤ 32 ∧ RN s n m) : GC Z d 185 [.ref (A 76)] (WW Z A s ++ ex) 0 0 (fun v u => ∃ t : GS, Inv t ∧ Fr fm_185_76 s t ∧ v = none ∧ u = WW Z A t ++ ex ∧ (∀ n m : Int, AE s n → n ≤ 32 → RN s n m → AE t m)) X := by
  intro post xp hP hX
  obtain ⟨u_76_0, e_76_0⟩ : ∃ w, w = s.2.2.1 76 0 := ⟨_, rfl⟩
  have ro_76_0 := inv_F hI 0 160 rfl e_76_0
  have ct2 : ∀ (k2 : Nat) (sc2 : GS) (y2_1 : Int32), Inv sc2 → Fr fm_185_76 s sc2 → (In y2_1 0 160) → (SHR s sc2 (y2_1).toInt.toNat) → 160 - (y2_1).toInt < (k2 : Int) → GG Z (d - 1) 185 post (gx xp) (1 + k2 * 900) 2 (fun j => xlook j [(0, .ref (A 76)), (1, .int y2_1)]) [] (WW Z A sc2 ++ ex) 0 0 := by
    intro k2
    induction k2 with
    | zero => intro sc2 y2_1 hIc2 hFc2 j2_1 g2_0 mm2; exact m_no mm2 j2_1 rfl
    | succ k2 ih2 =>
      intro sc2 y2_1 hIc2 hFc2 j2_1 g2_0 mm2
      refine gg_w (M := 1 + k2 * 900 + 900) (by omega) ?_
      refine g_iload_n 3 (gd rfl) rfl rfl ?_
      refine g_aload_n 4 (gd rfl) rfl rfl ?_
      refine g_getI 7 (gd rfl) rfl rfl rfl (fun z4 e4 => ?_)
      have q4 : u_76_0 = z4 := (fr_F e_76_0 hFc2 rfl).trans e4.symm
      subst q4
      refine g_cmp_ge 10 74 (gd rfl) rfl rfl (fun c7 => ?_) (fun c7 => ?_)
      · skip
        have n74 : ∀ n m : Int, AE s n → n ≤ 32 → RN s n m → AE sc2 m := by have hFF : Fr fm_185_76 s sc2 := hFc2; exact fun n m ha hn hr => shr_ae g2_0 ha hn hr (by rw [← e_76_0]; have a0 := ro_76_0; unfold In at a0; have a1 := j2_1; unfold In at a1; omega) (hFF.2.2.1 76 0 rfl)
        exact g_return (gd rfl) rfl (hP _ _ ⟨sc2, hIc2, hFc2, rfl, rfl, n74⟩)
      · skip
        have i7 := r_lt1 0 159 c7 j2_1 ro_76_0 rfl
        have i7a := r_lt2 1 160 c7 j2_1 ro_76_0 rfl
        refine g_aload_n 11 (gd rfl) rfl rfl ?_
        refine g_getA (q2 := 78) 14 (gd rfl) rfl rfl rfl rfl ?_
        refine g_iload_n 15 (gd rfl) rfl rfl ?_
        refine g_iaload 16 (gd rfl) rfl (n := 160) rfl (in_ix i7 rfl) (fun z15 e15 => ?_)
        have i15 := inv_I hIc2 (n := 160) (t := 0) 0 31 rfl (in_ix i7 rfl) rfl e15
        refine g_istore_n 17 (gd rfl) rfl (Nat.le_of_ble_eq_true rfl) ?_
        refine g_aload_n 18 (gd rfl) rfl rfl ?_
        refine g_getA (q2 := 77) 21 (gd rfl) rfl rfl rfl rfl ?_
        refine g_iload_n 22 (gd rfl) rfl rfl ?_
        refine g_iaload 23 (gd rfl) rfl (n := 160) rfl (in_ix i7 rfl) (fun z22 e22 => ?_)
        have i22 := inv_I hIc2 (n := 160) (t := 0) 0 31 rfl (in_ix i7 rfl) rfl e22
        refine g_istore_n 24 (gd rfl) rfl (Nat.le_of_ble_eq_true rfl) ?_
        obtain ⟨n9, m9, a9, b9, r9⟩ := q_0
        have hae := a9 (y2_1).toInt.toNat (by rw [← e_76_0]; have a0 := i7a; unfold In at a0; have a1 := i7; unfold In at a1; have a2 := i22; unfold In at a2; have a3 := i15; unfold In at a3; omega)
        have ht : z22 = s.1 77 (y2_1).toInt.toNat := (by rw [e22]; exact (g2_0.2 _ (Nat.le_refl _)).1)
        have hh : z15 = s.1 78 (y2_1).toInt.toNat := (by rw [e15]; exact (g2_0.2 _ (Nat.le_refl _)).2)
        rw [← ht, ← hh] at hae
        have rt := r9 (z22).toNatClampNeg (by show (z22).toInt.toNat < 32; omega)
        have rh := r9 (z15).toNatClampNeg (by show (z15).toInt.toNat < 32; omega)
        have kt : (((z22).toNatClampNeg : Nat) : Int) = (z22).toInt := (by show ((z22).toInt.toNat : Int) = _; omega)
        have kh : (((z15).toNatClampNeg : Nat) : Int) = (z15).toInt := (by show ((z15).toInt.toNat : Int) = _; omega)
        refine g_iload_n 25 (gd rfl) rfl rfl ?_
        refine g_iload_n 26 (gd rfl) rfl rfl ?_
        refine g_cmp_eq 29 44 (gd rfl) rfl rfl (fun c26 => ?_) (fun c26 => ?_)
        · skip
          refine g_aload_n 45 (gd rfl) rfl rfl ?_
          refine g_getA (q2 := 77) 48 (gd rfl) rfl rfl rfl rfl ?_
          refine g_iload_n 49 (gd rfl) rfl rfl ?_
          refine g_aload_n 50 (gd rfl) rfl rfl ?_
          refine g_getA (q2 := 83) 53 (gd rfl) rfl rfl rfl rfl ?_
          refine g_iload_n 54 (gd rfl) rfl rfl ?_
          refine g_iaload 55 (gd rfl) rfl (n := 32) rfl (in_ix i22 rfl) (fun z54 e54 => ?_)
          have i54 := inv_I hIc2 (n := 32) (t := 0) (-1) 31 rfl (in_ix i22 rfl) rfl e54
          have h54 : z54 = s.1 83 (z22).toNatClampNeg := (by rw [e54]; exact congrFun (hFc2.1 83 rfl) _)
          have i55 : In z54 0 31 := by have h9 := rt.2 (by omega); rw [← h54] at h9; exact ⟨h9, i54.2⟩
          refine g_iastore 56 (gd rfl) rfl (n := 160) rfl (in_ix i7 rfl) ?_
          have hI55 := inv_sI (q := 77) (j := y2_1.toNatClampNeg) hIc2 rfl (in_w 0 31 i55 rfl)
          refine g_aload_n 57 (gd rfl) rfl rfl ?_
          refine g_getA (q2 := 78) 60 (gd rfl) rfl rfl rfl rfl ?_
          refine g_iload_n 61 (gd rfl) rfl rfl ?_
          refine g_aload_n 62 (gd rfl) rfl rfl ?_
          refine g_getA (q2 := 83) 65 (gd rfl) rfl rfl rfl rfl ?_
          refine g_iload_n 66 (gd rfl) rfl rfl ?_
          refine g_iaload 67 (gd rfl) rfl (n := 32) rfl (in_ix i15 rfl) (fun z66 e66 => ?_)
          have i66 := inv_I hI55 (n := 32) (t := 0) (-1) 31 rfl (in_ix i15 rfl) rfl e66
          have h66 : z66 = s.1 83 (z15).toNatClampNeg := (by rw [e66, sI_r rfl]; exact congrFun (hFc2.1 83 rfl) _)
          have i67 : In z66 0 31 := by have h9 := rh.2 (by omega); rw [← h66] at h9; exact ⟨h9, i66.2⟩
          refine g_iastore 68 (gd rfl) rfl (n := 160) rfl (in_ix i7 rfl) ?_
          have hI67 := inv_sI (q := 78) (j := y2_1.toNatClampNeg) hI55 rfl (in_w 0 31 i67 rfl)
          refine g_iinc 71 (gd rfl) rfl rfl (Nat.le_of_ble_eq_true rfl) (fun z68 e68 => ?_)
          have i68 := in_add 1 160 e68 i7 (in_c 1 rfl) rfl rfl
          refine g_goto 2 (gd rfl) rfl ?_
          have n2 : SHR s (sI (sI sc2 77 y2_1.toNatClampNeg z54) 78 y2_1.toNatClampNeg z66) (z68).toInt.toNat := by rw [show (z68).toInt.toNat = (y2_1).toInt.toNat + 1 from (by have a0 := i7a; unfold In at a0; have a1 := i7; unfold In at a1; have a2 := i22; unfold In at a2; have a3 := i15; unfold In at a3; have a4 := i68; unfold In at a4; have a5 := t_add e68 i7 (in_c 1 rfl) rfl; have a6 := (in_c 1 rfl); unfold In at a6; omega)]; exact shr_s g2_0 (by rw [sI_r rfl, sI_q]; rfl) (by rw [sI_q, sI_r rfl]; rfl) (by rw [h54, ht]) (by rw [h66, hh])
          exact gg_w (by omega) (gg_f (gf_cons rfl (gf_cons rfl gf_nil)) (ih2 (sI (sI sc2 77 y2_1.toNatClampNeg z54) 78 y2_1.toNatClampNeg z66) z68 hI67 (fr_sI rfl (fr_sI rfl hFc2)) (in_w 0 160 i68 rfl) n2 (m_up mm2 (t_add e68 i7 (in_c 1 rfl) rfl) (in_w 1 1 (in_c 1 rfl) rfl))))
        · skip
          refine g_aload_n 30 (gd rfl) rfl rfl ?_
          refine g_getA (q2 := 79) 33 (gd rfl) rfl rfl rfl rfl ?_
          refine g_iload_n 34 (gd rfl) rfl rfl ?_
          refine g_dup2 35 (gd rfl) rfl rfl rfl ?_
          refine g_laload 36 (gd rfl) rfl (n := 160) rfl (in_ix i7 rfl) (fun z35 e35 => ?_)
          refine g_aload_n 37 (gd rfl) rfl rfl ?_
          refine g_getA (q2 := 80) 40 (gd rfl) rfl rfl rfl rfl ?_
          refine g_iload_n 41 (gd rfl) rfl rfl ?_
          refine g_laload 42 (gd rfl) rfl (n := 32) rfl (in_ix i15 rfl) (fun z41 e41 => ?_)
          refine g_lsub 43 (gd rfl) rfl (fun z42 e42 => ?_)
          refine g_lastore 44 (gd rfl) rfl (n := 160) rfl (in_ix i7 rfl) ?_
          have hI43 := inv_sL (q := 79) (j := y2_1.toNatClampNeg) (x := z42) hIc2 rfl (l_rng z42)
          refine g_aload_n 45 (gd rfl) rfl rfl ?_
          refine g_getA (q2 := 77) 48 (gd rfl) rfl rfl rfl rfl ?_
          refine g_iload_n 49 (gd rfl) rfl rfl ?_
          refine g_aload_n 50 (gd rfl) rfl rfl ?_
          refine g_getA (q2 := 83) 53 (gd rfl) rfl rfl rfl rfl ?_
          refine g_iload_n 54 (gd rfl) rfl rfl ?_
          refine g_iaload 55 (gd rfl) rfl (n := 32) rfl (in_ix i22 rfl) (fun z54 e54 => ?_)
          have i54 := inv_I hI43 (n := 32) (t := 0) (-1) 31 rfl (in_ix i22 rfl) rfl e54
          have h54 : z54 = s.1 83 (z22).toNatClampNeg := (by rw [e54]; exact congrFun (hFc2.1 83 rfl) _)
          have i55 : In z54 0 31 := by have h9 := rt.2 (by omega); rw [← h54] at h9; exact ⟨h9, i54.2⟩
          refine g_iastore 56 (gd rfl) rfl (n := 160) rfl (in_ix i7 rfl) ?_
          have hI55 := inv_sI (q := 77) (j := y2_1.toNatClampNeg) hI43 rfl (in_w 0 31 i55 rfl)
          refine g_aload_n 57 (gd rfl) rfl rfl ?_
          refine g_getA (q2 := 78) 60 (gd rfl) rfl rfl rfl rfl ?_
          refine g_iload_n 61 (gd rfl) rfl rfl ?_
          refine g_aload_n 62 (gd rfl) rfl rfl ?_
          refine g_getA (q2 := 83) 65 (gd rfl) rfl rfl rfl rfl ?_
          refine g_iload_n 66 (gd rfl) rfl rfl ?_
          refine g_iaload 67 (gd rfl) rfl (n := 32) rfl (in_ix i15 rfl) (fun z66 e66 => ?_)
          have i66 := inv_I hI55 (n := 32) (t := 0) (-1) 31 rfl (in_ix i15 rfl) rfl e66
          have h66 : z66 = s.1 83 (z15).toNatClampNeg := (by rw [e66, sI_r rfl]; exact congrFun (hFc2.1 83 rfl) _)
          have i67 : In z66 0 31 := by have h9 := rh.2 (by omega); rw [← h66] at h9; exact ⟨h9, i66.2⟩
          refine g_iastore 68 (gd rfl) rfl (n := 160) rfl (in_ix i7 rfl) ?_
          have hI67 := inv_sI (q := 78) (j := y2_1.toNatClampNeg) hI55 rfl (in_w 0 31 i67 rfl)
          refine g_iinc 71 (gd rfl) rfl rfl (Nat.le_of_ble_eq_true rfl) (fun z68 e68 => ?_)
          have i68 := in_add 1 160 e68 i7 (in_c 1 rfl) rfl rfl
          refine g_goto 2 (gd rfl) rfl ?_
          have n2 : SHR s (sI (sI (sL sc2 79 y2_1.toNatClampNeg z42) 77 y2_1.toNatClampNeg z54) 78 y2_1.toNatClampNeg z66) (z68).toInt.toNat := by rw [show (z68).toInt.toNat = (y2_1).toInt.toNat + 1 from (by have a0 := i7a; unfold In at a0; have a1 := i7; unfold In at a1; have a2 := i22; unfold In at a2; have a3 := i15; unfold In at a3; have a4 := i68; unfold In at a4; have a5 := t_add e68 i7 (in_c 1 rfl) rfl; have a6 := (in_c 1 rfl); unfold In at a6; omega)]; exact shr_s g2_0 (by rw [sI_r rfl, sI_q]; rfl) (by rw [sI_q, sI_r rfl]; rfl) (by rw [h54, ht]) (by rw [h66, hh])
          exact gg_w (by omega) (gg_f (gf_cons rfl (gf_cons rfl gf_nil)) (ih2 (sI (sI (sL sc2 79 y2_1.toNatClampNeg z42) 77 y2_1.toNatClampNeg z54) 78 y2_1.toNatClampNeg z66) z68 hI67 (fr_sI rfl (fr_sI rfl (fr_sL rfl hFc2))) (in_w 0 160 i68 rfl) n2 (m_up mm2 (t_add e68 i7 (in_c 1 rfl) rfl) (in_w 1 1 (in_c 1 rfl) rfl))))
  refine g_enter2 (k := 185) (N := 145801) (by omega) rfl (Nat.le_of_ble_eq_true rfl) ?_
  refine g_iconst 0 1 (gd rfl) rfl rfl ?_
  refine g_istore_n 2 (gd rfl) rfl (Nat.le_of_ble_eq_true rfl) ?_
  have n2 : SHR s s ((Int32.ofInt 0)).toInt.toNat := by exact shr_0
  exact gg_w (by omega) (gg_f (gf_cons rfl (gf_cons rfl gf_nil)) (ct2 161 s (Int32.ofInt 0) hI fr_rf (in_w 0 160 (in_c 0 rfl) rfl) n2 (m_in 161 (in_w 0 160 (in_c 0 rfl) rfl) rfl)))

def fm_173_46 : FM := ([], [], [(46, 2), (46, 3), (46, 5)], [])
/-- GraphHouse$Script.readNumber -/
theorem k_173_46 {Z : AmZ} {A : Nat → Nat} {s : GS} {ex : va_W} {d : Nat} {X : AmX} {x1 : Int32} {x2 : Int32} {u_46_2 : Int32} {u_46_1 : Int32} (hd : 3 ≤ d) (hI : Inv s) (h1 : In x1 0 1) (h2 : In x2 6 7) (e_46_2 : u_46_2 = s.2.2.1 46 2) (e_46_1 : u_46_1 = s.2.2.1 46 1) (p_0 : (u_46_2).toInt + (x1).toInt + 1 ≤ (u_46_1).toInt) (q_0 : 48 ≤ (s.1 47 ((s.2.2.1 46 2).toInt + (x1).toInt).toNat).toInt ∧ (s.1 47 ((s.2.2.1 46 2).toInt + (x1).toInt).toNat).toInt ≤ 57) : GC Z d 173 [.ref (A 46), .int x1, .int x2] (WW Z A s ++ ex) 0 0 (fun v u => ∃ t : GS, Inv t ∧ Fr fm_173_46 s t ∧ ((t.2.2.1 46 2).toInt ≤ (t.2.2.1 46 1).toInt) ∧ ((s.2.2.1 46 2).toInt + 1 ≤ (t.2.2.1 46 2).toInt) ∧ v = none ∧ u = WW Z A t ++ ex ∧ ((t.2.2.1 46 3).toInt ≠ 1) ∧ ((x2).toInt = 6 → (t.2.2.1 46 3).toInt = 2 → (t.2.2.1 46 5).toInt ≤ 999999)) X := by
  intro post xp hP hX
  have ro_46_1 := inv_F hI 0 1000 rfl e_46_1
  have ct26 : ∀ (k26 : Nat) (sc26 : GS) (y26_3 : Int32) (y26_4 : Int32) (w26_46_2 : Int32), Inv sc26 → Fr fm_173_46 s sc26 → (In y26_3 0 1000) → (In y26_4 0 9999999) → (w26_46_2 = sc26.2.2.1 46 2) → ((w26_46_2).toInt ≤ (u_46_1).toInt) → ((u_46_2).toInt + (x1).toInt ≤ (w26_46_2).toInt) → ((y26_3).toInt ≤ (w26_46_2).toInt) → (0 ≤ (y26_4).toInt ∧ ((y26_3).toInt ≤ (x2).toInt → (y26_4).toInt < (10 : Int) ^ ((y26_3).toInt).toNat) ∧ ((x2).toInt < (y26_3).toInt → (y26_4).toInt < (10 : Int) ^ ((x2).toInt).toNat)) → (u_46_1).toInt - (w26_46_2).toInt < (k26 : Int) → GG Z (d - 1) 173 post (gx xp) (1 + k26 * 900) 26 (fun j => xlook j [(0, .ref (A 46)), (1, .int x1), (2, .int x2), (3, .int y26_3), (4, .int y26_4)]) [] (WW Z A sc26 ++ ex) 0 0 := by
    intro k26
    induction k26 with
    | zero => intro sc26 y26_3 y26_4 w26_46_2 hIc26 hFc26 j26_3 j26_4 v26_46_2 n26_0 n26_1 n26_2 g26_0 mm26; exfalso; have a0 := h2; unfold In at a0; have a1 := h1; unfold In at a1; have a2 := ro_46_1; unfold In at a2; have a3 := (inv_F hIc26 0 1000 rfl v26_46_2); unfold In at a3; have a4 := j26_4; unfold In at a4; have a5 := j26_3; unfold In at a5; omega
    | succ k26 ih26 =>
      intro sc26 y26_3 y26_4 w26_46_2 hIc26 hFc26 j26_3 j26_4 v26_46_2 n26_0 n26_1 n26_2 g26_0 mm26
      refine gg_w (M := 1 + k26 * 900 + 900) (by omega) ?_
      refine g_aload_n 27 (gd rfl) rfl rfl ?_
      refine g_getI 30 (gd rfl) rfl rfl rfl (fun z27 e27 => ?_)
      have q27 : w26_46_2 = z27 := (v26_46_2).trans e27.symm
      subst q27
      refine g_aload_n 31 (gd rfl) rfl rfl ?_
      refine g_getI 34 (gd rfl) rfl rfl rfl (fun z31 e31 => ?_)
      have q31 : u_46_1 = z31 := (fr_F e_46_1 hFc26 rfl).trans e31.symm
      subst q31
      refine g_cmp_ge 37 89 (gd rfl) rfl rfl (fun c34 => ?_) (fun c34 => ?_)
      · skip
        have hq89 : (u_46_2).toInt + 1 ≤ (w26_46_2).toInt := (by have a0 := h2; unfold In at a0; have a1 := h1; unfold In at a1; have a2 := ro_46_1; unfold In at a2; have a3 := (inv_F hIc26 0 1000 rfl v26_46_2); unfold In at a3; have a4 := j26_4; unfold In at a4; have a5 := j26_3; unfold In at a5; omega)
        refine g_aload_n 90 (gd rfl) rfl rfl ?_
        refine g_iload_n 91 (gd rfl) rfl rfl ?_
        refine g_if_eq 94 100 (gd rfl) rfl rfl (fun c91 => ?_) (fun c91 => ?_)
        · skip
          have i91 := z_eq 0 0 c91 h1 rfl
          refine g_iload 102 (gd rfl) rfl rfl ?_
          refine g_putI 105 (gd rfl) rfl rfl rfl rfl ?_
          have hI102 := inv_sF (q := 46) (j := 5) hIc26 rfl (in_w (-2147483648) 2147483647 j26_4 rfl)
          refine g_aload_n 106 (gd rfl) rfl rfl ?_
          refine g_iload_n 107 (gd rfl) rfl rfl ?_
          refine g_iload_n 108 (gd rfl) rfl rfl ?_
          refine g_cmp_le 111 115 (gd rfl) rfl rfl (fun c108 => ?_) (fun c108 => ?_)
          · skip
            have i108 := r_le1 0 7 c108 j26_3 h2 rfl
            refine g_iconst 2 116 (gd rfl) rfl rfl ?_
            refine g_putI 119 (gd rfl) rfl rfl rfl rfl ?_
            have hI116 := inv_sF (q := 46) (j := 3) hI102 rfl (in_w 0 5 (in_c 2 rfl) rfl)
            have n119 : ((sF (sF sc26 46 5 y26_4) 46 3 (Int32.ofInt 2)).2.2.1 46 3).toInt ≠ 1 := by rw [← (show (Int32.ofInt 2) = (sF (sF sc26 46 5 y26_4) 46 3 (Int32.ofInt 2)).2.2.1 46 3 from sF_get)]; decide
            have n119a : (x2).toInt = 6 → ((sF (sF sc26 46 5 y26_4) 46 3 (Int32.ofInt 2)).2.2.1 46 3).toInt = 2 → ((sF (sF sc26 46 5 y26_4) 46 3 (Int32.ofInt 2)).2.2.1 46 5).toInt ≤ 999999 := by intro h6 h2; rw [← (show (Int32.ofInt 2) = (sF (sF sc26 46 5 y26_4) 46 3 (Int32.ofInt 2)).2.2.1 46 3 from sF_get)] at h2; rw [← (show y26_4 = (sF (sF sc26 46 5 y26_4) 46 3 (Int32.ofInt 2)).2.2.1 46 5 from sF_ne rfl (sF_get))]; first | (exfalso; revert h2; decide) | exact dg_6 (by have a0 := h2; unfold In at a0; have a1 := i91; unfold In at a1; have a2 := ro_46_1; unfold In at a2; have a3 := (inv_F hIc26 0 1000 rfl v26_46_2); unfold In at a3; have a4 := j26_4; unfold In at a4; have a5 := i108; unfold In at a5; have a6 := (in_c 2 rfl); unfold In at a6; omega) (by have a0 := h2; unfold In at a0; have a1 := i91; unfold In at a1; have a2 := ro_46_1; unfold In at a2; have a3 := (inv_F hIc26 0 1000 rfl v26_46_2); unfold In at a3; have a4 := j26_4; unfold In at a4; have a5 := i108; unfold In at a5; have a6 := (in_c 2 rfl); unfold In at a6; omega) (g26_0.2.1 (by have a0 := h2; unfold In at a0; have a1 := i91; unfold In at a1; have a2 := ro_46_1; unfold In at a2; have a3 := (inv_F hIc26 0 1000 rfl v26_46_2); unfold In at a3; have a4 := j26_4; unfold In at a4; have a5 := i108; unfold In at a5; have a6 := (in_c 2 rfl); unfold In at a6; omega))
            have n119b : (w26_46_2).toInt ≤ (u_46_1).toInt := by have a0 := h2; unfold In at a0; have a1 := i91; unfold In at a1; have a2 := ro_46_1; unfold In at a2; have a3 := (inv_F hIc26 0 1000 rfl v26_46_2); unfold In at a3; have a4 := j26_4; unfold In at a4; have a5 := i108; unfold In at a5; have a6 := (in_c 2 rfl); unfold In at a6; omega
            have n119c : ((sF (sF sc26 46 5 y26_4) 46 3 (Int32.ofInt 2)).2.2.1 46 2).toInt ≤ ((sF (sF sc26 46 5 y26_4) 46 3 (Int32.ofInt 2)).2.2.1 46 1).toInt := by have b0 : w26_46_2 = (sF (sF sc26 46 5 y26_4) 46 3 (Int32.ofInt 2)).2.2.1 46 2 := sF_ne rfl (sF_ne rfl (v26_46_2)); have b1 : u_46_1 = (sF (sF sc26 46 5 y26_4) 46 3 (Int32.ofInt 2)).2.2.1 46 1 := sF_ne rfl (sF_ne rfl (fr_F e_46_1 hFc26 rfl)); rw [← b0, ← b1]; exact n119b
            have n119d : (u_46_2).toInt + 1 ≤ (w26_46_2).toInt := by have a0 := h2; unfold In at a0; have a1 := i91; unfold In at a1; have a2 := ro_46_1; unfold In at a2; have a3 := (inv_F hIc26 0 1000 rfl v26_46_2); unfold In at a3; have a4 := j26_4; unfold In at a4; have a5 := i108; unfold In at a5; have a6 := (in_c 2 rfl); unfold In at a6; omega
            have n119e : (s.2.2.1 46 2).toInt + 1 ≤ ((sF (sF sc26 46 5 y26_4) 46 3 (Int32.ofInt 2)).2.2.1 46 2).toInt := by have b0 : w26_46_2 = (sF (sF sc26 46 5 y26_4) 46 3 (Int32.ofInt 2)).2.2.1 46 2 := sF_ne rfl (sF_ne rfl (v26_46_2)); first | (rw [← b0, ← e_46_2]; exact n119d) | (rw [← b0]; exact n119d)
            exact g_return (gd rfl) rfl (hP _ _ ⟨(sF (sF sc26 46 5 y26_4) 46 3 (Int32.ofInt 2)), hI116, (fr_sF rfl (fr_sF rfl hFc26)), n119c, n119e, rfl, rfl, n119, n119a⟩)
          · skip
            have i108 := r_lt2 7 1000 c108 h2 j26_3 rfl
            refine g_iconst 5 112 (gd rfl) rfl rfl ?_
            refine g_goto 116 (gd rfl) rfl ?_
            refine g_putI 119 (gd rfl) rfl rfl rfl rfl ?_
            have hI116 := inv_sF (q := 46) (j := 3) hI102 rfl (in_w 0 5 (in_c 5 rfl) rfl)
            have n119 : ((sF (sF sc26 46 5 y26_4) 46 3 (Int32.ofInt 5)).2.2.1 46 3).toInt ≠ 1 := by rw [← (show (Int32.ofInt 5) = (sF (sF sc26 46 5 y26_4) 46 3 (Int32.ofInt 5)).2.2.1 46 3 from sF_get)]; decide
            have n119a : (x2).toInt = 6 → ((sF (sF sc26 46 5 y26_4) 46 3 (Int32.ofInt 5)).2.2.1 46 3).toInt = 2 → ((sF (sF sc26 46 5 y26_4) 46 3 (Int32.ofInt 5)).2.2.1 46 5).toInt ≤ 999999 := by intro h6 h2; rw [← (show (Int32.ofInt 5) = (sF (sF sc26 46 5 y26_4) 46 3 (Int32.ofInt 5)).2.2.1 46 3 from sF_get)] at h2; rw [← (show y26_4 = (sF (sF sc26 46 5 y26_4) 46 3 (Int32.ofInt 5)).2.2.1 46 5 from sF_ne rfl (sF_get))]; first | (exfalso; revert h2; decide) | exact dg_6 (by have a0 := h2; unfold In at a0; have a1 := i91; unfold In at a1; have a2 := ro_46_1; unfold In at a2; have a3 := (inv_F hIc26 0 1000 rfl v26_46_2); unfold In at a3; have a4 := j26_4; unfold In at a4; have a5 := i108; unfold In at a5; have a6 := (in_c 5 rfl); unfold In at a6; omega) (by have a0 := h2; unfold In at a0; have a1 := i91; unfold In at a1; have a2 := ro_46_1; unfold In at a2; have a3 := (inv_F hIc26 0 1000 rfl v26_46_2); unfold In at a3; have a4 := j26_4; unfold In at a4; have a5 := i108; unfold In at a5; have a6 := (in_c 5 rfl); unfold In at a6; omega) (g26_0.2.1 (by have a0 := h2; unfold In at a0; have a1 := i91; unfold In at a1; have a2 := ro_46_1; unfold In at a2; have a3 := (inv_F hIc26 0 1000 rfl v26_46_2); unfold In at a3; have a4 := j26_4; unfold In at a4; have a5 := i108; unfold In at a5; have a6 := (in_c 5 rfl); unfold In at a6; omega))
            have n119b : (w26_46_2).toInt ≤ (u_46_1).toInt := by have a0 := h2; unfold In at a0; have a1 := i91; unfold In at a1; have a2 := ro_46_1; unfold In at a2; have a3 := (inv_F hIc26 0 1000 rfl v26_46_2); unfold In at a3; have a4 := j26_4; unfold In at a4; have a5 := i108; unfold In at a5; have a6 := (in_c 5 rfl); unfold In at a6; omega
            have n119c : ((sF (sF sc26 46 5 y26_4) 46 3 (Int32.ofInt 5)).2.2.1 46 2).toInt ≤ ((sF (sF sc26 46 5 y26_4) 46 3 (Int32.ofInt 5)).2.2.1 46 1).toInt := by have b0 : w26_46_2 = (sF (sF sc26 46 5 y26_4) 46 3 (Int32.ofInt 5)).2.2.1 46 2 := sF_ne rfl (sF_ne rfl (v26_46_2)); have b1 : u_46_1 = (sF (sF sc26 46 5 y26_4) 46 3 (Int32.ofInt 5)).2.2.1 46 1 := sF_ne rfl (sF_ne rfl (fr_F e_46_1 hFc26 rfl)); rw [← b0, ← b1]; exact n119b
            have n119d : (u_46_2).toInt + 1 ≤ (w26_46_2).toInt := by have a0 := h2; unfold In at a0; have a1 := i91; unfold In at a1; have a2 := ro_46_1; unfold In at a2; have a3 := (inv_F hIc26 0 1000 rfl v26_46_2); unfold In at a3; have a4 := j26_4; unfold In at a4; have a5 := i108; unfold In at a5; have a6 := (in_c 5 rfl); unfold In at a6; omega
            have n119e : (s.2.2.1 46 2).toInt + 1 ≤ ((sF (sF sc26 46 5 y26_4) 46 3 (Int32.ofInt 5)).2.2.1 46 2).toInt := by have b0 : w26_46_2 = (sF (sF sc26 46 5 y26_4) 46 3 (Int32.ofInt 5)).2.2.1 46 2 := sF_ne rfl (sF_ne rfl (v26_46_2)); first | (rw [← b0, ← e_46_2]; exact n119d) | (rw [← b0]; exact n119d)
            exact g_return (gd rfl) rfl (hP _ _ ⟨(sF (sF sc26 46 5 y26_4) 46 3 (Int32.ofInt 5)), hI116, (fr_sF rfl (fr_sF rfl hFc26)), n119c, n119e, rfl, rfl, n119, n119a⟩)
        · skip
          have i91 := z_ne 1 1 c91 h1 rfl
          refine g_iload 96 (gd rfl) rfl rfl ?_
          refine g_ineg 97 (gd rfl) rfl (fun z96 e96 => ?_)
          have i96 := in_neg (-9999999) 0 e96 j26_4 rfl
          refine g_goto 102 (gd rfl) rfl ?_
          refine g_putI 105 (gd rfl) rfl rfl rfl rfl ?_
          have hI102 := inv_sF (q := 46) (j := 5) hIc26 rfl (in_w (-2147483648) 2147483647 i96 rfl)
          refine g_aload_n 106 (gd rfl) rfl rfl ?_
          refine g_iload_n 107 (gd rfl) rfl rfl ?_
          refine g_iload_n 108 (gd rfl) rfl rfl ?_
          refine g_cmp_le 111 115 (gd rfl) rfl rfl (fun c108 => ?_) (fun c108 => ?_)
          · skip
            have i108 := r_le1 0 7 c108 j26_3 h2 rfl
            refine g_iconst 2 116 (gd rfl) rfl rfl ?_
            refine g_putI 119 (gd rfl) rfl rfl rfl rfl ?_
            have hI116 := inv_sF (q := 46) (j := 3) hI102 rfl (in_w 0 5 (in_c 2 rfl) rfl)
            have n119 : ((sF (sF sc26 46 5 z96) 46 3 (Int32.ofInt 2)).2.2.1 46 3).toInt ≠ 1 := by rw [← (show (Int32.ofInt 2) = (sF (sF sc26 46 5 z96) 46 3 (Int32.ofInt 2)).2.2.1 46 3 from sF_get)]; decide
            have n119a : (x2).toInt = 6 → ((sF (sF sc26 46 5 z96) 46 3 (Int32.ofInt 2)).2.2.1 46 3).toInt = 2 → ((sF (sF sc26 46 5 z96) 46 3 (Int32.ofInt 2)).2.2.1 46 5).toInt ≤ 999999 := by intro h6 h2; rw [← (show (Int32.ofInt 2) = (sF (sF sc26 46 5 z96) 46 3 (Int32.ofInt 2)).2.2.1 46 3 from sF_get)] at h2; rw [← (show z96 = (sF (sF sc26 46 5 z96) 46 3 (Int32.ofInt 2)).2.2.1 46 5 from sF_ne rfl (sF_get))]; first | (exfalso; revert h2; decide) | (have a0 := h2; unfold In at a0; have a1 := i91; unfold In at a1; have a2 := ro_46_1; unfold In at a2; have a3 := (inv_F hIc26 0 1000 rfl v26_46_2); unfold In at a3; have a4 := j26_4; unfold In at a4; have a5 := i108; unfold In at a5; have a6 := (in_c 2 rfl); unfold In at a6; have a7 := i96; unfold In at a7; omega)
            have n119b : (w26_46_2).toInt ≤ (u_46_1).toInt := by have a0 := h2; unfold In at a0; have a1 := i91; unfold In at a1; have a2 := ro_46_1; unfold In at a2; have a3 := (inv_F hIc26 0 1000 rfl v26_46_2); unfold In at a3; have a4 := j26_4; unfold In at a4; have a5 := i108; unfold In at a5; have a6 := (in_c 2 rfl); unfold In at a6; have a7 := i96; unfold In at a7; omega
            have n119c : ((sF (sF sc26 46 5 z96) 46 3 (Int32.ofInt 2)).2.2.1 46 2).toInt ≤ ((sF (sF sc26 46 5 z96) 46 3 (Int32.ofInt 2)).2.2.1 46 1).toInt := by have b0 : w26_46_2 = (sF (sF sc26 46 5 z96) 46 3 (Int32.ofInt 2)).2.2.1 46 2 := sF_ne rfl (sF_ne rfl (v26_46_2)); have b1 : u_46_1 = (sF (sF sc26 46 5 z96) 46 3 (Int32.ofInt 2)).2.2.1 46 1 := sF_ne rfl (sF_ne rfl (fr_F e_46_1 hFc26 rfl)); rw [← b0, ← b1]; exact n119b
            have n119d : (u_46_2).toInt + 1 ≤ (w26_46_2).toInt := by have a0 := h2; unfold In at a0; have a1 := i91; unfold In at a1; have a2 := ro_46_1; unfold In at a2; have a3 := (inv_F hIc26 0 1000 rfl v26_46_2); unfold In at a3; have a4 := j26_4; unfold In at a4; have a5 := i108; unfold In at a5; have a6 := (in_c 2 rfl); unfold In at a6; have a7 := i96; unfold In at a7; omega
            have n119e : (s.2.2.1 46 2).toInt + 1 ≤ ((sF (sF sc26 46 5 z96) 46 3 (Int32.ofInt 2)).2.2.1 46 2).toInt := by have b0 : w26_46_2 = (sF (sF sc26 46 5 z96) 46 3 (Int32.ofInt 2)).2.2.1 46 2 := sF_ne rfl (sF_ne rfl (v26_46_2)); first | (rw [← b0, ← e_46_2]; exact n119d) | (rw [← b0]; exact n119d)
            exact g_return (gd rfl) rfl (hP _ _ ⟨(sF (sF sc26 46 5 z96) 46 3 (Int32.ofInt 2)), hI116, (fr_sF rfl (fr_sF rfl hFc26)), n119c, n119e, rfl, rfl, n119, n119a⟩)
          · skip
            have i108 := r_lt2 7 1000 c108 h2 j26_3 rfl
            refine g_iconst 5 112 (gd rfl) rfl rfl ?_
            refine g_goto 116 (gd rfl) rfl ?_
            refine g_putI 119 (gd rfl) rfl rfl rfl rfl ?_
            have hI116 := inv_sF (q := 46) (j := 3) hI102 rfl (in_w 0 5 (in_c 5 rfl) rfl)
            have n119 : ((sF (sF sc26 46 5 z96) 46 3 (Int32.ofInt 5)).2.2.1 46 3).toInt ≠ 1 := by rw [← (show (Int32.ofInt 5) = (sF (sF sc26 46 5 z96) 46 3 (Int32.ofInt 5)).2.2.1 46 3 from sF_get)]; decide
            have n119a : (x2).toInt = 6 → ((sF (sF sc26 46 5 z96) 46 3 (Int32.ofInt 5)).2.2.1 46 3).toInt = 2 → ((sF (sF sc26 46 5 z96) 46 3 (Int32.ofInt 5)).2.2.1 46 5).toInt ≤ 999999 := by intro h6 h2; rw [← (show (Int32.ofInt 5) = (sF (sF sc26 46 5 z96) 46 3 (Int32.ofInt 5)).2.2.1 46 3 from sF_get)] at h2; rw [← (show z96 = (sF (sF sc26 46 5 z96) 46 3 (Int32.ofInt 5)).2.2.1 46 5 from sF_ne rfl (sF_get))]; first | (exfalso; revert h2; decide) | (have a0 := h2; unfold In at a0; have a1 := i91; unfold In at a1; have a2 := ro_46_1; unfold In at a2; have a3 := (inv_F hIc26 0 1000 rfl v26_46_2); unfold In at a3; have a4 := j26_4; unfold In at a4; have a5 := i108; unfold In at a5; have a6 := (in_c 5 rfl); unfold In at a6; have a7 := i96; unfold In at a7; omega)
            have n119b : (w26_46_2).toInt ≤ (u_46_1).toInt := by have a0 := h2; unfold In at a0; have a1 := i91; unfold In at a1; have a2 := ro_46_1; unfold In at a2; have a3 := (inv_F hIc26 0 1000 rfl v26_46_2); unfold In at a3; have a4 := j26_4; unfold In at a4; have a5 := i108; unfold In at a5; have a6 := (in_c 5 rfl); unfold In at a6; have a7 := i96; unfold In at a7; omega
            have n119c : ((sF (sF sc26 46 5 z96) 46 3 (Int32.ofInt 5)).2.2.1 46 2).toInt ≤ ((sF (sF sc26 46 5 z96) 46 3 (Int32.ofInt 5)).2.2.1 46 1).toInt := by have b0 : w26_46_2 = (sF (sF sc26 46 5 z96) 46 3 (Int32.ofInt 5)).2.2.1 46 2 := sF_ne rfl (sF_ne rfl (v26_46_2)); have b1 : u_46_1 = (sF (sF sc26 46 5 z96) 46 3 (Int32.ofInt 5)).2.2.1 46 1 := sF_ne rfl (sF_ne rfl (fr_F e_46_1 hFc26 rfl)); rw [← b0, ← b1]; exact n119b
            have n119d : (u_46_2).toInt + 1 ≤ (w26_46_2).toInt := by have a0 := h2; unfold In at a0; have a1 := i91; unfold In at a1; have a2 := ro_46_1; unfold In at a2; have a3 := (inv_F hIc26 0 1000 rfl v26_46_2); unfold In at a3; have a4 := j26_4; unfold In at a4; have a5 := i108; unfold In at a5; have a6 := (in_c 5 rfl); unfold In at a6; have a7 := i96; unfold In at a7; omega
            have n119e : (s.2.2.1 46 2).toInt + 1 ≤ ((sF (sF sc26 46 5 z96) 46 3 (Int32.ofInt 5)).2.2.1 46 2).toInt := by have b0 : w26_46_2 = (sF (sF sc26 46 5 z96) 46 3 (Int32.ofInt 5)).2.2.1 46 2 := sF_ne rfl (sF_ne rfl (v26_46_2)); first | (rw [← b0, ← e_46_2]; exact n119d) | (rw [← b0]; exact n119d)
            exact g_return (gd rfl) rfl (hP _ _ ⟨(sF (sF sc26 46 5 z96) 46 3 (Int32.ofInt 5)), hI116, (fr_sF rfl (fr_sF rfl hFc26)), n119c, n119e, rfl, rfl, n119, n119a⟩)
      · skip
        have i34 := r_lt1 0 999 c34 (inv_F hIc26 0 1000 rfl v26_46_2) ro_46_1 rfl
        have i34a := r_lt2 1 1000 c34 (inv_F hIc26 0 1000 rfl v26_46_2) ro_46_1 rfl
        refine g_aload_n 38 (gd rfl) rfl rfl ?_
        refine g_aload_n 39 (gd rfl) rfl rfl ?_
        refine g_getI 42 (gd rfl) rfl rfl rfl (fun z39 e39 => ?_)
        have q39 : w26_46_2 = z39 := (v26_46_2).trans e39.symm
        subst q39
        refine g_callv (X := _) (As := [.int w26_46_2]) (r := []) (b := A 46) (q := 46) 45 (gd rfl) rfl rfl rfl rfl rfl (ww_o rfl) (Nat.le_of_ble_eq_true rfl) (mc := 0) (ms := 0) (Nat.zero_le _) (Nat.zero_le _) (P := fun v u => _) ?_ (fun e u h => h) (fun v u h => h)
        intro po42 xx42 hp42 hx42
        refine g_enter2 (k := 172) (N := 300) (by omega) rfl (Nat.le_of_ble_eq_true rfl) ?_
        refine g_iload_n 1 (gd rfl) rfl rfl ?_
        refine g_aload_n 2 (gd rfl) rfl rfl ?_
        refine g_getI 5 (gd rfl) rfl rfl rfl (fun z42x2 e42x2 => ?_)
        have q42x2 : u_46_1 = z42x2 := (fr_F e_46_1 hFc26 rfl).trans e42x2.symm
        subst q42x2
        refine g_cmp_ge 8 34 (gd rfl) rfl rfl (fun c42x5 => ?_) (fun c42x5 => ?_)
        · skip
          have i42x5 := r_le1 1 999 c42x5 i34a i34 rfl
          have i42x5a := r_le2 1 999 c42x5 i34a i34 rfl
          refine g_iconst 0 35 (gd rfl) rfl rfl ?_
          refine g_ireturn (gd rfl) rfl (nb01 (in_w 0 1 (in_c 0 rfl) rfl)) (hp42 _ _ ?_)
          show GG _ _ _ _ _ _ _ _ [.int (Int32.ofInt 0)] _ _ _
          refine g_if_eq 48 89 (gd rfl) rfl rfl (fun c45 => ?_) (fun c45 => ?_)
          · skip
            have hq89 : (u_46_2).toInt + 1 ≤ (w26_46_2).toInt := (by have a0 := h2; unfold In at a0; have a1 := h1; unfold In at a1; have a2 := i42x5; unfold In at a2; have a3 := i42x5a; unfold In at a3; have a4 := j26_4; unfold In at a4; have a5 := j26_3; unfold In at a5; omega)
            refine g_aload_n 90 (gd rfl) rfl rfl ?_
            refine g_iload_n 91 (gd rfl) rfl rfl ?_
            refine g_if_eq 94 100 (gd rfl) rfl rfl (fun c91 => ?_) (fun c91 => ?_)
            · skip
              have i91 := z_eq 0 0 c91 h1 rfl
              refine g_iload 102 (gd rfl) rfl rfl ?_
              refine g_putI 105 (gd rfl) rfl rfl rfl rfl ?_
              have hI102 := inv_sF (q := 46) (j := 5) hIc26 rfl (in_w (-2147483648) 2147483647 j26_4 rfl)
              refine g_aload_n 106 (gd rfl) rfl rfl ?_
              refine g_iload_n 107 (gd rfl) rfl rfl ?_
              refine g_iload_n 108 (gd rfl) rfl rfl ?_
              refine g_cmp_le 111 115 (gd rfl) rfl rfl (fun c108 => ?_) (fun c108 => ?_)
              · skip
                have i108 := r_le1 0 7 c108 j26_3 h2 rfl
                refine g_iconst 2 116 (gd rfl) rfl rfl ?_
                refine g_putI 119 (gd rfl) rfl rfl rfl rfl ?_
                have hI116 := inv_sF (q := 46) (j := 3) hI102 rfl (in_w 0 5 (in_c 2 rfl) rfl)
                have n119 : ((sF (sF sc26 46 5 y26_4) 46 3 (Int32.ofInt 2)).2.2.1 46 3).toInt ≠ 1 := by rw [← (show (Int32.ofInt 2) = (sF (sF sc26 46 5 y26_4) 46 3 (Int32.ofInt 2)).2.2.1 46 3 from sF_get)]; decide
                have n119a : (x2).toInt = 6 → ((sF (sF sc26 46 5 y26_4) 46 3 (Int32.ofInt 2)).2.2.1 46 3).toInt = 2 → ((sF (sF sc26 46 5 y26_4) 46 3 (Int32.ofInt 2)).2.2.1 46 5).toInt ≤ 999999 := by intro h6 h2; rw [← (show (Int32.ofInt 2) = (sF (sF sc26 46 5 y26_4) 46 3 (Int32.ofInt 2)).2.2.1 46 3 from sF_get)] at h2; rw [← (show y26_4 = (sF (sF sc26 46 5 y26_4) 46 3 (Int32.ofInt 2)).2.2.1 46 5 from sF_ne rfl (sF_get))]; first | (exfalso; revert h2; decide) | exact dg_6 (by have a0 := h2; unfold In at a0; have a1 := i91; unfold In at a1; have a2 := i42x5; unfold In at a2; have a3 := i42x5a; unfold In at a3; have a4 := j26_4; unfold In at a4; have a5 := i108; unfold In at a5; have a6 := (in_c 2 rfl); unfold In at a6; omega) (by have a0 := h2; unfold In at a0; have a1 := i91; unfold In at a1; have a2 := i42x5; unfold In at a2; have a3 := i42x5a; unfold In at a3; have a4 := j26_4; unfold In at a4; have a5 := i108; unfold In at a5; have a6 := (in_c 2 rfl); unfold In at a6; omega) (g26_0.2.1 (by have a0 := h2; unfold In at a0; have a1 := i91; unfold In at a1; have a2 := i42x5; unfold In at a2; have a3 := i42x5a; unfold In at a3; have a4 := j26_4; unfold In at a4; have a5 := i108; unfold In at a5; have a6 := (in_c 2 rfl); unfold In at a6; omega))
                have n119b : (w26_46_2).toInt ≤ (u_46_1).toInt := by have a0 := h2; unfold In at a0; have a1 := i91; unfold In at a1; have a2 := i42x5; unfold In at a2; have a3 := i42x5a; unfold In at a3; have a4 := j26_4; unfold In at a4; have a5 := i108; unfold In at a5; have a6 := (in_c 2 rfl); unfold In at a6; omega
                have n119c : ((sF (sF sc26 46 5 y26_4) 46 3 (Int32.ofInt 2)).2.2.1 46 2).toInt ≤ ((sF (sF sc26 46 5 y26_4) 46 3 (Int32.ofInt 2)).2.2.1 46 1).toInt := by have b0 : w26_46_2 = (sF (sF sc26 46 5 y26_4) 46 3 (Int32.ofInt 2)).2.2.1 46 2 := sF_ne rfl (sF_ne rfl (v26_46_2)); have b1 : u_46_1 = (sF (sF sc26 46 5 y26_4) 46 3 (Int32.ofInt 2)).2.2.1 46 1 := sF_ne rfl (sF_ne rfl (fr_F e_46_1 hFc26 rfl)); rw [← b0, ← b1]; exact n119b
                have n119d : (u_46_2).toInt + 1 ≤ (w26_46_2).toInt := by have a0 := h2; unfold In at a0; have a1 := i91; unfold In at a1; have a2 := i42x5; unfold In at a2; have a3 := i42x5a; unfold In at a3; have a4 := j26_4; unfold In at a4; have a5 := i108; unfold In at a5; have a6 := (in_c 2 rfl); unfold In at a6; omega
                have n119e : (s.2.2.1 46 2).toInt + 1 ≤ ((sF (sF sc26 46 5 y26_4) 46 3 (Int32.ofInt 2)).2.2.1 46 2).toInt := by have b0 : w26_46_2 = (sF (sF sc26 46 5 y26_4) 46 3 (Int32.ofInt 2)).2.2.1 46 2 := sF_ne rfl (sF_ne rfl (v26_46_2)); first | (rw [← b0, ← e_46_2]; exact n119d) | (rw [← b0]; exact n119d)
                exact g_return (gd rfl) rfl (hP _ _ ⟨(sF (sF sc26 46 5 y26_4) 46 3 (Int32.ofInt 2)), hI116, (fr_sF rfl (fr_sF rfl hFc26)), n119c, n119e, rfl, rfl, n119, n119a⟩)
              · skip
                have i108 := r_lt2 7 1000 c108 h2 j26_3 rfl
                refine g_iconst 5 112 (gd rfl) rfl rfl ?_
                refine g_goto 116 (gd rfl) rfl ?_
                refine g_putI 119 (gd rfl) rfl rfl rfl rfl ?_
                have hI116 := inv_sF (q := 46) (j := 3) hI102 rfl (in_w 0 5 (in_c 5 rfl) rfl)
                have n119 : ((sF (sF sc26 46 5 y26_4) 46 3 (Int32.ofInt 5)).2.2.1 46 3).toInt ≠ 1 := by rw [← (show (Int32.ofInt 5) = (sF (sF sc26 46 5 y26_4) 46 3 (Int32.ofInt 5)).2.2.1 46 3 from sF_get)]; decide
                have n119a : (x2).toInt = 6 → ((sF (sF sc26 46 5 y26_4) 46 3 (Int32.ofInt 5)).2.2.1 46 3).toInt = 2 → ((sF (sF sc26 46 5 y26_4) 46 3 (Int32.ofInt 5)).2.2.1 46 5).toInt ≤ 999999 := by intro h6 h2; rw [← (show (Int32.ofInt 5) = (sF (sF sc26 46 5 y26_4) 46 3 (Int32.ofInt 5)).2.2.1 46 3 from sF_get)] at h2; rw [← (show y26_4 = (sF (sF sc26 46 5 y26_4) 46 3 (Int32.ofInt 5)).2.2.1 46 5 from sF_ne rfl (sF_get))]; first | (exfalso; revert h2; decide) | exact dg_6 (by have a0 := h2; unfold In at a0; have a1 := i91; unfold In at a1; have a2 := i42x5; unfold In at a2; have a3 := i42x5a; unfold In at a3; have a4 := j26_4; unfold In at a4; have a5 := i108; unfold In at a5; have a6 := (in_c 5 rfl); unfold In at a6; omega) (by have a0 := h2; unfold In at a0; have a1 := i91; unfold In at a1; have a2 := i42x5; unfold In at a2; have a3 := i42x5a; unfold In at a3; have a4 := j26_4; unfold In at a4; have a5 := i108; unfold In at a5; have a6 := (in_c 5 rfl); unfold In at a6; omega) (g26_0.2.1 (by have a0 := h2; unfold In at a0; have a1 := i91; unfold In at a1; have a2 := i42x5; unfold In at a2; have a3 := i42x5a; unfold In at a3; have a4 := j26_4; unfold In at a4; have a5 := i108; unfold In at a5; have a6 := (in_c 5 rfl); unfold In at a6; omega))
                have n119b : (w26_46_2).toInt ≤ (u_46_1).toInt := by have a0 := h2; unfold In at a0; have a1 := i91; unfold In at a1; have a2 := i42x5; unfold In at a2; have a3 := i42x5a; unfold In at a3; have a4 := j26_4; unfold In at a4; have a5 := i108; unfold In at a5; have a6 := (in_c 5 rfl); unfold In at a6; omega
                have n119c : ((sF (sF sc26 46 5 y26_4) 46 3 (Int32.ofInt 5)).2.2.1 46 2).toInt ≤ ((sF (sF sc26 46 5 y26_4) 46 3 (Int32.ofInt 5)).2.2.1 46 1).toInt := by have b0 : w26_46_2 = (sF (sF sc26 46 5 y26_4) 46 3 (Int32.ofInt 5)).2.2.1 46 2 := sF_ne rfl (sF_ne rfl (v26_46_2)); have b1 : u_46_1 = (sF (sF sc26 46 5 y26_4) 46 3 (Int32.ofInt 5)).2.2.1 46 1 := sF_ne rfl (sF_ne rfl (fr_F e_46_1 hFc26 rfl)); rw [← b0, ← b1]; exact n119b
                have n119d : (u_46_2).toInt + 1 ≤ (w26_46_2).toInt := by have a0 := h2; unfold In at a0; have a1 := i91; unfold In at a1; have a2 := i42x5; unfold In at a2; have a3 := i42x5a; unfold In at a3; have a4 := j26_4; unfold In at a4; have a5 := i108; unfold In at a5; have a6 := (in_c 5 rfl); unfold In at a6; omega
                have n119e : (s.2.2.1 46 2).toInt + 1 ≤ ((sF (sF sc26 46 5 y26_4) 46 3 (Int32.ofInt 5)).2.2.1 46 2).toInt := by have b0 : w26_46_2 = (sF (sF sc26 46 5 y26_4) 46 3 (Int32.ofInt 5)).2.2.1 46 2 := sF_ne rfl (sF_ne rfl (v26_46_2)); first | (rw [← b0, ← e_46_2]; exact n119d) | (rw [← b0]; exact n119d)
                exact g_return (gd rfl) rfl (hP _ _ ⟨(sF (sF sc26 46 5 y26_4) 46 3 (Int32.ofInt 5)), hI116, (fr_sF rfl (fr_sF rfl hFc26)), n119c, n119e, rfl, rfl, n119, n119a⟩)
            · skip
              have i91 := z_ne 1 1 c91 h1 rfl
              refine g_iload 96 (gd rfl) rfl rfl ?_
              refine g_ineg 97 (gd rfl) rfl (fun z96 e96 => ?_)
              have i96 := in_neg (-9999999) 0 e96 j26_4 rfl
              refine g_goto 102 (gd rfl) rfl ?_
              refine g_putI 105 (gd rfl) rfl rfl rfl rfl ?_
              have hI102 := inv_sF (q := 46) (j := 5) hIc26 rfl (in_w (-2147483648) 2147483647 i96 rfl)
              refine g_aload_n 106 (gd rfl) rfl rfl ?_
              refine g_iload_n 107 (gd rfl) rfl rfl ?_
              refine g_iload_n 108 (gd rfl) rfl rfl ?_
              refine g_cmp_le 111 115 (gd rfl) rfl rfl (fun c108 => ?_) (fun c108 => ?_)
              · skip
                have i108 := r_le1 0 7 c108 j26_3 h2 rfl
                refine g_iconst 2 116 (gd rfl) rfl rfl ?_
                refine g_putI 119 (gd rfl) rfl rfl rfl rfl ?_
                have hI116 := inv_sF (q := 46) (j := 3) hI102 rfl (in_w 0 5 (in_c 2 rfl) rfl)
                have n119 : ((sF (sF sc26 46 5 z96) 46 3 (Int32.ofInt 2)).2.2.1 46 3).toInt ≠ 1 := by rw [← (show (Int32.ofInt 2) = (sF (sF sc26 46 5 z96) 46 3 (Int32.ofInt 2)).2.2.1 46 3 from sF_get)]; decide
                have n119a : (x2).toInt = 6 → ((sF (sF sc26 46 5 z96) 46 3 (Int32.ofInt 2)).2.2.1 46 3).toInt = 2 → ((sF (sF sc26 46 5 z96) 46 3 (Int32.ofInt 2)).2.2.1 46 5).toInt ≤ 999999 := by intro h6 h2; rw [← (show (Int32.ofInt 2) = (sF (sF sc26 46 5 z96) 46 3 (Int32.ofInt 2)).2.2.1 46 3 from sF_get)] at h2; rw [← (show z96 = (sF (sF sc26 46 5 z96) 46 3 (Int32.ofInt 2)).2.2.1 46 5 from sF_ne rfl (sF_get))]; first | (exfalso; revert h2; decide) | (have a0 := h2; unfold In at a0; have a1 := i91; unfold In at a1; have a2 := i42x5; unfold In at a2; have a3 := i42x5a; unfold In at a3; have a4 := j26_4; unfold In at a4; have a5 := i108; unfold In at a5; have a6 := (in_c 2 rfl); unfold In at a6; have a7 := i96; unfold In at a7; omega)
                have n119b : (w26_46_2).toInt ≤ (u_46_1).toInt := by have a0 := h2; unfold In at a0; have a1 := i91; unfold In at a1; have a2 := i42x5; unfold In at a2; have a3 := i42x5a; unfold In at a3; have a4 := j26_4; unfold In at a4; have a5 := i108; unfold In at a5; have a6 := (in_c 2 rfl); unfold In at a6; have a7 := i96; unfold In at a7; omega
                have n119c : ((sF (sF sc26 46 5 z96) 46 3 (Int32.ofInt 2)).2.2.1 46 2).toInt ≤ ((sF (sF sc26 46 5 z96) 46 3 (Int32.ofInt 2)).2.2.1 46 1).toInt := by have b0 : w26_46_2 = (sF (sF sc26 46 5 z96) 46 3 (Int32.ofInt 2)).2.2.1 46 2 := sF_ne rfl (sF_ne rfl (v26_46_2)); have b1 : u_46_1 = (sF (sF sc26 46 5 z96) 46 3 (Int32.ofInt 2)).2.2.1 46 1 := sF_ne rfl (sF_ne rfl (fr_F e_46_1 hFc26 rfl)); rw [← b0, ← b1]; exact n119b
                have n119d : (u_46_2).toInt + 1 ≤ (w26_46_2).toInt := by have a0 := h2; unfold In at a0; have a1 := i91; unfold In at a1; have a2 := i42x5; unfold In at a2; have a3 := i42x5a; unfold In at a3; have a4 := j26_4; unfold In at a4; have a5 := i108; unfold In at a5; have a6 := (in_c 2 rfl); unfold In at a6; have a7 := i96; unfold In at a7; omega
                have n119e : (s.2.2.1 46 2).toInt + 1 ≤ ((sF (sF sc26 46 5 z96) 46 3 (Int32.ofInt 2)).2.2.1 46 2).toInt := by have b0 : w26_46_2 = (sF (sF sc26 46 5 z96) 46 3 (Int32.ofInt 2)).2.2.1 46 2 := sF_ne rfl (sF_ne rfl (v26_46_2)); first | (rw [← b0, ← e_46_2]; exact n119d) | (rw [← b0]; exact n119d)
                exact g_return (gd rfl) rfl (hP _ _ ⟨(sF (sF sc26 46 5 z96) 46 3 (Int32.ofInt 2)), hI116, (fr_sF rfl (fr_sF rfl hFc26)), n119c, n119e, rfl, rfl, n119, n119a⟩)
              · skip
                have i108 := r_lt2 7 1000 c108 h2 j26_3 rfl
                refine g_iconst 5 112 (gd rfl) rfl rfl ?_
                refine g_goto 116 (gd rfl) rfl ?_
                refine g_putI 119 (gd rfl) rfl rfl rfl rfl ?_
                have hI116 := inv_sF (q := 46) (j := 3) hI102 rfl (in_w 0 5 (in_c 5 rfl) rfl)
                have n119 : ((sF (sF sc26 46 5 z96) 46 3 (Int32.ofInt 5)).2.2.1 46 3).toInt ≠ 1 := by rw [← (show (Int32.ofInt 5) = (sF (sF sc26 46 5 z96) 46 3 (Int32.ofInt 5)).2.2.1 46 3 from sF_get)]; decide
                have n119a : (x2).toInt = 6 → ((sF (sF sc26 46 5 z96) 46 3 (Int32.ofInt 5)).2.2.1 46 3).toInt = 2 → ((sF (sF sc26 46 5 z96) 46 3 (Int32.ofInt 5)).2.2.1 46 5).toInt ≤ 999999 := by intro h6 h2; rw [← (show (Int32.ofInt 5) = (sF (sF sc26 46 5 z96) 46 3 (Int32.ofInt 5)).2.2.1 46 3 from sF_get)] at h2; rw [← (show z96 = (sF (sF sc26 46 5 z96) 46 3 (Int32.ofInt 5)).2.2.1 46 5 from sF_ne rfl (sF_get))]; first | (exfalso; revert h2; decide) | (have a0 := h2; unfold In at a0; have a1 := i91; unfold In at a1; have a2 := i42x5; unfold In at a2; have a3 := i42x5a; unfold In at a3; have a4 := j26_4; unfold In at a4; have a5 := i108; unfold In at a5; have a6 := (in_c 5 rfl); unfold In at a6; have a7 := i96; unfold In at a7; omega)
                have n119b : (w26_46_2).toInt ≤ (u_46_1).toInt := by have a0 := h2; unfold In at a0; have a1 := i91; unfold In at a1; have a2 := i42x5; unfold In at a2; have a3 := i42x5a; unfold In at a3; have a4 := j26_4; unfold In at a4; have a5 := i108; unfold In at a5; have a6 := (in_c 5 rfl); unfold In at a6; have a7 := i96; unfold In at a7; omega
                have n119c : ((sF (sF sc26 46 5 z96) 46 3 (Int32.ofInt 5)).2.2.1 46 2).toInt ≤ ((sF (sF sc26 46 5 z96) 46 3 (Int32.ofInt 5)).2.2.1 46 1).toInt := by have b0 : w26_46_2 = (sF (sF sc26 46 5 z96) 46 3 (Int32.ofInt 5)).2.2.1 46 2 := sF_ne rfl (sF_ne rfl (v26_46_2)); have b1 : u_46_1 = (sF (sF sc26 46 5 z96) 46 3 (Int32.ofInt 5)).2.2.1 46 1 := sF_ne rfl (sF_ne rfl (fr_F e_46_1 hFc26 rfl)); rw [← b0, ← b1]; exact n119b
                have n119d : (u_46_2).toInt + 1 ≤ (w26_46_2).toInt := by have a0 := h2; unfold In at a0; have a1 := i91; unfold In at a1; have a2 := i42x5; unfold In at a2; have a3 := i42x5a; unfold In at a3; have a4 := j26_4; unfold In at a4; have a5 := i108; unfold In at a5; have a6 := (in_c 5 rfl); unfold In at a6; have a7 := i96; unfold In at a7; omega
                have n119e : (s.2.2.1 46 2).toInt + 1 ≤ ((sF (sF sc26 46 5 z96) 46 3 (Int32.ofInt 5)).2.2.1 46 2).toInt := by have b0 : w26_46_2 = (sF (sF sc26 46 5 z96) 46 3 (Int32.ofInt 5)).2.2.1 46 2 := sF_ne rfl (sF_ne rfl (v26_46_2)); first | (rw [← b0, ← e_46_2]; exact n119d) | (rw [← b0]; exact n119d)
                exact g_return (gd rfl) rfl (hP _ _ ⟨(sF (sF sc26 46 5 z96) 46 3 (Int32.ofInt 5)), hI116, (fr_sF rfl (fr_sF rfl hFc26)), n119c, n119e, rfl, rfl, n119, n119a⟩)
          · skip
            exact zn_ne c45 (in_c 0 rfl) rfl
        · skip
          refine g_aload_n 9 (gd rfl) rfl rfl ?_
          refine g_getA (q2 := 47) 12 (gd rfl) rfl rfl rfl rfl ?_
          refine g_iload_n 13 (gd rfl) rfl rfl ?_
          refine g_caload 14 (gd rfl) rfl (n := 1000) rfl (in_ix i34 rfl) (fun z42x13 e42x13 => ?_)
          have i42x13 := inv_I hIc26 (n := 1000) (t := 2) 0 65535 rfl (in_ix i34 rfl) rfl e42x13
          refine g_bipush 48 16 (gd rfl) rfl rfl ?_
          refine g_cmp_lt 19 34 (gd rfl) rfl rfl (fun c42x16 => ?_) (fun c42x16 => ?_)
          · skip
            have i42x16 := r_lt1 0 47 c42x16 i42x13 (in_c 48 rfl) rfl
            refine g_iconst 0 35 (gd rfl) rfl rfl ?_
            refine g_ireturn (gd rfl) rfl (nb01 (in_w 0 1 (in_c 0 rfl) rfl)) (hp42 _ _ ?_)
            show GG _ _ _ _ _ _ _ _ [.int (Int32.ofInt 0)] _ _ _
            refine g_if_eq 48 89 (gd rfl) rfl rfl (fun c45 => ?_) (fun c45 => ?_)
            · skip
              have hq89 : (u_46_2).toInt + 1 ≤ (w26_46_2).toInt := (by have c48 : (Int32.ofInt 48).toInt = 48 := (by decide); have c57 : (Int32.ofInt 57).toInt = 57 := (by decide); have hd : w26_46_2.toInt = u_46_2.toInt + x1.toInt → 48 ≤ (z42x13).toInt ∧ (z42x13).toInt ≤ 57 := (fun h => by have e0 : (w26_46_2).toNatClampNeg = ((s.2.2.1 46 2).toInt + x1.toInt).toNat := (by rw [← e_46_2]; show (w26_46_2).toInt.toNat = _; omega); rw [e42x13, e0, hFc26.1 47 rfl]; exact q_0); have a0 := h2; unfold In at a0; have a1 := h1; unfold In at a1; have a2 := i34a; unfold In at a2; have a3 := i34; unfold In at a3; have a4 := j26_4; unfold In at a4; have a5 := j26_3; unfold In at a5; omega)
              refine g_aload_n 90 (gd rfl) rfl rfl ?_
              refine g_iload_n 91 (gd rfl) rfl rfl ?_
              refine g_if_eq 94 100 (gd rfl) rfl rfl (fun c91 => ?_) (fun c91 => ?_)
              · skip
                have i91 := z_eq 0 0 c91 h1 rfl
                refine g_iload 102 (gd rfl) rfl rfl ?_
                refine g_putI 105 (gd rfl) rfl rfl rfl rfl ?_
                have hI102 := inv_sF (q := 46) (j := 5) hIc26 rfl (in_w (-2147483648) 2147483647 j26_4 rfl)
                refine g_aload_n 106 (gd rfl) rfl rfl ?_
                refine g_iload_n 107 (gd rfl) rfl rfl ?_
                refine g_iload_n 108 (gd rfl) rfl rfl ?_
                refine g_cmp_le 111 115 (gd rfl) rfl rfl (fun c108 => ?_) (fun c108 => ?_)
                · skip
                  have i108 := r_le1 0 7 c108 j26_3 h2 rfl
                  refine g_iconst 2 116 (gd rfl) rfl rfl ?_
                  refine g_putI 119 (gd rfl) rfl rfl rfl rfl ?_
                  have hI116 := inv_sF (q := 46) (j := 3) hI102 rfl (in_w 0 5 (in_c 2 rfl) rfl)
                  have n119 : ((sF (sF sc26 46 5 y26_4) 46 3 (Int32.ofInt 2)).2.2.1 46 3).toInt ≠ 1 := by rw [← (show (Int32.ofInt 2) = (sF (sF sc26 46 5 y26_4) 46 3 (Int32.ofInt 2)).2.2.1 46 3 from sF_get)]; decide
                  have n119a : (x2).toInt = 6 → ((sF (sF sc26 46 5 y26_4) 46 3 (Int32.ofInt 2)).2.2.1 46 3).toInt = 2 → ((sF (sF sc26 46 5 y26_4) 46 3 (Int32.ofInt 2)).2.2.1 46 5).toInt ≤ 999999 := by intro h6 h2; rw [← (show (Int32.ofInt 2) = (sF (sF sc26 46 5 y26_4) 46 3 (Int32.ofInt 2)).2.2.1 46 3 from sF_get)] at h2; rw [← (show y26_4 = (sF (sF sc26 46 5 y26_4) 46 3 (Int32.ofInt 2)).2.2.1 46 5 from sF_ne rfl (sF_get))]; first | (exfalso; revert h2; decide) | exact dg_6 (by have a0 := h2; unfold In at a0; have a1 := i91; unfold In at a1; have a2 := i34a; unfold In at a2; have a3 := i34; unfold In at a3; have a4 := j26_4; unfold In at a4; have a5 := i108; unfold In at a5; have a6 := (in_c 2 rfl); unfold In at a6; omega) (by have a0 := h2; unfold In at a0; have a1 := i91; unfold In at a1; have a2 := i34a; unfold In at a2; have a3 := i34; unfold In at a3; have a4 := j26_4; unfold In at a4; have a5 := i108; unfold In at a5; have a6 := (in_c 2 rfl); unfold In at a6; omega) (g26_0.2.1 (by have a0 := h2; unfold In at a0; have a1 := i91; unfold In at a1; have a2 := i34a; unfold In at a2; have a3 := i34; unfold In at a3; have a4 := j26_4; unfold In at a4; have a5 := i108; unfold In at a5; have a6 := (in_c 2 rfl); unfold In at a6; omega))
                  have n119b : (w26_46_2).toInt ≤ (u_46_1).toInt := by have a0 := h2; unfold In at a0; have a1 := i91; unfold In at a1; have a2 := i34a; unfold In at a2; have a3 := i34; unfold In at a3; have a4 := j26_4; unfold In at a4; have a5 := i108; unfold In at a5; have a6 := (in_c 2 rfl); unfold In at a6; omega
                  have n119c : ((sF (sF sc26 46 5 y26_4) 46 3 (Int32.ofInt 2)).2.2.1 46 2).toInt ≤ ((sF (sF sc26 46 5 y26_4) 46 3 (Int32.ofInt 2)).2.2.1 46 1).toInt := by have b0 : w26_46_2 = (sF (sF sc26 46 5 y26_4) 46 3 (Int32.ofInt 2)).2.2.1 46 2 := sF_ne rfl (sF_ne rfl (v26_46_2)); have b1 : u_46_1 = (sF (sF sc26 46 5 y26_4) 46 3 (Int32.ofInt 2)).2.2.1 46 1 := sF_ne rfl (sF_ne rfl (fr_F e_46_1 hFc26 rfl)); rw [← b0, ← b1]; exact n119b
                  have n119d : (u_46_2).toInt + 1 ≤ (w26_46_2).toInt := by have a0 := h2; unfold In at a0; have a1 := i91; unfold In at a1; have a2 := i34a; unfold In at a2; have a3 := i34; unfold In at a3; have a4 := j26_4; unfold In at a4; have a5 := i108; unfold In at a5; have a6 := (in_c 2 rfl); unfold In at a6; omega
                  have n119e : (s.2.2.1 46 2).toInt + 1 ≤ ((sF (sF sc26 46 5 y26_4) 46 3 (Int32.ofInt 2)).2.2.1 46 2).toInt := by have b0 : w26_46_2 = (sF (sF sc26 46 5 y26_4) 46 3 (Int32.ofInt 2)).2.2.1 46 2 := sF_ne rfl (sF_ne rfl (v26_46_2)); first | (rw [← b0, ← e_46_2]; exact n119d) | (rw [← b0]; exact n119d)
                  exact g_return (gd rfl) rfl (hP _ _ ⟨(sF (sF sc26 46 5 y26_4) 46 3 (Int32.ofInt 2)), hI116, (fr_sF rfl (fr_sF rfl hFc26)), n119c, n119e, rfl, rfl, n119, n119a⟩)
                · skip
                  have i108 := r_lt2 7 1000 c108 h2 j26_3 rfl
                  refine g_iconst 5 112 (gd rfl) rfl rfl ?_
                  refine g_goto 116 (gd rfl) rfl ?_
                  refine g_putI 119 (gd rfl) rfl rfl rfl rfl ?_
                  have hI116 := inv_sF (q := 46) (j := 3) hI102 rfl (in_w 0 5 (in_c 5 rfl) rfl)
                  have n119 : ((sF (sF sc26 46 5 y26_4) 46 3 (Int32.ofInt 5)).2.2.1 46 3).toInt ≠ 1 := by rw [← (show (Int32.ofInt 5) = (sF (sF sc26 46 5 y26_4) 46 3 (Int32.ofInt 5)).2.2.1 46 3 from sF_get)]; decide
                  have n119a : (x2).toInt = 6 → ((sF (sF sc26 46 5 y26_4) 46 3 (Int32.ofInt 5)).2.2.1 46 3).toInt = 2 → ((sF (sF sc26 46 5 y26_4) 46 3 (Int32.ofInt 5)).2.2.1 46 5).toInt ≤ 999999 := by intro h6 h2; rw [← (show (Int32.ofInt 5) = (sF (sF sc26 46 5 y26_4) 46 3 (Int32.ofInt 5)).2.2.1 46 3 from sF_get)] at h2; rw [← (show y26_4 = (sF (sF sc26 46 5 y26_4) 46 3 (Int32.ofInt 5)).2.2.1 46 5 from sF_ne rfl (sF_get))]; first | (exfalso; revert h2; decide) | exact dg_6 (by have a0 := h2; unfold In at a0; have a1 := i91; unfold In at a1; have a2 := i34a; unfold In at a2; have a3 := i34; unfold In at a3; have a4 := j26_4; unfold In at a4; have a5 := i108; unfold In at a5; have a6 := (in_c 5 rfl); unfold In at a6; omega) (by have a0 := h2; unfold In at a0; have a1 := i91; unfold In at a1; have a2 := i34a; unfold In at a2; have a3 := i34; unfold In at a3; have a4 := j26_4; unfold In at a4; have a5 := i108; unfold In at a5; have a6 := (in_c 5 rfl); unfold In at a6; omega) (g26_0.2.1 (by have a0 := h2; unfold In at a0; have a1 := i91; unfold In at a1; have a2 := i34a; unfold In at a2; have a3 := i34; unfold In at a3; have a4 := j26_4; unfold In at a4; have a5 := i108; unfold In at a5; have a6 := (in_c 5 rfl); unfold In at a6; omega))
                  have n119b : (w26_46_2).toInt ≤ (u_46_1).toInt := by have a0 := h2; unfold In at a0; have a1 := i91; unfold In at a1; have a2 := i34a; unfold In at a2; have a3 := i34; unfold In at a3; have a4 := j26_4; unfold In at a4; have a5 := i108; unfold In at a5; have a6 := (in_c 5 rfl); unfold In at a6; omega
                  have n119c : ((sF (sF sc26 46 5 y26_4) 46 3 (Int32.ofInt 5)).2.2.1 46 2).toInt ≤ ((sF (sF sc26 46 5 y26_4) 46 3 (Int32.ofInt 5)).2.2.1 46 1).toInt := by have b0 : w26_46_2 = (sF (sF sc26 46 5 y26_4) 46 3 (Int32.ofInt 5)).2.2.1 46 2 := sF_ne rfl (sF_ne rfl (v26_46_2)); have b1 : u_46_1 = (sF (sF sc26 46 5 y26_4) 46 3 (Int32.ofInt 5)).2.2.1 46 1 := sF_ne rfl (sF_ne rfl (fr_F e_46_1 hFc26 rfl)); rw [← b0, ← b1]; exact n119b
                  have n119d : (u_46_2).toInt + 1 ≤ (w26_46_2).toInt := by have a0 := h2; unfold In at a0; have a1 := i91; unfold In at a1; have a2 := i34a; unfold In at a2; have a3 := i34; unfold In at a3; have a4 := j26_4; unfold In at a4; have a5 := i108; unfold In at a5; have a6 := (in_c 5 rfl); unfold In at a6; omega
                  have n119e : (s.2.2.1 46 2).toInt + 1 ≤ ((sF (sF sc26 46 5 y26_4) 46 3 (Int32.ofInt 5)).2.2.1 46 2).toInt := by have b0 : w26_46_2 = (sF (sF sc26 46 5 y26_4) 46 3 (Int32.ofInt 5)).2.2.1 46 2 := sF_ne rfl (sF_ne rfl (v26_46_2)); first | (rw [← b0, ← e_46_2]; exact n119d) | (rw [← b0]; exact n119d)
                  exact g_return (gd rfl) rfl (hP _ _ ⟨(sF (sF sc26 46 5 y26_4) 46 3 (Int32.ofInt 5)), hI116, (fr_sF rfl (fr_sF rfl hFc26)), n119c, n119e, rfl, rfl, n119, n119a⟩)
              · skip
                have i91 := z_ne 1 1 c91 h1 rfl
                refine g_iload 96 (gd rfl) rfl rfl ?_
                refine g_ineg 97 (gd rfl) rfl (fun z96 e96 => ?_)
                have i96 := in_neg (-9999999) 0 e96 j26_4 rfl
                refine g_goto 102 (gd rfl) rfl ?_
                refine g_putI 105 (gd rfl) rfl rfl rfl rfl ?_
                have hI102 := inv_sF (q := 46) (j := 5) hIc26 rfl (in_w (-2147483648) 2147483647 i96 rfl)
                refine g_aload_n 106 (gd rfl) rfl rfl ?_
                refine g_iload_n 107 (gd rfl) rfl rfl ?_
                refine g_iload_n 108 (gd rfl) rfl rfl ?_
                refine g_cmp_le 111 115 (gd rfl) rfl rfl (fun c108 => ?_) (fun c108 => ?_)
                · skip
                  have i108 := r_le1 0 7 c108 j26_3 h2 rfl
                  refine g_iconst 2 116 (gd rfl) rfl rfl ?_
                  refine g_putI 119 (gd rfl) rfl rfl rfl rfl ?_
                  have hI116 := inv_sF (q := 46) (j := 3) hI102 rfl (in_w 0 5 (in_c 2 rfl) rfl)
                  have n119 : ((sF (sF sc26 46 5 z96) 46 3 (Int32.ofInt 2)).2.2.1 46 3).toInt ≠ 1 := by rw [← (show (Int32.ofInt 2) = (sF (sF sc26 46 5 z96) 46 3 (Int32.ofInt 2)).2.2.1 46 3 from sF_get)]; decide
                  have n119a : (x2).toInt = 6 → ((sF (sF sc26 46 5 z96) 46 3 (Int32.ofInt 2)).2.2.1 46 3).toInt = 2 → ((sF (sF sc26 46 5 z96) 46 3 (Int32.ofInt 2)).2.2.1 46 5).toInt ≤ 999999 := by intro h6 h2; rw [← (show (Int32.ofInt 2) = (sF (sF sc26 46 5 z96) 46 3 (Int32.ofInt 2)).2.2.1 46 3 from sF_get)] at h2; rw [← (show z96 = (sF (sF sc26 46 5 z96) 46 3 (Int32.ofInt 2)).2.2.1 46 5 from sF_ne rfl (sF_get))]; first | (exfalso; revert h2; decide) | (have a0 := h2; unfold In at a0; have a1 := i91; unfold In at a1; have a2 := i34a; unfold In at a2; have a3 := i34; unfold In at a3; have a4 := j26_4; unfold In at a4; have a5 := i108; unfold In at a5; have a6 := (in_c 2 rfl); unfold In at a6; have a7 := i96; unfold In at a7; omega)
                  have n119b : (w26_46_2).toInt ≤ (u_46_1).toInt := by have a0 := h2; unfold In at a0; have a1 := i91; unfold In at a1; have a2 := i34a; unfold In at a2; have a3 := i34; unfold In at a3; have a4 := j26_4; unfold In at a4; have a5 := i108; unfold In at a5; have a6 := (in_c 2 rfl); unfold In at a6; have a7 := i96; unfold In at a7; omega
                  have n119c : ((sF (sF sc26 46 5 z96) 46 3 (Int32.ofInt 2)).2.2.1 46 2).toInt ≤ ((sF (sF sc26 46 5 z96) 46 3 (Int32.ofInt 2)).2.2.1 46 1).toInt := by have b0 : w26_46_2 = (sF (sF sc26 46 5 z96) 46 3 (Int32.ofInt 2)).2.2.1 46 2 := sF_ne rfl (sF_ne rfl (v26_46_2)); have b1 : u_46_1 = (sF (sF sc26 46 5 z96) 46 3 (Int32.ofInt 2)).2.2.1 46 1 := sF_ne rfl (sF_ne rfl (fr_F e_46_1 hFc26 rfl)); rw [← b0, ← b1]; exact n119b
                  have n119d : (u_46_2).toInt + 1 ≤ (w26_46_2).toInt := by have a0 := h2; unfold In at a0; have a1 := i91; unfold In at a1; have a2 := i34a; unfold In at a2; have a3 := i34; unfold In at a3; have a4 := j26_4; unfold In at a4; have a5 := i108; unfold In at a5; have a6 := (in_c 2 rfl); unfold In at a6; have a7 := i96; unfold In at a7; omega
                  have n119e : (s.2.2.1 46 2).toInt + 1 ≤ ((sF (sF sc26 46 5 z96) 46 3 (Int32.ofInt 2)).2.2.1 46 2).toInt := by have b0 : w26_46_2 = (sF (sF sc26 46 5 z96) 46 3 (Int32.ofInt 2)).2.2.1 46 2 := sF_ne rfl (sF_ne rfl (v26_46_2)); first | (rw [← b0, ← e_46_2]; exact n119d) | (rw [← b0]; exact n119d)
                  exact g_return (gd rfl) rfl (hP _ _ ⟨(sF (sF sc26 46 5 z96) 46 3 (Int32.ofInt 2)), hI116, (fr_sF rfl (fr_sF rfl hFc26)), n119c, n119e, rfl, rfl, n119, n119a⟩)
                · skip
                  have i108 := r_lt2 7 1000 c108 h2 j26_3 rfl
                  refine g_iconst 5 112 (gd rfl) rfl rfl ?_
                  refine g_goto 116 (gd rfl) rfl ?_
                  refine g_putI 119 (gd rfl) rfl rfl rfl rfl ?_
                  have hI116 := inv_sF (q := 46) (j := 3) hI102 rfl (in_w 0 5 (in_c 5 rfl) rfl)
                  have n119 : ((sF (sF sc26 46 5 z96) 46 3 (Int32.ofInt 5)).2.2.1 46 3).toInt ≠ 1 := by rw [← (show (Int32.ofInt 5) = (sF (sF sc26 46 5 z96) 46 3 (Int32.ofInt 5)).2.2.1 46 3 from sF_get)]; decide
                  have n119a : (x2).toInt = 6 → ((sF (sF sc26 46 5 z96) 46 3 (Int32.ofInt 5)).2.2.1 46 3).toInt = 2 → ((sF (sF sc26 46 5 z96) 46 3 (Int32.ofInt 5)).2.2.1 46 5).toInt ≤ 999999 := by intro h6 h2; rw [← (show (Int32.ofInt 5) = (sF (sF sc26 46 5 z96) 46 3 (Int32.ofInt 5)).2.2.1 46 3 from sF_get)] at h2; rw [← (show z96 = (sF (sF sc26 46 5 z96) 46 3 (Int32.ofInt 5)).2.2.1 46 5 from sF_ne rfl (sF_get))]; first | (exfalso; revert h2; decide) | (have a0 := h2; unfold In at a0; have a1 := i91; unfold In at a1; have a2 := i34a; unfold In at a2; have a3 := i34; unfold In at a3; have a4 := j26_4; unfold In at a4; have a5 := i108; unfold In at a5; have a6 := (in_c 5 rfl); unfold In at a6; have a7 := i96; unfold In at a7; omega)
                  have n119b : (w26_46_2).toInt ≤ (u_46_1).toInt := by have a0 := h2; unfold In at a0; have a1 := i91; unfold In at a1; have a2 := i34a; unfold In at a2; have a3 := i34; unfold In at a3; have a4 := j26_4; unfold In at a4; have a5 := i108; unfold In at a5; have a6 := (in_c 5 rfl); unfold In at a6; have a7 := i96; unfold In at a7; omega
                  have n119c : ((sF (sF sc26 46 5 z96) 46 3 (Int32.ofInt 5)).2.2.1 46 2).toInt ≤ ((sF (sF sc26 46 5 z96) 46 3 (Int32.ofInt 5)).2.2.1 46 1).toInt := by have b0 : w26_46_2 = (sF (sF sc26 46 5 z96) 46 3 (Int32.ofInt 5)).2.2.1 46 2 := sF_ne rfl (sF_ne rfl (v26_46_2)); have b1 : u_46_1 = (sF (sF sc26 46 5 z96) 46 3 (Int32.ofInt 5)).2.2.1 46 1 := sF_ne rfl (sF_ne rfl (fr_F e_46_1 hFc26 rfl)); rw [← b0, ← b1]; exact n119b
                  have n119d : (u_46_2).toInt + 1 ≤ (w26_46_2).toInt := by have a0 := h2; unfold In at a0; have a1 := i91; unfold In at a1; have a2 := i34a; unfold In at a2; have a3 := i34; unfold In at a3; have a4 := j26_4; unfold In at a4; have a5 := i108; unfold In at a5; have a6 := (in_c 5 rfl); unfold In at a6; have a7 := i96; unfold In at a7; omega
                  have n119e : (s.2.2.1 46 2).toInt + 1 ≤ ((sF (sF sc26 46 5 z96) 46 3 (Int32.ofInt 5)).2.2.1 46 2).toInt := by have b0 : w26_46_2 = (sF (sF sc26 46 5 z96) 46 3 (Int32.ofInt 5)).2.2.1 46 2 := sF_ne rfl (sF_ne rfl (v26_46_2)); first | (rw [← b0, ← e_46_2]; exact n119d) | (rw [← b0]; exact n119d)
                  exact g_return (gd rfl) rfl (hP _ _ ⟨(sF (sF sc26 46 5 z96) 46 3 (Int32.ofInt 5)), hI116, (fr_sF rfl (fr_sF rfl hFc26)), n119c, n119e, rfl, rfl, n119, n119a⟩)
            · skip
              exact zn_ne c45 (in_c 0 rfl) rfl
          · skip
            have i42x16 := r_le2 48 65535 c42x16 (in_c 48 rfl) i42x13 rfl
            refine g_aload_n 20 (gd rfl) rfl rfl ?_
            refine g_getA (q2 := 47) 23 (gd rfl) rfl rfl rfl rfl ?_
            refine g_iload_n 24 (gd rfl) rfl rfl ?_
            refine g_caload 25 (gd rfl) rfl (n := 1000) rfl (in_ix i34 rfl) (fun z42x24 e42x24 => ?_)
            have q42x24 : z42x13 = z42x24 := (e42x13).trans e42x24.symm
            subst q42x24
            refine g_bipush 57 27 (gd rfl) rfl rfl ?_
            refine g_cmp_gt 30 34 (gd rfl) rfl rfl (fun c42x27 => ?_) (fun c42x27 => ?_)
            · skip
              have i42x27 := r_lt2 58 65535 c42x27 (in_c 57 rfl) i42x16 rfl
              refine g_iconst 0 35 (gd rfl) rfl rfl ?_
              refine g_ireturn (gd rfl) rfl (nb01 (in_w 0 1 (in_c 0 rfl) rfl)) (hp42 _ _ ?_)
              show GG _ _ _ _ _ _ _ _ [.int (Int32.ofInt 0)] _ _ _
              refine g_if_eq 48 89 (gd rfl) rfl rfl (fun c45 => ?_) (fun c45 => ?_)
              · skip
                have hq89 : (u_46_2).toInt + 1 ≤ (w26_46_2).toInt := (by have c48 : (Int32.ofInt 48).toInt = 48 := (by decide); have c57 : (Int32.ofInt 57).toInt = 57 := (by decide); have hd : w26_46_2.toInt = u_46_2.toInt + x1.toInt → 48 ≤ (z42x13).toInt ∧ (z42x13).toInt ≤ 57 := (fun h => by have e0 : (w26_46_2).toNatClampNeg = ((s.2.2.1 46 2).toInt + x1.toInt).toNat := (by rw [← e_46_2]; show (w26_46_2).toInt.toNat = _; omega); rw [e42x13, e0, hFc26.1 47 rfl]; exact q_0); have a0 := h2; unfold In at a0; have a1 := h1; unfold In at a1; have a2 := i34a; unfold In at a2; have a3 := i34; unfold In at a3; have a4 := j26_4; unfold In at a4; have a5 := j26_3; unfold In at a5; omega)
                refine g_aload_n 90 (gd rfl) rfl rfl ?_
                refine g_iload_n 91 (gd rfl) rfl rfl ?_
                refine g_if_eq 94 100 (gd rfl) rfl rfl (fun c91 => ?_) (fun c91 => ?_)
                · skip
                  have i91 := z_eq 0 0 c91 h1 rfl
                  refine g_iload 102 (gd rfl) rfl rfl ?_
                  refine g_putI 105 (gd rfl) rfl rfl rfl rfl ?_
                  have hI102 := inv_sF (q := 46) (j := 5) hIc26 rfl (in_w (-2147483648) 2147483647 j26_4 rfl)
                  refine g_aload_n 106 (gd rfl) rfl rfl ?_
                  refine g_iload_n 107 (gd rfl) rfl rfl ?_
                  refine g_iload_n 108 (gd rfl) rfl rfl ?_
                  refine g_cmp_le 111 115 (gd rfl) rfl rfl (fun c108 => ?_) (fun c108 => ?_)
                  · skip
                    have i108 := r_le1 0 7 c108 j26_3 h2 rfl
                    refine g_iconst 2 116 (gd rfl) rfl rfl ?_
                    refine g_putI 119 (gd rfl) rfl rfl rfl rfl ?_
                    have hI116 := inv_sF (q := 46) (j := 3) hI102 rfl (in_w 0 5 (in_c 2 rfl) rfl)
                    have n119 : ((sF (sF sc26 46 5 y26_4) 46 3 (Int32.ofInt 2)).2.2.1 46 3).toInt ≠ 1 := by rw [← (show (Int32.ofInt 2) = (sF (sF sc26 46 5 y26_4) 46 3 (Int32.ofInt 2)).2.2.1 46 3 from sF_get)]; decide
                    have n119a : (x2).toInt = 6 → ((sF (sF sc26 46 5 y26_4) 46 3 (Int32.ofInt 2)).2.2.1 46 3).toInt = 2 → ((sF (sF sc26 46 5 y26_4) 46 3 (Int32.ofInt 2)).2.2.1 46 5).toInt ≤ 999999 := by intro h6 h2; rw [← (show (Int32.ofInt 2) = (sF (sF sc26 46 5 y26_4) 46 3 (Int32.ofInt 2)).2.2.1 46 3 from sF_get)] at h2; rw [← (show y26_4 = (sF (sF sc26 46 5 y26_4) 46 3 (Int32.ofInt 2)).2.2.1 46 5 from sF_ne rfl (sF_get))]; first | (exfalso; revert h2; decide) | exact dg_6 (by have a0 := h2; unfold In at a0; have a1 := i91; unfold In at a1; have a2 := i34a; unfold In at a2; have a3 := i34; unfold In at a3; have a4 := j26_4; unfold In at a4; have a5 := i108; unfold In at a5; have a6 := (in_c 2 rfl); unfold In at a6; omega) (by have a0 := h2; unfold In at a0; have a1 := i91; unfold In at a1; have a2 := i34a; unfold In at a2; have a3 := i34; unfold In at a3; have a4 := j26_4; unfold In at a4; have a5 := i108; unfold In at a5; have a6 := (in_c 2 rfl); unfold In at a6; omega) (g26_0.2.1 (by have a0 := h2; unfold In at a0; have a1 := i91; unfold In at a1; have a2 := i34a; unfold In at a2; have a3 := i34; unfold In at a3; have a4 := j26_4; unfold In at a4; have a5 := i108; unfold In at a5; have a6 := (in_c 2 rfl); unfold In at a6; omega))
                    have n119b : (w26_46_2).toInt ≤ (u_46_1).toInt := by have a0 := h2; unfold In at a0; have a1 := i91; unfold In at a1; have a2 := i34a; unfold In at a2; have a3 := i34; unfold In at a3; have a4 := j26_4; unfold In at a4; have a5 := i108; unfold In at a5; have a6 := (in_c 2 rfl); unfold In at a6; omega
                    have n119c : ((sF (sF sc26 46 5 y26_4) 46 3 (Int32.ofInt 2)).2.2.1 46 2).toInt ≤ ((sF (sF sc26 46 5 y26_4) 46 3 (Int32.ofInt 2)).2.2.1 46 1).toInt := by have b0 : w26_46_2 = (sF (sF sc26 46 5 y26_4) 46 3 (Int32.ofInt 2)).2.2.1 46 2 := sF_ne rfl (sF_ne rfl (v26_46_2)); have b1 : u_46_1 = (sF (sF sc26 46 5 y26_4) 46 3 (Int32.ofInt 2)).2.2.1 46 1 := sF_ne rfl (sF_ne rfl (fr_F e_46_1 hFc26 rfl)); rw [← b0, ← b1]; exact n119b
                    have n119d : (u_46_2).toInt + 1 ≤ (w26_46_2).toInt := by have a0 := h2; unfold In at a0; have a1 := i91; unfold In at a1; have a2 := i34a; unfold In at a2; have a3 := i34; unfold In at a3; have a4 := j26_4; unfold In at a4; have a5 := i108; unfold In at a5; have a6 := (in_c 2 rfl); unfold In at a6; omega
                    have n119e : (s.2.2.1 46 2).toInt + 1 ≤ ((sF (sF sc26 46 5 y26_4) 46 3 (Int32.ofInt 2)).2.2.1 46 2).toInt := by have b0 : w26_46_2 = (sF (sF sc26 46 5 y26_4) 46 3 (Int32.ofInt 2)).2.2.1 46 2 := sF_ne rfl (sF_ne rfl (v26_46_2)); first | (rw [← b0, ← e_46_2]; exact n119d) | (rw [← b0]; exact n119d)
                    exact g_return (gd rfl) rfl (hP _ _ ⟨(sF (sF sc26 46 5 y26_4) 46 3 (Int32.ofInt 2)), hI116, (fr_sF rfl (fr_sF rfl hFc26)), n119c, n119e, rfl, rfl, n119, n119a⟩)
                  · skip
                    have i108 := r_lt2 7 1000 c108 h2 j26_3 rfl
                    refine g_iconst 5 112 (gd rfl) rfl rfl ?_
                    refine g_goto 116 (gd rfl) rfl ?_
                    refine g_putI 119 (gd rfl) rfl rfl rfl rfl ?_
                    have hI116 := inv_sF (q := 46) (j := 3) hI102 rfl (in_w 0 5 (in_c 5 rfl) rfl)
                    have n119 : ((sF (sF sc26 46 5 y26_4) 46 3 (Int32.ofInt 5)).2.2.1 46 3).toInt ≠ 1 := by rw [← (show (Int32.ofInt 5) = (sF (sF sc26 46 5 y26_4) 46 3 (Int32.ofInt 5)).2.2.1 46 3 from sF_get)]; decide
                    have n119a : (x2).toInt = 6 → ((sF (sF sc26 46 5 y26_4) 46 3 (Int32.ofInt 5)).2.2.1 46 3).toInt = 2 → ((sF (sF sc26 46 5 y26_4) 46 3 (Int32.ofInt 5)).2.2.1 46 5).toInt ≤ 999999 := by intro h6 h2; rw [← (show (Int32.ofInt 5) = (sF (sF sc26 46 5 y26_4) 46 3 (Int32.ofInt 5)).2.2.1 46 3 from sF_get)] at h2; rw [← (show y26_4 = (sF (sF sc26 46 5 y26_4) 46 3 (Int32.ofInt 5)).2.2.1 46 5 from sF_ne rfl (sF_get))]; first | (exfalso; revert h2; decide) | exact dg_6 (by have a0 := h2; unfold In at a0; have a1 := i91; unfold In at a1; have a2 := i34a; unfold In at a2; have a3 := i34; unfold In at a3; have a4 := j26_4; unfold In at a4; have a5 := i108; unfold In at a5; have a6 := (in_c 5 rfl); unfold In at a6; omega) (by have a0 := h2; unfold In at a0; have a1 := i91; unfold In at a1; have a2 := i34a; unfold In at a2; have a3 := i34; unfold In at a3; have a4 := j26_4; unfold In at a4; have a5 := i108; unfold In at a5; have a6 := (in_c 5 rfl); unfold In at a6; omega) (g26_0.2.1 (by have a0 := h2; unfold In at a0; have a1 := i91; unfold In at a1; have a2 := i34a; unfold In at a2; have a3 := i34; unfold In at a3; have a4 := j26_4; unfold In at a4; have a5 := i108; unfold In at a5; have a6 := (in_c 5 rfl); unfold In at a6; omega))
                    have n119b : (w26_46_2).toInt ≤ (u_46_1).toInt := by have a0 := h2; unfold In at a0; have a1 := i91; unfold In at a1; have a2 := i34a; unfold In at a2; have a3 := i34; unfold In at a3; have a4 := j26_4; unfold In at a4; have a5 := i108; unfold In at a5; have a6 := (in_c 5 rfl); unfold In at a6; omega
                    have n119c : ((sF (sF sc26 46 5 y26_4) 46 3 (Int32.ofInt 5)).2.2.1 46 2).toInt ≤ ((sF (sF sc26 46 5 y26_4) 46 3 (Int32.ofInt 5)).2.2.1 46 1).toInt := by have b0 : w26_46_2 = (sF (sF sc26 46 5 y26_4) 46 3 (Int32.ofInt 5)).2.2.1 46 2 := sF_ne rfl (sF_ne rfl (v26_46_2)); have b1 : u_46_1 = (sF (sF sc26 46 5 y26_4) 46 3 (Int32.ofInt 5)).2.2.1 46 1 := sF_ne rfl (sF_ne rfl (fr_F e_46_1 hFc26 rfl)); rw [← b0, ← b1]; exact n119b
                    have n119d : (u_46_2).toInt + 1 ≤ (w26_46_2).toInt := by have a0 := h2; unfold In at a0; have a1 := i91; unfold In at a1; have a2 := i34a; unfold In at a2; have a3 := i34; unfold In at a3; have a4 := j26_4; unfold In at a4; have a5 := i108; unfold In at a5; have a6 := (in_c 5 rfl); unfold In at a6; omega
                    have n119e : (s.2.2.1 46 2).toInt + 1 ≤ ((sF (sF sc26 46 5 y26_4) 46 3 (Int32.ofInt 5)).2.2.1 46 2).toInt := by have b0 : w26_46_2 = (sF (sF sc26 46 5 y26_4) 46 3 (Int32.ofInt 5)).2.2.1 46 2 := sF_ne rfl (sF_ne rfl (v26_46_2)); first | (rw [← b0, ← e_46_2]; exact n119d) | (rw [← b0]; exact n119d)
                    exact g_return (gd rfl) rfl (hP _ _ ⟨(sF (sF sc26 46 5 y26_4) 46 3 (Int32.ofInt 5)), hI116, (fr_sF rfl (fr_sF rfl hFc26)), n119c, n119e, rfl, rfl, n119, n119a⟩)
                · skip
                  have i91 := z_ne 1 1 c91 h1 rfl
                  refine g_iload 96 (gd rfl) rfl rfl ?_
                  refine g_ineg 97 (gd rfl) rfl (fun z96 e96 => ?_)
                  have i96 := in_neg (-9999999) 0 e96 j26_4 rfl
                  refine g_goto 102 (gd rfl) rfl ?_
                  refine g_putI 105 (gd rfl) rfl rfl rfl rfl ?_
                  have hI102 := inv_sF (q := 46) (j := 5) hIc26 rfl (in_w (-2147483648) 2147483647 i96 rfl)
                  refine g_aload_n 106 (gd rfl) rfl rfl ?_
                  refine g_iload_n 107 (gd rfl) rfl rfl ?_
                  refine g_iload_n 108 (gd rfl) rfl rfl ?_
                  refine g_cmp_le 111 115 (gd rfl) rfl rfl (fun c108 => ?_) (fun c108 => ?_)
                  · skip
                    have i108 := r_le1 0 7 c108 j26_3 h2 rfl
                    refine g_iconst 2 116 (gd rfl) rfl rfl ?_
                    refine g_putI 119 (gd rfl) rfl rfl rfl rfl ?_
                    have hI116 := inv_sF (q := 46) (j := 3) hI102 rfl (in_w 0 5 (in_c 2 rfl) rfl)
                    have n119 : ((sF (sF sc26 46 5 z96) 46 3 (Int32.ofInt 2)).2.2.1 46 3).toInt ≠ 1 := by rw [← (show (Int32.ofInt 2) = (sF (sF sc26 46 5 z96) 46 3 (Int32.ofInt 2)).2.2.1 46 3 from sF_get)]; decide
                    have n119a : (x2).toInt = 6 → ((sF (sF sc26 46 5 z96) 46 3 (Int32.ofInt 2)).2.2.1 46 3).toInt = 2 → ((sF (sF sc26 46 5 z96) 46 3 (Int32.ofInt 2)).2.2.1 46 5).toInt ≤ 999999 := by intro h6 h2; rw [← (show (Int32.ofInt 2) = (sF (sF sc26 46 5 z96) 46 3 (Int32.ofInt 2)).2.2.1 46 3 from sF_get)] at h2; rw [← (show z96 = (sF (sF sc26 46 5 z96) 46 3 (Int32.ofInt 2)).2.2.1 46 5 from sF_ne rfl (sF_get))]; first | (exfalso; revert h2; decide) | (have a0 := h2; unfold In at a0; have a1 := i91; unfold In at a1; have a2 := i34a; unfold In at a2; have a3 := i34; unfold In at a3; have a4 := j26_4; unfold In at a4; have a5 := i108; unfold In at a5; have a6 := (in_c 2 rfl); unfold In at a6; have a7 := i96; unfold In at a7; omega)
                    have n119b : (w26_46_2).toInt ≤ (u_46_1).toInt := by have a0 := h2; unfold In at a0; have a1 := i91; unfold In at a1; have a2 := i34a; unfold In at a2; have a3 := i34; unfold In at a3; have a4 := j26_4; unfold In at a4; have a5 := i108; unfold In at a5; have a6 := (in_c 2 rfl); unfold In at a6; have a7 := i96; unfold In at a7; omega
                    have n119c : ((sF (sF sc26 46 5 z96) 46 3 (Int32.ofInt 2)).2.2.1 46 2).toInt ≤ ((sF (sF sc26 46 5 z96) 46 3 (Int32.ofInt 2)).2.2.1 46 1).toInt := by have b0 : w26_46_2 = (sF (sF sc26 46 5 z96) 46 3 (Int32.ofInt 2)).2.2.1 46 2 := sF_ne rfl (sF_ne rfl (v26_46_2)); have b1 : u_46_1 = (sF (sF sc26 46 5 z96) 46 3 (Int32.ofInt 2)).2.2.1 46 1 := sF_ne rfl (sF_ne rfl (fr_F e_46_1 hFc26 rfl)); rw [← b0, ← b1]; exact n119b
                    have n119d : (u_46_2).toInt + 1 ≤ (w26_46_2).toInt := by have a0 := h2; unfold In at a0; have a1 := i91; unfold In at a1; have a2 := i34a; unfold In at a2; have a3 := i34; unfold In at a3; have a4 := j26_4; unfold In at a4; have a5 := i108; unfold In at a5; have a6 := (in_c 2 rfl); unfold In at a6; have a7 := i96; unfold In at a7; omega
                    have n119e : (s.2.2.1 46 2).toInt + 1 ≤ ((sF (sF sc26 46 5 z96) 46 3 (Int32.ofInt 2)).2.2.1 46 2).toInt := by have b0 : w26_46_2 = (sF (sF sc26 46 5 z96) 46 3 (Int32.ofInt 2)).2.2.1 46 2 := sF_ne rfl (sF_ne rfl (v26_46_2)); first | (rw [← b0, ← e_46_2]; exact n119d) | (rw [← b0]; exact n119d)
                    exact g_return (gd rfl) rfl (hP _ _ ⟨(sF (sF sc26 46 5 z96) 46 3 (Int32.ofInt 2)), hI116, (fr_sF rfl (fr_sF rfl hFc26)), n119c, n119e, rfl, rfl, n119, n119a⟩)
                  · skip
                    have i108 := r_lt2 7 1000 c108 h2 j26_3 rfl
                    refine g_iconst 5 112 (gd rfl) rfl rfl ?_
                    refine g_goto 116 (gd rfl) rfl ?_
                    refine g_putI 119 (gd rfl) rfl rfl rfl rfl ?_
                    have hI116 := inv_sF (q := 46) (j := 3) hI102 rfl (in_w 0 5 (in_c 5 rfl) rfl)
                    have n119 : ((sF (sF sc26 46 5 z96) 46 3 (Int32.ofInt 5)).2.2.1 46 3).toInt ≠ 1 := by rw [← (show (Int32.ofInt 5) = (sF (sF sc26 46 5 z96) 46 3 (Int32.ofInt 5)).2.2.1 46 3 from sF_get)]; decide
                    have n119a : (x2).toInt = 6 → ((sF (sF sc26 46 5 z96) 46 3 (Int32.ofInt 5)).2.2.1 46 3).toInt = 2 → ((sF (sF sc26 46 5 z96) 46 3 (Int32.ofInt 5)).2.2.1 46 5).toInt ≤ 999999 := by intro h6 h2; rw [← (show (Int32.ofInt 5) = (sF (sF sc26 46 5 z96) 46 3 (Int32.ofInt 5)).2.2.1 46 3 from sF_get)] at h2; rw [← (show z96 = (sF (sF sc26 46 5 z96) 46 3 (Int32.ofInt 5)).2.2.1 46 5 from sF_ne rfl (sF_get))]; first | (exfalso; revert h2; decide) | (have a0 := h2; unfold In at a0; have a1 := i91; unfold In at a1; have a2 := i34a; unfold In at a2; have a3 := i34; unfold In at a3; have a4 := j26_4; unfold In at a4; have a5 := i108; unfold In at a5; have a6 := (in_c 5 rfl); unfold In at a6; have a7 := i96; unfold In at a7; omega)
                    have n119b : (w26_46_2).toInt ≤ (u_46_1).toInt := by have a0 := h2; unfold In at a0; have a1 := i91; unfold In at a1; have a2 := i34a; unfold In at a2; have a3 := i34; unfold In at a3; have a4 := j26_4; unfold In at a4; have a5 := i108; unfold In at a5; have a6 := (in_c 5 rfl); unfold In at a6; have a7 := i96; unfold In at a7; omega
                    have n119c : ((sF (sF sc26 46 5 z96) 46 3 (Int32.ofInt 5)).2.2.1 46 2).toInt ≤ ((sF (sF sc26 46 5 z96) 46 3 (Int32.ofInt 5)).2.2.1 46 1).toInt := by have b0 : w26_46_2 = (sF (sF sc26 46 5 z96) 46 3 (Int32.ofInt 5)).2.2.1 46 2 := sF_ne rfl (sF_ne rfl (v26_46_2)); have b1 : u_46_1 = (sF (sF sc26 46 5 z96) 46 3 (Int32.ofInt 5)).2.2.1 46 1 := sF_ne rfl (sF_ne rfl (fr_F e_46_1 hFc26 rfl)); rw [← b0, ← b1]; exact n119b
                    have n119d : (u_46_2).toInt + 1 ≤ (w26_46_2).toInt := by have a0 := h2; unfold In at a0; have a1 := i91; unfold In at a1; have a2 := i34a; unfold In at a2; have a3 := i34; unfold In at a3; have a4 := j26_4; unfold In at a4; have a5 := i108; unfold In at a5; have a6 := (in_c 5 rfl); unfold In at a6; have a7 := i96; unfold In at a7; omega
                    have n119e : (s.2.2.1 46 2).toInt + 1 ≤ ((sF (sF sc26 46 5 z96) 46 3 (Int32.ofInt 5)).2.2.1 46 2).toInt := by have b0 : w26_46_2 = (sF (sF sc26 46 5 z96) 46 3 (Int32.ofInt 5)).2.2.1 46 2 := sF_ne rfl (sF_ne rfl (v26_46_2)); first | (rw [← b0, ← e_46_2]; exact n119d) | (rw [← b0]; exact n119d)
                    exact g_return (gd rfl) rfl (hP _ _ ⟨(sF (sF sc26 46 5 z96) 46 3 (Int32.ofInt 5)), hI116, (fr_sF rfl (fr_sF rfl hFc26)), n119c, n119e, rfl, rfl, n119, n119a⟩)
              · skip
                exact zn_ne c45 (in_c 0 rfl) rfl
            · skip
              have i42x27 := r_le1 48 57 c42x27 i42x16 (in_c 57 rfl) rfl
              refine g_iconst 1 31 (gd rfl) rfl rfl ?_
              refine g_goto 35 (gd rfl) rfl ?_
              refine g_ireturn (gd rfl) rfl (nb01 (in_w 0 1 (in_c 1 rfl) rfl)) (hp42 _ _ ?_)
              show GG _ _ _ _ _ _ _ _ [.int (Int32.ofInt 1)] _ _ _
              refine g_if_eq 48 89 (gd rfl) rfl rfl (fun c45 => ?_) (fun c45 => ?_)
              · skip
                exact zn_eq c45 (in_c 1 rfl) rfl
              · skip
                refine g_iinc 51 (gd rfl) rfl rfl (Nat.le_of_ble_eq_true rfl) (fun z48 e48 => ?_)
                have i48 := in_add 1 1001 e48 j26_3 (in_c 1 rfl) rfl rfl
                refine g_iload_n 52 (gd rfl) rfl rfl ?_
                refine g_iload_n 53 (gd rfl) rfl rfl ?_
                refine g_cmp_gt 56 76 (gd rfl) rfl rfl (fun c53 => ?_) (fun c53 => ?_)
                · skip
                  have i53 := r_lt2 7 1001 c53 h2 i48 rfl
                  refine g_aload_n 77 (gd rfl) rfl rfl ?_
                  refine g_dup 78 (gd rfl) rfl rfl ?_
                  refine g_getI 81 (gd rfl) rfl rfl rfl (fun z78 e78 => ?_)
                  have q78 : w26_46_2 = z78 := (v26_46_2).trans e78.symm
                  subst q78
                  refine g_iconst 1 82 (gd rfl) rfl rfl ?_
                  refine g_iadd 83 (gd rfl) rfl (fun z82 e82 => ?_)
                  have i82 := in_add 1 1000 e82 i34 (in_c 1 rfl) rfl rfl
                  refine g_putI 86 (gd rfl) rfl rfl rfl rfl ?_
                  have hI83 := inv_sF (q := 46) (j := 2) hIc26 rfl (in_w 0 1000 i82 rfl)
                  refine g_goto 26 (gd rfl) rfl ?_
                  have i26 : In z48 0 1000 := by exact ⟨by have a0 := h2; unfold In at a0; have a1 := h1; unfold In at a1; have a2 := i34a; unfold In at a2; have a3 := i34; unfold In at a3; have a4 := j26_4; unfold In at a4; have a5 := j26_3; unfold In at a5; have a6 := i53; unfold In at a6; have a7 := t_add e48 j26_3 (in_c 1 rfl) rfl; have a8 := (in_c 1 rfl); unfold In at a8; have a9 := i82; unfold In at a9; have a10 := t_add e82 i34 (in_c 1 rfl) rfl; omega, by have a0 := h2; unfold In at a0; have a1 := h1; unfold In at a1; have a2 := i34a; unfold In at a2; have a3 := i34; unfold In at a3; have a4 := j26_4; unfold In at a4; have a5 := j26_3; unfold In at a5; have a6 := i53; unfold In at a6; have a7 := t_add e48 j26_3 (in_c 1 rfl) rfl; have a8 := (in_c 1 rfl); unfold In at a8; have a9 := i82; unfold In at a9; have a10 := t_add e82 i34 (in_c 1 rfl) rfl; omega⟩
                  have v26 : z82 = (sF sc26 46 2 z82).2.2.1 46 2 := sF_get
                  have n26 : (z82).toInt ≤ (u_46_1).toInt := by have a0 := h2; unfold In at a0; have a1 := h1; unfold In at a1; have a2 := i34a; unfold In at a2; have a3 := i34; unfold In at a3; have a4 := j26_4; unfold In at a4; have a5 := j26_3; unfold In at a5; have a6 := i26; unfold In at a6; have a7 := t_add e48 j26_3 (in_c 1 rfl) rfl; have a8 := (in_c 1 rfl); unfold In at a8; have a9 := i82; unfold In at a9; have a10 := t_add e82 i34 (in_c 1 rfl) rfl; omega
                  have n26a : (u_46_2).toInt + (x1).toInt ≤ (z82).toInt := by have a0 := h2; unfold In at a0; have a1 := h1; unfold In at a1; have a2 := i34a; unfold In at a2; have a3 := i34; unfold In at a3; have a4 := j26_4; unfold In at a4; have a5 := j26_3; unfold In at a5; have a6 := i26; unfold In at a6; have a7 := t_add e48 j26_3 (in_c 1 rfl) rfl; have a8 := (in_c 1 rfl); unfold In at a8; have a9 := i82; unfold In at a9; have a10 := t_add e82 i34 (in_c 1 rfl) rfl; omega
                  have n26b : (z48).toInt ≤ (z82).toInt := by have a0 := h2; unfold In at a0; have a1 := h1; unfold In at a1; have a2 := i34a; unfold In at a2; have a3 := i34; unfold In at a3; have a4 := j26_4; unfold In at a4; have a5 := j26_3; unfold In at a5; have a6 := i26; unfold In at a6; have a7 := t_add e48 j26_3 (in_c 1 rfl) rfl; have a8 := (in_c 1 rfl); unfold In at a8; have a9 := i82; unfold In at a9; have a10 := t_add e82 i34 (in_c 1 rfl) rfl; omega
                  have n26c : 0 ≤ (y26_4).toInt ∧ ((z48).toInt ≤ (x2).toInt → (y26_4).toInt < (10 : Int) ^ ((z48).toInt).toNat) ∧ ((x2).toInt < (z48).toInt → (y26_4).toInt < (10 : Int) ^ ((x2).toInt).toNat) := by exact ⟨g26_0.1, fun h => absurd h (by have a0 := h2; unfold In at a0; have a1 := h1; unfold In at a1; have a2 := i34a; unfold In at a2; have a3 := i34; unfold In at a3; have a4 := j26_4; unfold In at a4; have a5 := j26_3; unfold In at a5; have a6 := i26; unfold In at a6; have a7 := t_add e48 j26_3 (in_c 1 rfl) rfl; have a8 := (in_c 1 rfl); unfold In at a8; have a9 := i82; unfold In at a9; have a10 := t_add e82 i34 (in_c 1 rfl) rfl; omega), fun _ => (Int.lt_or_le (x2).toInt (y26_3).toInt).elim g26_0.2.2 (fun hh => by have e7 : y26_3.toInt = x2.toInt := (by have a0 := h2; unfold In at a0; have a1 := h1; unfold In at a1; have a2 := i34a; unfold In at a2; have a3 := i34; unfold In at a3; have a4 := j26_4; unfold In at a4; have a5 := j26_3; unfold In at a5; have a6 := i26; unfold In at a6; have a7 := t_add e48 j26_3 (in_c 1 rfl) rfl; have a8 := (in_c 1 rfl); unfold In at a8; have a9 := i82; unfold In at a9; have a10 := t_add e82 i34 (in_c 1 rfl) rfl; omega); rw [← e7]; exact g26_0.2.1 hh)⟩
                  have m26 : (u_46_1).toInt - (z82).toInt < ((k26 : Nat) : Int) := by have a0 := h2; unfold In at a0; have a1 := h1; unfold In at a1; have a2 := i34a; unfold In at a2; have a3 := i34; unfold In at a3; have a4 := j26_4; unfold In at a4; have a5 := j26_3; unfold In at a5; have a6 := i26; unfold In at a6; have a7 := t_add e48 j26_3 (in_c 1 rfl) rfl; have a8 := (in_c 1 rfl); unfold In at a8; have a9 := i82; unfold In at a9; have a10 := t_add e82 i34 (in_c 1 rfl) rfl; omega
                  exact gg_w (by omega) (gg_f (gf_cons rfl (gf_cons rfl (gf_cons rfl (gf_cons rfl (gf_cons rfl gf_nil))))) (ih26  (sF sc26 46 2 z82) z48 y26_4 z82 hI83 (fr_sF rfl hFc26) i26 (in_w 0 9999999 j26_4 rfl) v26 n26 n26a n26b n26c m26))
                · skip
                  have i53 := r_le1 1 7 c53 i48 h2 rfl
                  refine g_iload 58 (gd rfl) rfl rfl ?_
                  refine g_bipush 10 60 (gd rfl) rfl rfl ?_
                  refine g_imul 61 (gd rfl) rfl (fun z60 e60 => ?_)
                  have i60 := in_mulc 10 0 99999990 (Or.inr e60) j26_4 rfl rfl
                  refine g_aload_n 62 (gd rfl) rfl rfl ?_
                  refine g_getA (q2 := 47) 65 (gd rfl) rfl rfl rfl rfl ?_
                  refine g_aload_n 66 (gd rfl) rfl rfl ?_
                  refine g_getI 69 (gd rfl) rfl rfl rfl (fun z66 e66 => ?_)
                  have q66 : w26_46_2 = z66 := (v26_46_2).trans e66.symm
                  subst q66
                  refine g_caload 70 (gd rfl) rfl (n := 1000) rfl (in_ix i34 rfl) (fun z69 e69 => ?_)
                  have q69 : z42x13 = z69 := (e42x13).trans e69.symm
                  subst q69
                  refine g_bipush 48 72 (gd rfl) rfl rfl ?_
                  refine g_isub 73 (gd rfl) rfl (fun z72 e72 => ?_)
                  have i72 := in_sub 0 9 e72 i42x27 (in_c 48 rfl) rfl rfl
                  refine g_iadd 74 (gd rfl) rfl (fun z73 e73 => ?_)
                  have i73 := in_add 0 99999999 e73 i60 i72 rfl rfl
                  have hq := dg_st (a := y26_4.toInt) (d := z72.toInt) (n := y26_3.toInt) (by have a0 := h2; unfold In at a0; have a1 := h1; unfold In at a1; have a2 := i34a; unfold In at a2; have a3 := i34; unfold In at a3; have a4 := j26_4; unfold In at a4; have a5 := j26_3; unfold In at a5; have a6 := i53; unfold In at a6; have a7 := t_add e48 j26_3 (in_c 1 rfl) rfl; have a8 := (in_c 1 rfl); unfold In at a8; have a9 := i73; unfold In at a9; have a10 := t_add e73 i60 i72 rfl; have a11 := i72; unfold In at a11; have a12 := t_sub e72 i42x27 (in_c 48 rfl) rfl; have a13 := (in_c 48 rfl); unfold In at a13; have a14 := i42x27; unfold In at a14; have a15 := i60; unfold In at a15; have a16 := (t_mulc 10 (Or.inr e60) j26_4 rfl).1; omega) g26_0.1 (g26_0.2.1 (by have a0 := h2; unfold In at a0; have a1 := h1; unfold In at a1; have a2 := i34a; unfold In at a2; have a3 := i34; unfold In at a3; have a4 := j26_4; unfold In at a4; have a5 := j26_3; unfold In at a5; have a6 := i53; unfold In at a6; have a7 := t_add e48 j26_3 (in_c 1 rfl) rfl; have a8 := (in_c 1 rfl); unfold In at a8; have a9 := i73; unfold In at a9; have a10 := t_add e73 i60 i72 rfl; have a11 := i72; unfold In at a11; have a12 := t_sub e72 i42x27 (in_c 48 rfl) rfl; have a13 := (in_c 48 rfl); unfold In at a13; have a14 := i42x27; unfold In at a14; have a15 := i60; unfold In at a15; have a16 := (t_mulc 10 (Or.inr e60) j26_4 rfl).1; omega)) (by have a0 := h2; unfold In at a0; have a1 := h1; unfold In at a1; have a2 := i34a; unfold In at a2; have a3 := i34; unfold In at a3; have a4 := j26_4; unfold In at a4; have a5 := j26_3; unfold In at a5; have a6 := i53; unfold In at a6; have a7 := t_add e48 j26_3 (in_c 1 rfl) rfl; have a8 := (in_c 1 rfl); unfold In at a8; have a9 := i73; unfold In at a9; have a10 := t_add e73 i60 i72 rfl; have a11 := i72; unfold In at a11; have a12 := t_sub e72 i42x27 (in_c 48 rfl) rfl; have a13 := (in_c 48 rfl); unfold In at a13; have a14 := i42x27; unfold In at a14; have a15 := i60; unfold In at a15; have a16 := (t_mulc 10 (Or.inr e60) j26_4 rfl).1; omega)
                  have iq : In z73 0 9999999 := (by have e7 : z73.toInt = y26_4.toInt * 10 + z72.toInt := (by have a0 := h2; unfold In at a0; have a1 := h1; unfold In at a1; have a2 := i34a; unfold In at a2; have a3 := i34; unfold In at a3; have a4 := j26_4; unfold In at a4; have a5 := j26_3; unfold In at a5; have a6 := i53; unfold In at a6; have a7 := t_add e48 j26_3 (in_c 1 rfl) rfl; have a8 := (in_c 1 rfl); unfold In at a8; have a9 := i73; unfold In at a9; have a10 := t_add e73 i60 i72 rfl; have a11 := i72; unfold In at a11; have a12 := t_sub e72 i42x27 (in_c 48 rfl) rfl; have a13 := (in_c 48 rfl); unfold In at a13; have a14 := i42x27; unfold In at a14; have a15 := i60; unfold In at a15; have a16 := (t_mulc 10 (Or.inr e60) j26_4 rfl).1; omega); have h7 := dg_7 (n := y26_3.toInt + 1) (by have a0 := h2; unfold In at a0; have a1 := h1; unfold In at a1; have a2 := i34a; unfold In at a2; have a3 := i34; unfold In at a3; have a4 := j26_4; unfold In at a4; have a5 := j26_3; unfold In at a5; have a6 := i53; unfold In at a6; have a7 := t_add e48 j26_3 (in_c 1 rfl) rfl; have a8 := (in_c 1 rfl); unfold In at a8; have a9 := i73; unfold In at a9; have a10 := t_add e73 i60 i72 rfl; have a11 := i72; unfold In at a11; have a12 := t_sub e72 i42x27 (in_c 48 rfl) rfl; have a13 := (in_c 48 rfl); unfold In at a13; have a14 := i42x27; unfold In at a14; have a15 := i60; unfold In at a15; have a16 := (t_mulc 10 (Or.inr e60) j26_4 rfl).1; omega) (by have a0 := h2; unfold In at a0; have a1 := h1; unfold In at a1; have a2 := i34a; unfold In at a2; have a3 := i34; unfold In at a3; have a4 := j26_4; unfold In at a4; have a5 := j26_3; unfold In at a5; have a6 := i53; unfold In at a6; have a7 := t_add e48 j26_3 (in_c 1 rfl) rfl; have a8 := (in_c 1 rfl); unfold In at a8; have a9 := i73; unfold In at a9; have a10 := t_add e73 i60 i72 rfl; have a11 := i72; unfold In at a11; have a12 := t_sub e72 i42x27 (in_c 48 rfl) rfl; have a13 := (in_c 48 rfl); unfold In at a13; have a14 := i42x27; unfold In at a14; have a15 := i60; unfold In at a15; have a16 := (t_mulc 10 (Or.inr e60) j26_4 rfl).1; omega) hq.2; exact ⟨by rw [e7]; exact hq.1, by rw [e7]; exact h7⟩)
                  have i74 : In z73 0 9999999 := by exact iq
                  refine g_istore 76 (gd rfl) rfl (Nat.le_of_ble_eq_true rfl) ?_
                  refine g_aload_n 77 (gd rfl) rfl rfl ?_
                  refine g_dup 78 (gd rfl) rfl rfl ?_
                  refine g_getI 81 (gd rfl) rfl rfl rfl (fun z78 e78 => ?_)
                  have q78 : w26_46_2 = z78 := (v26_46_2).trans e78.symm
                  subst q78
                  refine g_iconst 1 82 (gd rfl) rfl rfl ?_
                  refine g_iadd 83 (gd rfl) rfl (fun z82 e82 => ?_)
                  have i82 := in_add 1 1000 e82 i34 (in_c 1 rfl) rfl rfl
                  refine g_putI 86 (gd rfl) rfl rfl rfl rfl ?_
                  have hI83 := inv_sF (q := 46) (j := 2) hIc26 rfl (in_w 0 1000 i82 rfl)
                  refine g_goto 26 (gd rfl) rfl ?_
                  have v26 : z82 = (sF sc26 46 2 z82).2.2.1 46 2 := sF_get
                  have n26 : (z82).toInt ≤ (u_46_1).toInt := by have a0 := h2; unfold In at a0; have a1 := h1; unfold In at a1; have a2 := i34a; unfold In at a2; have a3 := i34; unfold In at a3; have a4 := j26_4; unfold In at a4; have a5 := j26_3; unfold In at a5; have a6 := i74; unfold In at a6; have a7 := t_add e73 i60 i72 rfl; have a8 := i72; unfold In at a8; have a9 := t_sub e72 i42x27 (in_c 48 rfl) rfl; have a10 := (in_c 48 rfl); unfold In at a10; have a11 := i42x27; unfold In at a11; have a12 := i60; unfold In at a12; have a13 := (t_mulc 10 (Or.inr e60) j26_4 rfl).1; have a14 := i53; unfold In at a14; have a15 := t_add e48 j26_3 (in_c 1 rfl) rfl; have a16 := (in_c 1 rfl); unfold In at a16; have a17 := i82; unfold In at a17; have a18 := t_add e82 i34 (in_c 1 rfl) rfl; omega
                  have n26a : (u_46_2).toInt + (x1).toInt ≤ (z82).toInt := by have a0 := h2; unfold In at a0; have a1 := h1; unfold In at a1; have a2 := i34a; unfold In at a2; have a3 := i34; unfold In at a3; have a4 := j26_4; unfold In at a4; have a5 := j26_3; unfold In at a5; have a6 := i74; unfold In at a6; have a7 := t_add e73 i60 i72 rfl; have a8 := i72; unfold In at a8; have a9 := t_sub e72 i42x27 (in_c 48 rfl) rfl; have a10 := (in_c 48 rfl); unfold In at a10; have a11 := i42x27; unfold In at a11; have a12 := i60; unfold In at a12; have a13 := (t_mulc 10 (Or.inr e60) j26_4 rfl).1; have a14 := i53; unfold In at a14; have a15 := t_add e48 j26_3 (in_c 1 rfl) rfl; have a16 := (in_c 1 rfl); unfold In at a16; have a17 := i82; unfold In at a17; have a18 := t_add e82 i34 (in_c 1 rfl) rfl; omega
                  have n26b : (z48).toInt ≤ (z82).toInt := by have a0 := h2; unfold In at a0; have a1 := h1; unfold In at a1; have a2 := i34a; unfold In at a2; have a3 := i34; unfold In at a3; have a4 := j26_4; unfold In at a4; have a5 := j26_3; unfold In at a5; have a6 := i74; unfold In at a6; have a7 := t_add e73 i60 i72 rfl; have a8 := i72; unfold In at a8; have a9 := t_sub e72 i42x27 (in_c 48 rfl) rfl; have a10 := (in_c 48 rfl); unfold In at a10; have a11 := i42x27; unfold In at a11; have a12 := i60; unfold In at a12; have a13 := (t_mulc 10 (Or.inr e60) j26_4 rfl).1; have a14 := i53; unfold In at a14; have a15 := t_add e48 j26_3 (in_c 1 rfl) rfl; have a16 := (in_c 1 rfl); unfold In at a16; have a17 := i82; unfold In at a17; have a18 := t_add e82 i34 (in_c 1 rfl) rfl; omega
                  have n26c : 0 ≤ (z73).toInt ∧ ((z48).toInt ≤ (x2).toInt → (z73).toInt < (10 : Int) ^ ((z48).toInt).toNat) ∧ ((x2).toInt < (z48).toInt → (z73).toInt < (10 : Int) ^ ((x2).toInt).toNat) := by have e7 : z73.toInt = y26_4.toInt * 10 + z72.toInt := (by have a0 := h2; unfold In at a0; have a1 := h1; unfold In at a1; have a2 := i34a; unfold In at a2; have a3 := i34; unfold In at a3; have a4 := j26_4; unfold In at a4; have a5 := j26_3; unfold In at a5; have a6 := i74; unfold In at a6; have a7 := t_add e73 i60 i72 rfl; have a8 := i72; unfold In at a8; have a9 := t_sub e72 i42x27 (in_c 48 rfl) rfl; have a10 := (in_c 48 rfl); unfold In at a10; have a11 := i42x27; unfold In at a11; have a12 := i60; unfold In at a12; have a13 := (t_mulc 10 (Or.inr e60) j26_4 rfl).1; have a14 := i53; unfold In at a14; have a15 := t_add e48 j26_3 (in_c 1 rfl) rfl; have a16 := (in_c 1 rfl); unfold In at a16; have a17 := i82; unfold In at a17; have a18 := t_add e82 i34 (in_c 1 rfl) rfl; omega); have e8 : z48.toInt = y26_3.toInt + 1 := (by have a0 := h2; unfold In at a0; have a1 := h1; unfold In at a1; have a2 := i34a; unfold In at a2; have a3 := i34; unfold In at a3; have a4 := j26_4; unfold In at a4; have a5 := j26_3; unfold In at a5; have a6 := i74; unfold In at a6; have a7 := t_add e73 i60 i72 rfl; have a8 := i72; unfold In at a8; have a9 := t_sub e72 i42x27 (in_c 48 rfl) rfl; have a10 := (in_c 48 rfl); unfold In at a10; have a11 := i42x27; unfold In at a11; have a12 := i60; unfold In at a12; have a13 := (t_mulc 10 (Or.inr e60) j26_4 rfl).1; have a14 := i53; unfold In at a14; have a15 := t_add e48 j26_3 (in_c 1 rfl) rfl; have a16 := (in_c 1 rfl); unfold In at a16; have a17 := i82; unfold In at a17; have a18 := t_add e82 i34 (in_c 1 rfl) rfl; omega); exact ⟨by rw [e7]; exact hq.1, fun _ => by rw [e7, e8]; exact hq.2, fun h => absurd h (by have a0 := h2; unfold In at a0; have a1 := h1; unfold In at a1; have a2 := i34a; unfold In at a2; have a3 := i34; unfold In at a3; have a4 := j26_4; unfold In at a4; have a5 := j26_3; unfold In at a5; have a6 := i74; unfold In at a6; have a7 := t_add e73 i60 i72 rfl; have a8 := i72; unfold In at a8; have a9 := t_sub e72 i42x27 (in_c 48 rfl) rfl; have a10 := (in_c 48 rfl); unfold In at a10; have a11 := i42x27; unfold In at a11; have a12 := i60; unfold In at a12; have a13 := (t_mulc 10 (Or.inr e60) j26_4 rfl).1; have a14 := i53; unfold In at a14; have a15 := t_add e48 j26_3 (in_c 1 rfl) rfl; have a16 := (in_c 1 rfl); unfold In at a16; have a17 := i82; unfold In at a17; have a18 := t_add e82 i34 (in_c 1 rfl) rfl; omega)⟩
                  have m26 : (u_46_1).toInt - (z82).toInt < ((k26 : Nat) : Int) := by have a0 := h2; unfold In at a0; have a1 := h1; unfold In at a1; have a2 := i34a; unfold In at a2; have a3 := i34; unfold In at a3; have a4 := j26_4; unfold In at a4; have a5 := j26_3; unfold In at a5; have a6 := i74; unfold In at a6; have a7 := t_add e73 i60 i72 rfl; have a8 := i72; unfold In at a8; have a9 := t_sub e72 i42x27 (in_c 48 rfl) rfl; have a10 := (in_c 48 rfl); unfold In at a10; have a11 := i42x27; unfold In at a11; have a12 := i60; unfold In at a12; have a13 := (t_mulc 10 (Or.inr e60) j26_4 rfl).1; have a14 := i53; unfold In at a14; have a15 := t_add e48 j26_3 (in_c 1 rfl) rfl; have a16 := (in_c 1 rfl); unfold In at a16; have a17 := i82; unfold In at a17; have a18 := t_add e82 i34 (in_c 1 rfl) rfl; omega
                  exact gg_w (by omega) (gg_f (gf_cons rfl (gf_cons rfl (gf_cons rfl (gf_cons rfl (gf_cons rfl gf_nil))))) (ih26  (sF sc26 46 2 z82) z48 z73 z82 hI83 (fr_sF rfl hFc26) (in_w 0 1000 i53 rfl) (in_w 0 9999999 i74 rfl) v26 n26 n26a n26b n26c m26))
  refine g_enter2 (k := 173) (N := 901801) (by omega) rfl (Nat.le_of_ble_eq_true rfl) ?_
  refine g_iconst 0 1 (gd rfl) rfl rfl ?_
  refine g_istore_n 2 (gd rfl) rfl (Nat.le_of_ble_eq_true rfl) ?_
  refine g_iconst 0 3 (gd rfl) rfl rfl ?_
  refine g_istore 5 (gd rfl) rfl (Nat.le_of_ble_eq_true rfl) ?_
  refine g_aload_n 6 (gd rfl) rfl rfl ?_
  refine g_iload_n 7 (gd rfl) rfl rfl ?_
  refine g_if_eq 10 19 (gd rfl) rfl rfl (fun c7 => ?_) (fun c7 => ?_)
  · skip
    have i7 := z_eq 0 0 c7 h1 rfl
    refine g_aload_n 20 (gd rfl) rfl rfl ?_
    refine g_getI 23 (gd rfl) rfl rfl rfl (fun z20 e20 => ?_)
    have q20 : u_46_2 = z20 := (e_46_2).trans e20.symm
    subst q20
    refine g_putI 26 (gd rfl) rfl rfl rfl rfl ?_
    have hI23 := inv_sF (q := 46) (j := 2) hI rfl (in_w 0 1000 (inv_F hI 0 1000 rfl e_46_2) rfl)
    have v26 : u_46_2 = (sF s 46 2 u_46_2).2.2.1 46 2 := sF_get
    have n26 : (u_46_2).toInt ≤ (u_46_1).toInt := by have a0 := (inv_F hI 0 1000 rfl e_46_1); unfold In at a0; have a1 := (inv_F hI 0 1000 rfl e_46_2); unfold In at a1; have a2 := h2; unfold In at a2; have a3 := i7; unfold In at a3; have a4 := (in_c 0 rfl); unfold In at a4; omega
    have n26a : (u_46_2).toInt + (x1).toInt ≤ (u_46_2).toInt := by have a0 := (inv_F hI 0 1000 rfl e_46_1); unfold In at a0; have a1 := (inv_F hI 0 1000 rfl e_46_2); unfold In at a1; have a2 := h2; unfold In at a2; have a3 := i7; unfold In at a3; have a4 := (in_c 0 rfl); unfold In at a4; omega
    have n26b : ((Int32.ofInt 0)).toInt ≤ (u_46_2).toInt := by have a0 := (inv_F hI 0 1000 rfl e_46_1); unfold In at a0; have a1 := (inv_F hI 0 1000 rfl e_46_2); unfold In at a1; have a2 := h2; unfold In at a2; have a3 := i7; unfold In at a3; have a4 := (in_c 0 rfl); unfold In at a4; omega
    have n26c : 0 ≤ ((Int32.ofInt 0)).toInt ∧ (((Int32.ofInt 0)).toInt ≤ (x2).toInt → ((Int32.ofInt 0)).toInt < (10 : Int) ^ (((Int32.ofInt 0)).toInt).toNat) ∧ ((x2).toInt < ((Int32.ofInt 0)).toInt → ((Int32.ofInt 0)).toInt < (10 : Int) ^ ((x2).toInt).toNat) := by exact ⟨by decide, fun _ => by decide, fun h => absurd h (by have h9 : (Int32.ofInt 0).toInt = 0 := rfl; have a0 := (inv_F hI 0 1000 rfl e_46_1); unfold In at a0; have a1 := (inv_F hI 0 1000 rfl e_46_2); unfold In at a1; have a2 := h2; unfold In at a2; have a3 := i7; unfold In at a3; have a4 := (in_c 0 rfl); unfold In at a4; omega)⟩
    have m26 : (u_46_1).toInt - (u_46_2).toInt < ((1001 : Nat) : Int) := by have a0 := (inv_F hI 0 1000 rfl e_46_1); unfold In at a0; have a1 := (inv_F hI 0 1000 rfl e_46_2); unfold In at a1; have a2 := h2; unfold In at a2; have a3 := i7; unfold In at a3; have a4 := (in_c 0 rfl); unfold In at a4; omega
    exact gg_w (by omega) (gg_f (gf_cons rfl (gf_cons rfl (gf_cons rfl (gf_cons rfl (gf_cons rfl gf_nil))))) (ct26 1001 (sF s 46 2 u_46_2) (Int32.ofInt 0) (Int32.ofInt 0) u_46_2 hI23 (fr_sF rfl fr_rf) (in_w 0 1000 (in_c 0 rfl) rfl) (in_w 0 9999999 (in_c 0 rfl) rfl) v26 n26 n26a n26b n26c m26))
  · skip
    have i7 := z_ne 1 1 c7 h1 rfl
    refine g_aload_n 11 (gd rfl) rfl rfl ?_
    refine g_getI 14 (gd rfl) rfl rfl rfl (fun z11 e11 => ?_)
    have q11 : u_46_2 = z11 := (e_46_2).trans e11.symm
    subst q11
    refine g_iconst 1 15 (gd rfl) rfl rfl ?_
    refine g_iadd 16 (gd rfl) rfl (fun z15 e15 => ?_)
    have i15 := in_add 1 1001 e15 (inv_F hI 0 1000 rfl e_46_2) (in_c 1 rfl) rfl rfl
    refine g_goto 23 (gd rfl) rfl ?_
    have i23 : In z15 0 1000 := by have a0 := (inv_F hI 0 1000 rfl e_46_1); unfold In at a0; have a1 := (inv_F hI 0 1000 rfl e_46_2); unfold In at a1; have a2 := h2; unfold In at a2; have a3 := i7; unfold In at a3; have a4 := (in_c 0 rfl); unfold In at a4; have a5 := i15; unfold In at a5; have a6 := t_add e15 (inv_F hI 0 1000 rfl e_46_2) (in_c 1 rfl) rfl; have a7 := (in_c 1 rfl); unfold In at a7; exact ⟨by omega, by omega⟩
    refine g_putI 26 (gd rfl) rfl rfl rfl rfl ?_
    have hI23 := inv_sF (q := 46) (j := 2) hI rfl (in_w 0 1000 i23 rfl)
    have v26 : z15 = (sF s 46 2 z15).2.2.1 46 2 := sF_get
    have n26 : (z15).toInt ≤ (u_46_1).toInt := by have a0 := (inv_F hI 0 1000 rfl e_46_1); unfold In at a0; have a1 := (inv_F hI 0 1000 rfl e_46_2); unfold In at a1; have a2 := h2; unfold In at a2; have a3 := i7; unfold In at a3; have a4 := (in_c 0 rfl); unfold In at a4; have a5 := i23; unfold In at a5; have a6 := t_add e15 (inv_F hI 0 1000 rfl e_46_2) (in_c 1 rfl) rfl; have a7 := (in_c 1 rfl); unfold In at a7; omega
    have n26a : (u_46_2).toInt + (x1).toInt ≤ (z15).toInt := by have a0 := (inv_F hI 0 1000 rfl e_46_1); unfold In at a0; have a1 := (inv_F hI 0 1000 rfl e_46_2); unfold In at a1; have a2 := h2; unfold In at a2; have a3 := i7; unfold In at a3; have a4 := (in_c 0 rfl); unfold In at a4; have a5 := i23; unfold In at a5; have a6 := t_add e15 (inv_F hI 0 1000 rfl e_46_2) (in_c 1 rfl) rfl; have a7 := (in_c 1 rfl); unfold In at a7; omega
    have n26b : ((Int32.ofInt 0)).toInt ≤ (z15).toInt := by have a0 := (inv_F hI 0 1000 rfl e_46_1); unfold In at a0; have a1 := (inv_F hI 0 1000 rfl e_46_2); unfold In at a1; have a2 := h2; unfold In at a2; have a3 := i7; unfold In at a3; have a4 := (in_c 0 rfl); unfold In at a4; have a5 := i23; unfold In at a5; have a6 := t_add e15 (inv_F hI 0 1000 rfl e_46_2) (in_c 1 rfl) rfl; have a7 := (in_c 1 rfl); unfold In at a7; omega
    have n26c : 0 ≤ ((Int32.ofInt 0)).toInt ∧ (((Int32.ofInt 0)).toInt ≤ (x2).toInt → ((Int32.ofInt 0)).toInt < (10 : Int) ^ (((Int32.ofInt 0)).toInt).toNat) ∧ ((x2).toInt < ((Int32.ofInt 0)).toInt → ((Int32.ofInt 0)).toInt < (10 : Int) ^ ((x2).toInt).toNat) := by exact ⟨by decide, fun _ => by decide, fun h => absurd h (by have h9 : (Int32.ofInt 0).toInt = 0 := rfl; have a0 := (inv_F hI 0 1000 rfl e_46_1); unfold In at a0; have a1 := (inv_F hI 0 1000 rfl e_46_2); unfold In at a1; have a2 := h2; unfold In at a2; have a3 := i7; unfold In at a3; have a4 := (in_c 0 rfl); unfold In at a4; have a5 := i23; unfold In at a5; have a6 := t_add e15 (inv_F hI 0 1000 rfl e_46_2) (in_c 1 rfl) rfl; have a7 := (in_c 1 rfl); unfold In at a7; omega)⟩
    have m26 : (u_46_1).toInt - (z15).toInt < ((1001 : Nat) : Int) := by have a0 := (inv_F hI 0 1000 rfl e_46_1); unfold In at a0; have a1 := (inv_F hI 0 1000 rfl e_46_2); unfold In at a1; have a2 := h2; unfold In at a2; have a3 := i7; unfold In at a3; have a4 := (in_c 0 rfl); unfold In at a4; have a5 := i23; unfold In at a5; have a6 := t_add e15 (inv_F hI 0 1000 rfl e_46_2) (in_c 1 rfl) rfl; have a7 := (in_c 1 rfl); unfold In at a7; omega
    exact gg_w (by omega) (gg_f (gf_cons rfl (gf_cons rfl (gf_cons rfl (gf_cons rfl (gf_cons rfl gf_nil))))) (ct26 1001 (sF s 46 2 z15) (Int32.ofInt 0) (Int32.ofInt 0) z15 hI23 (fr_sF rfl fr_rf) (in_w 0 1000 (in_c 0 rfl) rfl) (in_w 0 9999999 (in_c 0 rfl) rfl) v26 n26 n26a n26b n26c m26))

def fm_57_102 : FM := ([104], [], [(102, 4)], [])
/-- GraphHouse$Engine.emit -/
theorem k_57_102 {Z : AmZ} {A : Nat → Nat} {s : GS} {ex : va_W} {d : Nat} {X : AmX} {x1 : Int32} {u_102_4 : Int32} (hd : 1 ≤ d) (hI : Inv s) (e_102_4 : u_102_4 = s.2.2.1 102 4) (p_0 : (u_102_4).toInt ≤ 119) : GC Z d 57 [.ref (A 102), .int x1] (WW Z A s ++ ex) 0 0 (fun v u => ∃ t : GS, Inv t ∧ Fr fm_57_102 s t ∧ ((t.2.2.1 102 4).toInt = (s.2.2.1 102 4).toInt + 1) ∧ ∃ z : Int32, v = some (.int z) ∧ u = WW Z A t ++ ex ∧ In z 1 1 ∧ (t.1 104 = upd (s.1 104) (s.2.2.1 102 4).toNatClampNeg x1)) X := by
  intro post xp hP hX
  refine g_enter2 (k := 57) (N := 900) (by omega) rfl (Nat.le_of_ble_eq_true rfl) ?_
  refine g_aload_n 1 (gd rfl) rfl rfl ?_
  refine g_getI 4 (gd rfl) rfl rfl rfl (fun z1 e1 => ?_)
  have q1 : u_102_4 = z1 := (e_102_4).trans e1.symm
  subst q1
  refine g_bipush 120 6 (gd rfl) rfl rfl ?_
  refine g_cmp_ge 9 29 (gd rfl) rfl rfl (fun c6 => ?_) (fun c6 => ?_)
  · skip
    have i6 := r_le2 120 120 c6 (in_c 120 rfl) (inv_F hI 0 120 rfl e_102_4) rfl
    exfalso
    have a0 := i6; unfold In at a0; omega
  · skip
    have i6 := r_lt1 0 119 c6 (inv_F hI 0 120 rfl e_102_4) (in_c 120 rfl) rfl
    refine g_aload_n 10 (gd rfl) rfl rfl ?_
    refine g_getA (q2 := 104) 13 (gd rfl) rfl rfl rfl rfl ?_
    refine g_aload_n 14 (gd rfl) rfl rfl ?_
    refine g_getI 17 (gd rfl) rfl rfl rfl (fun z14 e14 => ?_)
    have q14 : u_102_4 = z14 := (e_102_4).trans e14.symm
    subst q14
    refine g_iload_n 18 (gd rfl) rfl rfl ?_
    refine g_iastore 19 (gd rfl) rfl (n := 120) rfl (in_ix i6 rfl) ?_
    have hI18 := inv_sI (q := 104) (j := u_102_4.toNatClampNeg) hI rfl (in_w (-2147483648) 2147483647 (i_rng x1) rfl)
    refine g_aload_n 20 (gd rfl) rfl rfl ?_
    refine g_dup 21 (gd rfl) rfl rfl ?_
    refine g_getI 24 (gd rfl) rfl rfl rfl (fun z21 e21 => ?_)
    have q21 : u_102_4 = z21 := (sI_F (e_102_4)).trans e21.symm
    subst q21
    refine g_iconst 1 25 (gd rfl) rfl rfl ?_
    refine g_iadd 26 (gd rfl) rfl (fun z25 e25 => ?_)
    have i25 := in_add 1 120 e25 i6 (in_c 1 rfl) rfl rfl
    refine g_putI 29 (gd rfl) rfl rfl rfl rfl ?_
    have hI26 := inv_sF (q := 102) (j := 4) hI18 rfl (in_w 0 120 i25 rfl)
    refine g_iconst 1 30 (gd rfl) rfl rfl ?_
    have n30 : (sF (sI s 104 u_102_4.toNatClampNeg x1) 102 4 z25).1 104 = upd (s.1 104) (s.2.2.1 102 4).toNatClampNeg x1 := by rw [← e_102_4]; simp [sI, sF]
    have n30a : (z25).toInt = (u_102_4).toInt + 1 := by have a0 := i6; unfold In at a0; have a1 := i25; unfold In at a1; have a2 := t_add e25 i6 (in_c 1 rfl) rfl; have a3 := (in_c 1 rfl); unfold In at a3; omega
    have n30b : ((sF (sI s 104 u_102_4.toNatClampNeg x1) 102 4 z25).2.2.1 102 4).toInt = (s.2.2.1 102 4).toInt + 1 := by have b0 : z25 = (sF (sI s 104 u_102_4.toNatClampNeg x1) 102 4 z25).2.2.1 102 4 := sF_get; first | (rw [← b0, ← e_102_4]; exact n30a) | (rw [← b0]; exact n30a)
    exact g_ireturn (gd rfl) rfl (nb01 (in_w 0 1 (in_c 1 rfl) rfl)) (hP _ _ ⟨(sF (sI s 104 u_102_4.toNatClampNeg x1) 102 4 z25), hI26, (fr_sF rfl (fr_sI rfl fr_rf)), n30b, (Int32.ofInt 1), rfl, rfl, in_w 1 1 (in_c 1 rfl) rfl, n30⟩)

def fm_105_2 : FM := ([4], [], [(2, 2), (2, 3)], [])
/-- GraphHouse$Graph.dropAt -/
theorem k_105_2 {Z : AmZ} {A : Nat → Nat} {s : GS} {ex : va_W} {d : Nat} {X : AmX} {x1 : Int32} (hd : 1 ≤ d) (hI : Rng s) (h1 : In x1 0 159) : GC Z d 105 [.ref (A 2), .int x1] (WW Z A s ++ ex) 0 0 (fun v u => ∃ t : GS, Rng t ∧ Fr fm_105_2 s t ∧ v = none ∧ u = WW Z A t ++ ex ∧ (t.1 4 = upd (s.1 4) (x1).toNatClampNeg (Int32.ofInt (-1)))) X := by
  intro post xp hP hX
  have ct17 : ∀ (k17 : Nat) (sc17 : GS) (w17_2_3 : Int32), Rng sc17 → Fr fm_105_2 s sc17 → (w17_2_3 = sc17.2.2.1 2 3) → (sc17.1 4 = upd (s.1 4) (x1).toNatClampNeg (Int32.ofInt (-1))) → (w17_2_3).toInt < (k17 : Int) → GG Z (d - 1) 105 post (gx xp) (1 + k17 * 900) 17 (fun j => xlook j [(0, .ref (A 2)), (1, .int x1)]) [] (WW Z A sc17 ++ ex) 0 0 := by
    intro k17
    induction k17 with
    | zero => intro sc17 w17_2_3 hIc17 hFc17 v17_2_3 g17_0 mm17; exfalso; have a0 := h1; unfold In at a0; have a1 := (rng_F hIc17 0 160 rfl v17_2_3); unfold In at a1; omega
    | succ k17 ih17 =>
      intro sc17 w17_2_3 hIc17 hFc17 v17_2_3 g17_0 mm17
      refine gg_w (M := 1 + k17 * 900 + 900) (by omega) ?_
      refine g_aload_n 18 (gd rfl) rfl rfl ?_
      refine g_getI 21 (gd rfl) rfl rfl rfl (fun z18 e18 => ?_)
      have q18 : w17_2_3 = z18 := (v17_2_3).trans e18.symm
      subst q18
      refine g_if_le 24 52 (gd rfl) rfl rfl (fun c21 => ?_) (fun c21 => ?_)
      · skip
        have i21 := z_le 0 0 c21 (rng_F hIc17 0 160 rfl v17_2_3) rfl
        have n52 : sc17.1 4 = upd (s.1 4) (x1).toNatClampNeg (Int32.ofInt (-1)) := by exact g17_0
        exact g_return (gd rfl) rfl (hP _ _ ⟨sc17, hIc17, hFc17, rfl, rfl, n52⟩)
      · skip
        have i21 := z_gt 1 160 c21 (rng_F hIc17 0 160 rfl v17_2_3) rfl
        refine g_aload_n 25 (gd rfl) rfl rfl ?_
        refine g_getA (q2 := 4) 28 (gd rfl) rfl rfl rfl rfl ?_
        refine g_aload_n 29 (gd rfl) rfl rfl ?_
        refine g_getI 32 (gd rfl) rfl rfl rfl (fun z29 e29 => ?_)
        have q29 : w17_2_3 = z29 := (v17_2_3).trans e29.symm
        subst q29
        refine g_iconst 1 33 (gd rfl) rfl rfl ?_
        refine g_isub 34 (gd rfl) rfl (fun z33 e33 => ?_)
        have i33 := in_sub 0 159 e33 i21 (in_c 1 rfl) rfl rfl
        refine g_iaload 35 (gd rfl) rfl (n := 160) rfl (in_ix i33 rfl) (fun z34 e34 => ?_)
        have i34 := rng_I hIc17 (n := 160) (t := 0) (-1) 31 rfl (in_ix i33 rfl) rfl e34
        refine g_iconst (-1) 36 (gd rfl) rfl rfl ?_
        refine g_cmp_ne 39 52 (gd rfl) rfl rfl (fun c36 => ?_) (fun c36 => ?_)
        · skip
          have i36 := r_ne1 0 31 c36 i34 (in_c (-1) rfl) rfl
          have n52 : sc17.1 4 = upd (s.1 4) (x1).toNatClampNeg (Int32.ofInt (-1)) := by exact g17_0
          exact g_return (gd rfl) rfl (hP _ _ ⟨sc17, hIc17, hFc17, rfl, rfl, n52⟩)
        · skip
          have i36 := r_eq1 (-1) (-1) c36 i34 (in_c (-1) rfl) rfl
          refine g_aload_n 40 (gd rfl) rfl rfl ?_
          refine g_dup 41 (gd rfl) rfl rfl ?_
          refine g_getI 44 (gd rfl) rfl rfl rfl (fun z41 e41 => ?_)
          have q41 : w17_2_3 = z41 := (v17_2_3).trans e41.symm
          subst q41
          refine g_iconst 1 45 (gd rfl) rfl rfl ?_
          refine g_isub 46 (gd rfl) rfl (fun z45 e45 => ?_)
          have i45 := in_sub 0 159 e45 i21 (in_c 1 rfl) rfl rfl
          refine g_putI 49 (gd rfl) rfl rfl rfl rfl ?_
          have hI46 := rng_sF (q := 2) (j := 3) hIc17 rfl (in_w 0 160 i45 rfl)
          refine g_goto 17 (gd rfl) rfl ?_
          have v17 : z45 = (sF sc17 2 3 z45).2.2.1 2 3 := sF_get
          have n17 : (sF sc17 2 3 z45).1 4 = upd (s.1 4) (x1).toNatClampNeg (Int32.ofInt (-1)) := by exact g17_0
          have m17 : (z45).toInt < ((k17 : Nat) : Int) := by have a0 := h1; unfold In at a0; have a1 := i21; unfold In at a1; have a2 := i45; unfold In at a2; have a3 := t_sub e45 i21 (in_c 1 rfl) rfl; have a4 := (in_c 1 rfl); unfold In at a4; have a5 := i33; unfold In at a5; have a6 := t_sub e33 i21 (in_c 1 rfl) rfl; omega
          exact gg_w (by omega) (gg_f (gf_cons rfl (gf_cons rfl gf_nil)) (ih17  (sF sc17 2 3 z45) z45 hI46 (fr_sF rfl hFc17) v17 n17 m17))
  refine g_enter2 (k := 105) (N := 145801) (by omega) rfl (Nat.le_of_ble_eq_true rfl) ?_
  refine g_aload_n 1 (gd rfl) rfl rfl ?_
  refine g_getA (q2 := 4) 4 (gd rfl) rfl rfl rfl rfl ?_
  refine g_iload_n 5 (gd rfl) rfl rfl ?_
  refine g_iconst (-1) 6 (gd rfl) rfl rfl ?_
  refine g_iastore 7 (gd rfl) rfl (n := 160) rfl (in_ix h1 rfl) ?_
  have hI6 := rng_sI (q := 4) (j := x1.toNatClampNeg) hI rfl (in_w (-1) 31 (in_c (-1) rfl) rfl)
  refine g_aload_n 8 (gd rfl) rfl rfl ?_
  refine g_dup 9 (gd rfl) rfl rfl ?_
  refine g_getI 12 (gd rfl) rfl rfl rfl (fun z9 e9 => ?_)
  refine g_iconst 1 13 (gd rfl) rfl rfl ?_
  refine g_isub 14 (gd rfl) rfl (fun z13 e13 => ?_)
  refine g_putI 17 (gd rfl) rfl rfl rfl rfl ?_
  have hI14 := rng_sF (q := 2) (j := 2) hI6 rfl (in_w (-2147483648) 2147483647 (i_rng z13) rfl)
  have n17 : (sF (sI s 4 x1.toNatClampNeg (Int32.ofInt (-1))) 2 2 z13).1 4 = upd (s.1 4) (x1).toNatClampNeg (Int32.ofInt (-1)) := by simp [sI, sF]
  have m17 : (((sF (sI s 4 x1.toNatClampNeg (Int32.ofInt (-1))) 2 2 z13).2.2.1 2 3)).toInt < ((161 : Nat) : Int) := by have a0 := h1; unfold In at a0; have a1 := (show In ((sF (sI s 4 x1.toNatClampNeg (Int32.ofInt (-1))) 2 2 z13).2.2.1 2 3) 0 160 from rng_F hI14 0 160 rfl rfl); unfold In at a1; omega
  exact gg_w (by omega) (gg_f (gf_cons rfl (gf_cons rfl gf_nil)) (ct17 161 (sF (sI s 4 x1.toNatClampNeg (Int32.ofInt (-1))) 2 2 z13) _ hI14 (fr_sF rfl (fr_sI rfl fr_rf)) rfl n17 m17))

def fm_132_1_2 : FM := ([4, 5, 6, 7, 8], [], [(2, 2), (2, 3)], [])
/-- GraphHouse$Ledger.applyArc -/
theorem k_132_1_2 {Z : AmZ} {A : Nat → Nat} {s : GS} {ex : va_W} {d : Nat} {X : AmX} {x2 : Int32} {x3 : Int32} {u_30_0 : Int32} (hd : 3 ≤ d) (hI : Rng s) (h2 : In x2 0 27993) (h3 : In x3 0 159) (e_30_0 : u_30_0 = s.2.2.1 30 0) (p_0 : (x2).toInt + 7 ≤ (u_30_0).toInt) (q_0 : In (s.1 30 ((x2).toInt + 2).toNat) (0) 31) (q_1 : In (s.1 30 ((x2).toInt + 3).toNat) (0) 31) (q_2 : In (s.1 30 ((x2).toInt + 4).toNat) (-1000000) 1000000) (q_3 : In (s.1 30 ((x2).toInt + 5).toNat) (0) 1000000) (q_4 : In (s.1 30 ((x2).toInt + 6).toNat) (0) 25) : GC Z d 132 [.ref (A 1), .ref (A 2), .int x2, .int x3] (WW Z A s ++ ex) 0 0 (fun v u => ∃ t : GS, Rng t ∧ Fr fm_132_1_2 s t ∧ v = none ∧ u = WW Z A t ++ ex ∧ (t.1 4 = upd (s.1 4) (x3).toNatClampNeg (s.1 30 ((x2).toInt + 2).toNat)) ∧ (t.1 5 = upd (s.1 5) (x3).toNatClampNeg (s.1 30 ((x2).toInt + 3).toNat))) X := by
  intro post xp hP hX
  have ro_30_0 := rng_F hI 448 28000 rfl e_30_0
  refine g_enter2 (k := 132) (N := 900) (by omega) rfl (Nat.le_of_ble_eq_true rfl) ?_
  refine g_aload_n 1 (gd rfl) rfl rfl ?_
  refine g_getA (q2 := 4) 4 (gd rfl) rfl rfl rfl rfl ?_
  refine g_iload_n 5 (gd rfl) rfl rfl ?_
  refine g_aload_n 6 (gd rfl) rfl rfl ?_
  refine g_getA (q2 := 30) 9 (gd rfl) rfl rfl rfl rfl ?_
  refine g_iload_n 10 (gd rfl) rfl rfl ?_
  refine g_iconst 2 11 (gd rfl) rfl rfl ?_
  refine g_iadd 12 (gd rfl) rfl (fun z11 e11 => ?_)
  have i11 := in_add 2 27995 e11 h2 (in_c 2 rfl) rfl rfl
  have hx12 : vp_in z11 (s.2.2.1 30 0).toNatClampNeg := lg_in (by have a0 := (rng_F hI 448 28000 rfl e_30_0); unfold In at a0; have a1 := h3; unfold In at a1; have a2 := h2; unfold In at a2; have a3 := i11; unfold In at a3; have a4 := t_add e11 h2 (in_c 2 rfl) rfl; have a5 := (in_c 2 rfl); unfold In at a5; omega) (by rw [← (show u_30_0 = s.2.2.1 30 0 from e_30_0)]; have a0 := (rng_F hI 448 28000 rfl e_30_0); unfold In at a0; have a1 := h3; unfold In at a1; have a2 := h2; unfold In at a2; have a3 := i11; unfold In at a3; have a4 := t_add e11 h2 (in_c 2 rfl) rfl; have a5 := (in_c 2 rfl); unfold In at a5; omega)
  refine g_lgload 13 (gd rfl) rfl hx12 (fun z12 e12 => ?_)
  have i13 : In z12 0 31 := by have hi : (z12) = s.1 30 ((x2).toInt + 2).toNat := (by rw [e12, show (z11).toNatClampNeg = ((x2).toInt + 2).toNat from (by show (z11).toInt.toNat = _; have a0 := (rng_F hI 448 28000 rfl e_30_0); unfold In at a0; have a1 := h3; unfold In at a1; have a2 := h2; unfold In at a2; have a3 := i11; unfold In at a3; have a4 := t_add e11 h2 (in_c 2 rfl) rfl; have a5 := (in_c 2 rfl); unfold In at a5; omega)] <;> simp [sI]); rw [hi]; exact q_0
  have hf2 : z12 = s.1 30 ((x2).toInt + 2).toNat := (by rw [e12, show (z11).toNatClampNeg = ((x2).toInt + 2).toNat from (by show (z11).toInt.toNat = _; have a0 := (rng_F hI 448 28000 rfl e_30_0); unfold In at a0; have a1 := h3; unfold In at a1; have a2 := h2; unfold In at a2; have a3 := i11; unfold In at a3; have a4 := t_add e11 h2 (in_c 2 rfl) rfl; have a5 := (in_c 2 rfl); unfold In at a5; omega)] <;> simp [sI])
  refine g_iastore 14 (gd rfl) rfl (n := 160) rfl (in_ix h3 rfl) ?_
  have hI13 := rng_sI (q := 4) (j := x3.toNatClampNeg) hI rfl (in_w (-1) 31 i13 rfl)
  refine g_aload_n 15 (gd rfl) rfl rfl ?_
  refine g_getA (q2 := 5) 18 (gd rfl) rfl rfl rfl rfl ?_
  refine g_iload_n 19 (gd rfl) rfl rfl ?_
  refine g_aload_n 20 (gd rfl) rfl rfl ?_
  refine g_getA (q2 := 30) 23 (gd rfl) rfl rfl rfl rfl ?_
  refine g_iload_n 24 (gd rfl) rfl rfl ?_
  refine g_iconst 3 25 (gd rfl) rfl rfl ?_
  refine g_iadd 26 (gd rfl) rfl (fun z25 e25 => ?_)
  have i25 := in_add 3 27996 e25 h2 (in_c 3 rfl) rfl rfl
  have hx26 : vp_in z25 ((sI s 4 x3.toNatClampNeg z12).2.2.1 30 0).toNatClampNeg := lg_in (by have a0 := (rng_F hI 448 28000 rfl e_30_0); unfold In at a0; have a1 := h3; unfold In at a1; have a2 := h2; unfold In at a2; have a3 := i25; unfold In at a3; have a4 := t_add e25 h2 (in_c 3 rfl) rfl; have a5 := (in_c 3 rfl); unfold In at a5; have a6 := i11; unfold In at a6; have a7 := t_add e11 h2 (in_c 2 rfl) rfl; have a8 := (in_c 2 rfl); unfold In at a8; omega) (by rw [← (show u_30_0 = (sI s 4 x3.toNatClampNeg z12).2.2.1 30 0 from sI_F (e_30_0))]; have a0 := (rng_F hI 448 28000 rfl e_30_0); unfold In at a0; have a1 := h3; unfold In at a1; have a2 := h2; unfold In at a2; have a3 := i25; unfold In at a3; have a4 := t_add e25 h2 (in_c 3 rfl) rfl; have a5 := (in_c 3 rfl); unfold In at a5; have a6 := i11; unfold In at a6; have a7 := t_add e11 h2 (in_c 2 rfl) rfl; have a8 := (in_c 2 rfl); unfold In at a8; omega)
  refine g_lgload 27 (gd rfl) rfl hx26 (fun z26 e26 => ?_)
  have i27 : In z26 0 31 := by have hi : (z26) = s.1 30 ((x2).toInt + 3).toNat := (by rw [e26, show (z25).toNatClampNeg = ((x2).toInt + 3).toNat from (by show (z25).toInt.toNat = _; have a0 := (rng_F hI 448 28000 rfl e_30_0); unfold In at a0; have a1 := h3; unfold In at a1; have a2 := h2; unfold In at a2; have a3 := i25; unfold In at a3; have a4 := t_add e25 h2 (in_c 3 rfl) rfl; have a5 := (in_c 3 rfl); unfold In at a5; have a6 := i11; unfold In at a6; have a7 := t_add e11 h2 (in_c 2 rfl) rfl; have a8 := (in_c 2 rfl); unfold In at a8; omega)] <;> simp [sI]); rw [hi]; exact q_1
  have hf3 : z26 = s.1 30 ((x2).toInt + 3).toNat := (by rw [e26, show (z25).toNatClampNeg = ((x2).toInt + 3).toNat from (by show (z25).toInt.toNat = _; have a0 := (rng_F hI 448 28000 rfl e_30_0); unfold In at a0; have a1 := h3; unfold In at a1; have a2 := h2; unfold In at a2; have a3 := i25; unfold In at a3; have a4 := t_add e25 h2 (in_c 3 rfl) rfl; have a5 := (in_c 3 rfl); unfold In at a5; have a6 := i11; unfold In at a6; have a7 := t_add e11 h2 (in_c 2 rfl) rfl; have a8 := (in_c 2 rfl); unfold In at a8; omega)] <;> simp [sI])
  refine g_iastore 28 (gd rfl) rfl (n := 160) rfl (in_ix h3 rfl) ?_
  have hI27 := rng_sI (q := 5) (j := x3.toNatClampNeg) hI13 rfl (in_w 0 31 i27 rfl)
  refine g_aload_n 29 (gd rfl) rfl rfl ?_
  refine g_getA (q2 := 6) 32 (gd rfl) rfl rfl rfl rfl ?_
  refine g_iload_n 33 (gd rfl) rfl rfl ?_
  refine g_aload_n 34 (gd rfl) rfl rfl ?_
  refine g_getA (q2 := 30) 37 (gd rfl) rfl rfl rfl rfl ?_
  refine g_iload_n 38 (gd rfl) rfl rfl ?_
  refine g_iconst 4 39 (gd rfl) rfl rfl ?_
  refine g_iadd 40 (gd rfl) rfl (fun z39 e39 => ?_)
  have i39 := in_add 4 27997 e39 h2 (in_c 4 rfl) rfl rfl
  have hx40 : vp_in z39 ((sI (sI s 4 x3.toNatClampNeg z12) 5 x3.toNatClampNeg z26).2.2.1 30 0).toNatClampNeg := lg_in (by have a0 := (rng_F hI 448 28000 rfl e_30_0); unfold In at a0; have a1 := h3; unfold In at a1; have a2 := h2; unfold In at a2; have a3 := i39; unfold In at a3; have a4 := t_add e39 h2 (in_c 4 rfl) rfl; have a5 := (in_c 4 rfl); unfold In at a5; have a6 := i25; unfold In at a6; have a7 := t_add e25 h2 (in_c 3 rfl) rfl; have a8 := (in_c 3 rfl); unfold In at a8; have a9 := i11; unfold In at a9; have a10 := t_add e11 h2 (in_c 2 rfl) rfl; have a11 := (in_c 2 rfl); unfold In at a11; omega) (by rw [← (show u_30_0 = (sI (sI s 4 x3.toNatClampNeg z12) 5 x3.toNatClampNeg z26).2.2.1 30 0 from sI_F (sI_F (e_30_0)))]; have a0 := (rng_F hI 448 28000 rfl e_30_0); unfold In at a0; have a1 := h3; unfold In at a1; have a2 := h2; unfold In at a2; have a3 := i39; unfold In at a3; have a4 := t_add e39 h2 (in_c 4 rfl) rfl; have a5 := (in_c 4 rfl); unfold In at a5; have a6 := i25; unfold In at a6; have a7 := t_add e25 h2 (in_c 3 rfl) rfl; have a8 := (in_c 3 rfl); unfold In at a8; have a9 := i11; unfold In at a9; have a10 := t_add e11 h2 (in_c 2 rfl) rfl; have a11 := (in_c 2 rfl); unfold In at a11; omega)
  refine g_lgload 41 (gd rfl) rfl hx40 (fun z40 e40 => ?_)
  have i41 : In z40 (-1000000) 1000000 := by have hi : (z40) = s.1 30 ((x2).toInt + 4).toNat := (by rw [e40, show (z39).toNatClampNeg = ((x2).toInt + 4).toNat from (by show (z39).toInt.toNat = _; have a0 := (rng_F hI 448 28000 rfl e_30_0); unfold In at a0; have a1 := h3; unfold In at a1; have a2 := h2; unfold In at a2; have a3 := i39; unfold In at a3; have a4 := t_add e39 h2 (in_c 4 rfl) rfl; have a5 := (in_c 4 rfl); unfold In at a5; have a6 := i25; unfold In at a6; have a7 := t_add e25 h2 (in_c 3 rfl) rfl; have a8 := (in_c 3 rfl); unfold In at a8; have a9 := i11; unfold In at a9; have a10 := t_add e11 h2 (in_c 2 rfl) rfl; have a11 := (in_c 2 rfl); unfold In at a11; omega)] <;> simp [sI]); rw [hi]; exact q_2
  refine g_iastore 42 (gd rfl) rfl (n := 160) rfl (in_ix h3 rfl) ?_
  have hI41 := rng_sI (q := 6) (j := x3.toNatClampNeg) hI27 rfl (in_w (-1000000) 1000000 i41 rfl)
  refine g_aload_n 43 (gd rfl) rfl rfl ?_
  refine g_getA (q2 := 7) 46 (gd rfl) rfl rfl rfl rfl ?_
  refine g_iload_n 47 (gd rfl) rfl rfl ?_
  refine g_aload_n 48 (gd rfl) rfl rfl ?_
  refine g_getA (q2 := 30) 51 (gd rfl) rfl rfl rfl rfl ?_
  refine g_iload_n 52 (gd rfl) rfl rfl ?_
  refine g_iconst 5 53 (gd rfl) rfl rfl ?_
  refine g_iadd 54 (gd rfl) rfl (fun z53 e53 => ?_)
  have i53 := in_add 5 27998 e53 h2 (in_c 5 rfl) rfl rfl
  have hx54 : vp_in z53 ((sI (sI (sI s 4 x3.toNatClampNeg z12) 5 x3.toNatClampNeg z26) 6 x3.toNatClampNeg z40).2.2.1 30 0).toNatClampNeg := lg_in (by have a0 := (rng_F hI 448 28000 rfl e_30_0); unfold In at a0; have a1 := h3; unfold In at a1; have a2 := h2; unfold In at a2; have a3 := i53; unfold In at a3; have a4 := t_add e53 h2 (in_c 5 rfl) rfl; have a5 := (in_c 5 rfl); unfold In at a5; have a6 := i39; unfold In at a6; have a7 := t_add e39 h2 (in_c 4 rfl) rfl; have a8 := (in_c 4 rfl); unfold In at a8; have a9 := i25; unfold In at a9; have a10 := t_add e25 h2 (in_c 3 rfl) rfl; have a11 := (in_c 3 rfl); unfold In at a11; have a12 := i11; unfold In at a12; have a13 := t_add e11 h2 (in_c 2 rfl) rfl; have a14 := (in_c 2 rfl); unfold In at a14; omega) (by rw [← (show u_30_0 = (sI (sI (sI s 4 x3.toNatClampNeg z12) 5 x3.toNatClampNeg z26) 6 x3.toNatClampNeg z40).2.2.1 30 0 from sI_F (sI_F (sI_F (e_30_0))))]; have a0 := (rng_F hI 448 28000 rfl e_30_0); unfold In at a0; have a1 := h3; unfold In at a1; have a2 := h2; unfold In at a2; have a3 := i53; unfold In at a3; have a4 := t_add e53 h2 (in_c 5 rfl) rfl; have a5 := (in_c 5 rfl); unfold In at a5; have a6 := i39; unfold In at a6; have a7 := t_add e39 h2 (in_c 4 rfl) rfl; have a8 := (in_c 4 rfl); unfold In at a8; have a9 := i25; unfold In at a9; have a10 := t_add e25 h2 (in_c 3 rfl) rfl; have a11 := (in_c 3 rfl); unfold In at a11; have a12 := i11; unfold In at a12; have a13 := t_add e11 h2 (in_c 2 rfl) rfl; have a14 := (in_c 2 rfl); unfold In at a14; omega)
  refine g_lgload 55 (gd rfl) rfl hx54 (fun z54 e54 => ?_)
  have i55 : In z54 0 1000000 := by have hi : (z54) = s.1 30 ((x2).toInt + 5).toNat := (by rw [e54, show (z53).toNatClampNeg = ((x2).toInt + 5).toNat from (by show (z53).toInt.toNat = _; have a0 := (rng_F hI 448 28000 rfl e_30_0); unfold In at a0; have a1 := h3; unfold In at a1; have a2 := h2; unfold In at a2; have a3 := i53; unfold In at a3; have a4 := t_add e53 h2 (in_c 5 rfl) rfl; have a5 := (in_c 5 rfl); unfold In at a5; have a6 := i39; unfold In at a6; have a7 := t_add e39 h2 (in_c 4 rfl) rfl; have a8 := (in_c 4 rfl); unfold In at a8; have a9 := i25; unfold In at a9; have a10 := t_add e25 h2 (in_c 3 rfl) rfl; have a11 := (in_c 3 rfl); unfold In at a11; have a12 := i11; unfold In at a12; have a13 := t_add e11 h2 (in_c 2 rfl) rfl; have a14 := (in_c 2 rfl); unfold In at a14; omega)] <;> simp [sI]); rw [hi]; exact q_3
  refine g_iastore 56 (gd rfl) rfl (n := 160) rfl (in_ix h3 rfl) ?_
  have hI55 := rng_sI (q := 7) (j := x3.toNatClampNeg) hI41 rfl (in_w 0 1000000 i55 rfl)
  refine g_aload_n 57 (gd rfl) rfl rfl ?_
  refine g_getA (q2 := 8) 60 (gd rfl) rfl rfl rfl rfl ?_
  refine g_iload_n 61 (gd rfl) rfl rfl ?_
  refine g_aload_n 62 (gd rfl) rfl rfl ?_
  refine g_getA (q2 := 30) 65 (gd rfl) rfl rfl rfl rfl ?_
  refine g_iload_n 66 (gd rfl) rfl rfl ?_
  refine g_bipush 6 68 (gd rfl) rfl rfl ?_
  refine g_iadd 69 (gd rfl) rfl (fun z68 e68 => ?_)
  have i68 := in_add 6 27999 e68 h2 (in_c 6 rfl) rfl rfl
  have hx69 : vp_in z68 ((sI (sI (sI (sI s 4 x3.toNatClampNeg z12) 5 x3.toNatClampNeg z26) 6 x3.toNatClampNeg z40) 7 x3.toNatClampNeg z54).2.2.1 30 0).toNatClampNeg := lg_in (by have a0 := (rng_F hI 448 28000 rfl e_30_0); unfold In at a0; have a1 := h3; unfold In at a1; have a2 := h2; unfold In at a2; have a3 := i68; unfold In at a3; have a4 := t_add e68 h2 (in_c 6 rfl) rfl; have a5 := (in_c 6 rfl); unfold In at a5; have a6 := i53; unfold In at a6; have a7 := t_add e53 h2 (in_c 5 rfl) rfl; have a8 := (in_c 5 rfl); unfold In at a8; have a9 := i39; unfold In at a9; have a10 := t_add e39 h2 (in_c 4 rfl) rfl; have a11 := (in_c 4 rfl); unfold In at a11; have a12 := i25; unfold In at a12; have a13 := t_add e25 h2 (in_c 3 rfl) rfl; have a14 := (in_c 3 rfl); unfold In at a14; have a15 := i11; unfold In at a15; have a16 := t_add e11 h2 (in_c 2 rfl) rfl; have a17 := (in_c 2 rfl); unfold In at a17; omega) (by rw [← (show u_30_0 = (sI (sI (sI (sI s 4 x3.toNatClampNeg z12) 5 x3.toNatClampNeg z26) 6 x3.toNatClampNeg z40) 7 x3.toNatClampNeg z54).2.2.1 30 0 from sI_F (sI_F (sI_F (sI_F (e_30_0)))))]; have a0 := (rng_F hI 448 28000 rfl e_30_0); unfold In at a0; have a1 := h3; unfold In at a1; have a2 := h2; unfold In at a2; have a3 := i68; unfold In at a3; have a4 := t_add e68 h2 (in_c 6 rfl) rfl; have a5 := (in_c 6 rfl); unfold In at a5; have a6 := i53; unfold In at a6; have a7 := t_add e53 h2 (in_c 5 rfl) rfl; have a8 := (in_c 5 rfl); unfold In at a8; have a9 := i39; unfold In at a9; have a10 := t_add e39 h2 (in_c 4 rfl) rfl; have a11 := (in_c 4 rfl); unfold In at a11; have a12 := i25; unfold In at a12; have a13 := t_add e25 h2 (in_c 3 rfl) rfl; have a14 := (in_c 3 rfl); unfold In at a14; have a15 := i11; unfold In at a15; have a16 := t_add e11 h2 (in_c 2 rfl) rfl; have a17 := (in_c 2 rfl); unfold In at a17; omega)
  refine g_lgload 70 (gd rfl) rfl hx69 (fun z69 e69 => ?_)
  have i70 : In z69 0 25 := by have hi : (z69) = s.1 30 ((x2).toInt + 6).toNat := (by rw [e69, show (z68).toNatClampNeg = ((x2).toInt + 6).toNat from (by show (z68).toInt.toNat = _; have a0 := (rng_F hI 448 28000 rfl e_30_0); unfold In at a0; have a1 := h3; unfold In at a1; have a2 := h2; unfold In at a2; have a3 := i68; unfold In at a3; have a4 := t_add e68 h2 (in_c 6 rfl) rfl; have a5 := (in_c 6 rfl); unfold In at a5; have a6 := i53; unfold In at a6; have a7 := t_add e53 h2 (in_c 5 rfl) rfl; have a8 := (in_c 5 rfl); unfold In at a8; have a9 := i39; unfold In at a9; have a10 := t_add e39 h2 (in_c 4 rfl) rfl; have a11 := (in_c 4 rfl); unfold In at a11; have a12 := i25; unfold In at a12; have a13 := t_add e25 h2 (in_c 3 rfl) rfl; have a14 := (in_c 3 rfl); unfold In at a14; have a15 := i11; unfold In at a15; have a16 := t_add e11 h2 (in_c 2 rfl) rfl; have a17 := (in_c 2 rfl); unfold In at a17; omega)] <;> simp [sI]); rw [hi]; exact q_4
  refine g_iastore 71 (gd rfl) rfl (n := 160) rfl (in_ix h3 rfl) ?_
  have hI70 := rng_sI (q := 8) (j := x3.toNatClampNeg) hI55 rfl (in_w 0 25 i70 rfl)
  refine g_aload_n 72 (gd rfl) rfl rfl ?_
  refine g_dup 73 (gd rfl) rfl rfl ?_
  refine g_getI 76 (gd rfl) rfl rfl rfl (fun z73 e73 => ?_)
  refine g_iconst 1 77 (gd rfl) rfl rfl ?_
  refine g_iadd 78 (gd rfl) rfl (fun z77 e77 => ?_)
  refine g_putI 81 (gd rfl) rfl rfl rfl rfl ?_
  have hI78 := rng_sF (q := 2) (j := 2) hI70 rfl (in_w (-2147483648) 2147483647 (i_rng z77) rfl)
  refine g_aload_n 82 (gd rfl) rfl rfl ?_
  refine g_aload_n 83 (gd rfl) rfl rfl ?_
  refine g_getI 86 (gd rfl) rfl rfl rfl (fun z83 e83 => ?_)
  have i83 := rng_F hI78 0 160 rfl e83
  refine g_iload_n 87 (gd rfl) rfl rfl ?_
  refine g_iconst 1 88 (gd rfl) rfl rfl ?_
  refine g_iadd 89 (gd rfl) rfl (fun z88 e88 => ?_)
  have i88 := in_add 1 160 e88 h3 (in_c 1 rfl) rfl rfl
  refine g_calls (As := [.int z83, .int z88]) (r := [.ref (A 2)]) 92 (gd rfl) rfl rfl rfl rfl rfl (Nat.le_of_ble_eq_true rfl) (mc := 0) (ms := 0) (Nat.zero_le _) (Nat.zero_le _) (P := fun v u => _) ?_ (fun v u h => h)
  intro po89 xx89 hp89 hx89
  refine g_enter2 (k := 422) (N := 300) (by omega) rfl (Nat.le_of_ble_eq_true rfl) ?_
  refine g_iload_n 1 (gd rfl) rfl rfl ?_
  refine g_iload_n 2 (gd rfl) rfl rfl ?_
  refine g_cmp_lt 5 9 (gd rfl) rfl rfl (fun c89x2 => ?_) (fun c89x2 => ?_)
  · skip
    have i89x2 := r_lt1 0 159 c89x2 i83 i88 rfl
    refine g_iload_n 10 (gd rfl) rfl rfl ?_
    refine g_ireturn (gd rfl) rfl rfl (hp89 _ _ ?_)
    show GG _ _ _ _ _ _ _ _ [.int z88, .ref (A 2)] _ _ _
    refine g_putI 95 (gd rfl) rfl rfl rfl rfl ?_
    have hI92 := rng_sF (q := 2) (j := 3) hI78 rfl (in_w 0 160 i88 rfl)
    have n95 : (sF (sF (sI (sI (sI (sI (sI s 4 x3.toNatClampNeg z12) 5 x3.toNatClampNeg z26) 6 x3.toNatClampNeg z40) 7 x3.toNatClampNeg z54) 8 x3.toNatClampNeg z69) 2 2 z77) 2 3 z88).1 4 = upd (s.1 4) (x3).toNatClampNeg (s.1 30 ((x2).toInt + 2).toNat) := by rw [← hf2]; simp [sI, sF]
    have n95a : (sF (sF (sI (sI (sI (sI (sI s 4 x3.toNatClampNeg z12) 5 x3.toNatClampNeg z26) 6 x3.toNatClampNeg z40) 7 x3.toNatClampNeg z54) 8 x3.toNatClampNeg z69) 2 2 z77) 2 3 z88).1 5 = upd (s.1 5) (x3).toNatClampNeg (s.1 30 ((x2).toInt + 3).toNat) := by rw [← hf3]; simp [sI, sF]
    exact g_return (gd rfl) rfl (hP _ _ ⟨(sF (sF (sI (sI (sI (sI (sI s 4 x3.toNatClampNeg z12) 5 x3.toNatClampNeg z26) 6 x3.toNatClampNeg z40) 7 x3.toNatClampNeg z54) 8 x3.toNatClampNeg z69) 2 2 z77) 2 3 z88), hI92, (fr_sF rfl (fr_sF rfl (fr_sI rfl (fr_sI rfl (fr_sI rfl (fr_sI rfl (fr_sI rfl fr_rf))))))), rfl, rfl, n95, n95a⟩)
  · skip
    have i89x2 := r_le2 1 160 c89x2 i88 i83 rfl
    refine g_iload_n 6 (gd rfl) rfl rfl ?_
    refine g_goto 10 (gd rfl) rfl ?_
    refine g_ireturn (gd rfl) rfl rfl (hp89 _ _ ?_)
    show GG _ _ _ _ _ _ _ _ [.int z83, .ref (A 2)] _ _ _
    refine g_putI 95 (gd rfl) rfl rfl rfl rfl ?_
    have hI92 := rng_sF (q := 2) (j := 3) hI78 rfl (in_w 0 160 i89x2 rfl)
    have n95 : (sF (sF (sI (sI (sI (sI (sI s 4 x3.toNatClampNeg z12) 5 x3.toNatClampNeg z26) 6 x3.toNatClampNeg z40) 7 x3.toNatClampNeg z54) 8 x3.toNatClampNeg z69) 2 2 z77) 2 3 z83).1 4 = upd (s.1 4) (x3).toNatClampNeg (s.1 30 ((x2).toInt + 2).toNat) := by rw [← hf2]; simp [sI, sF]
    have n95a : (sF (sF (sI (sI (sI (sI (sI s 4 x3.toNatClampNeg z12) 5 x3.toNatClampNeg z26) 6 x3.toNatClampNeg z40) 7 x3.toNatClampNeg z54) 8 x3.toNatClampNeg z69) 2 2 z77) 2 3 z83).1 5 = upd (s.1 5) (x3).toNatClampNeg (s.1 30 ((x2).toInt + 3).toNat) := by rw [← hf3]; simp [sI, sF]
    exact g_return (gd rfl) rfl (hP _ _ ⟨(sF (sF (sI (sI (sI (sI (sI s 4 x3.toNatClampNeg z12) 5 x3.toNatClampNeg z26) 6 x3.toNatClampNeg z40) 7 x3.toNatClampNeg z54) 8 x3.toNatClampNeg z69) 2 2 z77) 2 3 z83), hI92, (fr_sF rfl (fr_sF rfl (fr_sI rfl (fr_sI rfl (fr_sI rfl (fr_sI rfl (fr_sI rfl fr_rf))))))), rfl, rfl, n95, n95a⟩)

def fm_133_1_2 : FM := ([6, 7, 8], [], [], [])
/-- GraphHouse$Ledger.applyValue -/
theorem k_133_1_2 {Z : AmZ} {A : Nat → Nat} {s : GS} {ex : va_W} {d : Nat} {X : AmX} {x2 : Int32} {x3 : Int32} {x4 : Int32} (hd : 1 ≤ d) (hI : Rng s) (h2 : In x2 0 159) (q_0 : (x3).toInt = 0 → In x4 (-1000000) 1000000) (q_1 : (x3).toInt = 1 → In x4 0 1000000) (q_2 : (x3).toInt ≠ 0 → (x3).toInt ≠ 1 → In x4 0 25) : GC Z d 133 [.ref (A 1), .ref (A 2), .int x2, .int x3, .int x4] (WW Z A s ++ ex) 0 0 (fun v u => ∃ t : GS, Rng t ∧ Fr fm_133_1_2 s t ∧ v = none ∧ u = WW Z A t ++ ex) X := by
  intro post xp hP hX
  refine g_enter2 (k := 133) (N := 900) (by omega) rfl (Nat.le_of_ble_eq_true rfl) ?_
  refine g_iload_n 1 (gd rfl) rfl rfl ?_
  refine g_if_ne 4 15 (gd rfl) rfl rfl (fun c1 => ?_) (fun c1 => ?_)
  · skip
    refine g_iload_n 16 (gd rfl) rfl rfl ?_
    refine g_iconst 1 17 (gd rfl) rfl rfl ?_
    refine g_cmp_ne 20 31 (gd rfl) rfl rfl (fun c17 => ?_) (fun c17 => ?_)
    · skip
      refine g_aload_n 32 (gd rfl) rfl rfl ?_
      refine g_getA (q2 := 8) 35 (gd rfl) rfl rfl rfl rfl ?_
      refine g_iload_n 36 (gd rfl) rfl rfl ?_
      refine g_iload 38 (gd rfl) rfl rfl ?_
      have i38 : In x4 0 25 := by exact q_2 c1 c17
      refine g_iastore 39 (gd rfl) rfl (n := 160) rfl (in_ix h2 rfl) ?_
      have hI38 := rng_sI (q := 8) (j := x2.toNatClampNeg) hI rfl (in_w 0 25 i38 rfl)
      exact g_return (gd rfl) rfl (hP _ _ ⟨(sI s 8 x2.toNatClampNeg x4), hI38, (fr_sI rfl fr_rf), rfl, rfl⟩)
    · skip
      have i17 := r_eq1 1 1 c17 (i_rng x3) (in_c 1 rfl) rfl
      refine g_aload_n 21 (gd rfl) rfl rfl ?_
      refine g_getA (q2 := 7) 24 (gd rfl) rfl rfl rfl rfl ?_
      refine g_iload_n 25 (gd rfl) rfl rfl ?_
      refine g_iload 27 (gd rfl) rfl rfl ?_
      have i27 : In x4 0 1000000 := by exact q_1 c17
      refine g_iastore 28 (gd rfl) rfl (n := 160) rfl (in_ix h2 rfl) ?_
      have hI27 := rng_sI (q := 7) (j := x2.toNatClampNeg) hI rfl (in_w 0 1000000 i27 rfl)
      refine g_goto 39 (gd rfl) rfl ?_
      exact g_return (gd rfl) rfl (hP _ _ ⟨(sI s 7 x2.toNatClampNeg x4), hI27, (fr_sI rfl fr_rf), rfl, rfl⟩)
  · skip
    have i1 := z_eq 0 0 c1 (i_rng x3) rfl
    refine g_aload_n 5 (gd rfl) rfl rfl ?_
    refine g_getA (q2 := 6) 8 (gd rfl) rfl rfl rfl rfl ?_
    refine g_iload_n 9 (gd rfl) rfl rfl ?_
    refine g_iload 11 (gd rfl) rfl rfl ?_
    have i11 : In x4 (-1000000) 1000000 := by exact q_0 c1
    refine g_iastore 12 (gd rfl) rfl (n := 160) rfl (in_ix h2 rfl) ?_
    have hI11 := rng_sI (q := 6) (j := x2.toNatClampNeg) hI rfl (in_w (-1000000) 1000000 i11 rfl)
    refine g_goto 39 (gd rfl) rfl ?_
    exact g_return (gd rfl) rfl (hP _ _ ⟨(sI s 6 x2.toNatClampNeg x4), hI11, (fr_sI rfl fr_rf), rfl, rfl⟩)

def fm_131_1_2 : FM := ([3, 4, 5, 6, 7, 8], [], [(2, 0), (2, 1), (2, 2), (2, 3)], [])
/-- GraphHouse$Ledger.apply -/
theorem k_131_1_2 {Z : AmZ} {A : Nat → Nat} {s : GS} {ex : va_W} {d : Nat} {X : AmX} {u_2_0 : Int32} {u_2_1 : Int32} {u_30_0 : Int32} (hd : 4 ≤ d) (hI : Inv s) (e_2_0 : u_2_0 = s.2.2.1 2 0) (e_2_1 : u_2_1 = s.2.2.1 2 1) (e_30_0 : u_30_0 = s.2.2.1 30 0) (r_2_0 : In u_2_0 0 3999) (p_0 : 7 * (u_2_0).toInt + 7 ≤ (u_30_0).toInt) (q_0 : RW7 (s.1 30) (s.2.2.1 2 0).toInt.toNat) (q_1 : KV s 2) : GC Z d 131 [.ref (A 1), .ref (A 2)] (WW Z A s ++ ex) 0 0 (fun v u => ∃ t : GS, Inv t ∧ Fr fm_131_1_2 s t ∧ ((t.2.2.1 2 0).toInt = (s.2.2.1 2 0).toInt + 1) ∧ v = none ∧ u = WW Z A t ++ ex ∧ (KV t 2)) X := by
  intro post xp hP hX
  have ro_30_0 := inv_F hI 448 28000 rfl e_30_0
  refine g_enter2 (k := 131) (N := 900) (by omega) rfl (Nat.le_of_ble_eq_true rfl) ?_
  refine g_aload_n 1 (gd rfl) rfl rfl ?_
  refine g_getI 4 (gd rfl) rfl rfl rfl (fun z1 e1 => ?_)
  have q1 : u_2_0 = z1 := (e_2_0).trans e1.symm
  subst q1
  refine g_bipush 7 6 (gd rfl) rfl rfl ?_
  refine g_imul 7 (gd rfl) rfl (fun z6 e6 => ?_)
  have i6 := in_mulc 7 0 27993 (Or.inr e6) r_2_0 rfl rfl
  refine g_istore_n 8 (gd rfl) rfl (Nat.le_of_ble_eq_true rfl) ?_
  have hk : z6.toInt = 7 * (((s.2.2.1 2 0).toInt.toNat : Nat) : Int) := (by rw [← e_2_0]; have a0 := (rng_F hI.1 448 28000 rfl e_30_0); unfold In at a0; have a1 := (rng_F hI.1 0 32 rfl e_2_1); unfold In at a1; have a2 := r_2_0; unfold In at a2; have a3 := i6; unfold In at a3; have a4 := (t_mulc 7 (Or.inr e6) r_2_0 rfl).1; omega)
  refine g_aload_n 9 (gd rfl) rfl rfl ?_
  refine g_getA (q2 := 30) 12 (gd rfl) rfl rfl rfl rfl ?_
  refine g_iload_n 13 (gd rfl) rfl rfl ?_
  refine g_iconst 1 14 (gd rfl) rfl rfl ?_
  refine g_iadd 15 (gd rfl) rfl (fun z14 e14 => ?_)
  have i14 := in_add 1 27994 e14 i6 (in_c 1 rfl) rfl rfl
  have hx15 : vp_in z14 (s.2.2.1 30 0).toNatClampNeg := lg_in (by have a0 := (rng_F hI.1 448 28000 rfl e_30_0); unfold In at a0; have a1 := (rng_F hI.1 0 32 rfl e_2_1); unfold In at a1; have a2 := r_2_0; unfold In at a2; have a3 := i6; unfold In at a3; have a4 := (t_mulc 7 (Or.inr e6) r_2_0 rfl).1; have a5 := i14; unfold In at a5; have a6 := t_add e14 i6 (in_c 1 rfl) rfl; have a7 := (in_c 1 rfl); unfold In at a7; omega) (by rw [← (show u_30_0 = s.2.2.1 30 0 from e_30_0)]; have a0 := (rng_F hI.1 448 28000 rfl e_30_0); unfold In at a0; have a1 := (rng_F hI.1 0 32 rfl e_2_1); unfold In at a1; have a2 := r_2_0; unfold In at a2; have a3 := i6; unfold In at a3; have a4 := (t_mulc 7 (Or.inr e6) r_2_0 rfl).1; have a5 := i14; unfold In at a5; have a6 := t_add e14 i6 (in_c 1 rfl) rfl; have a7 := (in_c 1 rfl); unfold In at a7; omega)
  refine g_lgload 16 (gd rfl) rfl hx15 (fun z15 e15 => ?_)
  refine g_istore_n 17 (gd rfl) rfl (Nat.le_of_ble_eq_true rfl) ?_
  have hp : z15 = s.1 30 (7 * (s.2.2.1 2 0).toInt.toNat + 1) := rw7_v (c := 1) (by have a0 := (rng_F hI.1 448 28000 rfl e_30_0); unfold In at a0; have a1 := (rng_F hI.1 0 32 rfl e_2_1); unfold In at a1; have a2 := r_2_0; unfold In at a2; have a3 := i6; unfold In at a3; have a4 := (t_mulc 7 (Or.inr e6) r_2_0 rfl).1; have a5 := i14; unfold In at a5; have a6 := t_add e14 i6 (in_c 1 rfl) rfl; have a7 := (in_c 1 rfl); unfold In at a7; omega) e15
  refine g_aload_n 18 (gd rfl) rfl rfl ?_
  refine g_dup 19 (gd rfl) rfl rfl ?_
  refine g_getI 22 (gd rfl) rfl rfl rfl (fun z19 e19 => ?_)
  have q19 : u_2_0 = z19 := (e_2_0).trans e19.symm
  subst q19
  refine g_iconst 1 23 (gd rfl) rfl rfl ?_
  refine g_iadd 24 (gd rfl) rfl (fun z23 e23 => ?_)
  have i23 := in_add 1 4000 e23 r_2_0 (in_c 1 rfl) rfl rfl
  refine g_putI 27 (gd rfl) rfl rfl rfl rfl ?_
  have hI24 := rng_sF (q := 2) (j := 0) hI.1 rfl (in_w 0 4000 i23 rfl)
  refine g_aload_n 28 (gd rfl) rfl rfl ?_
  refine g_getA (q2 := 30) 31 (gd rfl) rfl rfl rfl rfl ?_
  refine g_iload_n 32 (gd rfl) rfl rfl ?_
  have hx32 : vp_in z6 ((sF s 2 0 z23).2.2.1 30 0).toNatClampNeg := lg_in (by have a0 := (rng_F hI.1 448 28000 rfl e_30_0); unfold In at a0; have a1 := (rng_F hI.1 0 32 rfl e_2_1); unfold In at a1; have a2 := r_2_0; unfold In at a2; have a3 := i6; unfold In at a3; have a4 := (t_mulc 7 (Or.inr e6) r_2_0 rfl).1; have a5 := i23; unfold In at a5; have a6 := t_add e23 r_2_0 (in_c 1 rfl) rfl; have a7 := (in_c 1 rfl); unfold In at a7; have a8 := i14; unfold In at a8; have a9 := t_add e14 i6 (in_c 1 rfl) rfl; omega) (by rw [← (show u_30_0 = (sF s 2 0 z23).2.2.1 30 0 from sF_ne rfl (e_30_0))]; have a0 := (rng_F hI.1 448 28000 rfl e_30_0); unfold In at a0; have a1 := (rng_F hI.1 0 32 rfl e_2_1); unfold In at a1; have a2 := r_2_0; unfold In at a2; have a3 := i6; unfold In at a3; have a4 := (t_mulc 7 (Or.inr e6) r_2_0 rfl).1; have a5 := i23; unfold In at a5; have a6 := t_add e23 r_2_0 (in_c 1 rfl) rfl; have a7 := (in_c 1 rfl); unfold In at a7; have a8 := i14; unfold In at a8; have a9 := t_add e14 i6 (in_c 1 rfl) rfl; omega)
  refine g_lgload 33 (gd rfl) rfl hx32 (fun z32 e32 => ?_)
  refine g_tsw [64, 91, 101, 109] 134 (gd rfl) rfl rfl rfl ⟨fun c33 => ?_, fun c33 => ?_, fun c33 => ?_, fun c33 => ?_, trivial⟩ (fun c33 => ?_)
  · skip
    have i33 := sw_eq c33
    have h32 : z32 = s.1 30 (7 * (s.2.2.1 2 0).toInt.toNat) := rw7_v (c := 0) (by have a0 := (rng_F hI.1 448 28000 rfl e_30_0); unfold In at a0; have a1 := (rng_F hI.1 0 32 rfl e_2_1); unfold In at a1; have a2 := r_2_0; unfold In at a2; have a3 := i6; unfold In at a3; have a4 := (t_mulc 7 (Or.inr e6) r_2_0 rfl).1; have a5 := i23; unfold In at a5; have a6 := t_add e23 r_2_0 (in_c 1 rfl) rfl; have a7 := (in_c 1 rfl); unfold In at a7; have a8 := i14; unfold In at a8; have a9 := t_add e14 i6 (in_c 1 rfl) rfl; omega) e32
    have hr := rw7_0 q_0 hk e32 c33
    have i64 : In z15 0 31 := by rw [hp]; have h1 := hr.1; have h2 := hr.2.1; exact ⟨by omega, by omega⟩
    have i64a : In u_2_1 0 31 := by have h1 := q_1.1; have h2 := hr.2.1; rw [e_2_1]; exact ⟨by omega, by omega⟩
    refine g_aload_n 65 (gd rfl) rfl rfl ?_
    refine g_getA (q2 := 3) 68 (gd rfl) rfl rfl rfl rfl ?_
    refine g_iload_n 69 (gd rfl) rfl rfl ?_
    refine g_aload_n 70 (gd rfl) rfl rfl ?_
    refine g_getA (q2 := 30) 73 (gd rfl) rfl rfl rfl rfl ?_
    refine g_iload_n 74 (gd rfl) rfl rfl ?_
    refine g_iconst 2 75 (gd rfl) rfl rfl ?_
    refine g_iadd 76 (gd rfl) rfl (fun z75 e75 => ?_)
    have i75 := in_add 2 27995 e75 i6 (in_c 2 rfl) rfl rfl
    have hx76 : vp_in z75 ((sF s 2 0 z23).2.2.1 30 0).toNatClampNeg := lg_in (by have a0 := (rng_F hI.1 448 28000 rfl e_30_0); unfold In at a0; have a1 := i64a; unfold In at a1; have a2 := r_2_0; unfold In at a2; have a3 := i64; unfold In at a3; have a4 := i6; unfold In at a4; have a5 := (t_mulc 7 (Or.inr e6) r_2_0 rfl).1; have a6 := i23; unfold In at a6; have a7 := t_add e23 r_2_0 (in_c 1 rfl) rfl; have a8 := (in_c 1 rfl); unfold In at a8; have a9 := i75; unfold In at a9; have a10 := t_add e75 i6 (in_c 2 rfl) rfl; have a11 := (in_c 2 rfl); unfold In at a11; have a12 := i14; unfold In at a12; have a13 := t_add e14 i6 (in_c 1 rfl) rfl; omega) (by rw [← (show u_30_0 = (sF s 2 0 z23).2.2.1 30 0 from sF_ne rfl (e_30_0))]; have a0 := (rng_F hI.1 448 28000 rfl e_30_0); unfold In at a0; have a1 := i64a; unfold In at a1; have a2 := r_2_0; unfold In at a2; have a3 := i64; unfold In at a3; have a4 := i6; unfold In at a4; have a5 := (t_mulc 7 (Or.inr e6) r_2_0 rfl).1; have a6 := i23; unfold In at a6; have a7 := t_add e23 r_2_0 (in_c 1 rfl) rfl; have a8 := (in_c 1 rfl); unfold In at a8; have a9 := i75; unfold In at a9; have a10 := t_add e75 i6 (in_c 2 rfl) rfl; have a11 := (in_c 2 rfl); unfold In at a11; have a12 := i14; unfold In at a12; have a13 := t_add e14 i6 (in_c 1 rfl) rfl; omega)
    refine g_lgload 77 (gd rfl) rfl hx76 (fun z76 e76 => ?_)
    have i77 : In z76 0 25 := by rw [rw7_v (k := (s.2.2.1 2 0).toInt.toNat) (c := 2) (by have a0 := (rng_F hI.1 448 28000 rfl e_30_0); unfold In at a0; have a1 := i64a; unfold In at a1; have a2 := r_2_0; unfold In at a2; have a3 := i64; unfold In at a3; have a4 := i6; unfold In at a4; have a5 := (t_mulc 7 (Or.inr e6) r_2_0 rfl).1; have a6 := i23; unfold In at a6; have a7 := t_add e23 r_2_0 (in_c 1 rfl) rfl; have a8 := (in_c 1 rfl); unfold In at a8; have a9 := i75; unfold In at a9; have a10 := t_add e75 i6 (in_c 2 rfl) rfl; have a11 := (in_c 2 rfl); unfold In at a11; have a12 := i14; unfold In at a12; have a13 := t_add e14 i6 (in_c 1 rfl) rfl; omega) e76]; exact hr.2.2
    refine g_iastore 78 (gd rfl) rfl (n := 32) rfl (in_ix i64 rfl) ?_
    have hI77 := rng_sI (q := 3) (j := z15.toNatClampNeg) hI24 rfl (in_w 0 25 i77 rfl)
    refine g_aload_n 79 (gd rfl) rfl rfl ?_
    refine g_dup 80 (gd rfl) rfl rfl ?_
    refine g_getI 83 (gd rfl) rfl rfl rfl (fun z80 e80 => ?_)
    have q80 : u_2_1 = z80 := (sI_F (sF_ne rfl (e_2_1))).trans e80.symm
    subst q80
    refine g_iconst 1 84 (gd rfl) rfl rfl ?_
    refine g_iadd 85 (gd rfl) rfl (fun z84 e84 => ?_)
    have i84 := in_add 1 32 e84 i64a (in_c 1 rfl) rfl rfl
    refine g_putI 88 (gd rfl) rfl rfl rfl rfl ?_
    have hI85 := rng_sF (q := 2) (j := 1) hI77 rfl (in_w 0 32 i84 rfl)
    refine g_goto 148 (gd rfl) rfl ?_
    have hI148 : Inv (sF (sI (sF s 2 0 z23) 3 z15.toNatClampNeg z76) 2 1 z84) := by have hFF : Fr fm_131_1_2 s (sF (sI (sF s 2 0 z23) 3 z15.toNatClampNeg z76) 2 1 z84) := (fr_sF rfl (fr_sI rfl (fr_sF rfl fr_rf))); exact ⟨hI85, kk_ap2 hI.2 hFF rfl (by rw [hFF.2.2.1 2 4 rfl, ← (show z23 = (sF (sI (sF s 2 0 z23) 3 z15.toNatClampNeg z76) 2 1 z84).2.2.1 2 0 from sF_ne rfl (sI_F (sF_get)))]; have hg := hI.2.1.1; rw [mF_at rfl, mF_at rfl, ← e_2_0] at hg; have a0 := (rng_F hI.1 448 28000 rfl e_30_0); unfold In at a0; have a1 := i64a; unfold In at a1; have a2 := r_2_0; unfold In at a2; have a3 := i64; unfold In at a3; have a4 := i6; unfold In at a4; have a5 := (t_mulc 7 (Or.inr e6) r_2_0 rfl).1; have a6 := i84; unfold In at a6; have a7 := t_add e84 i64a (in_c 1 rfl) rfl; have a8 := (in_c 1 rfl); unfold In at a8; have a9 := i23; unfold In at a9; have a10 := t_add e23 r_2_0 (in_c 1 rfl) rfl; have a11 := i75; unfold In at a11; have a12 := t_add e75 i6 (in_c 2 rfl) rfl; have a13 := (in_c 2 rfl); unfold In at a13; have a14 := i14; unfold In at a14; have a15 := t_add e14 i6 (in_c 1 rfl) rfl; omega)⟩
    have n148 : KV (sF (sI (sF s 2 0 z23) 3 z15.toNatClampNeg z76) 2 1 z84) 2 := by have hif : (if (s.1 30 (7 * (s.2.2.1 2 0).toInt.toNat)).toInt = 0 then (1 : Int) else 0) = 1 := if_pos (by rw [← h32]; exact c33); exact kv_st q_1 rfl (rng_F hI.1 0 4000 (q := 2) (j := 0) rfl rfl).1 (by rw [← (show z23 = (sF (sI (sF s 2 0 z23) 3 z15.toNatClampNeg z76) 2 1 z84).2.2.1 2 0 from sF_ne rfl (sI_F (sF_get))), ← e_2_0]; have a0 := (rng_F hI.1 448 28000 rfl e_30_0); unfold In at a0; have a1 := i64a; unfold In at a1; have a2 := r_2_0; unfold In at a2; have a3 := i64; unfold In at a3; have a4 := i6; unfold In at a4; have a5 := (t_mulc 7 (Or.inr e6) r_2_0 rfl).1; have a6 := i84; unfold In at a6; have a7 := t_add e84 i64a (in_c 1 rfl) rfl; have a8 := (in_c 1 rfl); unfold In at a8; have a9 := i23; unfold In at a9; have a10 := t_add e23 r_2_0 (in_c 1 rfl) rfl; have a11 := i75; unfold In at a11; have a12 := t_add e75 i6 (in_c 2 rfl) rfl; have a13 := (in_c 2 rfl); unfold In at a13; have a14 := i14; unfold In at a14; have a15 := t_add e14 i6 (in_c 1 rfl) rfl; omega) (by rw [hif, ← (show z84 = (sF (sI (sF s 2 0 z23) 3 z15.toNatClampNeg z76) 2 1 z84).2.2.1 2 1 from sF_get), ← e_2_1]; have a0 := (rng_F hI.1 448 28000 rfl e_30_0); unfold In at a0; have a1 := i64a; unfold In at a1; have a2 := r_2_0; unfold In at a2; have a3 := i64; unfold In at a3; have a4 := i6; unfold In at a4; have a5 := (t_mulc 7 (Or.inr e6) r_2_0 rfl).1; have a6 := i84; unfold In at a6; have a7 := t_add e84 i64a (in_c 1 rfl) rfl; have a8 := (in_c 1 rfl); unfold In at a8; have a9 := i23; unfold In at a9; have a10 := t_add e23 r_2_0 (in_c 1 rfl) rfl; have a11 := i75; unfold In at a11; have a12 := t_add e75 i6 (in_c 2 rfl) rfl; have a13 := (in_c 2 rfl); unfold In at a13; have a14 := i14; unfold In at a14; have a15 := t_add e14 i6 (in_c 1 rfl) rfl; omega) (kn_up q_1.2 (by rw [← (show z84 = (sF (sI (sF s 2 0 z23) 3 z15.toNatClampNeg z76) 2 1 z84).2.2.1 2 1 from sF_get), ← e_2_1]; have a0 := (rng_F hI.1 448 28000 rfl e_30_0); unfold In at a0; have a1 := i64a; unfold In at a1; have a2 := r_2_0; unfold In at a2; have a3 := i64; unfold In at a3; have a4 := i6; unfold In at a4; have a5 := (t_mulc 7 (Or.inr e6) r_2_0 rfl).1; have a6 := i84; unfold In at a6; have a7 := t_add e84 i64a (in_c 1 rfl) rfl; have a8 := (in_c 1 rfl); unfold In at a8; have a9 := i23; unfold In at a9; have a10 := t_add e23 r_2_0 (in_c 1 rfl) rfl; have a11 := i75; unfold In at a11; have a12 := t_add e75 i6 (in_c 2 rfl) rfl; have a13 := (in_c 2 rfl); unfold In at a13; have a14 := i14; unfold In at a14; have a15 := t_add e14 i6 (in_c 1 rfl) rfl; omega))
    have n148a : (z23).toInt = (u_2_0).toInt + 1 := by have a0 := (rng_F hI.1 448 28000 rfl e_30_0); unfold In at a0; have a1 := i64a; unfold In at a1; have a2 := r_2_0; unfold In at a2; have a3 := i64; unfold In at a3; have a4 := i6; unfold In at a4; have a5 := (t_mulc 7 (Or.inr e6) r_2_0 rfl).1; have a6 := i84; unfold In at a6; have a7 := t_add e84 i64a (in_c 1 rfl) rfl; have a8 := (in_c 1 rfl); unfold In at a8; have a9 := i23; unfold In at a9; have a10 := t_add e23 r_2_0 (in_c 1 rfl) rfl; have a11 := i75; unfold In at a11; have a12 := t_add e75 i6 (in_c 2 rfl) rfl; have a13 := (in_c 2 rfl); unfold In at a13; have a14 := i14; unfold In at a14; have a15 := t_add e14 i6 (in_c 1 rfl) rfl; omega
    have n148b : ((sF (sI (sF s 2 0 z23) 3 z15.toNatClampNeg z76) 2 1 z84).2.2.1 2 0).toInt = (s.2.2.1 2 0).toInt + 1 := by have b0 : z23 = (sF (sI (sF s 2 0 z23) 3 z15.toNatClampNeg z76) 2 1 z84).2.2.1 2 0 := sF_ne rfl (sI_F (sF_get)); first | (rw [← b0, ← e_2_0]; exact n148a) | (rw [← b0]; exact n148a)
    exact g_return (gd rfl) rfl (hP _ _ ⟨(sF (sI (sF s 2 0 z23) 3 z15.toNatClampNeg z76) 2 1 z84), hI148, (fr_sF rfl (fr_sI rfl (fr_sF rfl fr_rf))), n148b, rfl, rfl, n148⟩)
  · skip
    have i33 := sw_eq c33
    have h32 : z32 = s.1 30 (7 * (s.2.2.1 2 0).toInt.toNat) := rw7_v (c := 0) (by have a0 := (rng_F hI.1 448 28000 rfl e_30_0); unfold In at a0; have a1 := (rng_F hI.1 0 32 rfl e_2_1); unfold In at a1; have a2 := r_2_0; unfold In at a2; have a3 := i6; unfold In at a3; have a4 := (t_mulc 7 (Or.inr e6) r_2_0 rfl).1; have a5 := i23; unfold In at a5; have a6 := t_add e23 r_2_0 (in_c 1 rfl) rfl; have a7 := (in_c 1 rfl); unfold In at a7; have a8 := i14; unfold In at a8; have a9 := t_add e14 i6 (in_c 1 rfl) rfl; omega) e32
    have hr := rw7_1 q_0 hk e32 c33
    have i91 : In z15 0 159 := by rw [hp]; exact hr.1
    refine g_aload_n 92 (gd rfl) rfl rfl ?_
    refine g_aload_n 93 (gd rfl) rfl rfl ?_
    refine g_iload_n 94 (gd rfl) rfl rfl ?_
    refine g_iload_n 95 (gd rfl) rfl rfl ?_
    have v95 : u_30_0 = (sF s 2 0 z23).2.2.1 30 0 := sF_ne rfl (e_30_0)
    have n95 : (z6).toInt + 7 ≤ (u_30_0).toInt := by have a0 := (rng_F hI.1 448 28000 rfl e_30_0); unfold In at a0; have a1 := (rng_F hI.1 0 32 rfl e_2_1); unfold In at a1; have a2 := r_2_0; unfold In at a2; have a3 := i91; unfold In at a3; have a4 := i6; unfold In at a4; have a5 := (t_mulc 7 (Or.inr e6) r_2_0 rfl).1; have a6 := i23; unfold In at a6; have a7 := t_add e23 r_2_0 (in_c 1 rfl) rfl; have a8 := (in_c 1 rfl); unfold In at a8; have a9 := i14; unfold In at a9; have a10 := t_add e14 i6 (in_c 1 rfl) rfl; omega
    have p95 : In ((sF s 2 0 z23).1 30 ((z6).toInt + 2).toNat) (0) 31 := by show In (s.1 30 ((z6).toInt + 2).toNat) 0 31; rw [(show s.1 30 ((z6).toInt + 2).toNat = s.1 30 (7 * (s.2.2.1 2 0).toInt.toNat + 2) from congrArg (s.1 30) (by have a0 := (rng_F hI.1 448 28000 rfl e_30_0); unfold In at a0; have a1 := (rng_F hI.1 0 32 rfl e_2_1); unfold In at a1; have a2 := r_2_0; unfold In at a2; have a3 := i91; unfold In at a3; have a4 := i6; unfold In at a4; have a5 := (t_mulc 7 (Or.inr e6) r_2_0 rfl).1; have a6 := i23; unfold In at a6; have a7 := t_add e23 r_2_0 (in_c 1 rfl) rfl; have a8 := (in_c 1 rfl); unfold In at a8; have a9 := i14; unfold In at a9; have a10 := t_add e14 i6 (in_c 1 rfl) rfl; omega))]; have h1 := hr.2.1; have h2 := q_1.1; have h3 := rng_F hI.1 0 32 (q := 2) (j := 1) rfl rfl; unfold In at h3; exact ⟨by omega, by omega⟩
    have p95a : In ((sF s 2 0 z23).1 30 ((z6).toInt + 3).toNat) (0) 31 := by show In (s.1 30 ((z6).toInt + 3).toNat) 0 31; rw [(show s.1 30 ((z6).toInt + 3).toNat = s.1 30 (7 * (s.2.2.1 2 0).toInt.toNat + 3) from congrArg (s.1 30) (by have a0 := (rng_F hI.1 448 28000 rfl e_30_0); unfold In at a0; have a1 := (rng_F hI.1 0 32 rfl e_2_1); unfold In at a1; have a2 := r_2_0; unfold In at a2; have a3 := i91; unfold In at a3; have a4 := i6; unfold In at a4; have a5 := (t_mulc 7 (Or.inr e6) r_2_0 rfl).1; have a6 := i23; unfold In at a6; have a7 := t_add e23 r_2_0 (in_c 1 rfl) rfl; have a8 := (in_c 1 rfl); unfold In at a8; have a9 := i14; unfold In at a9; have a10 := t_add e14 i6 (in_c 1 rfl) rfl; omega))]; have h1 := hr.2.2.1; have h2 := q_1.1; have h3 := rng_F hI.1 0 32 (q := 2) (j := 1) rfl rfl; unfold In at h3; exact ⟨by omega, by omega⟩
    have p95b : In ((sF s 2 0 z23).1 30 ((z6).toInt + 4).toNat) (-1000000) 1000000 := by show In (s.1 30 ((z6).toInt + 4).toNat) _ _; rw [(show s.1 30 ((z6).toInt + 4).toNat = s.1 30 (7 * (s.2.2.1 2 0).toInt.toNat + 4) from congrArg (s.1 30) (by have a0 := (rng_F hI.1 448 28000 rfl e_30_0); unfold In at a0; have a1 := (rng_F hI.1 0 32 rfl e_2_1); unfold In at a1; have a2 := r_2_0; unfold In at a2; have a3 := i91; unfold In at a3; have a4 := i6; unfold In at a4; have a5 := (t_mulc 7 (Or.inr e6) r_2_0 rfl).1; have a6 := i23; unfold In at a6; have a7 := t_add e23 r_2_0 (in_c 1 rfl) rfl; have a8 := (in_c 1 rfl); unfold In at a8; have a9 := i14; unfold In at a9; have a10 := t_add e14 i6 (in_c 1 rfl) rfl; omega))]; exact hr.2.2.2.1
    have p95c : In ((sF s 2 0 z23).1 30 ((z6).toInt + 5).toNat) (0) 1000000 := by show In (s.1 30 ((z6).toInt + 5).toNat) _ _; rw [(show s.1 30 ((z6).toInt + 5).toNat = s.1 30 (7 * (s.2.2.1 2 0).toInt.toNat + 5) from congrArg (s.1 30) (by have a0 := (rng_F hI.1 448 28000 rfl e_30_0); unfold In at a0; have a1 := (rng_F hI.1 0 32 rfl e_2_1); unfold In at a1; have a2 := r_2_0; unfold In at a2; have a3 := i91; unfold In at a3; have a4 := i6; unfold In at a4; have a5 := (t_mulc 7 (Or.inr e6) r_2_0 rfl).1; have a6 := i23; unfold In at a6; have a7 := t_add e23 r_2_0 (in_c 1 rfl) rfl; have a8 := (in_c 1 rfl); unfold In at a8; have a9 := i14; unfold In at a9; have a10 := t_add e14 i6 (in_c 1 rfl) rfl; omega))]; exact hr.2.2.2.2.1
    have p95d : In ((sF s 2 0 z23).1 30 ((z6).toInt + 6).toNat) (0) 25 := by show In (s.1 30 ((z6).toInt + 6).toNat) _ _; rw [(show s.1 30 ((z6).toInt + 6).toNat = s.1 30 (7 * (s.2.2.1 2 0).toInt.toNat + 6) from congrArg (s.1 30) (by have a0 := (rng_F hI.1 448 28000 rfl e_30_0); unfold In at a0; have a1 := (rng_F hI.1 0 32 rfl e_2_1); unfold In at a1; have a2 := r_2_0; unfold In at a2; have a3 := i91; unfold In at a3; have a4 := i6; unfold In at a4; have a5 := (t_mulc 7 (Or.inr e6) r_2_0 rfl).1; have a6 := i23; unfold In at a6; have a7 := t_add e23 r_2_0 (in_c 1 rfl) rfl; have a8 := (in_c 1 rfl); unfold In at a8; have a9 := i14; unfold In at a9; have a10 := t_add e14 i6 (in_c 1 rfl) rfl; omega))]; exact hr.2.2.2.2.2
    refine g_callv (X := _) (As := [.ref (A 2), .int z6, .int z15]) (r := []) (b := A 1) (q := 1) 98 (gd rfl) rfl rfl rfl rfl rfl (ww_o rfl) (Nat.le_of_ble_eq_true rfl) (Nat.zero_le _) (Nat.zero_le _) (k_132_1_2 (by omega) hI24 (in_w 0 27993 i6 rfl) (in_w 0 159 i91 rfl) v95 n95 p95 p95a p95b p95c p95d) (fun e u h => h) (fun v u h => ?_)
    obtain ⟨s95, hI95, hF95, rfl, rfl, p95e, p95f⟩ := h
    show GG _ _ _ _ _ _ _ _ [] _ _ _
    refine g_goto 148 (gd rfl) rfl ?_
    have hI148 : Inv s95 := by have hFF : Fr fm_131_1_2 s s95 := (fr_tr rfl (fr_sF rfl fr_rf) hF95); exact ⟨hI95, kk_ap2 hI.2 hFF rfl (by rw [hFF.2.2.1 2 4 rfl, ← (show z23 = s95.2.2.1 2 0 from fr_F (s := (sF s 2 0 z23)) (sF_get) hF95 rfl)]; have hg := hI.2.1.1; rw [mF_at rfl, mF_at rfl, ← e_2_0] at hg; have a0 := (rng_F hI.1 448 28000 rfl e_30_0); unfold In at a0; have a1 := (rng_F hI.1 0 32 rfl e_2_1); unfold In at a1; have a2 := r_2_0; unfold In at a2; have a3 := i91; unfold In at a3; have a4 := i6; unfold In at a4; have a5 := (t_mulc 7 (Or.inr e6) r_2_0 rfl).1; have a6 := i23; unfold In at a6; have a7 := t_add e23 r_2_0 (in_c 1 rfl) rfl; have a8 := (in_c 1 rfl); unfold In at a8; have a9 := i14; unfold In at a9; have a10 := t_add e14 i6 (in_c 1 rfl) rfl; omega)⟩
    have n148 : KV s95 2 := by have hif : (if (s.1 30 (7 * (s.2.2.1 2 0).toInt.toNat)).toInt = 0 then (1 : Int) else 0) = 0 := if_neg (by rw [← h32]; have a0 := (rng_F hI.1 448 28000 rfl e_30_0); unfold In at a0; have a1 := (rng_F hI.1 0 32 rfl e_2_1); unfold In at a1; have a2 := r_2_0; unfold In at a2; have a3 := i91; unfold In at a3; have a4 := i6; unfold In at a4; have a5 := (t_mulc 7 (Or.inr e6) r_2_0 rfl).1; have a6 := i23; unfold In at a6; have a7 := t_add e23 r_2_0 (in_c 1 rfl) rfl; have a8 := (in_c 1 rfl); unfold In at a8; have a9 := i14; unfold In at a9; have a10 := t_add e14 i6 (in_c 1 rfl) rfl; omega); exact kv_st q_1 (hF95.1 30 rfl) (rng_F hI.1 0 4000 (q := 2) (j := 0) rfl rfl).1 (by rw [← (show z23 = s95.2.2.1 2 0 from fr_F (s := (sF s 2 0 z23)) (sF_get) hF95 rfl), ← e_2_0]; have a0 := (rng_F hI.1 448 28000 rfl e_30_0); unfold In at a0; have a1 := (rng_F hI.1 0 32 rfl e_2_1); unfold In at a1; have a2 := r_2_0; unfold In at a2; have a3 := i91; unfold In at a3; have a4 := i6; unfold In at a4; have a5 := (t_mulc 7 (Or.inr e6) r_2_0 rfl).1; have a6 := i23; unfold In at a6; have a7 := t_add e23 r_2_0 (in_c 1 rfl) rfl; have a8 := (in_c 1 rfl); unfold In at a8; have a9 := i14; unfold In at a9; have a10 := t_add e14 i6 (in_c 1 rfl) rfl; omega) (by rw [hif, ← (show u_2_1 = s95.2.2.1 2 1 from fr_F (s := (sF s 2 0 z23)) (sF_ne rfl (e_2_1)) hF95 rfl), ← e_2_1]; omega) (by rw [← (show u_2_1 = s95.2.2.1 2 1 from fr_F (s := (sF s 2 0 z23)) (sF_ne rfl (e_2_1)) hF95 rfl), e_2_1]; exact (by rw [p95e, p95f]; show KN (upd (s.1 4) _ (s.1 30 ((z6).toInt + 2).toNat)) (upd (s.1 5) _ (s.1 30 ((z6).toInt + 3).toNat)) _; rw [(show s.1 30 ((z6).toInt + 2).toNat = s.1 30 (7 * (s.2.2.1 2 0).toInt.toNat + 2) from congrArg (s.1 30) (by have a0 := (rng_F hI.1 448 28000 rfl e_30_0); unfold In at a0; have a1 := (rng_F hI.1 0 32 rfl e_2_1); unfold In at a1; have a2 := r_2_0; unfold In at a2; have a3 := i91; unfold In at a3; have a4 := i6; unfold In at a4; have a5 := (t_mulc 7 (Or.inr e6) r_2_0 rfl).1; have a6 := i23; unfold In at a6; have a7 := t_add e23 r_2_0 (in_c 1 rfl) rfl; have a8 := (in_c 1 rfl); unfold In at a8; have a9 := i14; unfold In at a9; have a10 := t_add e14 i6 (in_c 1 rfl) rfl; omega)), (show s.1 30 ((z6).toInt + 3).toNat = s.1 30 (7 * (s.2.2.1 2 0).toInt.toNat + 3) from congrArg (s.1 30) (by have a0 := (rng_F hI.1 448 28000 rfl e_30_0); unfold In at a0; have a1 := (rng_F hI.1 0 32 rfl e_2_1); unfold In at a1; have a2 := r_2_0; unfold In at a2; have a3 := i91; unfold In at a3; have a4 := i6; unfold In at a4; have a5 := (t_mulc 7 (Or.inr e6) r_2_0 rfl).1; have a6 := i23; unfold In at a6; have a7 := t_add e23 r_2_0 (in_c 1 rfl) rfl; have a8 := (in_c 1 rfl); unfold In at a8; have a9 := i14; unfold In at a9; have a10 := t_add e14 i6 (in_c 1 rfl) rfl; omega))]; exact kn_ar q_1.2 (by rw [q_1.1]; exact hr.2.1) (by rw [q_1.1]; exact hr.2.2.1)))
    have n148a : (z23).toInt = (u_2_0).toInt + 1 := by have a0 := (rng_F hI.1 448 28000 rfl e_30_0); unfold In at a0; have a1 := (rng_F hI.1 0 32 rfl e_2_1); unfold In at a1; have a2 := r_2_0; unfold In at a2; have a3 := i91; unfold In at a3; have a4 := i6; unfold In at a4; have a5 := (t_mulc 7 (Or.inr e6) r_2_0 rfl).1; have a6 := i23; unfold In at a6; have a7 := t_add e23 r_2_0 (in_c 1 rfl) rfl; have a8 := (in_c 1 rfl); unfold In at a8; have a9 := i14; unfold In at a9; have a10 := t_add e14 i6 (in_c 1 rfl) rfl; omega
    have n148b : (s95.2.2.1 2 0).toInt = (s.2.2.1 2 0).toInt + 1 := by have b0 : z23 = s95.2.2.1 2 0 := fr_F (s := (sF s 2 0 z23)) (sF_get) hF95 rfl; first | (rw [← b0, ← e_2_0]; exact n148a) | (rw [← b0]; exact n148a)
    exact g_return (gd rfl) rfl (hP _ _ ⟨s95, hI148, (fr_tr rfl (fr_sF rfl fr_rf) hF95), n148b, rfl, rfl, n148⟩)
  · skip
    have i33 := sw_eq c33
    have h32 : z32 = s.1 30 (7 * (s.2.2.1 2 0).toInt.toNat) := rw7_v (c := 0) (by have a0 := (rng_F hI.1 448 28000 rfl e_30_0); unfold In at a0; have a1 := (rng_F hI.1 0 32 rfl e_2_1); unfold In at a1; have a2 := r_2_0; unfold In at a2; have a3 := i6; unfold In at a3; have a4 := (t_mulc 7 (Or.inr e6) r_2_0 rfl).1; have a5 := i23; unfold In at a5; have a6 := t_add e23 r_2_0 (in_c 1 rfl) rfl; have a7 := (in_c 1 rfl); unfold In at a7; have a8 := i14; unfold In at a8; have a9 := t_add e14 i6 (in_c 1 rfl) rfl; omega) e32
    have hr := rw7_2 q_0 hk e32 c33
    have i101 : In z15 0 159 := by rw [hp]; exact hr
    refine g_aload_n 102 (gd rfl) rfl rfl ?_
    refine g_iload_n 103 (gd rfl) rfl rfl ?_
    refine g_callv (X := _) (As := [.int z15]) (r := []) (b := A 2) (q := 2) 106 (gd rfl) rfl rfl rfl rfl rfl (ww_o rfl) (Nat.le_of_ble_eq_true rfl) (Nat.zero_le _) (Nat.zero_le _) (k_105_2 (by omega) hI24 (in_w 0 159 i101 rfl)) (fun e u h => h) (fun v u h => ?_)
    obtain ⟨s103, hI103, hF103, rfl, rfl, p103⟩ := h
    show GG _ _ _ _ _ _ _ _ [] _ _ _
    refine g_goto 148 (gd rfl) rfl ?_
    have hI148 : Inv s103 := by have hFF : Fr fm_131_1_2 s s103 := (fr_tr rfl (fr_sF rfl fr_rf) hF103); exact ⟨hI103, kk_ap2 hI.2 hFF rfl (by rw [hFF.2.2.1 2 4 rfl, ← (show z23 = s103.2.2.1 2 0 from fr_F (s := (sF s 2 0 z23)) (sF_get) hF103 rfl)]; have hg := hI.2.1.1; rw [mF_at rfl, mF_at rfl, ← e_2_0] at hg; have a0 := (rng_F hI.1 448 28000 rfl e_30_0); unfold In at a0; have a1 := (rng_F hI.1 0 32 rfl e_2_1); unfold In at a1; have a2 := r_2_0; unfold In at a2; have a3 := i101; unfold In at a3; have a4 := i6; unfold In at a4; have a5 := (t_mulc 7 (Or.inr e6) r_2_0 rfl).1; have a6 := i23; unfold In at a6; have a7 := t_add e23 r_2_0 (in_c 1 rfl) rfl; have a8 := (in_c 1 rfl); unfold In at a8; have a9 := i14; unfold In at a9; have a10 := t_add e14 i6 (in_c 1 rfl) rfl; omega)⟩
    have n148 : KV s103 2 := by have hif : (if (s.1 30 (7 * (s.2.2.1 2 0).toInt.toNat)).toInt = 0 then (1 : Int) else 0) = 0 := if_neg (by rw [← h32]; have a0 := (rng_F hI.1 448 28000 rfl e_30_0); unfold In at a0; have a1 := (rng_F hI.1 0 32 rfl e_2_1); unfold In at a1; have a2 := r_2_0; unfold In at a2; have a3 := i101; unfold In at a3; have a4 := i6; unfold In at a4; have a5 := (t_mulc 7 (Or.inr e6) r_2_0 rfl).1; have a6 := i23; unfold In at a6; have a7 := t_add e23 r_2_0 (in_c 1 rfl) rfl; have a8 := (in_c 1 rfl); unfold In at a8; have a9 := i14; unfold In at a9; have a10 := t_add e14 i6 (in_c 1 rfl) rfl; omega); exact kv_st q_1 (hF103.1 30 rfl) (rng_F hI.1 0 4000 (q := 2) (j := 0) rfl rfl).1 (by rw [← (show z23 = s103.2.2.1 2 0 from fr_F (s := (sF s 2 0 z23)) (sF_get) hF103 rfl), ← e_2_0]; have a0 := (rng_F hI.1 448 28000 rfl e_30_0); unfold In at a0; have a1 := (rng_F hI.1 0 32 rfl e_2_1); unfold In at a1; have a2 := r_2_0; unfold In at a2; have a3 := i101; unfold In at a3; have a4 := i6; unfold In at a4; have a5 := (t_mulc 7 (Or.inr e6) r_2_0 rfl).1; have a6 := i23; unfold In at a6; have a7 := t_add e23 r_2_0 (in_c 1 rfl) rfl; have a8 := (in_c 1 rfl); unfold In at a8; have a9 := i14; unfold In at a9; have a10 := t_add e14 i6 (in_c 1 rfl) rfl; omega) (by rw [hif, ← (show u_2_1 = s103.2.2.1 2 1 from fr_F (s := (sF s 2 0 z23)) (sF_ne rfl (e_2_1)) hF103 rfl), ← e_2_1]; omega) (by rw [← (show u_2_1 = s103.2.2.1 2 1 from fr_F (s := (sF s 2 0 z23)) (sF_ne rfl (e_2_1)) hF103 rfl), e_2_1]; exact (by rw [p103, hF103.1 5 rfl]; exact kn_dr q_1.2 (by decide)))
    have n148a : (z23).toInt = (u_2_0).toInt + 1 := by have a0 := (rng_F hI.1 448 28000 rfl e_30_0); unfold In at a0; have a1 := (rng_F hI.1 0 32 rfl e_2_1); unfold In at a1; have a2 := r_2_0; unfold In at a2; have a3 := i101; unfold In at a3; have a4 := i6; unfold In at a4; have a5 := (t_mulc 7 (Or.inr e6) r_2_0 rfl).1; have a6 := i23; unfold In at a6; have a7 := t_add e23 r_2_0 (in_c 1 rfl) rfl; have a8 := (in_c 1 rfl); unfold In at a8; have a9 := i14; unfold In at a9; have a10 := t_add e14 i6 (in_c 1 rfl) rfl; omega
    have n148b : (s103.2.2.1 2 0).toInt = (s.2.2.1 2 0).toInt + 1 := by have b0 : z23 = s103.2.2.1 2 0 := fr_F (s := (sF s 2 0 z23)) (sF_get) hF103 rfl; first | (rw [← b0, ← e_2_0]; exact n148a) | (rw [← b0]; exact n148a)
    exact g_return (gd rfl) rfl (hP _ _ ⟨s103, hI148, (fr_tr rfl (fr_sF rfl fr_rf) hF103), n148b, rfl, rfl, n148⟩)
  · skip
    have i33 := sw_eq c33
    have h32 : z32 = s.1 30 (7 * (s.2.2.1 2 0).toInt.toNat) := rw7_v (c := 0) (by have a0 := (rng_F hI.1 448 28000 rfl e_30_0); unfold In at a0; have a1 := (rng_F hI.1 0 32 rfl e_2_1); unfold In at a1; have a2 := r_2_0; unfold In at a2; have a3 := i6; unfold In at a3; have a4 := (t_mulc 7 (Or.inr e6) r_2_0 rfl).1; have a5 := i23; unfold In at a5; have a6 := t_add e23 r_2_0 (in_c 1 rfl) rfl; have a7 := (in_c 1 rfl); unfold In at a7; have a8 := i14; unfold In at a8; have a9 := t_add e14 i6 (in_c 1 rfl) rfl; omega) e32
    have hr := rw7_3 q_0 hk e32 c33
    have i109 : In z15 0 159 := by rw [hp]; exact hr.1
    refine g_aload_n 110 (gd rfl) rfl rfl ?_
    refine g_aload_n 111 (gd rfl) rfl rfl ?_
    refine g_iload_n 112 (gd rfl) rfl rfl ?_
    refine g_aload_n 113 (gd rfl) rfl rfl ?_
    refine g_getA (q2 := 30) 116 (gd rfl) rfl rfl rfl rfl ?_
    refine g_iload_n 117 (gd rfl) rfl rfl ?_
    refine g_iconst 2 118 (gd rfl) rfl rfl ?_
    refine g_iadd 119 (gd rfl) rfl (fun z118 e118 => ?_)
    have i118 := in_add 2 27995 e118 i6 (in_c 2 rfl) rfl rfl
    have hx119 : vp_in z118 ((sF s 2 0 z23).2.2.1 30 0).toNatClampNeg := lg_in (by have a0 := (rng_F hI.1 448 28000 rfl e_30_0); unfold In at a0; have a1 := (rng_F hI.1 0 32 rfl e_2_1); unfold In at a1; have a2 := r_2_0; unfold In at a2; have a3 := i109; unfold In at a3; have a4 := i6; unfold In at a4; have a5 := (t_mulc 7 (Or.inr e6) r_2_0 rfl).1; have a6 := i23; unfold In at a6; have a7 := t_add e23 r_2_0 (in_c 1 rfl) rfl; have a8 := (in_c 1 rfl); unfold In at a8; have a9 := i118; unfold In at a9; have a10 := t_add e118 i6 (in_c 2 rfl) rfl; have a11 := (in_c 2 rfl); unfold In at a11; have a12 := i14; unfold In at a12; have a13 := t_add e14 i6 (in_c 1 rfl) rfl; omega) (by rw [← (show u_30_0 = (sF s 2 0 z23).2.2.1 30 0 from sF_ne rfl (e_30_0))]; have a0 := (rng_F hI.1 448 28000 rfl e_30_0); unfold In at a0; have a1 := (rng_F hI.1 0 32 rfl e_2_1); unfold In at a1; have a2 := r_2_0; unfold In at a2; have a3 := i109; unfold In at a3; have a4 := i6; unfold In at a4; have a5 := (t_mulc 7 (Or.inr e6) r_2_0 rfl).1; have a6 := i23; unfold In at a6; have a7 := t_add e23 r_2_0 (in_c 1 rfl) rfl; have a8 := (in_c 1 rfl); unfold In at a8; have a9 := i118; unfold In at a9; have a10 := t_add e118 i6 (in_c 2 rfl) rfl; have a11 := (in_c 2 rfl); unfold In at a11; have a12 := i14; unfold In at a12; have a13 := t_add e14 i6 (in_c 1 rfl) rfl; omega)
    refine g_lgload 120 (gd rfl) rfl hx119 (fun z119 e119 => ?_)
    refine g_aload_n 121 (gd rfl) rfl rfl ?_
    refine g_getA (q2 := 30) 124 (gd rfl) rfl rfl rfl rfl ?_
    refine g_iload_n 125 (gd rfl) rfl rfl ?_
    refine g_iconst 3 126 (gd rfl) rfl rfl ?_
    refine g_iadd 127 (gd rfl) rfl (fun z126 e126 => ?_)
    have i126 := in_add 3 27996 e126 i6 (in_c 3 rfl) rfl rfl
    have hx127 : vp_in z126 ((sF s 2 0 z23).2.2.1 30 0).toNatClampNeg := lg_in (by have a0 := (rng_F hI.1 448 28000 rfl e_30_0); unfold In at a0; have a1 := (rng_F hI.1 0 32 rfl e_2_1); unfold In at a1; have a2 := r_2_0; unfold In at a2; have a3 := i109; unfold In at a3; have a4 := i6; unfold In at a4; have a5 := (t_mulc 7 (Or.inr e6) r_2_0 rfl).1; have a6 := i23; unfold In at a6; have a7 := t_add e23 r_2_0 (in_c 1 rfl) rfl; have a8 := (in_c 1 rfl); unfold In at a8; have a9 := i126; unfold In at a9; have a10 := t_add e126 i6 (in_c 3 rfl) rfl; have a11 := (in_c 3 rfl); unfold In at a11; have a12 := i118; unfold In at a12; have a13 := t_add e118 i6 (in_c 2 rfl) rfl; have a14 := (in_c 2 rfl); unfold In at a14; have a15 := i14; unfold In at a15; have a16 := t_add e14 i6 (in_c 1 rfl) rfl; omega) (by rw [← (show u_30_0 = (sF s 2 0 z23).2.2.1 30 0 from sF_ne rfl (e_30_0))]; have a0 := (rng_F hI.1 448 28000 rfl e_30_0); unfold In at a0; have a1 := (rng_F hI.1 0 32 rfl e_2_1); unfold In at a1; have a2 := r_2_0; unfold In at a2; have a3 := i109; unfold In at a3; have a4 := i6; unfold In at a4; have a5 := (t_mulc 7 (Or.inr e6) r_2_0 rfl).1; have a6 := i23; unfold In at a6; have a7 := t_add e23 r_2_0 (in_c 1 rfl) rfl; have a8 := (in_c 1 rfl); unfold In at a8; have a9 := i126; unfold In at a9; have a10 := t_add e126 i6 (in_c 3 rfl) rfl; have a11 := (in_c 3 rfl); unfold In at a11; have a12 := i118; unfold In at a12; have a13 := t_add e118 i6 (in_c 2 rfl) rfl; have a14 := (in_c 2 rfl); unfold In at a14; have a15 := i14; unfold In at a15; have a16 := t_add e14 i6 (in_c 1 rfl) rfl; omega)
    refine g_lgload 128 (gd rfl) rfl hx127 (fun z127 e127 => ?_)
    have p128 : (z119).toInt = 0 → In z127 (-1000000) 1000000 := by rw [rw7_v (k := (s.2.2.1 2 0).toInt.toNat) (c := 2) (by have a0 := (rng_F hI.1 448 28000 rfl e_30_0); unfold In at a0; have a1 := (rng_F hI.1 0 32 rfl e_2_1); unfold In at a1; have a2 := r_2_0; unfold In at a2; have a3 := i109; unfold In at a3; have a4 := i6; unfold In at a4; have a5 := (t_mulc 7 (Or.inr e6) r_2_0 rfl).1; have a6 := i23; unfold In at a6; have a7 := t_add e23 r_2_0 (in_c 1 rfl) rfl; have a8 := (in_c 1 rfl); unfold In at a8; have a9 := i126; unfold In at a9; have a10 := t_add e126 i6 (in_c 3 rfl) rfl; have a11 := (in_c 3 rfl); unfold In at a11; have a12 := i118; unfold In at a12; have a13 := t_add e118 i6 (in_c 2 rfl) rfl; have a14 := (in_c 2 rfl); unfold In at a14; have a15 := i14; unfold In at a15; have a16 := t_add e14 i6 (in_c 1 rfl) rfl; omega) e119, rw7_v (k := (s.2.2.1 2 0).toInt.toNat) (c := 3) (by have a0 := (rng_F hI.1 448 28000 rfl e_30_0); unfold In at a0; have a1 := (rng_F hI.1 0 32 rfl e_2_1); unfold In at a1; have a2 := r_2_0; unfold In at a2; have a3 := i109; unfold In at a3; have a4 := i6; unfold In at a4; have a5 := (t_mulc 7 (Or.inr e6) r_2_0 rfl).1; have a6 := i23; unfold In at a6; have a7 := t_add e23 r_2_0 (in_c 1 rfl) rfl; have a8 := (in_c 1 rfl); unfold In at a8; have a9 := i126; unfold In at a9; have a10 := t_add e126 i6 (in_c 3 rfl) rfl; have a11 := (in_c 3 rfl); unfold In at a11; have a12 := i118; unfold In at a12; have a13 := t_add e118 i6 (in_c 2 rfl) rfl; have a14 := (in_c 2 rfl); unfold In at a14; have a15 := i14; unfold In at a15; have a16 := t_add e14 i6 (in_c 1 rfl) rfl; omega) e127]; exact hr.2.1
    have p128a : (z119).toInt = 1 → In z127 0 1000000 := by rw [rw7_v (k := (s.2.2.1 2 0).toInt.toNat) (c := 2) (by have a0 := (rng_F hI.1 448 28000 rfl e_30_0); unfold In at a0; have a1 := (rng_F hI.1 0 32 rfl e_2_1); unfold In at a1; have a2 := r_2_0; unfold In at a2; have a3 := i109; unfold In at a3; have a4 := i6; unfold In at a4; have a5 := (t_mulc 7 (Or.inr e6) r_2_0 rfl).1; have a6 := i23; unfold In at a6; have a7 := t_add e23 r_2_0 (in_c 1 rfl) rfl; have a8 := (in_c 1 rfl); unfold In at a8; have a9 := i126; unfold In at a9; have a10 := t_add e126 i6 (in_c 3 rfl) rfl; have a11 := (in_c 3 rfl); unfold In at a11; have a12 := i118; unfold In at a12; have a13 := t_add e118 i6 (in_c 2 rfl) rfl; have a14 := (in_c 2 rfl); unfold In at a14; have a15 := i14; unfold In at a15; have a16 := t_add e14 i6 (in_c 1 rfl) rfl; omega) e119, rw7_v (k := (s.2.2.1 2 0).toInt.toNat) (c := 3) (by have a0 := (rng_F hI.1 448 28000 rfl e_30_0); unfold In at a0; have a1 := (rng_F hI.1 0 32 rfl e_2_1); unfold In at a1; have a2 := r_2_0; unfold In at a2; have a3 := i109; unfold In at a3; have a4 := i6; unfold In at a4; have a5 := (t_mulc 7 (Or.inr e6) r_2_0 rfl).1; have a6 := i23; unfold In at a6; have a7 := t_add e23 r_2_0 (in_c 1 rfl) rfl; have a8 := (in_c 1 rfl); unfold In at a8; have a9 := i126; unfold In at a9; have a10 := t_add e126 i6 (in_c 3 rfl) rfl; have a11 := (in_c 3 rfl); unfold In at a11; have a12 := i118; unfold In at a12; have a13 := t_add e118 i6 (in_c 2 rfl) rfl; have a14 := (in_c 2 rfl); unfold In at a14; have a15 := i14; unfold In at a15; have a16 := t_add e14 i6 (in_c 1 rfl) rfl; omega) e127]; exact hr.2.2.1
    have p128b : (z119).toInt ≠ 0 → (z119).toInt ≠ 1 → In z127 0 25 := by rw [rw7_v (k := (s.2.2.1 2 0).toInt.toNat) (c := 2) (by have a0 := (rng_F hI.1 448 28000 rfl e_30_0); unfold In at a0; have a1 := (rng_F hI.1 0 32 rfl e_2_1); unfold In at a1; have a2 := r_2_0; unfold In at a2; have a3 := i109; unfold In at a3; have a4 := i6; unfold In at a4; have a5 := (t_mulc 7 (Or.inr e6) r_2_0 rfl).1; have a6 := i23; unfold In at a6; have a7 := t_add e23 r_2_0 (in_c 1 rfl) rfl; have a8 := (in_c 1 rfl); unfold In at a8; have a9 := i126; unfold In at a9; have a10 := t_add e126 i6 (in_c 3 rfl) rfl; have a11 := (in_c 3 rfl); unfold In at a11; have a12 := i118; unfold In at a12; have a13 := t_add e118 i6 (in_c 2 rfl) rfl; have a14 := (in_c 2 rfl); unfold In at a14; have a15 := i14; unfold In at a15; have a16 := t_add e14 i6 (in_c 1 rfl) rfl; omega) e119, rw7_v (k := (s.2.2.1 2 0).toInt.toNat) (c := 3) (by have a0 := (rng_F hI.1 448 28000 rfl e_30_0); unfold In at a0; have a1 := (rng_F hI.1 0 32 rfl e_2_1); unfold In at a1; have a2 := r_2_0; unfold In at a2; have a3 := i109; unfold In at a3; have a4 := i6; unfold In at a4; have a5 := (t_mulc 7 (Or.inr e6) r_2_0 rfl).1; have a6 := i23; unfold In at a6; have a7 := t_add e23 r_2_0 (in_c 1 rfl) rfl; have a8 := (in_c 1 rfl); unfold In at a8; have a9 := i126; unfold In at a9; have a10 := t_add e126 i6 (in_c 3 rfl) rfl; have a11 := (in_c 3 rfl); unfold In at a11; have a12 := i118; unfold In at a12; have a13 := t_add e118 i6 (in_c 2 rfl) rfl; have a14 := (in_c 2 rfl); unfold In at a14; have a15 := i14; unfold In at a15; have a16 := t_add e14 i6 (in_c 1 rfl) rfl; omega) e127]; exact hr.2.2.2
    refine g_callv (X := _) (As := [.ref (A 2), .int z15, .int z119, .int z127]) (r := []) (b := A 1) (q := 1) 131 (gd rfl) rfl rfl rfl rfl rfl (ww_o rfl) (Nat.le_of_ble_eq_true rfl) (Nat.zero_le _) (Nat.zero_le _) (k_133_1_2 (by omega) hI24 (in_w 0 159 i109 rfl) p128 p128a p128b) (fun e u h => h) (fun v u h => ?_)
    obtain ⟨s128, hI128, hF128, rfl, rfl⟩ := h
    show GG _ _ _ _ _ _ _ _ [] _ _ _
    refine g_goto 148 (gd rfl) rfl ?_
    have hI148 : Inv s128 := by have hFF : Fr fm_131_1_2 s s128 := (fr_tr rfl (fr_sF rfl fr_rf) hF128); exact ⟨hI128, kk_ap2 hI.2 hFF rfl (by rw [hFF.2.2.1 2 4 rfl, ← (show z23 = s128.2.2.1 2 0 from fr_F (s := (sF s 2 0 z23)) (sF_get) hF128 rfl)]; have hg := hI.2.1.1; rw [mF_at rfl, mF_at rfl, ← e_2_0] at hg; have a0 := (rng_F hI.1 448 28000 rfl e_30_0); unfold In at a0; have a1 := (rng_F hI.1 0 32 rfl e_2_1); unfold In at a1; have a2 := r_2_0; unfold In at a2; have a3 := i109; unfold In at a3; have a4 := i6; unfold In at a4; have a5 := (t_mulc 7 (Or.inr e6) r_2_0 rfl).1; have a6 := i23; unfold In at a6; have a7 := t_add e23 r_2_0 (in_c 1 rfl) rfl; have a8 := (in_c 1 rfl); unfold In at a8; have a9 := i126; unfold In at a9; have a10 := t_add e126 i6 (in_c 3 rfl) rfl; have a11 := (in_c 3 rfl); unfold In at a11; have a12 := i118; unfold In at a12; have a13 := t_add e118 i6 (in_c 2 rfl) rfl; have a14 := (in_c 2 rfl); unfold In at a14; have a15 := i14; unfold In at a15; have a16 := t_add e14 i6 (in_c 1 rfl) rfl; omega)⟩
    have n148 : KV s128 2 := by have hif : (if (s.1 30 (7 * (s.2.2.1 2 0).toInt.toNat)).toInt = 0 then (1 : Int) else 0) = 0 := if_neg (by rw [← h32]; have a0 := (rng_F hI.1 448 28000 rfl e_30_0); unfold In at a0; have a1 := (rng_F hI.1 0 32 rfl e_2_1); unfold In at a1; have a2 := r_2_0; unfold In at a2; have a3 := i109; unfold In at a3; have a4 := i6; unfold In at a4; have a5 := (t_mulc 7 (Or.inr e6) r_2_0 rfl).1; have a6 := i23; unfold In at a6; have a7 := t_add e23 r_2_0 (in_c 1 rfl) rfl; have a8 := (in_c 1 rfl); unfold In at a8; have a9 := i126; unfold In at a9; have a10 := t_add e126 i6 (in_c 3 rfl) rfl; have a11 := (in_c 3 rfl); unfold In at a11; have a12 := i118; unfold In at a12; have a13 := t_add e118 i6 (in_c 2 rfl) rfl; have a14 := (in_c 2 rfl); unfold In at a14; have a15 := i14; unfold In at a15; have a16 := t_add e14 i6 (in_c 1 rfl) rfl; omega); exact kv_st q_1 (hF128.1 30 rfl) (rng_F hI.1 0 4000 (q := 2) (j := 0) rfl rfl).1 (by rw [← (show z23 = s128.2.2.1 2 0 from fr_F (s := (sF s 2 0 z23)) (sF_get) hF128 rfl), ← e_2_0]; have a0 := (rng_F hI.1 448 28000 rfl e_30_0); unfold In at a0; have a1 := (rng_F hI.1 0 32 rfl e_2_1); unfold In at a1; have a2 := r_2_0; unfold In at a2; have a3 := i109; unfold In at a3; have a4 := i6; unfold In at a4; have a5 := (t_mulc 7 (Or.inr e6) r_2_0 rfl).1; have a6 := i23; unfold In at a6; have a7 := t_add e23 r_2_0 (in_c 1 rfl) rfl; have a8 := (in_c 1 rfl); unfold In at a8; have a9 := i126; unfold In at a9; have a10 := t_add e126 i6 (in_c 3 rfl) rfl; have a11 := (in_c 3 rfl); unfold In at a11; have a12 := i118; unfold In at a12; have a13 := t_add e118 i6 (in_c 2 rfl) rfl; have a14 := (in_c 2 rfl); unfold In at a14; have a15 := i14; unfold In at a15; have a16 := t_add e14 i6 (in_c 1 rfl) rfl; omega) (by rw [hif, ← (show u_2_1 = s128.2.2.1 2 1 from fr_F (s := (sF s 2 0 z23)) (sF_ne rfl (e_2_1)) hF128 rfl), ← e_2_1]; omega) (by rw [← (show u_2_1 = s128.2.2.1 2 1 from fr_F (s := (sF s 2 0 z23)) (sF_ne rfl (e_2_1)) hF128 rfl), e_2_1]; exact (by rw [hF128.1 4 rfl, hF128.1 5 rfl]; exact q_1.2))
    have n148a : (z23).toInt = (u_2_0).toInt + 1 := by have a0 := (rng_F hI.1 448 28000 rfl e_30_0); unfold In at a0; have a1 := (rng_F hI.1 0 32 rfl e_2_1); unfold In at a1; have a2 := r_2_0; unfold In at a2; have a3 := i109; unfold In at a3; have a4 := i6; unfold In at a4; have a5 := (t_mulc 7 (Or.inr e6) r_2_0 rfl).1; have a6 := i23; unfold In at a6; have a7 := t_add e23 r_2_0 (in_c 1 rfl) rfl; have a8 := (in_c 1 rfl); unfold In at a8; have a9 := i126; unfold In at a9; have a10 := t_add e126 i6 (in_c 3 rfl) rfl; have a11 := (in_c 3 rfl); unfold In at a11; have a12 := i118; unfold In at a12; have a13 := t_add e118 i6 (in_c 2 rfl) rfl; have a14 := (in_c 2 rfl); unfold In at a14; have a15 := i14; unfold In at a15; have a16 := t_add e14 i6 (in_c 1 rfl) rfl; omega
    have n148b : (s128.2.2.1 2 0).toInt = (s.2.2.1 2 0).toInt + 1 := by have b0 : z23 = s128.2.2.1 2 0 := fr_F (s := (sF s 2 0 z23)) (sF_get) hF128 rfl; first | (rw [← b0, ← e_2_0]; exact n148a) | (rw [← b0]; exact n148a)
    exact g_return (gd rfl) rfl (hP _ _ ⟨s128, hI148, (fr_tr rfl (fr_sF rfl fr_rf) hF128), n148b, rfl, rfl, n148⟩)
  · skip
    have h32 : z32 = s.1 30 (7 * (s.2.2.1 2 0).toInt.toNat) := rw7_v (c := 0) (by have a0 := (rng_F hI.1 448 28000 rfl e_30_0); unfold In at a0; have a1 := (rng_F hI.1 0 32 rfl e_2_1); unfold In at a1; have a2 := r_2_0; unfold In at a2; have a3 := i6; unfold In at a3; have a4 := (t_mulc 7 (Or.inr e6) r_2_0 rfl).1; have a5 := i23; unfold In at a5; have a6 := t_add e23 r_2_0 (in_c 1 rfl) rfl; have a7 := (in_c 1 rfl); unfold In at a7; have a8 := i14; unfold In at a8; have a9 := t_add e14 i6 (in_c 1 rfl) rfl; omega) e32
    have hr := rw7_4 q_0 hk e32 c33
    have i134 : In z15 0 31 := by rw [hp]; exact hr.1
    refine g_aload_n 135 (gd rfl) rfl rfl ?_
    refine g_getA (q2 := 3) 138 (gd rfl) rfl rfl rfl rfl ?_
    refine g_iload_n 139 (gd rfl) rfl rfl ?_
    refine g_aload_n 140 (gd rfl) rfl rfl ?_
    refine g_getA (q2 := 30) 143 (gd rfl) rfl rfl rfl rfl ?_
    refine g_iload_n 144 (gd rfl) rfl rfl ?_
    refine g_iconst 2 145 (gd rfl) rfl rfl ?_
    refine g_iadd 146 (gd rfl) rfl (fun z145 e145 => ?_)
    have i145 := in_add 2 27995 e145 i6 (in_c 2 rfl) rfl rfl
    have hx146 : vp_in z145 ((sF s 2 0 z23).2.2.1 30 0).toNatClampNeg := lg_in (by have a0 := (rng_F hI.1 448 28000 rfl e_30_0); unfold In at a0; have a1 := (rng_F hI.1 0 32 rfl e_2_1); unfold In at a1; have a2 := r_2_0; unfold In at a2; have a3 := i134; unfold In at a3; have a4 := i6; unfold In at a4; have a5 := (t_mulc 7 (Or.inr e6) r_2_0 rfl).1; have a6 := i23; unfold In at a6; have a7 := t_add e23 r_2_0 (in_c 1 rfl) rfl; have a8 := (in_c 1 rfl); unfold In at a8; have a9 := i145; unfold In at a9; have a10 := t_add e145 i6 (in_c 2 rfl) rfl; have a11 := (in_c 2 rfl); unfold In at a11; have a12 := i14; unfold In at a12; have a13 := t_add e14 i6 (in_c 1 rfl) rfl; omega) (by rw [← (show u_30_0 = (sF s 2 0 z23).2.2.1 30 0 from sF_ne rfl (e_30_0))]; have a0 := (rng_F hI.1 448 28000 rfl e_30_0); unfold In at a0; have a1 := (rng_F hI.1 0 32 rfl e_2_1); unfold In at a1; have a2 := r_2_0; unfold In at a2; have a3 := i134; unfold In at a3; have a4 := i6; unfold In at a4; have a5 := (t_mulc 7 (Or.inr e6) r_2_0 rfl).1; have a6 := i23; unfold In at a6; have a7 := t_add e23 r_2_0 (in_c 1 rfl) rfl; have a8 := (in_c 1 rfl); unfold In at a8; have a9 := i145; unfold In at a9; have a10 := t_add e145 i6 (in_c 2 rfl) rfl; have a11 := (in_c 2 rfl); unfold In at a11; have a12 := i14; unfold In at a12; have a13 := t_add e14 i6 (in_c 1 rfl) rfl; omega)
    refine g_lgload 147 (gd rfl) rfl hx146 (fun z146 e146 => ?_)
    have i147 : In z146 0 25 := by rw [rw7_v (k := (s.2.2.1 2 0).toInt.toNat) (c := 2) (by have a0 := (rng_F hI.1 448 28000 rfl e_30_0); unfold In at a0; have a1 := (rng_F hI.1 0 32 rfl e_2_1); unfold In at a1; have a2 := r_2_0; unfold In at a2; have a3 := i134; unfold In at a3; have a4 := i6; unfold In at a4; have a5 := (t_mulc 7 (Or.inr e6) r_2_0 rfl).1; have a6 := i23; unfold In at a6; have a7 := t_add e23 r_2_0 (in_c 1 rfl) rfl; have a8 := (in_c 1 rfl); unfold In at a8; have a9 := i145; unfold In at a9; have a10 := t_add e145 i6 (in_c 2 rfl) rfl; have a11 := (in_c 2 rfl); unfold In at a11; have a12 := i14; unfold In at a12; have a13 := t_add e14 i6 (in_c 1 rfl) rfl; omega) e146]; exact hr.2
    refine g_iastore 148 (gd rfl) rfl (n := 32) rfl (in_ix i134 rfl) ?_
    have hI147 := rng_sI (q := 3) (j := z15.toNatClampNeg) hI24 rfl (in_w 0 25 i147 rfl)
    have hI148 : Inv (sI (sF s 2 0 z23) 3 z15.toNatClampNeg z146) := by have hFF : Fr fm_131_1_2 s (sI (sF s 2 0 z23) 3 z15.toNatClampNeg z146) := (fr_sI rfl (fr_sF rfl fr_rf)); exact ⟨hI147, kk_ap2 hI.2 hFF rfl (by rw [hFF.2.2.1 2 4 rfl, ← (show z23 = (sI (sF s 2 0 z23) 3 z15.toNatClampNeg z146).2.2.1 2 0 from sI_F (sF_get))]; have hg := hI.2.1.1; rw [mF_at rfl, mF_at rfl, ← e_2_0] at hg; have a0 := (rng_F hI.1 448 28000 rfl e_30_0); unfold In at a0; have a1 := (rng_F hI.1 0 32 rfl e_2_1); unfold In at a1; have a2 := r_2_0; unfold In at a2; have a3 := i134; unfold In at a3; have a4 := i6; unfold In at a4; have a5 := (t_mulc 7 (Or.inr e6) r_2_0 rfl).1; have a6 := i23; unfold In at a6; have a7 := t_add e23 r_2_0 (in_c 1 rfl) rfl; have a8 := (in_c 1 rfl); unfold In at a8; have a9 := i145; unfold In at a9; have a10 := t_add e145 i6 (in_c 2 rfl) rfl; have a11 := (in_c 2 rfl); unfold In at a11; have a12 := i14; unfold In at a12; have a13 := t_add e14 i6 (in_c 1 rfl) rfl; omega)⟩
    have n148 : KV (sI (sF s 2 0 z23) 3 z15.toNatClampNeg z146) 2 := by have hif : (if (s.1 30 (7 * (s.2.2.1 2 0).toInt.toNat)).toInt = 0 then (1 : Int) else 0) = 0 := if_neg (by rw [← h32]; have a0 := (rng_F hI.1 448 28000 rfl e_30_0); unfold In at a0; have a1 := (rng_F hI.1 0 32 rfl e_2_1); unfold In at a1; have a2 := r_2_0; unfold In at a2; have a3 := i134; unfold In at a3; have a4 := i6; unfold In at a4; have a5 := (t_mulc 7 (Or.inr e6) r_2_0 rfl).1; have a6 := i23; unfold In at a6; have a7 := t_add e23 r_2_0 (in_c 1 rfl) rfl; have a8 := (in_c 1 rfl); unfold In at a8; have a9 := i145; unfold In at a9; have a10 := t_add e145 i6 (in_c 2 rfl) rfl; have a11 := (in_c 2 rfl); unfold In at a11; have a12 := i14; unfold In at a12; have a13 := t_add e14 i6 (in_c 1 rfl) rfl; omega); exact kv_st q_1 rfl (rng_F hI.1 0 4000 (q := 2) (j := 0) rfl rfl).1 (by rw [← (show z23 = (sI (sF s 2 0 z23) 3 z15.toNatClampNeg z146).2.2.1 2 0 from sI_F (sF_get)), ← e_2_0]; have a0 := (rng_F hI.1 448 28000 rfl e_30_0); unfold In at a0; have a1 := (rng_F hI.1 0 32 rfl e_2_1); unfold In at a1; have a2 := r_2_0; unfold In at a2; have a3 := i134; unfold In at a3; have a4 := i6; unfold In at a4; have a5 := (t_mulc 7 (Or.inr e6) r_2_0 rfl).1; have a6 := i23; unfold In at a6; have a7 := t_add e23 r_2_0 (in_c 1 rfl) rfl; have a8 := (in_c 1 rfl); unfold In at a8; have a9 := i145; unfold In at a9; have a10 := t_add e145 i6 (in_c 2 rfl) rfl; have a11 := (in_c 2 rfl); unfold In at a11; have a12 := i14; unfold In at a12; have a13 := t_add e14 i6 (in_c 1 rfl) rfl; omega) (by rw [hif, ← (show u_2_1 = (sI (sF s 2 0 z23) 3 z15.toNatClampNeg z146).2.2.1 2 1 from sI_F (sF_ne rfl (e_2_1))), ← e_2_1]; omega) (by rw [← (show u_2_1 = (sI (sF s 2 0 z23) 3 z15.toNatClampNeg z146).2.2.1 2 1 from sI_F (sF_ne rfl (e_2_1))), e_2_1]; exact q_1.2)
    have n148a : (z23).toInt = (u_2_0).toInt + 1 := by have a0 := (rng_F hI.1 448 28000 rfl e_30_0); unfold In at a0; have a1 := (rng_F hI.1 0 32 rfl e_2_1); unfold In at a1; have a2 := r_2_0; unfold In at a2; have a3 := i134; unfold In at a3; have a4 := i6; unfold In at a4; have a5 := (t_mulc 7 (Or.inr e6) r_2_0 rfl).1; have a6 := i23; unfold In at a6; have a7 := t_add e23 r_2_0 (in_c 1 rfl) rfl; have a8 := (in_c 1 rfl); unfold In at a8; have a9 := i145; unfold In at a9; have a10 := t_add e145 i6 (in_c 2 rfl) rfl; have a11 := (in_c 2 rfl); unfold In at a11; have a12 := i14; unfold In at a12; have a13 := t_add e14 i6 (in_c 1 rfl) rfl; omega
    have n148b : ((sI (sF s 2 0 z23) 3 z15.toNatClampNeg z146).2.2.1 2 0).toInt = (s.2.2.1 2 0).toInt + 1 := by have b0 : z23 = (sI (sF s 2 0 z23) 3 z15.toNatClampNeg z146).2.2.1 2 0 := sI_F (sF_get); first | (rw [← b0, ← e_2_0]; exact n148a) | (rw [← b0]; exact n148a)
    exact g_return (gd rfl) rfl (hP _ _ ⟨(sI (sF s 2 0 z23) 3 z15.toNatClampNeg z146), hI148, (fr_sI rfl (fr_sF rfl fr_rf)), n148b, rfl, rfl, n148⟩)

def fm_105_32 : FM := ([34], [], [(32, 2), (32, 3)], [])
/-- GraphHouse$Graph.dropAt -/
theorem k_105_32 {Z : AmZ} {A : Nat → Nat} {s : GS} {ex : va_W} {d : Nat} {X : AmX} {x1 : Int32} (hd : 1 ≤ d) (hI : Rng s) (h1 : In x1 0 159) : GC Z d 105 [.ref (A 32), .int x1] (WW Z A s ++ ex) 0 0 (fun v u => ∃ t : GS, Rng t ∧ Fr fm_105_32 s t ∧ v = none ∧ u = WW Z A t ++ ex ∧ (t.1 34 = upd (s.1 34) (x1).toNatClampNeg (Int32.ofInt (-1)))) X := by
  intro post xp hP hX
  have ct17 : ∀ (k17 : Nat) (sc17 : GS) (w17_32_3 : Int32), Rng sc17 → Fr fm_105_32 s sc17 → (w17_32_3 = sc17.2.2.1 32 3) → (sc17.1 34 = upd (s.1 34) (x1).toNatClampNeg (Int32.ofInt (-1))) → (w17_32_3).toInt < (k17 : Int) → GG Z (d - 1) 105 post (gx xp) (1 + k17 * 900) 17 (fun j => xlook j [(0, .ref (A 32)), (1, .int x1)]) [] (WW Z A sc17 ++ ex) 0 0 := by
    intro k17
    induction k17 with
    | zero => intro sc17 w17_32_3 hIc17 hFc17 v17_32_3 g17_0 mm17; exfalso; have a0 := h1; unfold In at a0; have a1 := (rng_F hIc17 0 160 rfl v17_32_3); unfold In at a1; omega
    | succ k17 ih17 =>
      intro sc17 w17_32_3 hIc17 hFc17 v17_32_3 g17_0 mm17
      refine gg_w (M := 1 + k17 * 900 + 900) (by omega) ?_
      refine g_aload_n 18 (gd rfl) rfl rfl ?_
      refine g_getI 21 (gd rfl) rfl rfl rfl (fun z18 e18 => ?_)
      have q18 : w17_32_3 = z18 := (v17_32_3).trans e18.symm
      subst q18
      refine g_if_le 24 52 (gd rfl) rfl rfl (fun c21 => ?_) (fun c21 => ?_)
      · skip
        have i21 := z_le 0 0 c21 (rng_F hIc17 0 160 rfl v17_32_3) rfl
        have n52 : sc17.1 34 = upd (s.1 34) (x1).toNatClampNeg (Int32.ofInt (-1)) := by exact g17_0
        exact g_return (gd rfl) rfl (hP _ _ ⟨sc17, hIc17, hFc17, rfl, rfl, n52⟩)
      · skip
        have i21 := z_gt 1 160 c21 (rng_F hIc17 0 160 rfl v17_32_3) rfl
        refine g_aload_n 25 (gd rfl) rfl rfl ?_
        refine g_getA (q2 := 34) 28 (gd rfl) rfl rfl rfl rfl ?_
        refine g_aload_n 29 (gd rfl) rfl rfl ?_
        refine g_getI 32 (gd rfl) rfl rfl rfl (fun z29 e29 => ?_)
        have q29 : w17_32_3 = z29 := (v17_32_3).trans e29.symm
        subst q29
        refine g_iconst 1 33 (gd rfl) rfl rfl ?_
        refine g_isub 34 (gd rfl) rfl (fun z33 e33 => ?_)
        have i33 := in_sub 0 159 e33 i21 (in_c 1 rfl) rfl rfl
        refine g_iaload 35 (gd rfl) rfl (n := 160) rfl (in_ix i33 rfl) (fun z34 e34 => ?_)
        have i34 := rng_I hIc17 (n := 160) (t := 0) (-1) 31 rfl (in_ix i33 rfl) rfl e34
        refine g_iconst (-1) 36 (gd rfl) rfl rfl ?_
        refine g_cmp_ne 39 52 (gd rfl) rfl rfl (fun c36 => ?_) (fun c36 => ?_)
        · skip
          have i36 := r_ne1 0 31 c36 i34 (in_c (-1) rfl) rfl
          have n52 : sc17.1 34 = upd (s.1 34) (x1).toNatClampNeg (Int32.ofInt (-1)) := by exact g17_0
          exact g_return (gd rfl) rfl (hP _ _ ⟨sc17, hIc17, hFc17, rfl, rfl, n52⟩)
        · skip
          have i36 := r_eq1 (-1) (-1) c36 i34 (in_c (-1) rfl) rfl
          refine g_aload_n 40 (gd rfl) rfl rfl ?_
          refine g_dup 41 (gd rfl) rfl rfl ?_
          refine g_getI 44 (gd rfl) rfl rfl rfl (fun z41 e41 => ?_)
          have q41 : w17_32_3 = z41 := (v17_32_3).trans e41.symm
          subst q41
          refine g_iconst 1 45 (gd rfl) rfl rfl ?_
          refine g_isub 46 (gd rfl) rfl (fun z45 e45 => ?_)
          have i45 := in_sub 0 159 e45 i21 (in_c 1 rfl) rfl rfl
          refine g_putI 49 (gd rfl) rfl rfl rfl rfl ?_
          have hI46 := rng_sF (q := 32) (j := 3) hIc17 rfl (in_w 0 160 i45 rfl)
          refine g_goto 17 (gd rfl) rfl ?_
          have v17 : z45 = (sF sc17 32 3 z45).2.2.1 32 3 := sF_get
          have n17 : (sF sc17 32 3 z45).1 34 = upd (s.1 34) (x1).toNatClampNeg (Int32.ofInt (-1)) := by exact g17_0
          have m17 : (z45).toInt < ((k17 : Nat) : Int) := by have a0 := h1; unfold In at a0; have a1 := i21; unfold In at a1; have a2 := i45; unfold In at a2; have a3 := t_sub e45 i21 (in_c 1 rfl) rfl; have a4 := (in_c 1 rfl); unfold In at a4; have a5 := i33; unfold In at a5; have a6 := t_sub e33 i21 (in_c 1 rfl) rfl; omega
          exact gg_w (by omega) (gg_f (gf_cons rfl (gf_cons rfl gf_nil)) (ih17  (sF sc17 32 3 z45) z45 hI46 (fr_sF rfl hFc17) v17 n17 m17))
  refine g_enter2 (k := 105) (N := 145801) (by omega) rfl (Nat.le_of_ble_eq_true rfl) ?_
  refine g_aload_n 1 (gd rfl) rfl rfl ?_
  refine g_getA (q2 := 34) 4 (gd rfl) rfl rfl rfl rfl ?_
  refine g_iload_n 5 (gd rfl) rfl rfl ?_
  refine g_iconst (-1) 6 (gd rfl) rfl rfl ?_
  refine g_iastore 7 (gd rfl) rfl (n := 160) rfl (in_ix h1 rfl) ?_
  have hI6 := rng_sI (q := 34) (j := x1.toNatClampNeg) hI rfl (in_w (-1) 31 (in_c (-1) rfl) rfl)
  refine g_aload_n 8 (gd rfl) rfl rfl ?_
  refine g_dup 9 (gd rfl) rfl rfl ?_
  refine g_getI 12 (gd rfl) rfl rfl rfl (fun z9 e9 => ?_)
  refine g_iconst 1 13 (gd rfl) rfl rfl ?_
  refine g_isub 14 (gd rfl) rfl (fun z13 e13 => ?_)
  refine g_putI 17 (gd rfl) rfl rfl rfl rfl ?_
  have hI14 := rng_sF (q := 32) (j := 2) hI6 rfl (in_w (-2147483648) 2147483647 (i_rng z13) rfl)
  have n17 : (sF (sI s 34 x1.toNatClampNeg (Int32.ofInt (-1))) 32 2 z13).1 34 = upd (s.1 34) (x1).toNatClampNeg (Int32.ofInt (-1)) := by simp [sI, sF]
  have m17 : (((sF (sI s 34 x1.toNatClampNeg (Int32.ofInt (-1))) 32 2 z13).2.2.1 32 3)).toInt < ((161 : Nat) : Int) := by have a0 := h1; unfold In at a0; have a1 := (show In ((sF (sI s 34 x1.toNatClampNeg (Int32.ofInt (-1))) 32 2 z13).2.2.1 32 3) 0 160 from rng_F hI14 0 160 rfl rfl); unfold In at a1; omega
  exact gg_w (by omega) (gg_f (gf_cons rfl (gf_cons rfl gf_nil)) (ct17 161 (sF (sI s 34 x1.toNatClampNeg (Int32.ofInt (-1))) 32 2 z13) _ hI14 (fr_sF rfl (fr_sI rfl fr_rf)) rfl n17 m17))
