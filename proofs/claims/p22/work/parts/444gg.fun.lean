section
/-! FUNCTIONAL CONTRACTS, by fgen.py -/
theorem oc_301_109 : (Int32.ofInt (-1)).toInt = (-1) ∧ (Int32.ofInt 0).toInt = 0 ∧ (Int32.ofInt 1).toInt = 1 ∧ (Int32.ofInt 2).toInt = 2 ∧ (Int32.ofInt 3).toInt = 3 ∧ (Int32.ofInt 4).toInt = 4 := ⟨rfl, rfl, rfl, rfl, rfl, rfl⟩
/-- GraphHouseModel.shape -/
theorem f_301 {Z : AmZ} {A : Nat → Nat} {s : GS} {ex : va_W} {d : Nat} {X : AmX} {x1 : Int32} {x2 : Int32} (hd : 1 ≤ d) (hI : Inv s) (h1 : In x1 97 119) (h2 : In x2 0 5) : GC Z d 301 [.ref (A 109), .int x1, .int x2] (WW Z A s ++ ex) 0 0 (fun v u => ∃ z : Int32, v = some (.int z) ∧ u = WW Z A s ++ ex ∧ In z 1 3 ∧ (SHP (x1).toInt (x2).toInt (z).toInt) ∧ (SHK ((x1).toInt - 97) (x2).toInt (z).toInt)) X := by
  intro post xp hP hX
  refine g_enter2 (k := 301) (N := 900) (by first | exact dq1 hd rfl | exact dq0 hd rfl | exact dq2 hd rfl | exact dq3 hd rfl | omega) rfl (Nat.le_of_ble_eq_true rfl) ?_
  refine g_iload_n 1 (gd rfl) rfl rfl ?_
  refine g_lsw [(97, 46), (110, 36), (116, 66)] 77 (gd rfl) rfl rfl rfl ⟨fun c1 => ?_, fun c1_0 => ⟨fun c1 => ?_, fun c1_1 => ⟨fun c1 => ?_, fun c1_2 => ?_⟩⟩⟩
  · skip
    have i1 := sw_eq c1
    refine g_iload_n 47 (gd rfl) rfl rfl ?_
    refine g_iconst 4 48 (gd rfl) rfl rfl ?_
    refine g_cmp_ge 51 55 (gd rfl) rfl rfl (fun c48 => ?_) (fun c48 => ?_)
    · skip
      have i48 := r_le2 4 5 c48 (in_c 4 rfl) h2 rfl
      refine g_iload_n 56 (gd rfl) rfl rfl ?_
      refine g_iconst 4 57 (gd rfl) rfl rfl ?_
      refine g_cmp_ne 60 64 (gd rfl) rfl rfl (fun c57 => ?_) (fun c57 => ?_)
      · skip
        have i57 := r_ne1 5 5 c57 i48 (in_c 4 rfl) rfl
        refine g_iconst 3 65 (gd rfl) rfl rfl ?_
        have n65 : SHP (x1).toInt (x2).toInt ((Int32.ofInt 3)).toInt := by unfold SHP; refine ⟨fun h => ⟨fun h2 => ?_, fun h2 => ?_⟩, fun h => ⟨fun h2 => ?_, fun h2 => ?_, fun h2 => ?_⟩, fun h h2 => ⟨?_, fun h3 => ?_, fun h3 => ?_⟩⟩ <;> first | decide | (exfalso; have a0 := oa2 i57 i1; have oc := oc_301_109; omega) | (have a0 := oa2 i57 i1; have oc := oc_301_109; omega)
        have n65a : SHK ((x1).toInt - 97) (x2).toInt ((Int32.ofInt 3)).toInt := by intro hc hk; rw [shk hc (by have a0 := oa2 i57 i1; have oc := oc_301_109; omega) hk]; unfold cmI at hc; (repeat' split) <;> (have a0 := oa2 i57 i1; have oc := oc_301_109; omega)
        exact g_ireturn (gd rfl) rfl rfl (hP _ _ ⟨(Int32.ofInt 3), rfl, rfl, in_w 1 3 (in_c 3 rfl) rfl, n65, n65a⟩)
      · skip
        have i57 := r_eq1 4 4 c57 i48 (in_c 4 rfl) rfl
        refine g_iconst 1 61 (gd rfl) rfl rfl ?_
        refine g_goto 65 (gd rfl) rfl ?_
        have n65 : SHP (x1).toInt (x2).toInt ((Int32.ofInt 1)).toInt := by unfold SHP; refine ⟨fun h => ⟨fun h2 => ?_, fun h2 => ?_⟩, fun h => ⟨fun h2 => ?_, fun h2 => ?_, fun h2 => ?_⟩, fun h h2 => ⟨?_, fun h3 => ?_, fun h3 => ?_⟩⟩ <;> first | decide | (exfalso; have a0 := oa2 i57 i1; have oc := oc_301_109; omega) | (have a0 := oa2 i57 i1; have oc := oc_301_109; omega)
        have n65a : SHK ((x1).toInt - 97) (x2).toInt ((Int32.ofInt 1)).toInt := by intro hc hk; rw [shk hc (by have a0 := oa2 i57 i1; have oc := oc_301_109; omega) hk]; unfold cmI at hc; (repeat' split) <;> (have a0 := oa2 i57 i1; have oc := oc_301_109; omega)
        exact g_ireturn (gd rfl) rfl rfl (hP _ _ ⟨(Int32.ofInt 1), rfl, rfl, in_w 1 3 (in_c 1 rfl) rfl, n65, n65a⟩)
    · skip
      have i48 := r_lt1 0 3 c48 h2 (in_c 4 rfl) rfl
      refine g_iconst 2 52 (gd rfl) rfl rfl ?_
      refine g_goto 65 (gd rfl) rfl ?_
      have n65 : SHP (x1).toInt (x2).toInt ((Int32.ofInt 2)).toInt := by unfold SHP; refine ⟨fun h => ⟨fun h2 => ?_, fun h2 => ?_⟩, fun h => ⟨fun h2 => ?_, fun h2 => ?_, fun h2 => ?_⟩, fun h h2 => ⟨?_, fun h3 => ?_, fun h3 => ?_⟩⟩ <;> first | decide | (exfalso; have a0 := oa2 i48 i1; have oc := oc_301_109; omega) | (have a0 := oa2 i48 i1; have oc := oc_301_109; omega)
      have n65a : SHK ((x1).toInt - 97) (x2).toInt ((Int32.ofInt 2)).toInt := by intro hc hk; rw [shk hc (by have a0 := oa2 i48 i1; have oc := oc_301_109; omega) hk]; unfold cmI at hc; (repeat' split) <;> (have a0 := oa2 i48 i1; have oc := oc_301_109; omega)
      exact g_ireturn (gd rfl) rfl rfl (hP _ _ ⟨(Int32.ofInt 2), rfl, rfl, in_w 1 3 (in_c 2 rfl) rfl, n65, n65a⟩)
  · skip
    have i1 := sw_eq c1
    refine g_iload_n 37 (gd rfl) rfl rfl ?_
    refine g_if_ne 40 44 (gd rfl) rfl rfl (fun c37 => ?_) (fun c37 => ?_)
    · skip
      have i37 := z_ne 1 5 c37 h2 rfl
      refine g_iconst 3 45 (gd rfl) rfl rfl ?_
      have n45 : SHP (x1).toInt (x2).toInt ((Int32.ofInt 3)).toInt := by unfold SHP; refine ⟨fun h => ⟨fun h2 => ?_, fun h2 => ?_⟩, fun h => ⟨fun h2 => ?_, fun h2 => ?_, fun h2 => ?_⟩, fun h h2 => ⟨?_, fun h3 => ?_, fun h3 => ?_⟩⟩ <;> first | decide | (exfalso; have a0 := oa2 i37 i1; have oc := oc_301_109; omega) | (have a0 := oa2 i37 i1; have oc := oc_301_109; omega)
      have n45a : SHK ((x1).toInt - 97) (x2).toInt ((Int32.ofInt 3)).toInt := by intro hc hk; rw [shk hc (by have a0 := oa2 i37 i1; have oc := oc_301_109; omega) hk]; unfold cmI at hc; (repeat' split) <;> (have a0 := oa2 i37 i1; have oc := oc_301_109; omega)
      exact g_ireturn (gd rfl) rfl rfl (hP _ _ ⟨(Int32.ofInt 3), rfl, rfl, in_w 1 3 (in_c 3 rfl) rfl, n45, n45a⟩)
    · skip
      have i37 := z_eq 0 0 c37 h2 rfl
      refine g_iconst 1 41 (gd rfl) rfl rfl ?_
      refine g_goto 45 (gd rfl) rfl ?_
      have n45 : SHP (x1).toInt (x2).toInt ((Int32.ofInt 1)).toInt := by unfold SHP; refine ⟨fun h => ⟨fun h2 => ?_, fun h2 => ?_⟩, fun h => ⟨fun h2 => ?_, fun h2 => ?_, fun h2 => ?_⟩, fun h h2 => ⟨?_, fun h3 => ?_, fun h3 => ?_⟩⟩ <;> first | decide | (exfalso; have a0 := oa2 i37 i1; have oc := oc_301_109; omega) | (have a0 := oa2 i37 i1; have oc := oc_301_109; omega)
      have n45a : SHK ((x1).toInt - 97) (x2).toInt ((Int32.ofInt 1)).toInt := by intro hc hk; rw [shk hc (by have a0 := oa2 i37 i1; have oc := oc_301_109; omega) hk]; unfold cmI at hc; (repeat' split) <;> (have a0 := oa2 i37 i1; have oc := oc_301_109; omega)
      exact g_ireturn (gd rfl) rfl rfl (hP _ _ ⟨(Int32.ofInt 1), rfl, rfl, in_w 1 3 (in_c 1 rfl) rfl, n45, n45a⟩)
  · skip
    have i1 := sw_eq c1
    refine g_iload_n 67 (gd rfl) rfl rfl ?_
    refine g_iconst 1 68 (gd rfl) rfl rfl ?_
    refine g_cmp_ge 71 75 (gd rfl) rfl rfl (fun c68 => ?_) (fun c68 => ?_)
    · skip
      have i68 := r_le2 1 5 c68 (in_c 1 rfl) h2 rfl
      refine g_iconst 3 76 (gd rfl) rfl rfl ?_
      have n76 : SHP (x1).toInt (x2).toInt ((Int32.ofInt 3)).toInt := by unfold SHP; refine ⟨fun h => ⟨fun h2 => ?_, fun h2 => ?_⟩, fun h => ⟨fun h2 => ?_, fun h2 => ?_, fun h2 => ?_⟩, fun h h2 => ⟨?_, fun h3 => ?_, fun h3 => ?_⟩⟩ <;> first | decide | (exfalso; have a0 := oa2 i68 i1; have oc := oc_301_109; omega) | (have a0 := oa2 i68 i1; have oc := oc_301_109; omega)
      have n76a : SHK ((x1).toInt - 97) (x2).toInt ((Int32.ofInt 3)).toInt := by intro hc hk; rw [shk hc (by have a0 := oa2 i68 i1; have oc := oc_301_109; omega) hk]; unfold cmI at hc; (repeat' split) <;> (have a0 := oa2 i68 i1; have oc := oc_301_109; omega)
      exact g_ireturn (gd rfl) rfl rfl (hP _ _ ⟨(Int32.ofInt 3), rfl, rfl, in_w 1 3 (in_c 3 rfl) rfl, n76, n76a⟩)
    · skip
      have i68 := r_lt1 0 0 c68 h2 (in_c 1 rfl) rfl
      refine g_iconst 2 72 (gd rfl) rfl rfl ?_
      refine g_goto 76 (gd rfl) rfl ?_
      have n76 : SHP (x1).toInt (x2).toInt ((Int32.ofInt 2)).toInt := by unfold SHP; refine ⟨fun h => ⟨fun h2 => ?_, fun h2 => ?_⟩, fun h => ⟨fun h2 => ?_, fun h2 => ?_, fun h2 => ?_⟩, fun h h2 => ⟨?_, fun h3 => ?_, fun h3 => ?_⟩⟩ <;> first | decide | (exfalso; have a0 := oa2 i68 i1; have oc := oc_301_109; omega) | (have a0 := oa2 i68 i1; have oc := oc_301_109; omega)
      have n76a : SHK ((x1).toInt - 97) (x2).toInt ((Int32.ofInt 2)).toInt := by intro hc hk; rw [shk hc (by have a0 := oa2 i68 i1; have oc := oc_301_109; omega) hk]; unfold cmI at hc; (repeat' split) <;> (have a0 := oa2 i68 i1; have oc := oc_301_109; omega)
      exact g_ireturn (gd rfl) rfl rfl (hP _ _ ⟨(Int32.ofInt 2), rfl, rfl, in_w 1 3 (in_c 2 rfl) rfl, n76, n76a⟩)
  · skip
    refine g_iload_n 78 (gd rfl) rfl rfl ?_
    refine g_iconst 2 79 (gd rfl) rfl rfl ?_
    refine g_cmp_ge 82 86 (gd rfl) rfl rfl (fun c79 => ?_) (fun c79 => ?_)
    · skip
      have i79 := r_le2 2 5 c79 (in_c 2 rfl) h2 rfl
      refine g_iconst 3 87 (gd rfl) rfl rfl ?_
      have n87 : SHP (x1).toInt (x2).toInt ((Int32.ofInt 3)).toInt := by unfold SHP; refine ⟨fun h => ⟨fun h2 => ?_, fun h2 => ?_⟩, fun h => ⟨fun h2 => ?_, fun h2 => ?_, fun h2 => ?_⟩, fun h h2 => ⟨?_, fun h3 => ?_, fun h3 => ?_⟩⟩ <;> first | decide | (exfalso; have a0 := oa2 i79 h1; have oc := oc_301_109; omega) | (have a0 := oa2 i79 h1; have oc := oc_301_109; omega)
      have n87a : SHK ((x1).toInt - 97) (x2).toInt ((Int32.ofInt 3)).toInt := by intro hc hk; rw [shk hc (by have a0 := oa2 i79 h1; have oc := oc_301_109; omega) hk]; unfold cmI at hc; (repeat' split) <;> (have a0 := oa2 i79 h1; have oc := oc_301_109; omega)
      exact g_ireturn (gd rfl) rfl rfl (hP _ _ ⟨(Int32.ofInt 3), rfl, rfl, in_w 1 3 (in_c 3 rfl) rfl, n87, n87a⟩)
    · skip
      have i79 := r_lt1 0 1 c79 h2 (in_c 2 rfl) rfl
      refine g_iconst 2 83 (gd rfl) rfl rfl ?_
      refine g_goto 87 (gd rfl) rfl ?_
      have n87 : SHP (x1).toInt (x2).toInt ((Int32.ofInt 2)).toInt := by unfold SHP; refine ⟨fun h => ⟨fun h2 => ?_, fun h2 => ?_⟩, fun h => ⟨fun h2 => ?_, fun h2 => ?_, fun h2 => ?_⟩, fun h h2 => ⟨?_, fun h3 => ?_, fun h3 => ?_⟩⟩ <;> first | decide | (exfalso; have a0 := oa2 i79 h1; have oc := oc_301_109; omega) | (have a0 := oa2 i79 h1; have oc := oc_301_109; omega)
      have n87a : SHK ((x1).toInt - 97) (x2).toInt ((Int32.ofInt 2)).toInt := by intro hc hk; rw [shk hc (by have a0 := oa2 i79 h1; have oc := oc_301_109; omega) hk]; unfold cmI at hc; (repeat' split) <;> (have a0 := oa2 i79 h1; have oc := oc_301_109; omega)
      exact g_ireturn (gd rfl) rfl rfl (hP _ _ ⟨(Int32.ofInt 2), rfl, rfl, in_w 1 3 (in_c 2 rfl) rfl, n87, n87a⟩)

theorem oc_105_32 : (Int32.ofInt (-1)).toInt = (-1) ∧ (Int32.ofInt 0).toInt = 0 ∧ (Int32.ofInt 1).toInt = 1 := ⟨rfl, rfl, rfl⟩
/-- GraphHouse$Graph.dropAt -/
theorem f_105_32 {Z : AmZ} {A : Nat → Nat} {s : GS} {ex : va_W} {d : Nat} {X : AmX} {x1 : Int32} {u_32_3 : Int32} (hd : 1 ≤ d) (hI : Rng s) (h1 : In x1 0 159) (e_32_3 : u_32_3 = s.2.2.1 32 3) : GC Z d 105 [.ref (A 32), .int x1] (WW Z A s ++ ex) 0 0 (fun v u => ∃ t : GS, Rng t ∧ Fr fm_105_32 s t ∧ v = none ∧ u = WW Z A t ++ ex ∧ (t.1 34 = upd (s.1 34) (x1).toNatClampNeg (Int32.ofInt (-1))) ∧ (TQD s → TQD t)) X := by
  intro post xp hP hX
  have ct17 : ∀ (k17 : Nat) (sc17 : GS) (w17_32_3 : Int32), Rng sc17 → Fr fm_105_32 s sc17 → (w17_32_3 = sc17.2.2.1 32 3) → (sc17.1 34 = upd (s.1 34) (x1).toNatClampNeg (Int32.ofInt (-1))) → (TQD s → TQD sc17) → (w17_32_3).toInt < (k17 : Int) → GG Z (d - 1) 105 post (gx xp) (1 + k17 * 900) 17 (fun j => xlook j [(0, .ref (A 32)), (1, .int x1)]) [] (WW Z A sc17 ++ ex) 0 0 := by
    intro k17
    induction k17 with
    | zero => intro sc17 w17_32_3 hIc17 hFc17 v17_32_3 g17_0 g17_1 mm17; exfalso; have a0 := oa2 h1 ((rng_F hIc17 0 160 rfl v17_32_3)); have oc := oc_105_32; omega
    | succ k17 ih17 =>
      intro sc17 w17_32_3 hIc17 hFc17 v17_32_3 g17_0 g17_1 mm17
      refine gg_w (M := 1 + k17 * 900 + 900) gws ?_
      refine g_aload_n 18 (gd rfl) rfl rfl ?_
      refine g_getI 21 (gd rfl) rfl rfl rfl (fun z18 e18 => ?_)
      have q18 : w17_32_3 = z18 := (v17_32_3).trans e18.symm
      subst q18
      refine g_if_le 24 52 (gd rfl) rfl rfl (fun c21 => ?_) (fun c21 => ?_)
      · skip
        have i21 := z_le 0 0 c21 (rng_F hIc17 0 160 rfl v17_32_3) rfl
        have n52 : sc17.1 34 = upd (s.1 34) (x1).toNatClampNeg (Int32.ofInt (-1)) := by exact g17_0
        have n52a : TQD s → TQD sc17 := by exact g17_1
        exact g_return (gd rfl) rfl (hP _ _ ⟨sc17, hIc17, hFc17, rfl, rfl, n52, n52a⟩)
      · skip
        have i21 := z_gt 1 160 c21 (rng_F hIc17 0 160 rfl v17_32_3) rfl
        refine g_aload_n 25 (gd rfl) rfl rfl ?_
        refine g_getA (q2 := 34) 28 (gd rfl) rfl rfl rfl rfl ?_
        refine g_aload_n 29 (gd rfl) rfl rfl ?_
        refine g_getI 32 (gd rfl) rfl rfl rfl (fun z29 e29 => ?_)
        have q29 : w17_32_3 = z29 := (v17_32_3).trans e29.symm
        subst q29
        refine g_iconst 1 33 (gd rfl) rfl rfl ?_
        refine g_isub 34 (gd rfl) rfl (fun z33 e33 => ?_)
        have i33 := in_sub 0 159 e33 i21 (in_c 1 rfl) rfl rfl
        refine g_iaload 35 (gd rfl) rfl (n := 160) rfl (in_ix i33 rfl) (fun z34 e34 => ?_)
        have i34 := rng_I hIc17 (n := 160) (t := 0) (-1) 31 rfl (in_ix i33 rfl) rfl e34
        refine g_iconst (-1) 36 (gd rfl) rfl rfl ?_
        refine g_cmp_ne 39 52 (gd rfl) rfl rfl (fun c36 => ?_) (fun c36 => ?_)
        · skip
          have i36 := r_ne1 0 31 c36 i34 (in_c (-1) rfl) rfl
          have n52 : sc17.1 34 = upd (s.1 34) (x1).toNatClampNeg (Int32.ofInt (-1)) := by exact g17_0
          have n52a : TQD s → TQD sc17 := by exact g17_1
          exact g_return (gd rfl) rfl (hP _ _ ⟨sc17, hIc17, hFc17, rfl, rfl, n52, n52a⟩)
        · skip
          have i36 := r_eq1 (-1) (-1) c36 i34 (in_c (-1) rfl) rfl
          refine g_aload_n 40 (gd rfl) rfl rfl ?_
          refine g_dup 41 (gd rfl) rfl rfl ?_
          refine g_getI 44 (gd rfl) rfl rfl rfl (fun z41 e41 => ?_)
          have q41 : w17_32_3 = z41 := (v17_32_3).trans e41.symm
          subst q41
          refine g_iconst 1 45 (gd rfl) rfl rfl ?_
          refine g_isub 46 (gd rfl) rfl (fun z45 e45 => ?_)
          have i45 := in_sub 0 159 e45 i21 (in_c 1 rfl) rfl rfl
          refine g_putI 49 (gd rfl) rfl rfl rfl rfl ?_
          have hI46 := rng_sF (q := 32) (j := 3) hIc17 rfl (in_w 0 160 i45 rfl)
          refine g_goto 17 (gd rfl) rfl ?_
          have v17 : z45 = (sF sc17 32 3 z45).2.2.1 32 3 := sF_get
          have n17 : (sF sc17 32 3 z45).1 34 = upd (s.1 34) (x1).toNatClampNeg (Int32.ofInt (-1)) := by exact g17_0
          have n17a : TQD s → TQD (sF sc17 32 3 z45) := by have cm1 : (Int32.ofInt (-1)).toInt = -1 := rfl; exact fun h => tqd_lw (j := z33.toNatClampNeg) (g17_1 h) rfl e34 (by have a0 := oa3 h1 i21 i45; have a3 := t_sub e45 i21 (in_c 1 rfl) rfl; have a4 := oa2 ((in_c 1 rfl)) i33; have a6 := t_sub e33 i21 (in_c 1 rfl) rfl; have oc := oc_105_32; omega) (by rw [← (show z45 = (sF sc17 32 3 z45).2.2.1 32 3 from sF_get)]; show _ = ((z33.toInt.toNat : Nat) : Int); have a0 := oa3 h1 i21 i45; have a3 := t_sub e45 i21 (in_c 1 rfl) rfl; have a4 := oa2 ((in_c 1 rfl)) i33; have a6 := t_sub e33 i21 (in_c 1 rfl) rfl; have oc := oc_105_32; omega) (by rw [← v17_32_3]; show _ = ((z33.toInt.toNat : Nat) : Int) + 1; have a0 := oa3 h1 i21 i45; have a3 := t_sub e45 i21 (in_c 1 rfl) rfl; have a4 := oa2 ((in_c 1 rfl)) i33; have a6 := t_sub e33 i21 (in_c 1 rfl) rfl; have oc := oc_105_32; omega)
          have m17 : (z45).toInt < ((k17 : Nat) : Int) := by have a0 := oa3 h1 i21 i45; have a3 := t_sub e45 i21 (in_c 1 rfl) rfl; have a4 := oa2 ((in_c 1 rfl)) i33; have a6 := t_sub e33 i21 (in_c 1 rfl) rfl; have oc := oc_105_32; omega
          exact gg_w (by first | exact Nat.le_add_right _ _ | exact gw2 | exact gw3 | exact gwe rfl | exact gwf rfl | exact gwg rfl | exact gwh rfl | omega) (gg_f (gf_cons rfl (gf_cons rfl gf_nil)) (ih17  (sF sc17 32 3 z45) z45 hI46 (fr_sF rfl hFc17) v17 n17 n17a m17))
  refine g_enter2 (k := 105) (N := 145801) (by first | exact dq1 hd rfl | exact dq0 hd rfl | exact dq2 hd rfl | exact dq3 hd rfl | omega) rfl (Nat.le_of_ble_eq_true rfl) ?_
  refine g_aload_n 1 (gd rfl) rfl rfl ?_
  refine g_getA (q2 := 34) 4 (gd rfl) rfl rfl rfl rfl ?_
  refine g_iload_n 5 (gd rfl) rfl rfl ?_
  refine g_iconst (-1) 6 (gd rfl) rfl rfl ?_
  refine g_iastore 7 (gd rfl) rfl (n := 160) rfl (in_ix h1 rfl) ?_
  have hI6 := rng_sI (q := 34) (j := x1.toNatClampNeg) hI rfl (in_w (-1) 31 (in_c (-1) rfl) rfl)
  refine g_aload_n 8 (gd rfl) rfl rfl ?_
  refine g_dup 9 (gd rfl) rfl rfl ?_
  refine g_getI 12 (gd rfl) rfl rfl rfl (fun z9 e9 => ?_)
  refine g_iconst 1 13 (gd rfl) rfl rfl ?_
  refine g_isub 14 (gd rfl) rfl (fun z13 e13 => ?_)
  refine g_putI 17 (gd rfl) rfl rfl rfl rfl ?_
  have hI14 := rng_sF (q := 32) (j := 2) hI6 rfl (in_w (-2147483648) 2147483647 (i_rng z13) rfl)
  have v17 : u_32_3 = (sF (sI s 34 x1.toNatClampNeg (Int32.ofInt (-1))) 32 2 z13).2.2.1 32 3 := sF_ne rfl (sI_F (e_32_3))
  have n17 : (sF (sI s 34 x1.toNatClampNeg (Int32.ofInt (-1))) 32 2 z13).1 34 = upd (s.1 34) (x1).toNatClampNeg (Int32.ofInt (-1)) := by simp [sI, sF]
  have n17a : TQD s → TQD (sF (sI s 34 x1.toNatClampNeg (Int32.ofInt (-1))) 32 2 z13) := by exact fun h => tqd_dn (p := (x1).toNatClampNeg) h (by simp [sI, sF]) (by simp [sI, sF])
  have m17 : (u_32_3).toInt < ((161 : Nat) : Int) := by have a0 := oa2 ((rng_F hI 0 160 rfl e_32_3)) h1; have oc := oc_105_32; omega
  exact gg_w (by first | exact Nat.le_of_ble_eq_true rfl | omega) (gg_f (gf_cons rfl (gf_cons rfl gf_nil)) (ct17 161 (sF (sI s 34 x1.toNatClampNeg (Int32.ofInt (-1))) 32 2 z13) u_32_3 hI14 (fr_sF rfl (fr_sI rfl fr_rf)) v17 n17 n17a m17))

theorem oc_132_1_32 : (Int32.ofInt (-1)).toInt = (-1) ∧ (Int32.ofInt 0).toInt = 0 ∧ (Int32.ofInt 1).toInt = 1 ∧ (Int32.ofInt 2).toInt = 2 ∧ (Int32.ofInt 3).toInt = 3 ∧ (Int32.ofInt 4).toInt = 4 ∧ (Int32.ofInt 5).toInt = 5 ∧ (Int32.ofInt 6).toInt = 6 := ⟨rfl, rfl, rfl, rfl, rfl, rfl, rfl, rfl⟩
/-- GraphHouse$Ledger.applyArc -/
theorem f_132_1_32 {Z : AmZ} {A : Nat → Nat} {s : GS} {ex : va_W} {d : Nat} {X : AmX} {x2 : Int32} {x3 : Int32} {u_30_0 : Int32} {u_32_3 : Int32} (hd : 3 ≤ d) (hI : Rng s) (h2 : In x2 0 27993) (h3 : In x3 0 159) (e_30_0 : u_30_0 = s.2.2.1 30 0) (e_32_3 : u_32_3 = s.2.2.1 32 3) (p_0 : (x2).toInt + 7 ≤ (u_30_0).toInt) (q_0 : In (s.1 30 ((x2).toInt + 2).toNat) (0) 31) (q_1 : In (s.1 30 ((x2).toInt + 3).toNat) (0) 31) (q_2 : In (s.1 30 ((x2).toInt + 4).toNat) (-1000000) 1000000) (q_3 : In (s.1 30 ((x2).toInt + 5).toNat) (0) 1000000) (q_4 : In (s.1 30 ((x2).toInt + 6).toNat) (0) 25) : GC Z d 132 [.ref (A 1), .ref (A 32), .int x2, .int x3] (WW Z A s ++ ex) 0 0 (fun v u => ∃ t : GS, Rng t ∧ Fr fm_132_1_32 s t ∧ v = none ∧ u = WW Z A t ++ ex ∧ (t.1 34 = upd (s.1 34) (x3).toNatClampNeg (s.1 30 ((x2).toInt + 2).toNat)) ∧ (t.1 35 = upd (s.1 35) (x3).toNatClampNeg (s.1 30 ((x2).toInt + 3).toNat)) ∧ (t.1 36 = upd (s.1 36) (x3).toNatClampNeg (s.1 30 ((x2).toInt + 4).toNat)) ∧ (t.1 37 = upd (s.1 37) (x3).toNatClampNeg (s.1 30 ((x2).toInt + 5).toNat)) ∧ (t.1 38 = upd (s.1 38) (x3).toNatClampNeg (s.1 30 ((x2).toInt + 6).toNat)) ∧ (TQD s → TQD t)) X := by
  intro post xp hP hX
  have ro_30_0 := rng_F hI 448 28000 rfl e_30_0
  refine g_enter2 (k := 132) (N := 900) (by first | exact dq1 hd rfl | exact dq0 hd rfl | exact dq2 hd rfl | exact dq3 hd rfl | omega) rfl (Nat.le_of_ble_eq_true rfl) ?_
  refine g_aload_n 1 (gd rfl) rfl rfl ?_
  refine g_getA (q2 := 34) 4 (gd rfl) rfl rfl rfl rfl ?_
  refine g_iload_n 5 (gd rfl) rfl rfl ?_
  refine g_aload_n 6 (gd rfl) rfl rfl ?_
  refine g_getA (q2 := 30) 9 (gd rfl) rfl rfl rfl rfl ?_
  refine g_iload_n 10 (gd rfl) rfl rfl ?_
  refine g_iconst 2 11 (gd rfl) rfl rfl ?_
  refine g_iadd 12 (gd rfl) rfl (fun z11 e11 => ?_)
  have i11 := in_add 2 27995 e11 h2 (in_c 2 rfl) rfl rfl
  have hx12 : vp_in z11 (s.2.2.1 30 0).toNatClampNeg := lg_in (by have a0 := oa5 ((rng_F hI 0 160 rfl e_32_3)) ((rng_F hI 448 28000 rfl e_30_0)) h3 h2 i11; have a5 := t_add e11 h2 (in_c 2 rfl) rfl; have a6 := in_u ((in_c 2 rfl)); have oc := oc_132_1_32; omega) (by rw [← (show u_30_0 = s.2.2.1 30 0 from e_30_0)]; have a0 := oa5 ((rng_F hI 0 160 rfl e_32_3)) ((rng_F hI 448 28000 rfl e_30_0)) h3 h2 i11; have a5 := t_add e11 h2 (in_c 2 rfl) rfl; have a6 := in_u ((in_c 2 rfl)); have oc := oc_132_1_32; omega)
  refine g_lgload 13 (gd rfl) rfl hx12 (fun z12 e12 => ?_)
  have i13 : In z12 0 31 := by have hi : (z12) = s.1 30 ((x2).toInt + 2).toNat := (by rw [e12, show (z11).toNatClampNeg = ((x2).toInt + 2).toNat from (by show (z11).toInt.toNat = _; have a0 := oa5 ((rng_F hI 0 160 rfl e_32_3)) ((rng_F hI 448 28000 rfl e_30_0)) h3 h2 i11; have a5 := t_add e11 h2 (in_c 2 rfl) rfl; have a6 := in_u ((in_c 2 rfl)); have oc := oc_132_1_32; omega)] <;> simp [sI]); rw [hi]; exact q_0
  have hf2 : z12 = s.1 30 ((x2).toInt + 2).toNat := (by rw [e12, show (z11).toNatClampNeg = ((x2).toInt + 2).toNat from (by show (z11).toInt.toNat = _; have a0 := oa5 ((rng_F hI 0 160 rfl e_32_3)) ((rng_F hI 448 28000 rfl e_30_0)) h3 h2 i11; have a5 := t_add e11 h2 (in_c 2 rfl) rfl; have a6 := in_u ((in_c 2 rfl)); have oc := oc_132_1_32; omega)] <;> simp [sI])
  refine g_iastore 14 (gd rfl) rfl (n := 160) rfl (in_ix h3 rfl) ?_
  have hI13 := rng_sI (q := 34) (j := x3.toNatClampNeg) hI rfl (in_w (-1) 31 i13 rfl)
  refine g_aload_n 15 (gd rfl) rfl rfl ?_
  refine g_getA (q2 := 35) 18 (gd rfl) rfl rfl rfl rfl ?_
  refine g_iload_n 19 (gd rfl) rfl rfl ?_
  refine g_aload_n 20 (gd rfl) rfl rfl ?_
  refine g_getA (q2 := 30) 23 (gd rfl) rfl rfl rfl rfl ?_
  refine g_iload_n 24 (gd rfl) rfl rfl ?_
  refine g_iconst 3 25 (gd rfl) rfl rfl ?_
  refine g_iadd 26 (gd rfl) rfl (fun z25 e25 => ?_)
  have i25 := in_add 3 27996 e25 h2 (in_c 3 rfl) rfl rfl
  have hx26 : vp_in z25 ((sI s 34 x3.toNatClampNeg z12).2.2.1 30 0).toNatClampNeg := lg_in (by have a0 := oa5 ((rng_F hI 0 160 rfl e_32_3)) ((rng_F hI 448 28000 rfl e_30_0)) h3 h2 i25; have a5 := t_add e25 h2 (in_c 3 rfl) rfl; have a6 := oa2 ((in_c 3 rfl)) i11; have a8 := t_add e11 h2 (in_c 2 rfl) rfl; have a9 := in_u ((in_c 2 rfl)); have oc := oc_132_1_32; omega) (by rw [← (show u_30_0 = (sI s 34 x3.toNatClampNeg z12).2.2.1 30 0 from sI_F (e_30_0))]; have a0 := oa5 ((rng_F hI 0 160 rfl e_32_3)) ((rng_F hI 448 28000 rfl e_30_0)) h3 h2 i25; have a5 := t_add e25 h2 (in_c 3 rfl) rfl; have a6 := oa2 ((in_c 3 rfl)) i11; have a8 := t_add e11 h2 (in_c 2 rfl) rfl; have a9 := in_u ((in_c 2 rfl)); have oc := oc_132_1_32; omega)
  refine g_lgload 27 (gd rfl) rfl hx26 (fun z26 e26 => ?_)
  have i27 : In z26 0 31 := by have hi : (z26) = s.1 30 ((x2).toInt + 3).toNat := (by rw [e26, show (z25).toNatClampNeg = ((x2).toInt + 3).toNat from (by show (z25).toInt.toNat = _; have a0 := oa5 ((rng_F hI 0 160 rfl e_32_3)) ((rng_F hI 448 28000 rfl e_30_0)) h3 h2 i25; have a5 := t_add e25 h2 (in_c 3 rfl) rfl; have a6 := oa2 ((in_c 3 rfl)) i11; have a8 := t_add e11 h2 (in_c 2 rfl) rfl; have a9 := in_u ((in_c 2 rfl)); have oc := oc_132_1_32; omega)] <;> simp [sI]); rw [hi]; exact q_1
  have hf3 : z26 = s.1 30 ((x2).toInt + 3).toNat := (by rw [e26, show (z25).toNatClampNeg = ((x2).toInt + 3).toNat from (by show (z25).toInt.toNat = _; have a0 := oa5 ((rng_F hI 0 160 rfl e_32_3)) ((rng_F hI 448 28000 rfl e_30_0)) h3 h2 i25; have a5 := t_add e25 h2 (in_c 3 rfl) rfl; have a6 := oa2 ((in_c 3 rfl)) i11; have a8 := t_add e11 h2 (in_c 2 rfl) rfl; have a9 := in_u ((in_c 2 rfl)); have oc := oc_132_1_32; omega)] <;> simp [sI])
  refine g_iastore 28 (gd rfl) rfl (n := 160) rfl (in_ix h3 rfl) ?_
  have hI27 := rng_sI (q := 35) (j := x3.toNatClampNeg) hI13 rfl (in_w 0 31 i27 rfl)
  refine g_aload_n 29 (gd rfl) rfl rfl ?_
  refine g_getA (q2 := 36) 32 (gd rfl) rfl rfl rfl rfl ?_
  refine g_iload_n 33 (gd rfl) rfl rfl ?_
  refine g_aload_n 34 (gd rfl) rfl rfl ?_
  refine g_getA (q2 := 30) 37 (gd rfl) rfl rfl rfl rfl ?_
  refine g_iload_n 38 (gd rfl) rfl rfl ?_
  refine g_iconst 4 39 (gd rfl) rfl rfl ?_
  refine g_iadd 40 (gd rfl) rfl (fun z39 e39 => ?_)
  have i39 := in_add 4 27997 e39 h2 (in_c 4 rfl) rfl rfl
  have hx40 : vp_in z39 ((sI (sI s 34 x3.toNatClampNeg z12) 35 x3.toNatClampNeg z26).2.2.1 30 0).toNatClampNeg := lg_in (by have a0 := oa5 ((rng_F hI 0 160 rfl e_32_3)) ((rng_F hI 448 28000 rfl e_30_0)) h3 h2 i39; have a5 := t_add e39 h2 (in_c 4 rfl) rfl; have a6 := oa2 ((in_c 4 rfl)) i25; have a8 := t_add e25 h2 (in_c 3 rfl) rfl; have a9 := oa2 ((in_c 3 rfl)) i11; have a11 := t_add e11 h2 (in_c 2 rfl) rfl; have a12 := in_u ((in_c 2 rfl)); have oc := oc_132_1_32; omega) (by rw [← (show u_30_0 = (sI (sI s 34 x3.toNatClampNeg z12) 35 x3.toNatClampNeg z26).2.2.1 30 0 from sI_F (sI_F (e_30_0)))]; have a0 := oa5 ((rng_F hI 0 160 rfl e_32_3)) ((rng_F hI 448 28000 rfl e_30_0)) h3 h2 i39; have a5 := t_add e39 h2 (in_c 4 rfl) rfl; have a6 := oa2 ((in_c 4 rfl)) i25; have a8 := t_add e25 h2 (in_c 3 rfl) rfl; have a9 := oa2 ((in_c 3 rfl)) i11; have a11 := t_add e11 h2 (in_c 2 rfl) rfl; have a12 := in_u ((in_c 2 rfl)); have oc := oc_132_1_32; omega)
  refine g_lgload 41 (gd rfl) rfl hx40 (fun z40 e40 => ?_)
  have i41 : In z40 (-1000000) 1000000 := by have hi : (z40) = s.1 30 ((x2).toInt + 4).toNat := (by rw [e40, show (z39).toNatClampNeg = ((x2).toInt + 4).toNat from (by show (z39).toInt.toNat = _; have a0 := oa5 ((rng_F hI 0 160 rfl e_32_3)) ((rng_F hI 448 28000 rfl e_30_0)) h3 h2 i39; have a5 := t_add e39 h2 (in_c 4 rfl) rfl; have a6 := oa2 ((in_c 4 rfl)) i25; have a8 := t_add e25 h2 (in_c 3 rfl) rfl; have a9 := oa2 ((in_c 3 rfl)) i11; have a11 := t_add e11 h2 (in_c 2 rfl) rfl; have a12 := in_u ((in_c 2 rfl)); have oc := oc_132_1_32; omega)] <;> simp [sI]); rw [hi]; exact q_2
  have hf4 : z40 = s.1 30 ((x2).toInt + 4).toNat := (by rw [e40, show (z39).toNatClampNeg = ((x2).toInt + 4).toNat from (by show (z39).toInt.toNat = _; have a0 := oa5 ((rng_F hI 0 160 rfl e_32_3)) ((rng_F hI 448 28000 rfl e_30_0)) h3 h2 i39; have a5 := t_add e39 h2 (in_c 4 rfl) rfl; have a6 := oa2 ((in_c 4 rfl)) i25; have a8 := t_add e25 h2 (in_c 3 rfl) rfl; have a9 := oa2 ((in_c 3 rfl)) i11; have a11 := t_add e11 h2 (in_c 2 rfl) rfl; have a12 := in_u ((in_c 2 rfl)); have oc := oc_132_1_32; omega)] <;> simp [sI])
  refine g_iastore 42 (gd rfl) rfl (n := 160) rfl (in_ix h3 rfl) ?_
  have hI41 := rng_sI (q := 36) (j := x3.toNatClampNeg) hI27 rfl (in_w (-1000000) 1000000 i41 rfl)
  refine g_aload_n 43 (gd rfl) rfl rfl ?_
  refine g_getA (q2 := 37) 46 (gd rfl) rfl rfl rfl rfl ?_
  refine g_iload_n 47 (gd rfl) rfl rfl ?_
  refine g_aload_n 48 (gd rfl) rfl rfl ?_
  refine g_getA (q2 := 30) 51 (gd rfl) rfl rfl rfl rfl ?_
  refine g_iload_n 52 (gd rfl) rfl rfl ?_
  refine g_iconst 5 53 (gd rfl) rfl rfl ?_
  refine g_iadd 54 (gd rfl) rfl (fun z53 e53 => ?_)
  have i53 := in_add 5 27998 e53 h2 (in_c 5 rfl) rfl rfl
  have hx54 : vp_in z53 ((sI (sI (sI s 34 x3.toNatClampNeg z12) 35 x3.toNatClampNeg z26) 36 x3.toNatClampNeg z40).2.2.1 30 0).toNatClampNeg := lg_in (by have a0 := oa5 ((rng_F hI 0 160 rfl e_32_3)) ((rng_F hI 448 28000 rfl e_30_0)) h3 h2 i53; have a5 := t_add e53 h2 (in_c 5 rfl) rfl; have a6 := oa2 ((in_c 5 rfl)) i39; have a8 := t_add e39 h2 (in_c 4 rfl) rfl; have a9 := oa2 ((in_c 4 rfl)) i25; have a11 := t_add e25 h2 (in_c 3 rfl) rfl; have a12 := oa2 ((in_c 3 rfl)) i11; have a14 := t_add e11 h2 (in_c 2 rfl) rfl; have a15 := in_u ((in_c 2 rfl)); have oc := oc_132_1_32; omega) (by rw [← (show u_30_0 = (sI (sI (sI s 34 x3.toNatClampNeg z12) 35 x3.toNatClampNeg z26) 36 x3.toNatClampNeg z40).2.2.1 30 0 from sI_F (sI_F (sI_F (e_30_0))))]; have a0 := oa5 ((rng_F hI 0 160 rfl e_32_3)) ((rng_F hI 448 28000 rfl e_30_0)) h3 h2 i53; have a5 := t_add e53 h2 (in_c 5 rfl) rfl; have a6 := oa2 ((in_c 5 rfl)) i39; have a8 := t_add e39 h2 (in_c 4 rfl) rfl; have a9 := oa2 ((in_c 4 rfl)) i25; have a11 := t_add e25 h2 (in_c 3 rfl) rfl; have a12 := oa2 ((in_c 3 rfl)) i11; have a14 := t_add e11 h2 (in_c 2 rfl) rfl; have a15 := in_u ((in_c 2 rfl)); have oc := oc_132_1_32; omega)
  refine g_lgload 55 (gd rfl) rfl hx54 (fun z54 e54 => ?_)
  have i55 : In z54 0 1000000 := by have hi : (z54) = s.1 30 ((x2).toInt + 5).toNat := (by rw [e54, show (z53).toNatClampNeg = ((x2).toInt + 5).toNat from (by show (z53).toInt.toNat = _; have a0 := oa5 ((rng_F hI 0 160 rfl e_32_3)) ((rng_F hI 448 28000 rfl e_30_0)) h3 h2 i53; have a5 := t_add e53 h2 (in_c 5 rfl) rfl; have a6 := oa2 ((in_c 5 rfl)) i39; have a8 := t_add e39 h2 (in_c 4 rfl) rfl; have a9 := oa2 ((in_c 4 rfl)) i25; have a11 := t_add e25 h2 (in_c 3 rfl) rfl; have a12 := oa2 ((in_c 3 rfl)) i11; have a14 := t_add e11 h2 (in_c 2 rfl) rfl; have a15 := in_u ((in_c 2 rfl)); have oc := oc_132_1_32; omega)] <;> simp [sI]); rw [hi]; exact q_3
  have hf5 : z54 = s.1 30 ((x2).toInt + 5).toNat := (by rw [e54, show (z53).toNatClampNeg = ((x2).toInt + 5).toNat from (by show (z53).toInt.toNat = _; have a0 := oa5 ((rng_F hI 0 160 rfl e_32_3)) ((rng_F hI 448 28000 rfl e_30_0)) h3 h2 i53; have a5 := t_add e53 h2 (in_c 5 rfl) rfl; have a6 := oa2 ((in_c 5 rfl)) i39; have a8 := t_add e39 h2 (in_c 4 rfl) rfl; have a9 := oa2 ((in_c 4 rfl)) i25; have a11 := t_add e25 h2 (in_c 3 rfl) rfl; have a12 := oa2 ((in_c 3 rfl)) i11; have a14 := t_add e11 h2 (in_c 2 rfl) rfl; have a15 := in_u ((in_c 2 rfl)); have oc := oc_132_1_32; omega)] <;> simp [sI])
  refine g_iastore 56 (gd rfl) rfl (n := 160) rfl (in_ix h3 rfl) ?_
  have hI55 := rng_sI (q := 37) (j := x3.toNatClampNeg) hI41 rfl (in_w 0 1000000 i55 rfl)
  refine g_aload_n 57 (gd rfl) rfl rfl ?_
  refine g_getA (q2 := 38) 60 (gd rfl) rfl rfl rfl rfl ?_
  refine g_iload_n 61 (gd rfl) rfl rfl ?_
  refine g_aload_n 62 (gd rfl) rfl rfl ?_
  refine g_getA (q2 := 30) 65 (gd rfl) rfl rfl rfl rfl ?_
  refine g_iload_n 66 (gd rfl) rfl rfl ?_
  refine g_bipush 6 68 (gd rfl) rfl rfl ?_
  refine g_iadd 69 (gd rfl) rfl (fun z68 e68 => ?_)
  have i68 := in_add 6 27999 e68 h2 (in_c 6 rfl) rfl rfl
  have hx69 : vp_in z68 ((sI (sI (sI (sI s 34 x3.toNatClampNeg z12) 35 x3.toNatClampNeg z26) 36 x3.toNatClampNeg z40) 37 x3.toNatClampNeg z54).2.2.1 30 0).toNatClampNeg := lg_in (by have a0 := oa5 ((rng_F hI 0 160 rfl e_32_3)) ((rng_F hI 448 28000 rfl e_30_0)) h3 h2 i68; have a5 := t_add e68 h2 (in_c 6 rfl) rfl; have a6 := oa2 ((in_c 6 rfl)) i53; have a8 := t_add e53 h2 (in_c 5 rfl) rfl; have a9 := oa2 ((in_c 5 rfl)) i39; have a11 := t_add e39 h2 (in_c 4 rfl) rfl; have a12 := oa2 ((in_c 4 rfl)) i25; have a14 := t_add e25 h2 (in_c 3 rfl) rfl; have a15 := oa2 ((in_c 3 rfl)) i11; have a17 := t_add e11 h2 (in_c 2 rfl) rfl; have a18 := in_u ((in_c 2 rfl)); have oc := oc_132_1_32; omega) (by rw [← (show u_30_0 = (sI (sI (sI (sI s 34 x3.toNatClampNeg z12) 35 x3.toNatClampNeg z26) 36 x3.toNatClampNeg z40) 37 x3.toNatClampNeg z54).2.2.1 30 0 from sI_F (sI_F (sI_F (sI_F (e_30_0)))))]; have a0 := oa5 ((rng_F hI 0 160 rfl e_32_3)) ((rng_F hI 448 28000 rfl e_30_0)) h3 h2 i68; have a5 := t_add e68 h2 (in_c 6 rfl) rfl; have a6 := oa2 ((in_c 6 rfl)) i53; have a8 := t_add e53 h2 (in_c 5 rfl) rfl; have a9 := oa2 ((in_c 5 rfl)) i39; have a11 := t_add e39 h2 (in_c 4 rfl) rfl; have a12 := oa2 ((in_c 4 rfl)) i25; have a14 := t_add e25 h2 (in_c 3 rfl) rfl; have a15 := oa2 ((in_c 3 rfl)) i11; have a17 := t_add e11 h2 (in_c 2 rfl) rfl; have a18 := in_u ((in_c 2 rfl)); have oc := oc_132_1_32; omega)
  refine g_lgload 70 (gd rfl) rfl hx69 (fun z69 e69 => ?_)
  have i70 : In z69 0 25 := by have hi : (z69) = s.1 30 ((x2).toInt + 6).toNat := (by rw [e69, show (z68).toNatClampNeg = ((x2).toInt + 6).toNat from (by show (z68).toInt.toNat = _; have a0 := oa5 ((rng_F hI 0 160 rfl e_32_3)) ((rng_F hI 448 28000 rfl e_30_0)) h3 h2 i68; have a5 := t_add e68 h2 (in_c 6 rfl) rfl; have a6 := oa2 ((in_c 6 rfl)) i53; have a8 := t_add e53 h2 (in_c 5 rfl) rfl; have a9 := oa2 ((in_c 5 rfl)) i39; have a11 := t_add e39 h2 (in_c 4 rfl) rfl; have a12 := oa2 ((in_c 4 rfl)) i25; have a14 := t_add e25 h2 (in_c 3 rfl) rfl; have a15 := oa2 ((in_c 3 rfl)) i11; have a17 := t_add e11 h2 (in_c 2 rfl) rfl; have a18 := in_u ((in_c 2 rfl)); have oc := oc_132_1_32; omega)] <;> simp [sI]); rw [hi]; exact q_4
  have hf6 : z69 = s.1 30 ((x2).toInt + 6).toNat := (by rw [e69, show (z68).toNatClampNeg = ((x2).toInt + 6).toNat from (by show (z68).toInt.toNat = _; have a0 := oa5 ((rng_F hI 0 160 rfl e_32_3)) ((rng_F hI 448 28000 rfl e_30_0)) h3 h2 i68; have a5 := t_add e68 h2 (in_c 6 rfl) rfl; have a6 := oa2 ((in_c 6 rfl)) i53; have a8 := t_add e53 h2 (in_c 5 rfl) rfl; have a9 := oa2 ((in_c 5 rfl)) i39; have a11 := t_add e39 h2 (in_c 4 rfl) rfl; have a12 := oa2 ((in_c 4 rfl)) i25; have a14 := t_add e25 h2 (in_c 3 rfl) rfl; have a15 := oa2 ((in_c 3 rfl)) i11; have a17 := t_add e11 h2 (in_c 2 rfl) rfl; have a18 := in_u ((in_c 2 rfl)); have oc := oc_132_1_32; omega)] <;> simp [sI])
  refine g_iastore 71 (gd rfl) rfl (n := 160) rfl (in_ix h3 rfl) ?_
  have hI70 := rng_sI (q := 38) (j := x3.toNatClampNeg) hI55 rfl (in_w 0 25 i70 rfl)
  refine g_aload_n 72 (gd rfl) rfl rfl ?_
  refine g_dup 73 (gd rfl) rfl rfl ?_
  refine g_getI 76 (gd rfl) rfl rfl rfl (fun z73 e73 => ?_)
  refine g_iconst 1 77 (gd rfl) rfl rfl ?_
  refine g_iadd 78 (gd rfl) rfl (fun z77 e77 => ?_)
  refine g_putI 81 (gd rfl) rfl rfl rfl rfl ?_
  have hI78 := rng_sF (q := 32) (j := 2) hI70 rfl (in_w (-2147483648) 2147483647 (i_rng z77) rfl)
  refine g_aload_n 82 (gd rfl) rfl rfl ?_
  refine g_aload_n 83 (gd rfl) rfl rfl ?_
  refine g_getI 86 (gd rfl) rfl rfl rfl (fun z83 e83 => ?_)
  have q83 : u_32_3 = z83 := (sF_ne rfl (sI_F (sI_F (sI_F (sI_F (sI_F (e_32_3))))))).trans e83.symm
  subst q83
  refine g_iload_n 87 (gd rfl) rfl rfl ?_
  refine g_iconst 1 88 (gd rfl) rfl rfl ?_
  refine g_iadd 89 (gd rfl) rfl (fun z88 e88 => ?_)
  have i88 := in_add 1 160 e88 h3 (in_c 1 rfl) rfl rfl
  refine g_calls (As := [.int u_32_3, .int z88]) (r := [.ref (A 32)]) 92 (gd rfl) rfl rfl rfl rfl rfl (Nat.le_of_ble_eq_true rfl) (mc := 0) (ms := 0) (Nat.zero_le _) (Nat.zero_le _) (P := fun v u => _) ?_ (fun v u h => h)
  intro po89 xx89 hp89 hx89
  refine g_enter2 (k := 422) (N := 300) (by first | exact dq1 hd rfl | exact dq0 hd rfl | exact dq2 hd rfl | exact dq3 hd rfl | omega) rfl (Nat.le_of_ble_eq_true rfl) ?_
  refine g_iload_n 1 (gd rfl) rfl rfl ?_
  refine g_iload_n 2 (gd rfl) rfl rfl ?_
  refine g_cmp_lt 5 9 (gd rfl) rfl rfl (fun c89x2 => ?_) (fun c89x2 => ?_)
  · skip
    have i89x2 := r_lt1 0 159 c89x2 (rng_F hI 0 160 rfl e_32_3) i88 rfl
    refine g_iload_n 10 (gd rfl) rfl rfl ?_
    refine g_ireturn (gd rfl) rfl rfl (hp89 _ _ ?_)
    show GG _ _ _ _ _ _ _ _ [.int z88, .ref (A 32)] _ _ _
    refine g_putI 95 (gd rfl) rfl rfl rfl rfl ?_
    have hI92 := rng_sF (q := 32) (j := 3) hI78 rfl (in_w 0 160 i88 rfl)
    have n95 : (sF (sF (sI (sI (sI (sI (sI s 34 x3.toNatClampNeg z12) 35 x3.toNatClampNeg z26) 36 x3.toNatClampNeg z40) 37 x3.toNatClampNeg z54) 38 x3.toNatClampNeg z69) 32 2 z77) 32 3 z88).1 34 = upd (s.1 34) (x3).toNatClampNeg (s.1 30 ((x2).toInt + 2).toNat) := by rw [← hf2]; simp [sI, sF]
    have n95a : (sF (sF (sI (sI (sI (sI (sI s 34 x3.toNatClampNeg z12) 35 x3.toNatClampNeg z26) 36 x3.toNatClampNeg z40) 37 x3.toNatClampNeg z54) 38 x3.toNatClampNeg z69) 32 2 z77) 32 3 z88).1 35 = upd (s.1 35) (x3).toNatClampNeg (s.1 30 ((x2).toInt + 3).toNat) := by rw [← hf3]; simp [sI, sF]
    have n95b : (sF (sF (sI (sI (sI (sI (sI s 34 x3.toNatClampNeg z12) 35 x3.toNatClampNeg z26) 36 x3.toNatClampNeg z40) 37 x3.toNatClampNeg z54) 38 x3.toNatClampNeg z69) 32 2 z77) 32 3 z88).1 36 = upd (s.1 36) (x3).toNatClampNeg (s.1 30 ((x2).toInt + 4).toNat) := by rw [← hf4]; simp [sI, sF]
    have n95c : (sF (sF (sI (sI (sI (sI (sI s 34 x3.toNatClampNeg z12) 35 x3.toNatClampNeg z26) 36 x3.toNatClampNeg z40) 37 x3.toNatClampNeg z54) 38 x3.toNatClampNeg z69) 32 2 z77) 32 3 z88).1 37 = upd (s.1 37) (x3).toNatClampNeg (s.1 30 ((x2).toInt + 5).toNat) := by rw [← hf5]; simp [sI, sF]
    have n95d : (sF (sF (sI (sI (sI (sI (sI s 34 x3.toNatClampNeg z12) 35 x3.toNatClampNeg z26) 36 x3.toNatClampNeg z40) 37 x3.toNatClampNeg z54) 38 x3.toNatClampNeg z69) 32 2 z77) 32 3 z88).1 38 = upd (s.1 38) (x3).toNatClampNeg (s.1 30 ((x2).toInt + 6).toNat) := by rw [← hf6]; simp [sI, sF]
    have n95e : TQD s → TQD (sF (sF (sI (sI (sI (sI (sI s 34 x3.toNatClampNeg z12) 35 x3.toNatClampNeg z26) 36 x3.toNatClampNeg z40) 37 x3.toNatClampNeg z54) 38 x3.toNatClampNeg z69) 32 2 z77) 32 3 z88) := by exact fun h => tqd_up (p := (x3).toNatClampNeg) (a := z12) h (by simp [sI, sF]) (by rw [← (show z88 = (sF (sF (sI (sI (sI (sI (sI s 34 x3.toNatClampNeg z12) 35 x3.toNatClampNeg z26) 36 x3.toNatClampNeg z40) 37 x3.toNatClampNeg z54) 38 x3.toNatClampNeg z69) 32 2 z77) 32 3 z88).2.2.1 32 3 from sF_get), ← e_32_3]; have a0 := oa5 i89x2 ((rng_F hI 448 28000 rfl e_30_0)) h3 h2 i88; have a5 := t_add e88 h3 (in_c 1 rfl) rfl; have a6 := oa2 ((in_c 1 rfl)) i68; have a8 := t_add e68 h2 (in_c 6 rfl) rfl; have a9 := oa2 ((in_c 6 rfl)) i53; have a11 := t_add e53 h2 (in_c 5 rfl) rfl; have a12 := oa2 ((in_c 5 rfl)) i39; have a14 := t_add e39 h2 (in_c 4 rfl) rfl; have a15 := oa2 ((in_c 4 rfl)) i25; have a17 := t_add e25 h2 (in_c 3 rfl) rfl; have a18 := oa2 ((in_c 3 rfl)) i11; have a20 := t_add e11 h2 (in_c 2 rfl) rfl; have a21 := in_u ((in_c 2 rfl)); have oc := oc_132_1_32; omega) (by rw [← (show z88 = (sF (sF (sI (sI (sI (sI (sI s 34 x3.toNatClampNeg z12) 35 x3.toNatClampNeg z26) 36 x3.toNatClampNeg z40) 37 x3.toNatClampNeg z54) 38 x3.toNatClampNeg z69) 32 2 z77) 32 3 z88).2.2.1 32 3 from sF_get)]; show ((x3.toInt.toNat : Nat) : Int) < _; have a0 := oa5 i89x2 ((rng_F hI 448 28000 rfl e_30_0)) h3 h2 i88; have a5 := t_add e88 h3 (in_c 1 rfl) rfl; have a6 := oa2 ((in_c 1 rfl)) i68; have a8 := t_add e68 h2 (in_c 6 rfl) rfl; have a9 := oa2 ((in_c 6 rfl)) i53; have a11 := t_add e53 h2 (in_c 5 rfl) rfl; have a12 := oa2 ((in_c 5 rfl)) i39; have a14 := t_add e39 h2 (in_c 4 rfl) rfl; have a15 := oa2 ((in_c 4 rfl)) i25; have a17 := t_add e25 h2 (in_c 3 rfl) rfl; have a18 := oa2 ((in_c 3 rfl)) i11; have a20 := t_add e11 h2 (in_c 2 rfl) rfl; have a21 := in_u ((in_c 2 rfl)); have oc := oc_132_1_32; omega)
    exact g_return (gd rfl) rfl (hP _ _ ⟨(sF (sF (sI (sI (sI (sI (sI s 34 x3.toNatClampNeg z12) 35 x3.toNatClampNeg z26) 36 x3.toNatClampNeg z40) 37 x3.toNatClampNeg z54) 38 x3.toNatClampNeg z69) 32 2 z77) 32 3 z88), hI92, (fr_sF rfl (fr_sF rfl (fr_sI rfl (fr_sI rfl (fr_sI rfl (fr_sI rfl (fr_sI rfl fr_rf))))))), rfl, rfl, n95, n95a, n95b, n95c, n95d, n95e⟩)
  · skip
    have i89x2 := r_le2 1 160 c89x2 i88 (rng_F hI 0 160 rfl e_32_3) rfl
    refine g_iload_n 6 (gd rfl) rfl rfl ?_
    refine g_goto 10 (gd rfl) rfl ?_
    refine g_ireturn (gd rfl) rfl rfl (hp89 _ _ ?_)
    show GG _ _ _ _ _ _ _ _ [.int u_32_3, .ref (A 32)] _ _ _
    refine g_putI 95 (gd rfl) rfl rfl rfl rfl ?_
    have hI92 := rng_sF (q := 32) (j := 3) hI78 rfl (in_w 0 160 i89x2 rfl)
    have n95 : (sF (sF (sI (sI (sI (sI (sI s 34 x3.toNatClampNeg z12) 35 x3.toNatClampNeg z26) 36 x3.toNatClampNeg z40) 37 x3.toNatClampNeg z54) 38 x3.toNatClampNeg z69) 32 2 z77) 32 3 u_32_3).1 34 = upd (s.1 34) (x3).toNatClampNeg (s.1 30 ((x2).toInt + 2).toNat) := by rw [← hf2]; simp [sI, sF]
    have n95a : (sF (sF (sI (sI (sI (sI (sI s 34 x3.toNatClampNeg z12) 35 x3.toNatClampNeg z26) 36 x3.toNatClampNeg z40) 37 x3.toNatClampNeg z54) 38 x3.toNatClampNeg z69) 32 2 z77) 32 3 u_32_3).1 35 = upd (s.1 35) (x3).toNatClampNeg (s.1 30 ((x2).toInt + 3).toNat) := by rw [← hf3]; simp [sI, sF]
    have n95b : (sF (sF (sI (sI (sI (sI (sI s 34 x3.toNatClampNeg z12) 35 x3.toNatClampNeg z26) 36 x3.toNatClampNeg z40) 37 x3.toNatClampNeg z54) 38 x3.toNatClampNeg z69) 32 2 z77) 32 3 u_32_3).1 36 = upd (s.1 36) (x3).toNatClampNeg (s.1 30 ((x2).toInt + 4).toNat) := by rw [← hf4]; simp [sI, sF]
    have n95c : (sF (sF (sI (sI (sI (sI (sI s 34 x3.toNatClampNeg z12) 35 x3.toNatClampNeg z26) 36 x3.toNatClampNeg z40) 37 x3.toNatClampNeg z54) 38 x3.toNatClampNeg z69) 32 2 z77) 32 3 u_32_3).1 37 = upd (s.1 37) (x3).toNatClampNeg (s.1 30 ((x2).toInt + 5).toNat) := by rw [← hf5]; simp [sI, sF]
    have n95d : (sF (sF (sI (sI (sI (sI (sI s 34 x3.toNatClampNeg z12) 35 x3.toNatClampNeg z26) 36 x3.toNatClampNeg z40) 37 x3.toNatClampNeg z54) 38 x3.toNatClampNeg z69) 32 2 z77) 32 3 u_32_3).1 38 = upd (s.1 38) (x3).toNatClampNeg (s.1 30 ((x2).toInt + 6).toNat) := by rw [← hf6]; simp [sI, sF]
    have n95e : TQD s → TQD (sF (sF (sI (sI (sI (sI (sI s 34 x3.toNatClampNeg z12) 35 x3.toNatClampNeg z26) 36 x3.toNatClampNeg z40) 37 x3.toNatClampNeg z54) 38 x3.toNatClampNeg z69) 32 2 z77) 32 3 u_32_3) := by exact fun h => tqd_up (p := (x3).toNatClampNeg) (a := z12) h (by simp [sI, sF]) (by rw [← (show u_32_3 = (sF (sF (sI (sI (sI (sI (sI s 34 x3.toNatClampNeg z12) 35 x3.toNatClampNeg z26) 36 x3.toNatClampNeg z40) 37 x3.toNatClampNeg z54) 38 x3.toNatClampNeg z69) 32 2 z77) 32 3 u_32_3).2.2.1 32 3 from sF_get), ← e_32_3]; have a0 := oa5 i89x2 ((rng_F hI 448 28000 rfl e_30_0)) h3 h2 i88; have a5 := t_add e88 h3 (in_c 1 rfl) rfl; have a6 := oa2 ((in_c 1 rfl)) i68; have a8 := t_add e68 h2 (in_c 6 rfl) rfl; have a9 := oa2 ((in_c 6 rfl)) i53; have a11 := t_add e53 h2 (in_c 5 rfl) rfl; have a12 := oa2 ((in_c 5 rfl)) i39; have a14 := t_add e39 h2 (in_c 4 rfl) rfl; have a15 := oa2 ((in_c 4 rfl)) i25; have a17 := t_add e25 h2 (in_c 3 rfl) rfl; have a18 := oa2 ((in_c 3 rfl)) i11; have a20 := t_add e11 h2 (in_c 2 rfl) rfl; have a21 := in_u ((in_c 2 rfl)); have oc := oc_132_1_32; omega) (by rw [← (show u_32_3 = (sF (sF (sI (sI (sI (sI (sI s 34 x3.toNatClampNeg z12) 35 x3.toNatClampNeg z26) 36 x3.toNatClampNeg z40) 37 x3.toNatClampNeg z54) 38 x3.toNatClampNeg z69) 32 2 z77) 32 3 u_32_3).2.2.1 32 3 from sF_get)]; show ((x3.toInt.toNat : Nat) : Int) < _; have a0 := oa5 i89x2 ((rng_F hI 448 28000 rfl e_30_0)) h3 h2 i88; have a5 := t_add e88 h3 (in_c 1 rfl) rfl; have a6 := oa2 ((in_c 1 rfl)) i68; have a8 := t_add e68 h2 (in_c 6 rfl) rfl; have a9 := oa2 ((in_c 6 rfl)) i53; have a11 := t_add e53 h2 (in_c 5 rfl) rfl; have a12 := oa2 ((in_c 5 rfl)) i39; have a14 := t_add e39 h2 (in_c 4 rfl) rfl; have a15 := oa2 ((in_c 4 rfl)) i25; have a17 := t_add e25 h2 (in_c 3 rfl) rfl; have a18 := oa2 ((in_c 3 rfl)) i11; have a20 := t_add e11 h2 (in_c 2 rfl) rfl; have a21 := in_u ((in_c 2 rfl)); have oc := oc_132_1_32; omega)
    exact g_return (gd rfl) rfl (hP _ _ ⟨(sF (sF (sI (sI (sI (sI (sI s 34 x3.toNatClampNeg z12) 35 x3.toNatClampNeg z26) 36 x3.toNatClampNeg z40) 37 x3.toNatClampNeg z54) 38 x3.toNatClampNeg z69) 32 2 z77) 32 3 u_32_3), hI92, (fr_sF rfl (fr_sF rfl (fr_sI rfl (fr_sI rfl (fr_sI rfl (fr_sI rfl (fr_sI rfl fr_rf))))))), rfl, rfl, n95, n95a, n95b, n95c, n95d, n95e⟩)

/-- GraphHouse$Ledger.applyValue -/
theorem f_133_1_32 {Z : AmZ} {A : Nat → Nat} {s : GS} {ex : va_W} {d : Nat} {X : AmX} {x2 : Int32} {x3 : Int32} {x4 : Int32} (hd : 1 ≤ d) (hI : Rng s) (h2 : In x2 0 159) (q_0 : (x3).toInt = 0 → In x4 (-1000000) 1000000) (q_1 : (x3).toInt = 1 → In x4 0 1000000) (q_2 : (x3).toInt ≠ 0 → (x3).toInt ≠ 1 → In x4 0 25) : GC Z d 133 [.ref (A 1), .ref (A 32), .int x2, .int x3, .int x4] (WW Z A s ++ ex) 0 0 (fun v u => ∃ t : GS, Rng t ∧ Fr fm_133_1_32 s t ∧ v = none ∧ u = WW Z A t ++ ex ∧ (t.1 36 = (if (x3).toInt = 0 then upd (s.1 36) (x2).toNatClampNeg x4 else s.1 36)) ∧ (t.1 37 = (if (x3).toInt = 1 then upd (s.1 37) (x2).toNatClampNeg x4 else s.1 37)) ∧ (t.1 38 = (if (x3).toInt ≠ 0 ∧ (x3).toInt ≠ 1 then upd (s.1 38) (x2).toNatClampNeg x4 else s.1 38))) X := by
  intro post xp hP hX
  refine g_enter2 (k := 133) (N := 900) (by first | exact dq1 hd rfl | exact dq0 hd rfl | exact dq2 hd rfl | exact dq3 hd rfl | omega) rfl (Nat.le_of_ble_eq_true rfl) ?_
  refine g_iload_n 1 (gd rfl) rfl rfl ?_
  refine g_if_ne 4 15 (gd rfl) rfl rfl (fun c1 => ?_) (fun c1 => ?_)
  · skip
    refine g_iload_n 16 (gd rfl) rfl rfl ?_
    refine g_iconst 1 17 (gd rfl) rfl rfl ?_
    refine g_cmp_ne 20 31 (gd rfl) rfl rfl (fun c17 => ?_) (fun c17 => ?_)
    · skip
      refine g_aload_n 32 (gd rfl) rfl rfl ?_
      refine g_getA (q2 := 38) 35 (gd rfl) rfl rfl rfl rfl ?_
      refine g_iload_n 36 (gd rfl) rfl rfl ?_
      refine g_iload 38 (gd rfl) rfl rfl ?_
      have i38 : In x4 0 25 := by exact q_2 c1 c17
      refine g_iastore 39 (gd rfl) rfl (n := 160) rfl (in_ix h2 rfl) ?_
      have hI38 := rng_sI (q := 38) (j := x2.toNatClampNeg) hI rfl (in_w 0 25 i38 rfl)
      have n39 : (sI s 38 x2.toNatClampNeg x4).1 36 = (if (x3).toInt = 0 then upd (s.1 36) (x2).toNatClampNeg x4 else s.1 36) := by have c01 : (Int32.ofInt 1).toInt = 1 := rfl; first | (rw [if_pos (by omega)]; exact sI_q) | (rw [if_neg (by omega)]; first | rfl | exact sI_p rfl)
      have n39a : (sI s 38 x2.toNatClampNeg x4).1 37 = (if (x3).toInt = 1 then upd (s.1 37) (x2).toNatClampNeg x4 else s.1 37) := by have c01 : (Int32.ofInt 1).toInt = 1 := rfl; first | (rw [if_pos (by omega)]; exact sI_q) | (rw [if_neg (by omega)]; first | rfl | exact sI_p rfl)
      have n39b : (sI s 38 x2.toNatClampNeg x4).1 38 = (if (x3).toInt ≠ 0 ∧ (x3).toInt ≠ 1 then upd (s.1 38) (x2).toNatClampNeg x4 else s.1 38) := by have c01 : (Int32.ofInt 1).toInt = 1 := rfl; first | (rw [if_pos (by omega)]; exact sI_q) | (rw [if_neg (by omega)]; first | rfl | exact sI_p rfl)
      exact g_return (gd rfl) rfl (hP _ _ ⟨(sI s 38 x2.toNatClampNeg x4), hI38, (fr_sI rfl fr_rf), rfl, rfl, n39, n39a, n39b⟩)
    · skip
      have i17 := r_eq1 1 1 c17 (i_rng x3) (in_c 1 rfl) rfl
      refine g_aload_n 21 (gd rfl) rfl rfl ?_
      refine g_getA (q2 := 37) 24 (gd rfl) rfl rfl rfl rfl ?_
      refine g_iload_n 25 (gd rfl) rfl rfl ?_
      refine g_iload 27 (gd rfl) rfl rfl ?_
      have i27 : In x4 0 1000000 := by exact q_1 c17
      refine g_iastore 28 (gd rfl) rfl (n := 160) rfl (in_ix h2 rfl) ?_
      have hI27 := rng_sI (q := 37) (j := x2.toNatClampNeg) hI rfl (in_w 0 1000000 i27 rfl)
      refine g_goto 39 (gd rfl) rfl ?_
      have n39 : (sI s 37 x2.toNatClampNeg x4).1 36 = (if (x3).toInt = 0 then upd (s.1 36) (x2).toNatClampNeg x4 else s.1 36) := by have c01 : (Int32.ofInt 1).toInt = 1 := rfl; first | (rw [if_pos (by omega)]; exact sI_q) | (rw [if_neg (by omega)]; first | rfl | exact sI_p rfl)
      have n39a : (sI s 37 x2.toNatClampNeg x4).1 37 = (if (x3).toInt = 1 then upd (s.1 37) (x2).toNatClampNeg x4 else s.1 37) := by have c01 : (Int32.ofInt 1).toInt = 1 := rfl; first | (rw [if_pos (by omega)]; exact sI_q) | (rw [if_neg (by omega)]; first | rfl | exact sI_p rfl)
      have n39b : (sI s 37 x2.toNatClampNeg x4).1 38 = (if (x3).toInt ≠ 0 ∧ (x3).toInt ≠ 1 then upd (s.1 38) (x2).toNatClampNeg x4 else s.1 38) := by have c01 : (Int32.ofInt 1).toInt = 1 := rfl; first | (rw [if_pos (by omega)]; exact sI_q) | (rw [if_neg (by omega)]; first | rfl | exact sI_p rfl)
      exact g_return (gd rfl) rfl (hP _ _ ⟨(sI s 37 x2.toNatClampNeg x4), hI27, (fr_sI rfl fr_rf), rfl, rfl, n39, n39a, n39b⟩)
  · skip
    have i1 := z_eq 0 0 c1 (i_rng x3) rfl
    refine g_aload_n 5 (gd rfl) rfl rfl ?_
    refine g_getA (q2 := 36) 8 (gd rfl) rfl rfl rfl rfl ?_
    refine g_iload_n 9 (gd rfl) rfl rfl ?_
    refine g_iload 11 (gd rfl) rfl rfl ?_
    have i11 : In x4 (-1000000) 1000000 := by exact q_0 c1
    refine g_iastore 12 (gd rfl) rfl (n := 160) rfl (in_ix h2 rfl) ?_
    have hI11 := rng_sI (q := 36) (j := x2.toNatClampNeg) hI rfl (in_w (-1000000) 1000000 i11 rfl)
    refine g_goto 39 (gd rfl) rfl ?_
    have n39 : (sI s 36 x2.toNatClampNeg x4).1 36 = (if (x3).toInt = 0 then upd (s.1 36) (x2).toNatClampNeg x4 else s.1 36) := by have c01 : (Int32.ofInt 1).toInt = 1 := rfl; first | (rw [if_pos (by omega)]; exact sI_q) | (rw [if_neg (by omega)]; first | rfl | exact sI_p rfl)
    have n39a : (sI s 36 x2.toNatClampNeg x4).1 37 = (if (x3).toInt = 1 then upd (s.1 37) (x2).toNatClampNeg x4 else s.1 37) := by have c01 : (Int32.ofInt 1).toInt = 1 := rfl; first | (rw [if_pos (by omega)]; exact sI_q) | (rw [if_neg (by omega)]; first | rfl | exact sI_p rfl)
    have n39b : (sI s 36 x2.toNatClampNeg x4).1 38 = (if (x3).toInt ≠ 0 ∧ (x3).toInt ≠ 1 then upd (s.1 38) (x2).toNatClampNeg x4 else s.1 38) := by have c01 : (Int32.ofInt 1).toInt = 1 := rfl; first | (rw [if_pos (by omega)]; exact sI_q) | (rw [if_neg (by omega)]; first | rfl | exact sI_p rfl)
    exact g_return (gd rfl) rfl (hP _ _ ⟨(sI s 36 x2.toNatClampNeg x4), hI11, (fr_sI rfl fr_rf), rfl, rfl, n39, n39a, n39b⟩)

theorem oc_131_1_32 : (Int32.ofInt (-1)).toInt = (-1) ∧ (Int32.ofInt 0).toInt = 0 ∧ (Int32.ofInt 1).toInt = 1 ∧ (Int32.ofInt 2).toInt = 2 ∧ (Int32.ofInt 3).toInt = 3 ∧ (Int32.ofInt 7).toInt = 7 := ⟨rfl, rfl, rfl, rfl, rfl, rfl⟩
/-- GraphHouse$Ledger.apply -/
theorem f_131_1_32 {Z : AmZ} {A : Nat → Nat} {s : GS} {ex : va_W} {d : Nat} {X : AmX} {u_32_0 : Int32} {u_32_1 : Int32} {u_30_0 : Int32} (hd : 4 ≤ d) (hI : Inv s) (e_32_0 : u_32_0 = s.2.2.1 32 0) (e_32_1 : u_32_1 = s.2.2.1 32 1) (e_30_0 : u_30_0 = s.2.2.1 30 0) (r_32_0 : In u_32_0 0 3999) (p_0 : 7 * (u_32_0).toInt + 7 ≤ (u_30_0).toInt) (q_0 : RW7 (s.1 30) (s.2.2.1 32 0).toInt.toNat) (q_1 : KV s 32) : GC Z d 131 [.ref (A 1), .ref (A 32)] (WW Z A s ++ ex) 0 0 (fun v u => ∃ t : GS, Inv t ∧ Fr fm_131_1_32 s t ∧ ((t.2.2.1 32 0).toInt = (s.2.2.1 32 0).toInt + 1) ∧ v = none ∧ u = WW Z A t ++ ex ∧ (KV t 32) ∧ (gvD t = gqR (gvD s) (s.1 30) (s.2.2.1 32 0).toInt.toNat) ∧ (TQD s → TQD t)) X := by
  intro post xp hP hX
  have ro_30_0 := inv_F hI 448 28000 rfl e_30_0
  refine g_enter2 (k := 131) (N := 900) (by first | exact dq1 hd rfl | exact dq0 hd rfl | exact dq2 hd rfl | exact dq3 hd rfl | omega) rfl (Nat.le_of_ble_eq_true rfl) ?_
  refine g_aload_n 1 (gd rfl) rfl rfl ?_
  refine g_getI 4 (gd rfl) rfl rfl rfl (fun z1 e1 => ?_)
  have q1 : u_32_0 = z1 := (e_32_0).trans e1.symm
  subst q1
  refine g_bipush 7 6 (gd rfl) rfl rfl ?_
  refine g_imul 7 (gd rfl) rfl (fun z6 e6 => ?_)
  have i6 := in_mulc 7 0 27993 (Or.inr e6) r_32_0 rfl rfl
  refine g_istore_n 8 (gd rfl) rfl (Nat.le_of_ble_eq_true rfl) ?_
  have hk : z6.toInt = 7 * (((s.2.2.1 32 0).toInt.toNat : Nat) : Int) := (by rw [← e_32_0]; have a0 := oa4 ((rng_F hI.1 448 28000 rfl e_30_0)) ((rng_F hI.1 0 32 rfl e_32_1)) r_32_0 i6; have a4 := (t_mulc 7 (Or.inr e6) r_32_0 rfl).1; have oc := oc_131_1_32; omega)
  refine g_aload_n 9 (gd rfl) rfl rfl ?_
  refine g_getA (q2 := 30) 12 (gd rfl) rfl rfl rfl rfl ?_
  refine g_iload_n 13 (gd rfl) rfl rfl ?_
  refine g_iconst 1 14 (gd rfl) rfl rfl ?_
  refine g_iadd 15 (gd rfl) rfl (fun z14 e14 => ?_)
  have i14 := in_add 1 27994 e14 i6 (in_c 1 rfl) rfl rfl
  have hx15 : vp_in z14 (s.2.2.1 30 0).toNatClampNeg := lg_in (by have a0 := oa4 ((rng_F hI.1 448 28000 rfl e_30_0)) ((rng_F hI.1 0 32 rfl e_32_1)) r_32_0 i6; have a4 := (t_mulc 7 (Or.inr e6) r_32_0 rfl).1; have a5 := in_u i14; have a6 := t_add e14 i6 (in_c 1 rfl) rfl; have a7 := in_u ((in_c 1 rfl)); have oc := oc_131_1_32; omega) (by rw [← (show u_30_0 = s.2.2.1 30 0 from e_30_0)]; have a0 := oa4 ((rng_F hI.1 448 28000 rfl e_30_0)) ((rng_F hI.1 0 32 rfl e_32_1)) r_32_0 i6; have a4 := (t_mulc 7 (Or.inr e6) r_32_0 rfl).1; have a5 := in_u i14; have a6 := t_add e14 i6 (in_c 1 rfl) rfl; have a7 := in_u ((in_c 1 rfl)); have oc := oc_131_1_32; omega)
  refine g_lgload 16 (gd rfl) rfl hx15 (fun z15 e15 => ?_)
  refine g_istore_n 17 (gd rfl) rfl (Nat.le_of_ble_eq_true rfl) ?_
  have hp : z15 = s.1 30 (7 * (s.2.2.1 32 0).toInt.toNat + 1) := rw7_v (c := 1) (by have a0 := oa4 ((rng_F hI.1 448 28000 rfl e_30_0)) ((rng_F hI.1 0 32 rfl e_32_1)) r_32_0 i6; have a4 := (t_mulc 7 (Or.inr e6) r_32_0 rfl).1; have a5 := in_u i14; have a6 := t_add e14 i6 (in_c 1 rfl) rfl; have a7 := in_u ((in_c 1 rfl)); have oc := oc_131_1_32; omega) e15
  refine g_aload_n 18 (gd rfl) rfl rfl ?_
  refine g_dup 19 (gd rfl) rfl rfl ?_
  refine g_getI 22 (gd rfl) rfl rfl rfl (fun z19 e19 => ?_)
  have q19 : u_32_0 = z19 := (e_32_0).trans e19.symm
  subst q19
  refine g_iconst 1 23 (gd rfl) rfl rfl ?_
  refine g_iadd 24 (gd rfl) rfl (fun z23 e23 => ?_)
  have i23 := in_add 1 4000 e23 r_32_0 (in_c 1 rfl) rfl rfl
  refine g_putI 27 (gd rfl) rfl rfl rfl rfl ?_
  have hI24 := rng_sF (q := 32) (j := 0) hI.1 rfl (in_w 0 4000 i23 rfl)
  refine g_aload_n 28 (gd rfl) rfl rfl ?_
  refine g_getA (q2 := 30) 31 (gd rfl) rfl rfl rfl rfl ?_
  refine g_iload_n 32 (gd rfl) rfl rfl ?_
  have hx32 : vp_in z6 ((sF s 32 0 z23).2.2.1 30 0).toNatClampNeg := lg_in (by have a0 := oa4 ((rng_F hI.1 448 28000 rfl e_30_0)) ((rng_F hI.1 0 32 rfl e_32_1)) r_32_0 i6; have a4 := (t_mulc 7 (Or.inr e6) r_32_0 rfl).1; have a5 := in_u i23; have a6 := t_add e23 r_32_0 (in_c 1 rfl) rfl; have a7 := oa2 ((in_c 1 rfl)) i14; have a9 := t_add e14 i6 (in_c 1 rfl) rfl; have oc := oc_131_1_32; omega) (by rw [← (show u_30_0 = (sF s 32 0 z23).2.2.1 30 0 from sF_ne rfl (e_30_0))]; have a0 := oa4 ((rng_F hI.1 448 28000 rfl e_30_0)) ((rng_F hI.1 0 32 rfl e_32_1)) r_32_0 i6; have a4 := (t_mulc 7 (Or.inr e6) r_32_0 rfl).1; have a5 := in_u i23; have a6 := t_add e23 r_32_0 (in_c 1 rfl) rfl; have a7 := oa2 ((in_c 1 rfl)) i14; have a9 := t_add e14 i6 (in_c 1 rfl) rfl; have oc := oc_131_1_32; omega)
  refine g_lgload 33 (gd rfl) rfl hx32 (fun z32 e32 => ?_)
  refine g_tsw [64, 91, 101, 109] 134 (gd rfl) rfl rfl rfl ⟨fun c33 => ?_, fun c33 => ?_, fun c33 => ?_, fun c33 => ?_, trivial⟩ (fun c33 => ?_)
  · skip
    have i33 := sw_eq c33
    have h32 : z32 = s.1 30 (7 * (s.2.2.1 32 0).toInt.toNat) := rw7_v (c := 0) (by have a0 := oa4 ((rng_F hI.1 448 28000 rfl e_30_0)) ((rng_F hI.1 0 32 rfl e_32_1)) r_32_0 i6; have a4 := (t_mulc 7 (Or.inr e6) r_32_0 rfl).1; have a5 := in_u i23; have a6 := t_add e23 r_32_0 (in_c 1 rfl) rfl; have a7 := oa2 ((in_c 1 rfl)) i14; have a9 := t_add e14 i6 (in_c 1 rfl) rfl; have oc := oc_131_1_32; omega) e32
    have hr := rw7_0 q_0 hk e32 c33
    have i64 : In z15 0 31 := by rw [hp]; have h1 := hr.1; have h2 := hr.2.1; exact ⟨by omega, by omega⟩
    have i64a : In u_32_1 0 31 := by have h1 := q_1.1; have h2 := hr.2.1; rw [e_32_1]; exact ⟨by omega, by omega⟩
    refine g_aload_n 65 (gd rfl) rfl rfl ?_
    refine g_getA (q2 := 33) 68 (gd rfl) rfl rfl rfl rfl ?_
    refine g_iload_n 69 (gd rfl) rfl rfl ?_
    refine g_aload_n 70 (gd rfl) rfl rfl ?_
    refine g_getA (q2 := 30) 73 (gd rfl) rfl rfl rfl rfl ?_
    refine g_iload_n 74 (gd rfl) rfl rfl ?_
    refine g_iconst 2 75 (gd rfl) rfl rfl ?_
    refine g_iadd 76 (gd rfl) rfl (fun z75 e75 => ?_)
    have i75 := in_add 2 27995 e75 i6 (in_c 2 rfl) rfl rfl
    have hx76 : vp_in z75 ((sF s 32 0 z23).2.2.1 30 0).toNatClampNeg := lg_in (by have a0 := oa5 ((rng_F hI.1 448 28000 rfl e_30_0)) i64a r_32_0 i64 i6; have a5 := (t_mulc 7 (Or.inr e6) r_32_0 rfl).1; have a6 := in_u i23; have a7 := t_add e23 r_32_0 (in_c 1 rfl) rfl; have a8 := oa2 ((in_c 1 rfl)) i75; have a10 := t_add e75 i6 (in_c 2 rfl) rfl; have a11 := oa2 ((in_c 2 rfl)) i14; have a13 := t_add e14 i6 (in_c 1 rfl) rfl; have oc := oc_131_1_32; omega) (by rw [← (show u_30_0 = (sF s 32 0 z23).2.2.1 30 0 from sF_ne rfl (e_30_0))]; have a0 := oa5 ((rng_F hI.1 448 28000 rfl e_30_0)) i64a r_32_0 i64 i6; have a5 := (t_mulc 7 (Or.inr e6) r_32_0 rfl).1; have a6 := in_u i23; have a7 := t_add e23 r_32_0 (in_c 1 rfl) rfl; have a8 := oa2 ((in_c 1 rfl)) i75; have a10 := t_add e75 i6 (in_c 2 rfl) rfl; have a11 := oa2 ((in_c 2 rfl)) i14; have a13 := t_add e14 i6 (in_c 1 rfl) rfl; have oc := oc_131_1_32; omega)
    refine g_lgload 77 (gd rfl) rfl hx76 (fun z76 e76 => ?_)
    have i77 : In z76 0 25 := by rw [rw7_v (k := (s.2.2.1 32 0).toInt.toNat) (c := 2) (by have a0 := oa5 ((rng_F hI.1 448 28000 rfl e_30_0)) i64a r_32_0 i64 i6; have a5 := (t_mulc 7 (Or.inr e6) r_32_0 rfl).1; have a6 := in_u i23; have a7 := t_add e23 r_32_0 (in_c 1 rfl) rfl; have a8 := oa2 ((in_c 1 rfl)) i75; have a10 := t_add e75 i6 (in_c 2 rfl) rfl; have a11 := oa2 ((in_c 2 rfl)) i14; have a13 := t_add e14 i6 (in_c 1 rfl) rfl; have oc := oc_131_1_32; omega) e76]; exact hr.2.2
    refine g_iastore 78 (gd rfl) rfl (n := 32) rfl (in_ix i64 rfl) ?_
    have hI77 := rng_sI (q := 33) (j := z15.toNatClampNeg) hI24 rfl (in_w 0 25 i77 rfl)
    refine g_aload_n 79 (gd rfl) rfl rfl ?_
    refine g_dup 80 (gd rfl) rfl rfl ?_
    refine g_getI 83 (gd rfl) rfl rfl rfl (fun z80 e80 => ?_)
    have q80 : u_32_1 = z80 := (sI_F (sF_ne rfl (e_32_1))).trans e80.symm
    subst q80
    refine g_iconst 1 84 (gd rfl) rfl rfl ?_
    refine g_iadd 85 (gd rfl) rfl (fun z84 e84 => ?_)
    have i84 := in_add 1 32 e84 i64a (in_c 1 rfl) rfl rfl
    refine g_putI 88 (gd rfl) rfl rfl rfl rfl ?_
    have hI85 := rng_sF (q := 32) (j := 1) hI77 rfl (in_w 0 32 i84 rfl)
    refine g_goto 148 (gd rfl) rfl ?_
    have hI148 : Inv (sF (sI (sF s 32 0 z23) 33 z15.toNatClampNeg z76) 32 1 z84) := by have hFF : Fr fm_131_1_32 s (sF (sI (sF s 32 0 z23) 33 z15.toNatClampNeg z76) 32 1 z84) := (fr_sF rfl (fr_sI rfl (fr_sF rfl fr_rf))); exact ⟨hI85, kk_ap32 hI.2 hFF rfl (by rw [hFF.2.2.1 32 4 rfl, ← (show z23 = (sF (sI (sF s 32 0 z23) 33 z15.toNatClampNeg z76) 32 1 z84).2.2.1 32 0 from sF_ne rfl (sI_F (sF_get)))]; have hg := hI.2.2.1.1; rw [mF_at rfl, mF_at rfl, ← e_32_0] at hg; have a0 := oa5 ((rng_F hI.1 448 28000 rfl e_30_0)) i64a r_32_0 i64 i6; have a5 := (t_mulc 7 (Or.inr e6) r_32_0 rfl).1; have a6 := in_u i84; have a7 := t_add e84 i64a (in_c 1 rfl) rfl; have a8 := oa2 ((in_c 1 rfl)) i23; have a10 := t_add e23 r_32_0 (in_c 1 rfl) rfl; have a11 := in_u i75; have a12 := t_add e75 i6 (in_c 2 rfl) rfl; have a13 := oa2 ((in_c 2 rfl)) i14; have a15 := t_add e14 i6 (in_c 1 rfl) rfl; have oc := oc_131_1_32; omega)⟩
    have n148 : KV (sF (sI (sF s 32 0 z23) 33 z15.toNatClampNeg z76) 32 1 z84) 32 := by have hif : (if (s.1 30 (7 * (s.2.2.1 32 0).toInt.toNat)).toInt = 0 then (1 : Int) else 0) = 1 := if_pos (by rw [← h32]; exact c33); exact kv_st q_1 rfl (rng_F hI.1 0 4000 (q := 32) (j := 0) rfl rfl).1 (by rw [← (show z23 = (sF (sI (sF s 32 0 z23) 33 z15.toNatClampNeg z76) 32 1 z84).2.2.1 32 0 from sF_ne rfl (sI_F (sF_get))), ← e_32_0]; have a0 := oa5 ((rng_F hI.1 448 28000 rfl e_30_0)) i64a r_32_0 i64 i6; have a5 := (t_mulc 7 (Or.inr e6) r_32_0 rfl).1; have a6 := in_u i84; have a7 := t_add e84 i64a (in_c 1 rfl) rfl; have a8 := oa2 ((in_c 1 rfl)) i23; have a10 := t_add e23 r_32_0 (in_c 1 rfl) rfl; have a11 := in_u i75; have a12 := t_add e75 i6 (in_c 2 rfl) rfl; have a13 := oa2 ((in_c 2 rfl)) i14; have a15 := t_add e14 i6 (in_c 1 rfl) rfl; have oc := oc_131_1_32; omega) (by rw [hif, ← (show z84 = (sF (sI (sF s 32 0 z23) 33 z15.toNatClampNeg z76) 32 1 z84).2.2.1 32 1 from sF_get), ← e_32_1]; have a0 := oa5 ((rng_F hI.1 448 28000 rfl e_30_0)) i64a r_32_0 i64 i6; have a5 := (t_mulc 7 (Or.inr e6) r_32_0 rfl).1; have a6 := in_u i84; have a7 := t_add e84 i64a (in_c 1 rfl) rfl; have a8 := oa2 ((in_c 1 rfl)) i23; have a10 := t_add e23 r_32_0 (in_c 1 rfl) rfl; have a11 := in_u i75; have a12 := t_add e75 i6 (in_c 2 rfl) rfl; have a13 := oa2 ((in_c 2 rfl)) i14; have a15 := t_add e14 i6 (in_c 1 rfl) rfl; have oc := oc_131_1_32; omega) (kn_up q_1.2 (by rw [← (show z84 = (sF (sI (sF s 32 0 z23) 33 z15.toNatClampNeg z76) 32 1 z84).2.2.1 32 1 from sF_get), ← e_32_1]; have a0 := oa5 ((rng_F hI.1 448 28000 rfl e_30_0)) i64a r_32_0 i64 i6; have a5 := (t_mulc 7 (Or.inr e6) r_32_0 rfl).1; have a6 := in_u i84; have a7 := t_add e84 i64a (in_c 1 rfl) rfl; have a8 := oa2 ((in_c 1 rfl)) i23; have a10 := t_add e23 r_32_0 (in_c 1 rfl) rfl; have a11 := in_u i75; have a12 := t_add e75 i6 (in_c 2 rfl) rfl; have a13 := oa2 ((in_c 2 rfl)) i14; have a15 := t_add e14 i6 (in_c 1 rfl) rfl; have oc := oc_131_1_32; omega))
    have n148a : gvD (sF (sI (sF s 32 0 z23) 33 z15.toNatClampNeg z76) 32 1 z84) = gqR (gvD s) (s.1 30) (s.2.2.1 32 0).toInt.toNat := by have hL : Fr ([33], [], [(32, 0), (32, 1)], []) s (sF (sI (sF s 32 0 z23) 33 z15.toNatClampNeg z76) 32 1 z84) := (fr_sF rfl (fr_sI rfl (fr_sF rfl fr_rf))); have hz76 := (rw7_v (k := (s.2.2.1 32 0).toInt.toNat) (c := 2) (by have a0 := oa5 ((rng_F hI.1 448 28000 rfl e_30_0)) i64a r_32_0 i64 i6; have a5 := (t_mulc 7 (Or.inr e6) r_32_0 rfl).1; have a6 := in_u i84; have a7 := t_add e84 i64a (in_c 1 rfl) rfl; have a8 := oa2 ((in_c 1 rfl)) i23; have a10 := t_add e23 r_32_0 (in_c 1 rfl) rfl; have a11 := in_u i75; have a12 := t_add e75 i6 (in_c 2 rfl) rfl; have a13 := oa2 ((in_c 2 rfl)) i14; have a15 := t_add e14 i6 (in_c 1 rfl) rfl; have oc := oc_131_1_32; omega) e76); rw [gqR_0 (by rw [← h32]; exact c33)]; exact gvD_mk (by show (sI _ 33 z15.toNatClampNeg z76).1 33 = _; rw [sI_q, hp, hz76]; rfl) (hL.1 34 rfl) (hL.1 35 rfl) (hL.1 36 rfl) (hL.1 37 rfl) (hL.1 38 rfl) (by show _ = (s.2.2.1 32 1).toInt + 1; rw [← (show z84 = (sF (sI (sF s 32 0 z23) 33 z15.toNatClampNeg z76) 32 1 z84).2.2.1 32 1 from sF_get), ← e_32_1]; have a0 := oa5 ((rng_F hI.1 448 28000 rfl e_30_0)) i64a r_32_0 i64 i6; have a5 := (t_mulc 7 (Or.inr e6) r_32_0 rfl).1; have a6 := in_u i84; have a7 := t_add e84 i64a (in_c 1 rfl) rfl; have a8 := oa2 ((in_c 1 rfl)) i23; have a10 := t_add e23 r_32_0 (in_c 1 rfl) rfl; have a11 := in_u i75; have a12 := t_add e75 i6 (in_c 2 rfl) rfl; have a13 := oa2 ((in_c 2 rfl)) i14; have a15 := t_add e14 i6 (in_c 1 rfl) rfl; have oc := oc_131_1_32; omega) (by show _ = (s.2.2.1 32 0).toInt + 1; rw [← (show z23 = (sF (sI (sF s 32 0 z23) 33 z15.toNatClampNeg z76) 32 1 z84).2.2.1 32 0 from sF_ne rfl (sI_F (sF_get))), ← e_32_0]; have a0 := oa5 ((rng_F hI.1 448 28000 rfl e_30_0)) i64a r_32_0 i64 i6; have a5 := (t_mulc 7 (Or.inr e6) r_32_0 rfl).1; have a6 := in_u i84; have a7 := t_add e84 i64a (in_c 1 rfl) rfl; have a8 := oa2 ((in_c 1 rfl)) i23; have a10 := t_add e23 r_32_0 (in_c 1 rfl) rfl; have a11 := in_u i75; have a12 := t_add e75 i6 (in_c 2 rfl) rfl; have a13 := oa2 ((in_c 2 rfl)) i14; have a15 := t_add e14 i6 (in_c 1 rfl) rfl; have oc := oc_131_1_32; omega)
    have n148b : TQD s → TQD (sF (sI (sF s 32 0 z23) 33 z15.toNatClampNeg z76) 32 1 z84) := by exact fun h => tqd_fr (L := ([33], [], [(32, 0), (32, 1)], [])) h (fr_sF rfl (fr_sI rfl (fr_sF rfl fr_rf))) rfl
    have n148c : (z23).toInt = (u_32_0).toInt + 1 := by have a0 := oa5 ((rng_F hI.1 448 28000 rfl e_30_0)) i64a r_32_0 i64 i6; have a5 := (t_mulc 7 (Or.inr e6) r_32_0 rfl).1; have a6 := in_u i84; have a7 := t_add e84 i64a (in_c 1 rfl) rfl; have a8 := oa2 ((in_c 1 rfl)) i23; have a10 := t_add e23 r_32_0 (in_c 1 rfl) rfl; have a11 := in_u i75; have a12 := t_add e75 i6 (in_c 2 rfl) rfl; have a13 := oa2 ((in_c 2 rfl)) i14; have a15 := t_add e14 i6 (in_c 1 rfl) rfl; have oc := oc_131_1_32; omega
    have n148d : ((sF (sI (sF s 32 0 z23) 33 z15.toNatClampNeg z76) 32 1 z84).2.2.1 32 0).toInt = (s.2.2.1 32 0).toInt + 1 := by have b0 : z23 = (sF (sI (sF s 32 0 z23) 33 z15.toNatClampNeg z76) 32 1 z84).2.2.1 32 0 := sF_ne rfl (sI_F (sF_get)); first | (rw [← b0, ← e_32_0]; exact n148c) | (rw [← b0]; exact n148c)
    exact g_return (gd rfl) rfl (hP _ _ ⟨(sF (sI (sF s 32 0 z23) 33 z15.toNatClampNeg z76) 32 1 z84), hI148, (fr_sF rfl (fr_sI rfl (fr_sF rfl fr_rf))), n148d, rfl, rfl, n148, n148a, n148b⟩)
  · skip
    have i33 := sw_eq c33
    have h32 : z32 = s.1 30 (7 * (s.2.2.1 32 0).toInt.toNat) := rw7_v (c := 0) (by have a0 := oa4 ((rng_F hI.1 448 28000 rfl e_30_0)) ((rng_F hI.1 0 32 rfl e_32_1)) r_32_0 i6; have a4 := (t_mulc 7 (Or.inr e6) r_32_0 rfl).1; have a5 := in_u i23; have a6 := t_add e23 r_32_0 (in_c 1 rfl) rfl; have a7 := oa2 ((in_c 1 rfl)) i14; have a9 := t_add e14 i6 (in_c 1 rfl) rfl; have oc := oc_131_1_32; omega) e32
    have hr := rw7_1 q_0 hk e32 c33
    have i91 : In z15 0 159 := by rw [hp]; exact hr.1
    refine g_aload_n 92 (gd rfl) rfl rfl ?_
    refine g_aload_n 93 (gd rfl) rfl rfl ?_
    refine g_iload_n 94 (gd rfl) rfl rfl ?_
    refine g_iload_n 95 (gd rfl) rfl rfl ?_
    have v95 : u_30_0 = (sF s 32 0 z23).2.2.1 30 0 := sF_ne rfl (e_30_0)
    have n95 : (z6).toInt + 7 ≤ (u_30_0).toInt := by have a0 := oa5 ((rng_F hI.1 448 28000 rfl e_30_0)) ((rng_F hI.1 0 32 rfl e_32_1)) r_32_0 i91 i6; have a5 := (t_mulc 7 (Or.inr e6) r_32_0 rfl).1; have a6 := in_u i23; have a7 := t_add e23 r_32_0 (in_c 1 rfl) rfl; have a8 := oa2 ((in_c 1 rfl)) i14; have a10 := t_add e14 i6 (in_c 1 rfl) rfl; have oc := oc_131_1_32; omega
    have p95 : In ((sF s 32 0 z23).1 30 ((z6).toInt + 2).toNat) (0) 31 := by show In (s.1 30 ((z6).toInt + 2).toNat) 0 31; rw [(show s.1 30 ((z6).toInt + 2).toNat = s.1 30 (7 * (s.2.2.1 32 0).toInt.toNat + 2) from congrArg (s.1 30) (by have a0 := oa5 ((rng_F hI.1 448 28000 rfl e_30_0)) ((rng_F hI.1 0 32 rfl e_32_1)) r_32_0 i91 i6; have a5 := (t_mulc 7 (Or.inr e6) r_32_0 rfl).1; have a6 := in_u i23; have a7 := t_add e23 r_32_0 (in_c 1 rfl) rfl; have a8 := oa2 ((in_c 1 rfl)) i14; have a10 := t_add e14 i6 (in_c 1 rfl) rfl; have oc := oc_131_1_32; omega))]; have h1 := hr.2.1; have h2 := q_1.1; have h3 := rng_F hI.1 0 32 (q := 32) (j := 1) rfl rfl; unfold In at h3; exact ⟨by omega, by omega⟩
    have p95a : In ((sF s 32 0 z23).1 30 ((z6).toInt + 3).toNat) (0) 31 := by show In (s.1 30 ((z6).toInt + 3).toNat) 0 31; rw [(show s.1 30 ((z6).toInt + 3).toNat = s.1 30 (7 * (s.2.2.1 32 0).toInt.toNat + 3) from congrArg (s.1 30) (by have a0 := oa5 ((rng_F hI.1 448 28000 rfl e_30_0)) ((rng_F hI.1 0 32 rfl e_32_1)) r_32_0 i91 i6; have a5 := (t_mulc 7 (Or.inr e6) r_32_0 rfl).1; have a6 := in_u i23; have a7 := t_add e23 r_32_0 (in_c 1 rfl) rfl; have a8 := oa2 ((in_c 1 rfl)) i14; have a10 := t_add e14 i6 (in_c 1 rfl) rfl; have oc := oc_131_1_32; omega))]; have h1 := hr.2.2.1; have h2 := q_1.1; have h3 := rng_F hI.1 0 32 (q := 32) (j := 1) rfl rfl; unfold In at h3; exact ⟨by omega, by omega⟩
    have p95b : In ((sF s 32 0 z23).1 30 ((z6).toInt + 4).toNat) (-1000000) 1000000 := by show In (s.1 30 ((z6).toInt + 4).toNat) _ _; rw [(show s.1 30 ((z6).toInt + 4).toNat = s.1 30 (7 * (s.2.2.1 32 0).toInt.toNat + 4) from congrArg (s.1 30) (by have a0 := oa5 ((rng_F hI.1 448 28000 rfl e_30_0)) ((rng_F hI.1 0 32 rfl e_32_1)) r_32_0 i91 i6; have a5 := (t_mulc 7 (Or.inr e6) r_32_0 rfl).1; have a6 := in_u i23; have a7 := t_add e23 r_32_0 (in_c 1 rfl) rfl; have a8 := oa2 ((in_c 1 rfl)) i14; have a10 := t_add e14 i6 (in_c 1 rfl) rfl; have oc := oc_131_1_32; omega))]; exact hr.2.2.2.1
    have p95c : In ((sF s 32 0 z23).1 30 ((z6).toInt + 5).toNat) (0) 1000000 := by show In (s.1 30 ((z6).toInt + 5).toNat) _ _; rw [(show s.1 30 ((z6).toInt + 5).toNat = s.1 30 (7 * (s.2.2.1 32 0).toInt.toNat + 5) from congrArg (s.1 30) (by have a0 := oa5 ((rng_F hI.1 448 28000 rfl e_30_0)) ((rng_F hI.1 0 32 rfl e_32_1)) r_32_0 i91 i6; have a5 := (t_mulc 7 (Or.inr e6) r_32_0 rfl).1; have a6 := in_u i23; have a7 := t_add e23 r_32_0 (in_c 1 rfl) rfl; have a8 := oa2 ((in_c 1 rfl)) i14; have a10 := t_add e14 i6 (in_c 1 rfl) rfl; have oc := oc_131_1_32; omega))]; exact hr.2.2.2.2.1
    have p95d : In ((sF s 32 0 z23).1 30 ((z6).toInt + 6).toNat) (0) 25 := by show In (s.1 30 ((z6).toInt + 6).toNat) _ _; rw [(show s.1 30 ((z6).toInt + 6).toNat = s.1 30 (7 * (s.2.2.1 32 0).toInt.toNat + 6) from congrArg (s.1 30) (by have a0 := oa5 ((rng_F hI.1 448 28000 rfl e_30_0)) ((rng_F hI.1 0 32 rfl e_32_1)) r_32_0 i91 i6; have a5 := (t_mulc 7 (Or.inr e6) r_32_0 rfl).1; have a6 := in_u i23; have a7 := t_add e23 r_32_0 (in_c 1 rfl) rfl; have a8 := oa2 ((in_c 1 rfl)) i14; have a10 := t_add e14 i6 (in_c 1 rfl) rfl; have oc := oc_131_1_32; omega))]; exact hr.2.2.2.2.2
    refine g_callv (X := _) (As := [.ref (A 32), .int z6, .int z15]) (r := []) (b := A 1) (q := 1) 98 (gd rfl) rfl rfl rfl rfl rfl (ww_o rfl) (Nat.le_of_ble_eq_true rfl) (Nat.zero_le _) (Nat.zero_le _) (f_132_1_32 (by first | exact dq1 hd rfl | exact dq0 hd rfl | exact dq2 hd rfl | exact dq3 hd rfl | omega) hI24 (in_w 0 27993 i6 rfl) (in_w 0 159 i91 rfl) v95 rfl n95 p95 p95a p95b p95c p95d) (fun e u h => h) (fun v u h => ?_)
    obtain ⟨s95, hI95, hF95, rfl, rfl, p95e, p95f, p95g, p95h, p95i, p95j⟩ := h
    show GG _ _ _ _ _ _ _ _ [] _ _ _
    refine g_goto 148 (gd rfl) rfl ?_
    have hI148 : Inv s95 := by have hFF : Fr fm_131_1_32 s s95 := (fr_tr rfl (fr_sF rfl fr_rf) hF95); exact ⟨hI95, kk_ap32 hI.2 hFF rfl (by rw [hFF.2.2.1 32 4 rfl, ← (show z23 = s95.2.2.1 32 0 from fr_F (s := (sF s 32 0 z23)) (sF_get) hF95 rfl)]; have hg := hI.2.2.1.1; rw [mF_at rfl, mF_at rfl, ← e_32_0] at hg; have a0 := oa5 ((rng_F hI.1 448 28000 rfl e_30_0)) ((rng_F hI.1 0 32 rfl e_32_1)) r_32_0 i91 i6; have a5 := (t_mulc 7 (Or.inr e6) r_32_0 rfl).1; have a6 := in_u i23; have a7 := t_add e23 r_32_0 (in_c 1 rfl) rfl; have a8 := oa2 ((in_c 1 rfl)) i14; have a10 := t_add e14 i6 (in_c 1 rfl) rfl; have oc := oc_131_1_32; omega)⟩
    have n148 : KV s95 32 := by have hif : (if (s.1 30 (7 * (s.2.2.1 32 0).toInt.toNat)).toInt = 0 then (1 : Int) else 0) = 0 := if_neg (by rw [← h32]; have a0 := oa5 ((rng_F hI.1 448 28000 rfl e_30_0)) ((rng_F hI.1 0 32 rfl e_32_1)) r_32_0 i91 i6; have a5 := (t_mulc 7 (Or.inr e6) r_32_0 rfl).1; have a6 := in_u i23; have a7 := t_add e23 r_32_0 (in_c 1 rfl) rfl; have a8 := oa2 ((in_c 1 rfl)) i14; have a10 := t_add e14 i6 (in_c 1 rfl) rfl; have oc := oc_131_1_32; omega); exact kv_st q_1 (hF95.1 30 rfl) (rng_F hI.1 0 4000 (q := 32) (j := 0) rfl rfl).1 (by rw [← (show z23 = s95.2.2.1 32 0 from fr_F (s := (sF s 32 0 z23)) (sF_get) hF95 rfl), ← e_32_0]; have a0 := oa5 ((rng_F hI.1 448 28000 rfl e_30_0)) ((rng_F hI.1 0 32 rfl e_32_1)) r_32_0 i91 i6; have a5 := (t_mulc 7 (Or.inr e6) r_32_0 rfl).1; have a6 := in_u i23; have a7 := t_add e23 r_32_0 (in_c 1 rfl) rfl; have a8 := oa2 ((in_c 1 rfl)) i14; have a10 := t_add e14 i6 (in_c 1 rfl) rfl; have oc := oc_131_1_32; omega) (by rw [hif, ← (show u_32_1 = s95.2.2.1 32 1 from fr_F (s := (sF s 32 0 z23)) (sF_ne rfl (e_32_1)) hF95 rfl), ← e_32_1]; omega) (by rw [← (show u_32_1 = s95.2.2.1 32 1 from fr_F (s := (sF s 32 0 z23)) (sF_ne rfl (e_32_1)) hF95 rfl), e_32_1]; exact (by rw [p95e, p95f]; show KN (upd (s.1 34) _ (s.1 30 ((z6).toInt + 2).toNat)) (upd (s.1 35) _ (s.1 30 ((z6).toInt + 3).toNat)) _; rw [(show s.1 30 ((z6).toInt + 2).toNat = s.1 30 (7 * (s.2.2.1 32 0).toInt.toNat + 2) from congrArg (s.1 30) (by have a0 := oa5 ((rng_F hI.1 448 28000 rfl e_30_0)) ((rng_F hI.1 0 32 rfl e_32_1)) r_32_0 i91 i6; have a5 := (t_mulc 7 (Or.inr e6) r_32_0 rfl).1; have a6 := in_u i23; have a7 := t_add e23 r_32_0 (in_c 1 rfl) rfl; have a8 := oa2 ((in_c 1 rfl)) i14; have a10 := t_add e14 i6 (in_c 1 rfl) rfl; have oc := oc_131_1_32; omega)), (show s.1 30 ((z6).toInt + 3).toNat = s.1 30 (7 * (s.2.2.1 32 0).toInt.toNat + 3) from congrArg (s.1 30) (by have a0 := oa5 ((rng_F hI.1 448 28000 rfl e_30_0)) ((rng_F hI.1 0 32 rfl e_32_1)) r_32_0 i91 i6; have a5 := (t_mulc 7 (Or.inr e6) r_32_0 rfl).1; have a6 := in_u i23; have a7 := t_add e23 r_32_0 (in_c 1 rfl) rfl; have a8 := oa2 ((in_c 1 rfl)) i14; have a10 := t_add e14 i6 (in_c 1 rfl) rfl; have oc := oc_131_1_32; omega))]; exact kn_ar q_1.2 (by rw [q_1.1]; exact hr.2.1) (by rw [q_1.1]; exact hr.2.2.1)))
    have n148a : gvD s95 = gqR (gvD s) (s.1 30) (s.2.2.1 32 0).toInt.toNat := by have hL : Fr ([34, 35, 36, 37, 38], [], [(32, 0), (32, 2), (32, 3)], []) s s95 := (fr_tr rfl (fr_sF rfl fr_rf) hF95); rw [gqR_1 (by rw [← h32]; exact c33)]; exact gvD_mk (hL.1 33 rfl) (by rw [p95e]; show upd (s.1 34) z15.toNatClampNeg (s.1 30 ((z6).toInt + 2).toNat) = _; rw [(show s.1 30 ((z6).toInt + 2).toNat = s.1 30 (7 * (s.2.2.1 32 0).toInt.toNat + 2) from congrArg (s.1 30) (by have a0 := oa5 ((rng_F hI.1 448 28000 rfl e_30_0)) ((rng_F hI.1 0 32 rfl e_32_1)) r_32_0 i91 i6; have a5 := (t_mulc 7 (Or.inr e6) r_32_0 rfl).1; have a6 := in_u i23; have a7 := t_add e23 r_32_0 (in_c 1 rfl) rfl; have a8 := oa2 ((in_c 1 rfl)) i14; have a10 := t_add e14 i6 (in_c 1 rfl) rfl; have oc := oc_131_1_32; omega)), hp]; rfl) (by rw [p95f]; show upd (s.1 35) z15.toNatClampNeg (s.1 30 ((z6).toInt + 3).toNat) = _; rw [(show s.1 30 ((z6).toInt + 3).toNat = s.1 30 (7 * (s.2.2.1 32 0).toInt.toNat + 3) from congrArg (s.1 30) (by have a0 := oa5 ((rng_F hI.1 448 28000 rfl e_30_0)) ((rng_F hI.1 0 32 rfl e_32_1)) r_32_0 i91 i6; have a5 := (t_mulc 7 (Or.inr e6) r_32_0 rfl).1; have a6 := in_u i23; have a7 := t_add e23 r_32_0 (in_c 1 rfl) rfl; have a8 := oa2 ((in_c 1 rfl)) i14; have a10 := t_add e14 i6 (in_c 1 rfl) rfl; have oc := oc_131_1_32; omega)), hp]; rfl) (by rw [p95g]; show upd (s.1 36) z15.toNatClampNeg (s.1 30 ((z6).toInt + 4).toNat) = _; rw [(show s.1 30 ((z6).toInt + 4).toNat = s.1 30 (7 * (s.2.2.1 32 0).toInt.toNat + 4) from congrArg (s.1 30) (by have a0 := oa5 ((rng_F hI.1 448 28000 rfl e_30_0)) ((rng_F hI.1 0 32 rfl e_32_1)) r_32_0 i91 i6; have a5 := (t_mulc 7 (Or.inr e6) r_32_0 rfl).1; have a6 := in_u i23; have a7 := t_add e23 r_32_0 (in_c 1 rfl) rfl; have a8 := oa2 ((in_c 1 rfl)) i14; have a10 := t_add e14 i6 (in_c 1 rfl) rfl; have oc := oc_131_1_32; omega)), hp]; rfl) (by rw [p95h]; show upd (s.1 37) z15.toNatClampNeg (s.1 30 ((z6).toInt + 5).toNat) = _; rw [(show s.1 30 ((z6).toInt + 5).toNat = s.1 30 (7 * (s.2.2.1 32 0).toInt.toNat + 5) from congrArg (s.1 30) (by have a0 := oa5 ((rng_F hI.1 448 28000 rfl e_30_0)) ((rng_F hI.1 0 32 rfl e_32_1)) r_32_0 i91 i6; have a5 := (t_mulc 7 (Or.inr e6) r_32_0 rfl).1; have a6 := in_u i23; have a7 := t_add e23 r_32_0 (in_c 1 rfl) rfl; have a8 := oa2 ((in_c 1 rfl)) i14; have a10 := t_add e14 i6 (in_c 1 rfl) rfl; have oc := oc_131_1_32; omega)), hp]; rfl) (by rw [p95i]; show upd (s.1 38) z15.toNatClampNeg (s.1 30 ((z6).toInt + 6).toNat) = _; rw [(show s.1 30 ((z6).toInt + 6).toNat = s.1 30 (7 * (s.2.2.1 32 0).toInt.toNat + 6) from congrArg (s.1 30) (by have a0 := oa5 ((rng_F hI.1 448 28000 rfl e_30_0)) ((rng_F hI.1 0 32 rfl e_32_1)) r_32_0 i91 i6; have a5 := (t_mulc 7 (Or.inr e6) r_32_0 rfl).1; have a6 := in_u i23; have a7 := t_add e23 r_32_0 (in_c 1 rfl) rfl; have a8 := oa2 ((in_c 1 rfl)) i14; have a10 := t_add e14 i6 (in_c 1 rfl) rfl; have oc := oc_131_1_32; omega)), hp]; rfl) (congrArg Int32.toInt (hL.2.2.1 32 1 rfl)) (by show _ = (s.2.2.1 32 0).toInt + 1; rw [← (show z23 = s95.2.2.1 32 0 from fr_F (s := (sF s 32 0 z23)) (sF_get) hF95 rfl), ← e_32_0]; have a0 := oa5 ((rng_F hI.1 448 28000 rfl e_30_0)) ((rng_F hI.1 0 32 rfl e_32_1)) r_32_0 i91 i6; have a5 := (t_mulc 7 (Or.inr e6) r_32_0 rfl).1; have a6 := in_u i23; have a7 := t_add e23 r_32_0 (in_c 1 rfl) rfl; have a8 := oa2 ((in_c 1 rfl)) i14; have a10 := t_add e14 i6 (in_c 1 rfl) rfl; have oc := oc_131_1_32; omega)
    have n148b : TQD s → TQD s95 := by exact fun h => p95j (tqd_cg h rfl rfl)
    have n148c : (z23).toInt = (u_32_0).toInt + 1 := by have a0 := oa5 ((rng_F hI.1 448 28000 rfl e_30_0)) ((rng_F hI.1 0 32 rfl e_32_1)) r_32_0 i91 i6; have a5 := (t_mulc 7 (Or.inr e6) r_32_0 rfl).1; have a6 := in_u i23; have a7 := t_add e23 r_32_0 (in_c 1 rfl) rfl; have a8 := oa2 ((in_c 1 rfl)) i14; have a10 := t_add e14 i6 (in_c 1 rfl) rfl; have oc := oc_131_1_32; omega
    have n148d : (s95.2.2.1 32 0).toInt = (s.2.2.1 32 0).toInt + 1 := by have b0 : z23 = s95.2.2.1 32 0 := fr_F (s := (sF s 32 0 z23)) (sF_get) hF95 rfl; first | (rw [← b0, ← e_32_0]; exact n148c) | (rw [← b0]; exact n148c)
    exact g_return (gd rfl) rfl (hP _ _ ⟨s95, hI148, (fr_tr rfl (fr_sF rfl fr_rf) hF95), n148d, rfl, rfl, n148, n148a, n148b⟩)
  · skip
    have i33 := sw_eq c33
    have h32 : z32 = s.1 30 (7 * (s.2.2.1 32 0).toInt.toNat) := rw7_v (c := 0) (by have a0 := oa4 ((rng_F hI.1 448 28000 rfl e_30_0)) ((rng_F hI.1 0 32 rfl e_32_1)) r_32_0 i6; have a4 := (t_mulc 7 (Or.inr e6) r_32_0 rfl).1; have a5 := in_u i23; have a6 := t_add e23 r_32_0 (in_c 1 rfl) rfl; have a7 := oa2 ((in_c 1 rfl)) i14; have a9 := t_add e14 i6 (in_c 1 rfl) rfl; have oc := oc_131_1_32; omega) e32
    have hr := rw7_2 q_0 hk e32 c33
    have i101 : In z15 0 159 := by rw [hp]; exact hr
    refine g_aload_n 102 (gd rfl) rfl rfl ?_
    refine g_iload_n 103 (gd rfl) rfl rfl ?_
    refine g_callv (X := _) (As := [.int z15]) (r := []) (b := A 32) (q := 32) 106 (gd rfl) rfl rfl rfl rfl rfl (ww_o rfl) (Nat.le_of_ble_eq_true rfl) (Nat.zero_le _) (Nat.zero_le _) (f_105_32 (by first | exact dq1 hd rfl | exact dq0 hd rfl | exact dq2 hd rfl | exact dq3 hd rfl | omega) hI24 (in_w 0 159 i101 rfl) rfl) (fun e u h => h) (fun v u h => ?_)
    obtain ⟨s103, hI103, hF103, rfl, rfl, p103, p103a⟩ := h
    show GG _ _ _ _ _ _ _ _ [] _ _ _
    refine g_goto 148 (gd rfl) rfl ?_
    have hI148 : Inv s103 := by have hFF : Fr fm_131_1_32 s s103 := (fr_tr rfl (fr_sF rfl fr_rf) hF103); exact ⟨hI103, kk_ap32 hI.2 hFF rfl (by rw [hFF.2.2.1 32 4 rfl, ← (show z23 = s103.2.2.1 32 0 from fr_F (s := (sF s 32 0 z23)) (sF_get) hF103 rfl)]; have hg := hI.2.2.1.1; rw [mF_at rfl, mF_at rfl, ← e_32_0] at hg; have a0 := oa5 ((rng_F hI.1 448 28000 rfl e_30_0)) ((rng_F hI.1 0 32 rfl e_32_1)) r_32_0 i101 i6; have a5 := (t_mulc 7 (Or.inr e6) r_32_0 rfl).1; have a6 := in_u i23; have a7 := t_add e23 r_32_0 (in_c 1 rfl) rfl; have a8 := oa2 ((in_c 1 rfl)) i14; have a10 := t_add e14 i6 (in_c 1 rfl) rfl; have oc := oc_131_1_32; omega)⟩
    have n148 : KV s103 32 := by have hif : (if (s.1 30 (7 * (s.2.2.1 32 0).toInt.toNat)).toInt = 0 then (1 : Int) else 0) = 0 := if_neg (by rw [← h32]; have a0 := oa5 ((rng_F hI.1 448 28000 rfl e_30_0)) ((rng_F hI.1 0 32 rfl e_32_1)) r_32_0 i101 i6; have a5 := (t_mulc 7 (Or.inr e6) r_32_0 rfl).1; have a6 := in_u i23; have a7 := t_add e23 r_32_0 (in_c 1 rfl) rfl; have a8 := oa2 ((in_c 1 rfl)) i14; have a10 := t_add e14 i6 (in_c 1 rfl) rfl; have oc := oc_131_1_32; omega); exact kv_st q_1 (hF103.1 30 rfl) (rng_F hI.1 0 4000 (q := 32) (j := 0) rfl rfl).1 (by rw [← (show z23 = s103.2.2.1 32 0 from fr_F (s := (sF s 32 0 z23)) (sF_get) hF103 rfl), ← e_32_0]; have a0 := oa5 ((rng_F hI.1 448 28000 rfl e_30_0)) ((rng_F hI.1 0 32 rfl e_32_1)) r_32_0 i101 i6; have a5 := (t_mulc 7 (Or.inr e6) r_32_0 rfl).1; have a6 := in_u i23; have a7 := t_add e23 r_32_0 (in_c 1 rfl) rfl; have a8 := oa2 ((in_c 1 rfl)) i14; have a10 := t_add e14 i6 (in_c 1 rfl) rfl; have oc := oc_131_1_32; omega) (by rw [hif, ← (show u_32_1 = s103.2.2.1 32 1 from fr_F (s := (sF s 32 0 z23)) (sF_ne rfl (e_32_1)) hF103 rfl), ← e_32_1]; omega) (by rw [← (show u_32_1 = s103.2.2.1 32 1 from fr_F (s := (sF s 32 0 z23)) (sF_ne rfl (e_32_1)) hF103 rfl), e_32_1]; exact (by rw [p103, hF103.1 35 rfl]; exact kn_dr q_1.2 (by decide)))
    have n148a : gvD s103 = gqR (gvD s) (s.1 30) (s.2.2.1 32 0).toInt.toNat := by have hL : Fr ([34], [], [(32, 0), (32, 2), (32, 3)], []) s s103 := (fr_tr rfl (fr_sF rfl fr_rf) hF103); rw [gqR_2 (by rw [← h32]; exact c33)]; exact gvD_mk (hL.1 33 rfl) (by rw [p103, hp]; rfl) (hL.1 35 rfl) (hL.1 36 rfl) (hL.1 37 rfl) (hL.1 38 rfl) (congrArg Int32.toInt (hL.2.2.1 32 1 rfl)) (by show _ = (s.2.2.1 32 0).toInt + 1; rw [← (show z23 = s103.2.2.1 32 0 from fr_F (s := (sF s 32 0 z23)) (sF_get) hF103 rfl), ← e_32_0]; have a0 := oa5 ((rng_F hI.1 448 28000 rfl e_30_0)) ((rng_F hI.1 0 32 rfl e_32_1)) r_32_0 i101 i6; have a5 := (t_mulc 7 (Or.inr e6) r_32_0 rfl).1; have a6 := in_u i23; have a7 := t_add e23 r_32_0 (in_c 1 rfl) rfl; have a8 := oa2 ((in_c 1 rfl)) i14; have a10 := t_add e14 i6 (in_c 1 rfl) rfl; have oc := oc_131_1_32; omega)
    have n148b : TQD s → TQD s103 := by exact fun h => p103a (tqd_cg h rfl rfl)
    have n148c : (z23).toInt = (u_32_0).toInt + 1 := by have a0 := oa5 ((rng_F hI.1 448 28000 rfl e_30_0)) ((rng_F hI.1 0 32 rfl e_32_1)) r_32_0 i101 i6; have a5 := (t_mulc 7 (Or.inr e6) r_32_0 rfl).1; have a6 := in_u i23; have a7 := t_add e23 r_32_0 (in_c 1 rfl) rfl; have a8 := oa2 ((in_c 1 rfl)) i14; have a10 := t_add e14 i6 (in_c 1 rfl) rfl; have oc := oc_131_1_32; omega
    have n148d : (s103.2.2.1 32 0).toInt = (s.2.2.1 32 0).toInt + 1 := by have b0 : z23 = s103.2.2.1 32 0 := fr_F (s := (sF s 32 0 z23)) (sF_get) hF103 rfl; first | (rw [← b0, ← e_32_0]; exact n148c) | (rw [← b0]; exact n148c)
    exact g_return (gd rfl) rfl (hP _ _ ⟨s103, hI148, (fr_tr rfl (fr_sF rfl fr_rf) hF103), n148d, rfl, rfl, n148, n148a, n148b⟩)
  · skip
    have i33 := sw_eq c33
    have h32 : z32 = s.1 30 (7 * (s.2.2.1 32 0).toInt.toNat) := rw7_v (c := 0) (by have a0 := oa4 ((rng_F hI.1 448 28000 rfl e_30_0)) ((rng_F hI.1 0 32 rfl e_32_1)) r_32_0 i6; have a4 := (t_mulc 7 (Or.inr e6) r_32_0 rfl).1; have a5 := in_u i23; have a6 := t_add e23 r_32_0 (in_c 1 rfl) rfl; have a7 := oa2 ((in_c 1 rfl)) i14; have a9 := t_add e14 i6 (in_c 1 rfl) rfl; have oc := oc_131_1_32; omega) e32
    have hr := rw7_3 q_0 hk e32 c33
    have i109 : In z15 0 159 := by rw [hp]; exact hr.1
    refine g_aload_n 110 (gd rfl) rfl rfl ?_
    refine g_aload_n 111 (gd rfl) rfl rfl ?_
    refine g_iload_n 112 (gd rfl) rfl rfl ?_
    refine g_aload_n 113 (gd rfl) rfl rfl ?_
    refine g_getA (q2 := 30) 116 (gd rfl) rfl rfl rfl rfl ?_
    refine g_iload_n 117 (gd rfl) rfl rfl ?_
    refine g_iconst 2 118 (gd rfl) rfl rfl ?_
    refine g_iadd 119 (gd rfl) rfl (fun z118 e118 => ?_)
    have i118 := in_add 2 27995 e118 i6 (in_c 2 rfl) rfl rfl
    have hx119 : vp_in z118 ((sF s 32 0 z23).2.2.1 30 0).toNatClampNeg := lg_in (by have a0 := oa5 ((rng_F hI.1 448 28000 rfl e_30_0)) ((rng_F hI.1 0 32 rfl e_32_1)) r_32_0 i109 i6; have a5 := (t_mulc 7 (Or.inr e6) r_32_0 rfl).1; have a6 := in_u i23; have a7 := t_add e23 r_32_0 (in_c 1 rfl) rfl; have a8 := oa2 ((in_c 1 rfl)) i118; have a10 := t_add e118 i6 (in_c 2 rfl) rfl; have a11 := oa2 ((in_c 2 rfl)) i14; have a13 := t_add e14 i6 (in_c 1 rfl) rfl; have oc := oc_131_1_32; omega) (by rw [← (show u_30_0 = (sF s 32 0 z23).2.2.1 30 0 from sF_ne rfl (e_30_0))]; have a0 := oa5 ((rng_F hI.1 448 28000 rfl e_30_0)) ((rng_F hI.1 0 32 rfl e_32_1)) r_32_0 i109 i6; have a5 := (t_mulc 7 (Or.inr e6) r_32_0 rfl).1; have a6 := in_u i23; have a7 := t_add e23 r_32_0 (in_c 1 rfl) rfl; have a8 := oa2 ((in_c 1 rfl)) i118; have a10 := t_add e118 i6 (in_c 2 rfl) rfl; have a11 := oa2 ((in_c 2 rfl)) i14; have a13 := t_add e14 i6 (in_c 1 rfl) rfl; have oc := oc_131_1_32; omega)
    refine g_lgload 120 (gd rfl) rfl hx119 (fun z119 e119 => ?_)
    refine g_aload_n 121 (gd rfl) rfl rfl ?_
    refine g_getA (q2 := 30) 124 (gd rfl) rfl rfl rfl rfl ?_
    refine g_iload_n 125 (gd rfl) rfl rfl ?_
    refine g_iconst 3 126 (gd rfl) rfl rfl ?_
    refine g_iadd 127 (gd rfl) rfl (fun z126 e126 => ?_)
    have i126 := in_add 3 27996 e126 i6 (in_c 3 rfl) rfl rfl
    have hx127 : vp_in z126 ((sF s 32 0 z23).2.2.1 30 0).toNatClampNeg := lg_in (by have a0 := oa5 ((rng_F hI.1 448 28000 rfl e_30_0)) ((rng_F hI.1 0 32 rfl e_32_1)) r_32_0 i109 i6; have a5 := (t_mulc 7 (Or.inr e6) r_32_0 rfl).1; have a6 := in_u i23; have a7 := t_add e23 r_32_0 (in_c 1 rfl) rfl; have a8 := oa2 ((in_c 1 rfl)) i126; have a10 := t_add e126 i6 (in_c 3 rfl) rfl; have a11 := oa2 ((in_c 3 rfl)) i118; have a13 := t_add e118 i6 (in_c 2 rfl) rfl; have a14 := oa2 ((in_c 2 rfl)) i14; have a16 := t_add e14 i6 (in_c 1 rfl) rfl; have oc := oc_131_1_32; omega) (by rw [← (show u_30_0 = (sF s 32 0 z23).2.2.1 30 0 from sF_ne rfl (e_30_0))]; have a0 := oa5 ((rng_F hI.1 448 28000 rfl e_30_0)) ((rng_F hI.1 0 32 rfl e_32_1)) r_32_0 i109 i6; have a5 := (t_mulc 7 (Or.inr e6) r_32_0 rfl).1; have a6 := in_u i23; have a7 := t_add e23 r_32_0 (in_c 1 rfl) rfl; have a8 := oa2 ((in_c 1 rfl)) i126; have a10 := t_add e126 i6 (in_c 3 rfl) rfl; have a11 := oa2 ((in_c 3 rfl)) i118; have a13 := t_add e118 i6 (in_c 2 rfl) rfl; have a14 := oa2 ((in_c 2 rfl)) i14; have a16 := t_add e14 i6 (in_c 1 rfl) rfl; have oc := oc_131_1_32; omega)
    refine g_lgload 128 (gd rfl) rfl hx127 (fun z127 e127 => ?_)
    have p128 : (z119).toInt = 0 → In z127 (-1000000) 1000000 := by rw [rw7_v (k := (s.2.2.1 32 0).toInt.toNat) (c := 2) (by have a0 := oa5 ((rng_F hI.1 448 28000 rfl e_30_0)) ((rng_F hI.1 0 32 rfl e_32_1)) r_32_0 i109 i6; have a5 := (t_mulc 7 (Or.inr e6) r_32_0 rfl).1; have a6 := in_u i23; have a7 := t_add e23 r_32_0 (in_c 1 rfl) rfl; have a8 := oa2 ((in_c 1 rfl)) i126; have a10 := t_add e126 i6 (in_c 3 rfl) rfl; have a11 := oa2 ((in_c 3 rfl)) i118; have a13 := t_add e118 i6 (in_c 2 rfl) rfl; have a14 := oa2 ((in_c 2 rfl)) i14; have a16 := t_add e14 i6 (in_c 1 rfl) rfl; have oc := oc_131_1_32; omega) e119, rw7_v (k := (s.2.2.1 32 0).toInt.toNat) (c := 3) (by have a0 := oa5 ((rng_F hI.1 448 28000 rfl e_30_0)) ((rng_F hI.1 0 32 rfl e_32_1)) r_32_0 i109 i6; have a5 := (t_mulc 7 (Or.inr e6) r_32_0 rfl).1; have a6 := in_u i23; have a7 := t_add e23 r_32_0 (in_c 1 rfl) rfl; have a8 := oa2 ((in_c 1 rfl)) i126; have a10 := t_add e126 i6 (in_c 3 rfl) rfl; have a11 := oa2 ((in_c 3 rfl)) i118; have a13 := t_add e118 i6 (in_c 2 rfl) rfl; have a14 := oa2 ((in_c 2 rfl)) i14; have a16 := t_add e14 i6 (in_c 1 rfl) rfl; have oc := oc_131_1_32; omega) e127]; exact hr.2.1
    have p128a : (z119).toInt = 1 → In z127 0 1000000 := by rw [rw7_v (k := (s.2.2.1 32 0).toInt.toNat) (c := 2) (by have a0 := oa5 ((rng_F hI.1 448 28000 rfl e_30_0)) ((rng_F hI.1 0 32 rfl e_32_1)) r_32_0 i109 i6; have a5 := (t_mulc 7 (Or.inr e6) r_32_0 rfl).1; have a6 := in_u i23; have a7 := t_add e23 r_32_0 (in_c 1 rfl) rfl; have a8 := oa2 ((in_c 1 rfl)) i126; have a10 := t_add e126 i6 (in_c 3 rfl) rfl; have a11 := oa2 ((in_c 3 rfl)) i118; have a13 := t_add e118 i6 (in_c 2 rfl) rfl; have a14 := oa2 ((in_c 2 rfl)) i14; have a16 := t_add e14 i6 (in_c 1 rfl) rfl; have oc := oc_131_1_32; omega) e119, rw7_v (k := (s.2.2.1 32 0).toInt.toNat) (c := 3) (by have a0 := oa5 ((rng_F hI.1 448 28000 rfl e_30_0)) ((rng_F hI.1 0 32 rfl e_32_1)) r_32_0 i109 i6; have a5 := (t_mulc 7 (Or.inr e6) r_32_0 rfl).1; have a6 := in_u i23; have a7 := t_add e23 r_32_0 (in_c 1 rfl) rfl; have a8 := oa2 ((in_c 1 rfl)) i126; have a10 := t_add e126 i6 (in_c 3 rfl) rfl; have a11 := oa2 ((in_c 3 rfl)) i118; have a13 := t_add e118 i6 (in_c 2 rfl) rfl; have a14 := oa2 ((in_c 2 rfl)) i14; have a16 := t_add e14 i6 (in_c 1 rfl) rfl; have oc := oc_131_1_32; omega) e127]; exact hr.2.2.1
    have p128b : (z119).toInt ≠ 0 → (z119).toInt ≠ 1 → In z127 0 25 := by rw [rw7_v (k := (s.2.2.1 32 0).toInt.toNat) (c := 2) (by have a0 := oa5 ((rng_F hI.1 448 28000 rfl e_30_0)) ((rng_F hI.1 0 32 rfl e_32_1)) r_32_0 i109 i6; have a5 := (t_mulc 7 (Or.inr e6) r_32_0 rfl).1; have a6 := in_u i23; have a7 := t_add e23 r_32_0 (in_c 1 rfl) rfl; have a8 := oa2 ((in_c 1 rfl)) i126; have a10 := t_add e126 i6 (in_c 3 rfl) rfl; have a11 := oa2 ((in_c 3 rfl)) i118; have a13 := t_add e118 i6 (in_c 2 rfl) rfl; have a14 := oa2 ((in_c 2 rfl)) i14; have a16 := t_add e14 i6 (in_c 1 rfl) rfl; have oc := oc_131_1_32; omega) e119, rw7_v (k := (s.2.2.1 32 0).toInt.toNat) (c := 3) (by have a0 := oa5 ((rng_F hI.1 448 28000 rfl e_30_0)) ((rng_F hI.1 0 32 rfl e_32_1)) r_32_0 i109 i6; have a5 := (t_mulc 7 (Or.inr e6) r_32_0 rfl).1; have a6 := in_u i23; have a7 := t_add e23 r_32_0 (in_c 1 rfl) rfl; have a8 := oa2 ((in_c 1 rfl)) i126; have a10 := t_add e126 i6 (in_c 3 rfl) rfl; have a11 := oa2 ((in_c 3 rfl)) i118; have a13 := t_add e118 i6 (in_c 2 rfl) rfl; have a14 := oa2 ((in_c 2 rfl)) i14; have a16 := t_add e14 i6 (in_c 1 rfl) rfl; have oc := oc_131_1_32; omega) e127]; exact hr.2.2.2
    refine g_callv (X := _) (As := [.ref (A 32), .int z15, .int z119, .int z127]) (r := []) (b := A 1) (q := 1) 131 (gd rfl) rfl rfl rfl rfl rfl (ww_o rfl) (Nat.le_of_ble_eq_true rfl) (Nat.zero_le _) (Nat.zero_le _) (f_133_1_32 (by first | exact dq1 hd rfl | exact dq0 hd rfl | exact dq2 hd rfl | exact dq3 hd rfl | omega) hI24 (in_w 0 159 i109 rfl) p128 p128a p128b) (fun e u h => h) (fun v u h => ?_)
    obtain ⟨s128, hI128, hF128, rfl, rfl, p128c, p128d, p128e⟩ := h
    show GG _ _ _ _ _ _ _ _ [] _ _ _
    refine g_goto 148 (gd rfl) rfl ?_
    have hI148 : Inv s128 := by have hFF : Fr fm_131_1_32 s s128 := (fr_tr rfl (fr_sF rfl fr_rf) hF128); exact ⟨hI128, kk_ap32 hI.2 hFF rfl (by rw [hFF.2.2.1 32 4 rfl, ← (show z23 = s128.2.2.1 32 0 from fr_F (s := (sF s 32 0 z23)) (sF_get) hF128 rfl)]; have hg := hI.2.2.1.1; rw [mF_at rfl, mF_at rfl, ← e_32_0] at hg; have a0 := oa5 ((rng_F hI.1 448 28000 rfl e_30_0)) ((rng_F hI.1 0 32 rfl e_32_1)) r_32_0 i109 i6; have a5 := (t_mulc 7 (Or.inr e6) r_32_0 rfl).1; have a6 := in_u i23; have a7 := t_add e23 r_32_0 (in_c 1 rfl) rfl; have a8 := oa2 ((in_c 1 rfl)) i126; have a10 := t_add e126 i6 (in_c 3 rfl) rfl; have a11 := oa2 ((in_c 3 rfl)) i118; have a13 := t_add e118 i6 (in_c 2 rfl) rfl; have a14 := oa2 ((in_c 2 rfl)) i14; have a16 := t_add e14 i6 (in_c 1 rfl) rfl; have oc := oc_131_1_32; omega)⟩
    have n148 : KV s128 32 := by have hif : (if (s.1 30 (7 * (s.2.2.1 32 0).toInt.toNat)).toInt = 0 then (1 : Int) else 0) = 0 := if_neg (by rw [← h32]; have a0 := oa5 ((rng_F hI.1 448 28000 rfl e_30_0)) ((rng_F hI.1 0 32 rfl e_32_1)) r_32_0 i109 i6; have a5 := (t_mulc 7 (Or.inr e6) r_32_0 rfl).1; have a6 := in_u i23; have a7 := t_add e23 r_32_0 (in_c 1 rfl) rfl; have a8 := oa2 ((in_c 1 rfl)) i126; have a10 := t_add e126 i6 (in_c 3 rfl) rfl; have a11 := oa2 ((in_c 3 rfl)) i118; have a13 := t_add e118 i6 (in_c 2 rfl) rfl; have a14 := oa2 ((in_c 2 rfl)) i14; have a16 := t_add e14 i6 (in_c 1 rfl) rfl; have oc := oc_131_1_32; omega); exact kv_st q_1 (hF128.1 30 rfl) (rng_F hI.1 0 4000 (q := 32) (j := 0) rfl rfl).1 (by rw [← (show z23 = s128.2.2.1 32 0 from fr_F (s := (sF s 32 0 z23)) (sF_get) hF128 rfl), ← e_32_0]; have a0 := oa5 ((rng_F hI.1 448 28000 rfl e_30_0)) ((rng_F hI.1 0 32 rfl e_32_1)) r_32_0 i109 i6; have a5 := (t_mulc 7 (Or.inr e6) r_32_0 rfl).1; have a6 := in_u i23; have a7 := t_add e23 r_32_0 (in_c 1 rfl) rfl; have a8 := oa2 ((in_c 1 rfl)) i126; have a10 := t_add e126 i6 (in_c 3 rfl) rfl; have a11 := oa2 ((in_c 3 rfl)) i118; have a13 := t_add e118 i6 (in_c 2 rfl) rfl; have a14 := oa2 ((in_c 2 rfl)) i14; have a16 := t_add e14 i6 (in_c 1 rfl) rfl; have oc := oc_131_1_32; omega) (by rw [hif, ← (show u_32_1 = s128.2.2.1 32 1 from fr_F (s := (sF s 32 0 z23)) (sF_ne rfl (e_32_1)) hF128 rfl), ← e_32_1]; omega) (by rw [← (show u_32_1 = s128.2.2.1 32 1 from fr_F (s := (sF s 32 0 z23)) (sF_ne rfl (e_32_1)) hF128 rfl), e_32_1]; exact (by rw [hF128.1 34 rfl, hF128.1 35 rfl]; exact q_1.2))
    have n148a : gvD s128 = gqR (gvD s) (s.1 30) (s.2.2.1 32 0).toInt.toNat := by have hL : Fr ([36, 37, 38], [], [(32, 0)], []) s s128 := (fr_tr rfl (fr_sF rfl fr_rf) hF128); have hz1 := (rw7_v (k := (s.2.2.1 32 0).toInt.toNat) (c := 2) (by have a0 := oa5 ((rng_F hI.1 448 28000 rfl e_30_0)) ((rng_F hI.1 0 32 rfl e_32_1)) r_32_0 i109 i6; have a5 := (t_mulc 7 (Or.inr e6) r_32_0 rfl).1; have a6 := in_u i23; have a7 := t_add e23 r_32_0 (in_c 1 rfl) rfl; have a8 := oa2 ((in_c 1 rfl)) i126; have a10 := t_add e126 i6 (in_c 3 rfl) rfl; have a11 := oa2 ((in_c 3 rfl)) i118; have a13 := t_add e118 i6 (in_c 2 rfl) rfl; have a14 := oa2 ((in_c 2 rfl)) i14; have a16 := t_add e14 i6 (in_c 1 rfl) rfl; have oc := oc_131_1_32; omega) e119); have hz2 := (rw7_v (k := (s.2.2.1 32 0).toInt.toNat) (c := 3) (by have a0 := oa5 ((rng_F hI.1 448 28000 rfl e_30_0)) ((rng_F hI.1 0 32 rfl e_32_1)) r_32_0 i109 i6; have a5 := (t_mulc 7 (Or.inr e6) r_32_0 rfl).1; have a6 := in_u i23; have a7 := t_add e23 r_32_0 (in_c 1 rfl) rfl; have a8 := oa2 ((in_c 1 rfl)) i126; have a10 := t_add e126 i6 (in_c 3 rfl) rfl; have a11 := oa2 ((in_c 3 rfl)) i118; have a13 := t_add e118 i6 (in_c 2 rfl) rfl; have a14 := oa2 ((in_c 2 rfl)) i14; have a16 := t_add e14 i6 (in_c 1 rfl) rfl; have oc := oc_131_1_32; omega) e127); rw [gqR_3 (by rw [← h32]; exact c33)]; exact gvD_mk (hL.1 33 rfl) (hL.1 34 rfl) (hL.1 35 rfl) (by rw [p128c, hp, hz1, hz2]; rfl) (by rw [p128d, hp, hz1, hz2]; rfl) (by rw [p128e, hp, hz1, hz2]; rfl) (congrArg Int32.toInt (hL.2.2.1 32 1 rfl)) (by show _ = (s.2.2.1 32 0).toInt + 1; rw [← (show z23 = s128.2.2.1 32 0 from fr_F (s := (sF s 32 0 z23)) (sF_get) hF128 rfl), ← e_32_0]; have a0 := oa5 ((rng_F hI.1 448 28000 rfl e_30_0)) ((rng_F hI.1 0 32 rfl e_32_1)) r_32_0 i109 i6; have a5 := (t_mulc 7 (Or.inr e6) r_32_0 rfl).1; have a6 := in_u i23; have a7 := t_add e23 r_32_0 (in_c 1 rfl) rfl; have a8 := oa2 ((in_c 1 rfl)) i126; have a10 := t_add e126 i6 (in_c 3 rfl) rfl; have a11 := oa2 ((in_c 3 rfl)) i118; have a13 := t_add e118 i6 (in_c 2 rfl) rfl; have a14 := oa2 ((in_c 2 rfl)) i14; have a16 := t_add e14 i6 (in_c 1 rfl) rfl; have oc := oc_131_1_32; omega)
    have n148b : TQD s → TQD s128 := by exact fun h => tqd_fr (tqd_cg (t := sF s 32 0 z23) h rfl rfl) hF128 rfl
    have n148c : (z23).toInt = (u_32_0).toInt + 1 := by have a0 := oa5 ((rng_F hI.1 448 28000 rfl e_30_0)) ((rng_F hI.1 0 32 rfl e_32_1)) r_32_0 i109 i6; have a5 := (t_mulc 7 (Or.inr e6) r_32_0 rfl).1; have a6 := in_u i23; have a7 := t_add e23 r_32_0 (in_c 1 rfl) rfl; have a8 := oa2 ((in_c 1 rfl)) i126; have a10 := t_add e126 i6 (in_c 3 rfl) rfl; have a11 := oa2 ((in_c 3 rfl)) i118; have a13 := t_add e118 i6 (in_c 2 rfl) rfl; have a14 := oa2 ((in_c 2 rfl)) i14; have a16 := t_add e14 i6 (in_c 1 rfl) rfl; have oc := oc_131_1_32; omega
    have n148d : (s128.2.2.1 32 0).toInt = (s.2.2.1 32 0).toInt + 1 := by have b0 : z23 = s128.2.2.1 32 0 := fr_F (s := (sF s 32 0 z23)) (sF_get) hF128 rfl; first | (rw [← b0, ← e_32_0]; exact n148c) | (rw [← b0]; exact n148c)
    exact g_return (gd rfl) rfl (hP _ _ ⟨s128, hI148, (fr_tr rfl (fr_sF rfl fr_rf) hF128), n148d, rfl, rfl, n148, n148a, n148b⟩)
  · skip
    have h32 : z32 = s.1 30 (7 * (s.2.2.1 32 0).toInt.toNat) := rw7_v (c := 0) (by have a0 := oa4 ((rng_F hI.1 448 28000 rfl e_30_0)) ((rng_F hI.1 0 32 rfl e_32_1)) r_32_0 i6; have a4 := (t_mulc 7 (Or.inr e6) r_32_0 rfl).1; have a5 := in_u i23; have a6 := t_add e23 r_32_0 (in_c 1 rfl) rfl; have a7 := oa2 ((in_c 1 rfl)) i14; have a9 := t_add e14 i6 (in_c 1 rfl) rfl; have oc := oc_131_1_32; omega) e32
    have hr := rw7_4 q_0 hk e32 c33
    have i134 : In z15 0 31 := by rw [hp]; exact hr.1
    refine g_aload_n 135 (gd rfl) rfl rfl ?_
    refine g_getA (q2 := 33) 138 (gd rfl) rfl rfl rfl rfl ?_
    refine g_iload_n 139 (gd rfl) rfl rfl ?_
    refine g_aload_n 140 (gd rfl) rfl rfl ?_
    refine g_getA (q2 := 30) 143 (gd rfl) rfl rfl rfl rfl ?_
    refine g_iload_n 144 (gd rfl) rfl rfl ?_
    refine g_iconst 2 145 (gd rfl) rfl rfl ?_
    refine g_iadd 146 (gd rfl) rfl (fun z145 e145 => ?_)
    have i145 := in_add 2 27995 e145 i6 (in_c 2 rfl) rfl rfl
    have hx146 : vp_in z145 ((sF s 32 0 z23).2.2.1 30 0).toNatClampNeg := lg_in (by have a0 := oa5 ((rng_F hI.1 448 28000 rfl e_30_0)) ((rng_F hI.1 0 32 rfl e_32_1)) r_32_0 i134 i6; have a5 := (t_mulc 7 (Or.inr e6) r_32_0 rfl).1; have a6 := in_u i23; have a7 := t_add e23 r_32_0 (in_c 1 rfl) rfl; have a8 := oa2 ((in_c 1 rfl)) i145; have a10 := t_add e145 i6 (in_c 2 rfl) rfl; have a11 := oa2 ((in_c 2 rfl)) i14; have a13 := t_add e14 i6 (in_c 1 rfl) rfl; have oc := oc_131_1_32; omega) (by rw [← (show u_30_0 = (sF s 32 0 z23).2.2.1 30 0 from sF_ne rfl (e_30_0))]; have a0 := oa5 ((rng_F hI.1 448 28000 rfl e_30_0)) ((rng_F hI.1 0 32 rfl e_32_1)) r_32_0 i134 i6; have a5 := (t_mulc 7 (Or.inr e6) r_32_0 rfl).1; have a6 := in_u i23; have a7 := t_add e23 r_32_0 (in_c 1 rfl) rfl; have a8 := oa2 ((in_c 1 rfl)) i145; have a10 := t_add e145 i6 (in_c 2 rfl) rfl; have a11 := oa2 ((in_c 2 rfl)) i14; have a13 := t_add e14 i6 (in_c 1 rfl) rfl; have oc := oc_131_1_32; omega)
    refine g_lgload 147 (gd rfl) rfl hx146 (fun z146 e146 => ?_)
    have i147 : In z146 0 25 := by rw [rw7_v (k := (s.2.2.1 32 0).toInt.toNat) (c := 2) (by have a0 := oa5 ((rng_F hI.1 448 28000 rfl e_30_0)) ((rng_F hI.1 0 32 rfl e_32_1)) r_32_0 i134 i6; have a5 := (t_mulc 7 (Or.inr e6) r_32_0 rfl).1; have a6 := in_u i23; have a7 := t_add e23 r_32_0 (in_c 1 rfl) rfl; have a8 := oa2 ((in_c 1 rfl)) i145; have a10 := t_add e145 i6 (in_c 2 rfl) rfl; have a11 := oa2 ((in_c 2 rfl)) i14; have a13 := t_add e14 i6 (in_c 1 rfl) rfl; have oc := oc_131_1_32; omega) e146]; exact hr.2
    refine g_iastore 148 (gd rfl) rfl (n := 32) rfl (in_ix i134 rfl) ?_
    have hI147 := rng_sI (q := 33) (j := z15.toNatClampNeg) hI24 rfl (in_w 0 25 i147 rfl)
    have hI148 : Inv (sI (sF s 32 0 z23) 33 z15.toNatClampNeg z146) := by have hFF : Fr fm_131_1_32 s (sI (sF s 32 0 z23) 33 z15.toNatClampNeg z146) := (fr_sI rfl (fr_sF rfl fr_rf)); exact ⟨hI147, kk_ap32 hI.2 hFF rfl (by rw [hFF.2.2.1 32 4 rfl, ← (show z23 = (sI (sF s 32 0 z23) 33 z15.toNatClampNeg z146).2.2.1 32 0 from sI_F (sF_get))]; have hg := hI.2.2.1.1; rw [mF_at rfl, mF_at rfl, ← e_32_0] at hg; have a0 := oa5 ((rng_F hI.1 448 28000 rfl e_30_0)) ((rng_F hI.1 0 32 rfl e_32_1)) r_32_0 i134 i6; have a5 := (t_mulc 7 (Or.inr e6) r_32_0 rfl).1; have a6 := in_u i23; have a7 := t_add e23 r_32_0 (in_c 1 rfl) rfl; have a8 := oa2 ((in_c 1 rfl)) i145; have a10 := t_add e145 i6 (in_c 2 rfl) rfl; have a11 := oa2 ((in_c 2 rfl)) i14; have a13 := t_add e14 i6 (in_c 1 rfl) rfl; have oc := oc_131_1_32; omega)⟩
    have n148 : KV (sI (sF s 32 0 z23) 33 z15.toNatClampNeg z146) 32 := by have hif : (if (s.1 30 (7 * (s.2.2.1 32 0).toInt.toNat)).toInt = 0 then (1 : Int) else 0) = 0 := if_neg (by rw [← h32]; have a0 := oa5 ((rng_F hI.1 448 28000 rfl e_30_0)) ((rng_F hI.1 0 32 rfl e_32_1)) r_32_0 i134 i6; have a5 := (t_mulc 7 (Or.inr e6) r_32_0 rfl).1; have a6 := in_u i23; have a7 := t_add e23 r_32_0 (in_c 1 rfl) rfl; have a8 := oa2 ((in_c 1 rfl)) i145; have a10 := t_add e145 i6 (in_c 2 rfl) rfl; have a11 := oa2 ((in_c 2 rfl)) i14; have a13 := t_add e14 i6 (in_c 1 rfl) rfl; have oc := oc_131_1_32; omega); exact kv_st q_1 rfl (rng_F hI.1 0 4000 (q := 32) (j := 0) rfl rfl).1 (by rw [← (show z23 = (sI (sF s 32 0 z23) 33 z15.toNatClampNeg z146).2.2.1 32 0 from sI_F (sF_get)), ← e_32_0]; have a0 := oa5 ((rng_F hI.1 448 28000 rfl e_30_0)) ((rng_F hI.1 0 32 rfl e_32_1)) r_32_0 i134 i6; have a5 := (t_mulc 7 (Or.inr e6) r_32_0 rfl).1; have a6 := in_u i23; have a7 := t_add e23 r_32_0 (in_c 1 rfl) rfl; have a8 := oa2 ((in_c 1 rfl)) i145; have a10 := t_add e145 i6 (in_c 2 rfl) rfl; have a11 := oa2 ((in_c 2 rfl)) i14; have a13 := t_add e14 i6 (in_c 1 rfl) rfl; have oc := oc_131_1_32; omega) (by rw [hif, ← (show u_32_1 = (sI (sF s 32 0 z23) 33 z15.toNatClampNeg z146).2.2.1 32 1 from sI_F (sF_ne rfl (e_32_1))), ← e_32_1]; omega) (by rw [← (show u_32_1 = (sI (sF s 32 0 z23) 33 z15.toNatClampNeg z146).2.2.1 32 1 from sI_F (sF_ne rfl (e_32_1))), e_32_1]; exact q_1.2)
    have n148a : gvD (sI (sF s 32 0 z23) 33 z15.toNatClampNeg z146) = gqR (gvD s) (s.1 30) (s.2.2.1 32 0).toInt.toNat := by have hL : Fr ([33], [], [(32, 0)], []) s (sI (sF s 32 0 z23) 33 z15.toNatClampNeg z146) := (fr_sI rfl (fr_sF rfl fr_rf)); have hz146 := (rw7_v (k := (s.2.2.1 32 0).toInt.toNat) (c := 2) (by have a0 := oa5 ((rng_F hI.1 448 28000 rfl e_30_0)) ((rng_F hI.1 0 32 rfl e_32_1)) r_32_0 i134 i6; have a5 := (t_mulc 7 (Or.inr e6) r_32_0 rfl).1; have a6 := in_u i23; have a7 := t_add e23 r_32_0 (in_c 1 rfl) rfl; have a8 := oa2 ((in_c 1 rfl)) i145; have a10 := t_add e145 i6 (in_c 2 rfl) rfl; have a11 := oa2 ((in_c 2 rfl)) i14; have a13 := t_add e14 i6 (in_c 1 rfl) rfl; have oc := oc_131_1_32; omega) e146); rw [gqR_4 (by rw [← h32]; omega) (by rw [← h32]; omega) (by rw [← h32]; omega) (by rw [← h32]; omega)]; exact gvD_mk (by show (sI _ 33 z15.toNatClampNeg z146).1 33 = _; rw [sI_q, hp, hz146]; rfl) (hL.1 34 rfl) (hL.1 35 rfl) (hL.1 36 rfl) (hL.1 37 rfl) (hL.1 38 rfl) (congrArg Int32.toInt (hL.2.2.1 32 1 rfl)) (by show _ = (s.2.2.1 32 0).toInt + 1; rw [← (show z23 = (sI (sF s 32 0 z23) 33 z15.toNatClampNeg z146).2.2.1 32 0 from sI_F (sF_get)), ← e_32_0]; have a0 := oa5 ((rng_F hI.1 448 28000 rfl e_30_0)) ((rng_F hI.1 0 32 rfl e_32_1)) r_32_0 i134 i6; have a5 := (t_mulc 7 (Or.inr e6) r_32_0 rfl).1; have a6 := in_u i23; have a7 := t_add e23 r_32_0 (in_c 1 rfl) rfl; have a8 := oa2 ((in_c 1 rfl)) i145; have a10 := t_add e145 i6 (in_c 2 rfl) rfl; have a11 := oa2 ((in_c 2 rfl)) i14; have a13 := t_add e14 i6 (in_c 1 rfl) rfl; have oc := oc_131_1_32; omega)
    have n148b : TQD s → TQD (sI (sF s 32 0 z23) 33 z15.toNatClampNeg z146) := by exact fun h => tqd_fr (L := ([33], [], [(32, 0), (32, 1)], [])) h (fr_sI rfl (fr_sF rfl fr_rf)) rfl
    have n148c : (z23).toInt = (u_32_0).toInt + 1 := by have a0 := oa5 ((rng_F hI.1 448 28000 rfl e_30_0)) ((rng_F hI.1 0 32 rfl e_32_1)) r_32_0 i134 i6; have a5 := (t_mulc 7 (Or.inr e6) r_32_0 rfl).1; have a6 := in_u i23; have a7 := t_add e23 r_32_0 (in_c 1 rfl) rfl; have a8 := oa2 ((in_c 1 rfl)) i145; have a10 := t_add e145 i6 (in_c 2 rfl) rfl; have a11 := oa2 ((in_c 2 rfl)) i14; have a13 := t_add e14 i6 (in_c 1 rfl) rfl; have oc := oc_131_1_32; omega
    have n148d : ((sI (sF s 32 0 z23) 33 z15.toNatClampNeg z146).2.2.1 32 0).toInt = (s.2.2.1 32 0).toInt + 1 := by have b0 : z23 = (sI (sF s 32 0 z23) 33 z15.toNatClampNeg z146).2.2.1 32 0 := sI_F (sF_get); first | (rw [← b0, ← e_32_0]; exact n148c) | (rw [← b0]; exact n148c)
    exact g_return (gd rfl) rfl (hP _ _ ⟨(sI (sF s 32 0 z23) 33 z15.toNatClampNeg z146), hI148, (fr_sI rfl (fr_sF rfl fr_rf)), n148d, rfl, rfl, n148, n148a, n148b⟩)

theorem oc_92_32 : (Int32.ofInt (-1)).toInt = (-1) ∧ (Int32.ofInt 0).toInt = 0 ∧ (Int32.ofInt 1).toInt = 1 := ⟨rfl, rfl, rfl⟩
/-- GraphHouse$Graph.clear -/
theorem f_92_32 {Z : AmZ} {A : Nat → Nat} {s : GS} {ex : va_W} {d : Nat} {X : AmX}  (hd : 2 ≤ d) (hI : Inv s)  : GC Z d 92 [.ref (A 32)] (WW Z A s ++ ex) 0 0 (fun v u => ∃ t : GS, Inv t ∧ Fr fm_92_32 s t ∧ ((t.2.2.1 32 0).toInt = 0) ∧ v = none ∧ u = WW Z A t ++ ex ∧ (KV t 32) ∧ (GE0 (gvD t)) ∧ (TQD t)) X := by
  intro post xp hP hX
  refine g_enter2 (k := 92) (N := 900) (by first | exact dq1 hd rfl | exact dq0 hd rfl | exact dq2 hd rfl | exact dq3 hd rfl | omega) rfl (Nat.le_of_ble_eq_true rfl) ?_
  refine g_aload_n 1 (gd rfl) rfl rfl ?_
  refine g_iconst 0 2 (gd rfl) rfl rfl ?_
  refine g_putI 5 (gd rfl) rfl rfl rfl rfl ?_
  have hI2 := rng_sF (q := 32) (j := 0) hI.1 rfl (in_w 0 4000 (in_c 0 rfl) rfl)
  refine g_aload_n 6 (gd rfl) rfl rfl ?_
  refine g_iconst 0 7 (gd rfl) rfl rfl ?_
  refine g_putI 10 (gd rfl) rfl rfl rfl rfl ?_
  have hI7 := rng_sF (q := 32) (j := 1) hI2 rfl (in_w 0 32 (in_c 0 rfl) rfl)
  refine g_aload_n 11 (gd rfl) rfl rfl ?_
  refine g_iconst 0 12 (gd rfl) rfl rfl ?_
  refine g_putI 15 (gd rfl) rfl rfl rfl rfl ?_
  have hI12 := rng_sF (q := 32) (j := 2) hI7 rfl (in_w (-2147483648) 2147483647 (in_c 0 rfl) rfl)
  refine g_aload_n 16 (gd rfl) rfl rfl ?_
  refine g_iconst 0 17 (gd rfl) rfl rfl ?_
  refine g_putI 20 (gd rfl) rfl rfl rfl rfl ?_
  have hI17 := rng_sF (q := 32) (j := 3) hI12 rfl (in_w 0 160 (in_c 0 rfl) rfl)
  refine g_aload_n 21 (gd rfl) rfl rfl ?_
  refine g_iconst (-1) 22 (gd rfl) rfl rfl ?_
  refine g_putI 25 (gd rfl) rfl rfl rfl rfl ?_
  have hI22 := rng_sF (q := 32) (j := 4) hI17 rfl (in_w (-1) 4000 (in_c (-1) rfl) rfl)
  refine g_aload_n 26 (gd rfl) rfl rfl ?_
  refine g_getA (q2 := 34) 29 (gd rfl) rfl rfl rfl rfl ?_
  refine g_iconst (-1) 30 (gd rfl) rfl rfl ?_
  refine g_calls (As := [.ref (A 34), .int (Int32.ofInt (-1))]) (r := []) 33 (gd rfl) rfl rfl rfl rfl rfl (Nat.le_of_ble_eq_true rfl) (Nat.zero_le _) (Nat.zero_le _) (k_fillIr 34 (by first | exact dq1 hd rfl | exact dq0 hd rfl | exact dq2 hd rfl | exact dq3 hd rfl | omega) hI22 (in_c (-1) rfl) (n := 160) rfl rfl rfl rfl) (fun v u h => ?_)
  obtain ⟨s30, hI30, hF30, rfl, rfl, fl30⟩ := h
  show GG _ _ _ _ _ _ _ _ [] _ _ _
  have hI33 : Inv s30 := by have hFF : Fr fm_92_32 s s30 := (fr_tr rfl (fr_sF rfl (fr_sF rfl (fr_sF rfl (fr_sF rfl (fr_sF rfl fr_rf))))) hF30); exact ⟨hI30, kk_g hI.2.1 hFF rfl rfl rfl rfl rfl, kk_un rfl rfl (by rw [← (show (Int32.ofInt (-1)) = s30.2.2.1 32 4 from fr_F (s := (sF (sF (sF (sF (sF s 32 0 (Int32.ofInt 0)) 32 1 (Int32.ofInt 0)) 32 2 (Int32.ofInt 0)) 32 3 (Int32.ofInt 0)) 32 4 (Int32.ofInt (-1)))) (sF_get) hF30 rfl)]; rfl) (rng_F hI30 0 4000 rfl rfl).1, kk_s hI.2.2.2.1 hFF rfl, kk_r hI.2.2.2.2 hFF rfl⟩
  have n33 : KV s30 32 := by exact ⟨(by rw [← (show (Int32.ofInt 0) = s30.2.2.1 32 1 from fr_F (s := (sF (sF (sF (sF (sF s 32 0 (Int32.ofInt 0)) 32 1 (Int32.ofInt 0)) 32 2 (Int32.ofInt 0)) 32 3 (Int32.ofInt 0)) 32 4 (Int32.ofInt (-1)))) (sF_ne rfl (sF_ne rfl (sF_ne rfl (sF_get)))) hF30 rfl), ← (show (Int32.ofInt 0) = s30.2.2.1 32 0 from fr_F (s := (sF (sF (sF (sF (sF s 32 0 (Int32.ofInt 0)) 32 1 (Int32.ofInt 0)) 32 2 (Int32.ofInt 0)) 32 3 (Int32.ofInt 0)) 32 4 (Int32.ofInt (-1)))) (sF_ne rfl (sF_ne rfl (sF_ne rfl (sF_ne rfl (sF_get))))) hF30 rfl)]; rfl), fun p hp => Or.inl (by rw [fl30 p hp]; decide)⟩
  have n33a : GE0 (gvD s30) := by exact ⟨fun i hi => (by show ((s30).1 34 i).toInt = -1; rw [fl30 i hi]; rfl), (by show ((s30).2.2.1 32 1).toInt = 0; rw [← (show (Int32.ofInt 0) = s30.2.2.1 32 1 from fr_F (s := (sF (sF (sF (sF (sF s 32 0 (Int32.ofInt 0)) 32 1 (Int32.ofInt 0)) 32 2 (Int32.ofInt 0)) 32 3 (Int32.ofInt 0)) 32 4 (Int32.ofInt (-1)))) (sF_ne rfl (sF_ne rfl (sF_ne rfl (sF_get)))) hF30 rfl)]; rfl), (by show ((s30).2.2.1 32 0).toInt = 0; rw [← (show (Int32.ofInt 0) = s30.2.2.1 32 0 from fr_F (s := (sF (sF (sF (sF (sF s 32 0 (Int32.ofInt 0)) 32 1 (Int32.ofInt 0)) 32 2 (Int32.ofInt 0)) 32 3 (Int32.ofInt 0)) 32 4 (Int32.ofInt (-1)))) (sF_ne rfl (sF_ne rfl (sF_ne rfl (sF_ne rfl (sF_get))))) hF30 rfl)]; rfl)⟩
  have n33b : TQD s30 := by intro p hp hn; exfalso; apply hn; rw [fl30 p hp]; rfl
  have n33c : ((Int32.ofInt 0)).toInt = 0 := by have a0 := oa2 ((in_c (-1) rfl)) ((in_c 0 rfl)); have oc := oc_92_32; omega
  have n33d : (s30.2.2.1 32 0).toInt = 0 := by have b0 : (Int32.ofInt 0) = s30.2.2.1 32 0 := fr_F (s := (sF (sF (sF (sF (sF s 32 0 (Int32.ofInt 0)) 32 1 (Int32.ofInt 0)) 32 2 (Int32.ofInt 0)) 32 3 (Int32.ofInt 0)) 32 4 (Int32.ofInt (-1)))) (sF_ne rfl (sF_ne rfl (sF_ne rfl (sF_ne rfl (sF_get))))) hF30 rfl; rw [← b0]; exact n33c
  exact g_return (gd rfl) rfl (hP _ _ ⟨s30, hI33, (fr_tr rfl (fr_sF rfl (fr_sF rfl (fr_sF rfl (fr_sF rfl (fr_sF rfl fr_rf))))) hF30), n33d, rfl, rfl, n33, n33a, n33b⟩)

theorem oc_134_1_32 : (Int32.ofInt (-1)).toInt = (-1) ∧ (Int32.ofInt 0).toInt = 0 ∧ (Int32.ofInt 1).toInt = 1 := ⟨rfl, rfl, rfl⟩
/-- GraphHouse$Ledger.replay -/
theorem f_134_1_32 {Z : AmZ} {A : Nat → Nat} {s : GS} {ex : va_W} {d : Nat} {X : AmX} {x2 : Int32} {u_32_0 : Int32} {u_32_1 : Int32} {u_2_0 : Int32} {u_30_0 : Int32} (hd : 5 ≤ d) (hI : Inv s) (h2 : In x2 0 4000) (e_32_0 : u_32_0 = s.2.2.1 32 0) (e_32_1 : u_32_1 = s.2.2.1 32 1) (e_2_0 : u_2_0 = s.2.2.1 2 0) (e_30_0 : u_30_0 = s.2.2.1 30 0) (p_0 : (x2).toInt ≤ (u_2_0).toInt) (p_1 : 7 * (u_2_0).toInt ≤ (u_30_0).toInt) (q_0 : KL s) : GC Z d 134 [.ref (A 1), .ref (A 32), .int x2] (WW Z A s ++ ex) 0 0 (fun v u => ∃ t : GS, Inv t ∧ Fr fm_134_1_32 s t ∧ v = none ∧ u = WW Z A t ++ ex ∧ (KL t) ∧ ((t.2.2.1 32 0).toInt = (x2).toInt) ∧ (SHD s t (x2).toInt.toNat) ∧ (TQD s → TQD t)) X := by
  intro post xp hP hX
  have ro_2_0 := inv_F hI 0 4000 rfl e_2_0
  have ro_30_0 := inv_F hI 448 28000 rfl e_30_0
  have ct17 : ∀ (k17 : Nat) (sc17 : GS) (y17_3 : Int32) (w17_32_0 : Int32) (w17_32_1 : Int32), Inv sc17 → Fr fm_134_1_32 s sc17 → (In y17_3 0 4000) → (w17_32_0 = sc17.2.2.1 32 0) → (w17_32_1 = sc17.2.2.1 32 1) → ((w17_32_0).toInt = (y17_3).toInt) → ((y17_3).toInt ≤ (x2).toInt) → (KV sc17 32) → (SHD s sc17 (y17_3).toInt.toNat) → (TQD s → TQD sc17) → 4000 - (y17_3).toInt < (k17 : Int) → GG Z (d - 1) 134 post (gx xp) (1 + k17 * 900) 17 (fun j => xlook j [(0, .ref (A 1)), (1, .ref (A 32)), (2, .int x2), (3, .int y17_3)]) [] (WW Z A sc17 ++ ex) 0 0 := by
    intro k17
    induction k17 with
    | zero => intro sc17 y17_3 w17_32_0 w17_32_1 hIc17 hFc17 j17_3 v17_32_0 v17_32_1 n17_0 n17_1 g17_0 g17_1 g17_2 mm17; exact m_no mm17 j17_3 rfl
    | succ k17 ih17 =>
      intro sc17 y17_3 w17_32_0 w17_32_1 hIc17 hFc17 j17_3 v17_32_0 v17_32_1 n17_0 n17_1 g17_0 g17_1 g17_2 mm17
      refine gg_w (M := 1 + k17 * 900 + 900) gws ?_
      refine g_iload_n 18 (gd rfl) rfl rfl ?_
      refine g_iload_n 19 (gd rfl) rfl rfl ?_
      refine g_cmp_ge 22 33 (gd rfl) rfl rfl (fun c19 => ?_) (fun c19 => ?_)
      · skip
        have n33 : KL sc17 := by have hFF : Fr fm_134_1_32 s sc17 := hFc17; exact kl_sh q_0 hFF rfl (by rw [← v17_32_0, ← e_2_0]; have a0 := oa6 h2 ro_30_0 ro_2_0 ((inv_F hIc17 0 32 rfl v17_32_1)) ((inv_F hIc17 0 4000 rfl v17_32_0)) j17_3; have oc := oc_134_1_32; omega) g17_0
        have n33a : (sc17.2.2.1 32 0).toInt = (x2).toInt := by rw [← v17_32_0]; have a0 := oa6 h2 ro_30_0 ro_2_0 ((inv_F hIc17 0 32 rfl v17_32_1)) ((inv_F hIc17 0 4000 rfl v17_32_0)) j17_3; have oc := oc_134_1_32; omega
        have n33b : SHD s sc17 (x2).toInt.toNat := by rw [show (x2).toInt.toNat = (y17_3).toInt.toNat from (by have a0 := oa6 h2 ro_30_0 ro_2_0 ((inv_F hIc17 0 32 rfl v17_32_1)) ((inv_F hIc17 0 4000 rfl v17_32_0)) j17_3; have oc := oc_134_1_32; omega)]; exact g17_1
        have n33c : TQD s → TQD sc17 := by exact g17_2
        exact g_return (gd rfl) rfl (hP _ _ ⟨sc17, hIc17, hFc17, rfl, rfl, n33, n33a, n33b, n33c⟩)
      · skip
        have i19 := r_lt1 0 3999 c19 j17_3 h2 rfl
        have i19a := r_lt2 1 4000 c19 j17_3 h2 rfl
        refine g_aload_n 23 (gd rfl) rfl rfl ?_
        refine g_aload_n 24 (gd rfl) rfl rfl ?_
        have i24 : In w17_32_0 0 3999 := by exact ⟨by have a0 := oa6 i19a ro_30_0 ro_2_0 ((inv_F hIc17 0 32 rfl v17_32_1)) ((inv_F hIc17 0 4000 rfl v17_32_0)) i19; have oc := oc_134_1_32; omega, by have a0 := oa6 i19a ro_30_0 ro_2_0 ((inv_F hIc17 0 32 rfl v17_32_1)) ((inv_F hIc17 0 4000 rfl v17_32_0)) i19; have oc := oc_134_1_32; omega⟩
        have v24 : u_30_0 = sc17.2.2.1 30 0 := fr_F e_30_0 hFc17 rfl
        have n24 : 7 * (w17_32_0).toInt + 7 ≤ (u_30_0).toInt := by have a0 := oa6 i19a ro_30_0 ro_2_0 ((inv_F hIc17 0 32 rfl v17_32_1)) i24 i19; have oc := oc_134_1_32; omega
        have p24 : RW7 (sc17.1 30) (sc17.2.2.1 32 0).toInt.toNat := by rw [hFc17.1 30 rfl]; exact q_0.1 _ (by rw [← v17_32_0, ← e_2_0]; have a0 := oa6 i19a ro_30_0 ro_2_0 ((inv_F hIc17 0 32 rfl v17_32_1)) i24 i19; have oc := oc_134_1_32; omega)
        have p24a : KV sc17 32 := by exact g17_0
        refine g_callv (X := _) (As := [.ref (A 32)]) (r := []) (b := A 1) (q := 1) 27 (gd rfl) rfl rfl rfl rfl rfl (ww_o rfl) (Nat.le_of_ble_eq_true rfl) (Nat.zero_le _) (Nat.zero_le _) (f_131_1_32 (by first | exact dq1 hd rfl | exact dq0 hd rfl | exact dq2 hd rfl | exact dq3 hd rfl | omega) hIc17 v17_32_0 v17_32_1 v24 (in_w 0 3999 i24 rfl) n24 p24 p24a) (fun e u h => h) (fun v u h => ?_)
        obtain ⟨s24, hI24, hF24, n24a, rfl, rfl, p24b, p24c, p24d⟩ := h
        obtain ⟨z24a, e24⟩ : ∃ w, w = s24.2.2.1 32 0 := ⟨_, rfl⟩
        have i24b := inv_F hI24 0 4000 rfl e24
        rw [← (show w17_32_0 = sc17.2.2.1 32 0 from v17_32_0)] at n24a
        rw [← (show z24a = s24.2.2.1 32 0 from e24)] at n24a
        show GG _ _ _ _ _ _ _ _ [] _ _ _
        refine g_iinc 30 (gd rfl) rfl rfl (Nat.le_of_ble_eq_true rfl) (fun z27 e27 => ?_)
        have i27 := in_add 1 4000 e27 i19 (in_c 1 rfl) rfl rfl
        refine g_goto 17 (gd rfl) rfl ?_
        have n17 : (z24a).toInt = (z27).toInt := by have a0 := oa7 i19a ro_30_0 ro_2_0 ((inv_F hIc17 0 32 rfl v17_32_1)) i24 i19 i27; have a7 := t_add e27 i19 (in_c 1 rfl) rfl; have a8 := oa2 ((in_c 1 rfl)) i24b; have oc := oc_134_1_32; omega
        have n17a : (z27).toInt ≤ (x2).toInt := by have a0 := oa7 i19a ro_30_0 ro_2_0 ((inv_F hIc17 0 32 rfl v17_32_1)) i24 i19 i27; have a7 := t_add e27 i19 (in_c 1 rfl) rfl; have a8 := oa2 ((in_c 1 rfl)) i24b; have oc := oc_134_1_32; omega
        have n17b : KV s24 32 := by exact p24b
        have n17c : SHD s s24 (z27).toInt.toNat := by exact shq_s g17_1 (by rw [← v17_32_0]; have a0 := oa7 i19a ro_30_0 ro_2_0 ((inv_F hIc17 0 32 rfl v17_32_1)) i24 i19 i27; have a7 := t_add e27 i19 (in_c 1 rfl) rfl; have a8 := oa2 ((in_c 1 rfl)) i24b; have oc := oc_134_1_32; omega) (by have a0 := oa7 i19a ro_30_0 ro_2_0 ((inv_F hIc17 0 32 rfl v17_32_1)) i24 i19 i27; have a7 := t_add e27 i19 (in_c 1 rfl) rfl; have a8 := oa2 ((in_c 1 rfl)) i24b; have oc := oc_134_1_32; omega) (hFc17.1 30 rfl) (by rw [← e_2_0]; have a0 := oa7 i19a ro_30_0 ro_2_0 ((inv_F hIc17 0 32 rfl v17_32_1)) i24 i19 i27; have a7 := t_add e27 i19 (in_c 1 rfl) rfl; have a8 := oa2 ((in_c 1 rfl)) i24b; have oc := oc_134_1_32; omega) p24c
        have n17d : TQD s → TQD s24 := by exact fun h => p24d (g17_2 h)
        exact gg_w (by first | exact Nat.le_add_right _ _ | exact gw2 | exact gw3 | exact gwe rfl | exact gwf rfl | exact gwg rfl | exact gwh rfl | omega) (gg_f (gf_cons rfl (gf_cons rfl (gf_cons rfl (gf_cons rfl gf_nil)))) (ih17 s24 z27 z24a _ hI24 (fr_tr rfl hFc17 hF24) (in_w 0 4000 i27 rfl) e24 rfl n17 n17a n17b n17c n17d (m_up mm17 (t_add e27 i19 (in_c 1 rfl) rfl) (in_w 1 1 (in_c 1 rfl) rfl))))
  refine g_enter2 (k := 134) (N := 3601801) (by first | exact dq1 hd rfl | exact dq0 hd rfl | exact dq2 hd rfl | exact dq3 hd rfl | omega) rfl (Nat.le_of_ble_eq_true rfl) ?_
  refine g_iload_n 1 (gd rfl) rfl rfl ?_
  refine g_aload_n 2 (gd rfl) rfl rfl ?_
  refine g_getI 5 (gd rfl) rfl rfl rfl (fun z2 e2 => ?_)
  have q2 : u_32_0 = z2 := (e_32_0).trans e2.symm
  subst q2
  refine g_cmp_ge 8 12 (gd rfl) rfl rfl (fun c5 => ?_) (fun c5 => ?_)
  · skip
    refine g_aload_n 13 (gd rfl) rfl rfl ?_
    refine g_getI 16 (gd rfl) rfl rfl rfl (fun z13 e13 => ?_)
    have q13 : u_32_0 = z13 := (e_32_0).trans e13.symm
    subst q13
    refine g_istore_n 17 (gd rfl) rfl (Nat.le_of_ble_eq_true rfl) ?_
    have n17 : (u_32_0).toInt = (u_32_0).toInt := by have a0 := oa5 ((inv_F hI 448 28000 rfl e_30_0)) ((inv_F hI 0 4000 rfl e_2_0)) ((inv_F hI 0 32 rfl e_32_1)) ((inv_F hI 0 4000 rfl e_32_0)) h2; have oc := oc_134_1_32; omega
    have n17a : (u_32_0).toInt ≤ (x2).toInt := by have a0 := oa5 ((inv_F hI 448 28000 rfl e_30_0)) ((inv_F hI 0 4000 rfl e_2_0)) ((inv_F hI 0 32 rfl e_32_1)) ((inv_F hI 0 4000 rfl e_32_0)) h2; have oc := oc_134_1_32; omega
    have n17b : KV s 32 := by exact q_0.2.2.2.2
    have n17c : SHD s s (u_32_0).toInt.toNat := by exact shq_r (by rw [e_32_0])
    have n17d : TQD s → TQD s := by exact id
    exact gg_w (by first | exact Nat.le_of_ble_eq_true rfl | omega) (gg_f (gf_cons rfl (gf_cons rfl (gf_cons rfl (gf_cons rfl gf_nil)))) (ct17 4001 s u_32_0 u_32_0 u_32_1 hI fr_rf (in_w 0 4000 (inv_F hI 0 4000 rfl e_32_0) rfl) e_32_0 e_32_1 n17 n17a n17b n17c n17d (m_in 4001 (in_w 0 4000 (inv_F hI 0 4000 rfl e_32_0) rfl) rfl)))
  · skip
    have i5 := r_lt1 0 3999 c5 h2 (inv_F hI 0 4000 rfl e_32_0) rfl
    have i5a := r_lt2 1 4000 c5 h2 (inv_F hI 0 4000 rfl e_32_0) rfl
    refine g_aload_n 9 (gd rfl) rfl rfl ?_
    refine g_callv (X := _) (As := []) (r := []) (b := A 32) (q := 32) 12 (gd rfl) rfl rfl rfl rfl rfl (ww_o rfl) (Nat.le_of_ble_eq_true rfl) (Nat.zero_le _) (Nat.zero_le _) (f_92_32 (by first | exact dq1 hd rfl | exact dq0 hd rfl | exact dq2 hd rfl | exact dq3 hd rfl | omega) hI ) (fun e u h => h) (fun v u h => ?_)
    obtain ⟨s9, hI9, hF9, n9, rfl, rfl, p9, p9a, p9b⟩ := h
    obtain ⟨z9a, e9⟩ : ∃ w, w = s9.2.2.1 32 0 := ⟨_, rfl⟩
    have i9a := inv_F hI9 0 4000 rfl e9
    rw [← (show z9a = s9.2.2.1 32 0 from e9)] at n9
    show GG _ _ _ _ _ _ _ _ [] _ _ _
    refine g_aload_n 13 (gd rfl) rfl rfl ?_
    refine g_getI 16 (gd rfl) rfl rfl rfl (fun z13 e13 => ?_)
    have q13 : z9a = z13 := (e9).trans e13.symm
    subst q13
    refine g_istore_n 17 (gd rfl) rfl (Nat.le_of_ble_eq_true rfl) ?_
    have n17 : (z9a).toInt = (z9a).toInt := by have a0 := oa6 ((inv_F hI 448 28000 rfl e_30_0)) ((inv_F hI 0 4000 rfl e_2_0)) ((inv_F hI 0 32 rfl e_32_1)) i5a i5 i9a; have oc := oc_134_1_32; omega
    have n17a : (z9a).toInt ≤ (x2).toInt := by have a0 := oa6 ((inv_F hI 448 28000 rfl e_30_0)) ((inv_F hI 0 4000 rfl e_2_0)) ((inv_F hI 0 32 rfl e_32_1)) i5a i5 i9a; have oc := oc_134_1_32; omega
    have n17b : KV s9 32 := by exact p9
    have n17c : SHD s s9 (z9a).toInt.toNat := by exact shq_0 p9a (by have a0 := oa6 ((inv_F hI 448 28000 rfl e_30_0)) ((inv_F hI 0 4000 rfl e_2_0)) ((inv_F hI 0 32 rfl e_32_1)) i5a i5 i9a; have oc := oc_134_1_32; omega)
    have n17d : TQD s → TQD s9 := by exact fun _ => p9b
    exact gg_w (by first | exact Nat.le_of_ble_eq_true rfl | omega) (gg_f (gf_cons rfl (gf_cons rfl (gf_cons rfl (gf_cons rfl gf_nil)))) (ct17 4001 s9 z9a z9a _ hI9 (fr_tr rfl fr_rf hF9) (in_w 0 4000 i9a rfl) e9 rfl n17 n17a n17b n17c n17d (m_in 4001 (in_w 0 4000 i9a rfl) rfl)))

theorem oc_217_0 : (Int32.ofInt (-1)).toInt = (-1) ∧ (Int32.ofInt 0).toInt = 0 ∧ (Int32.ofInt 1).toInt = 1 := ⟨rfl, rfl, rfl⟩
/-- GraphHouse.view -/
theorem f_217_0 {Z : AmZ} {A : Nat → Nat} {s : GS} {ex : va_W} {d : Nat} {x1 : Int32} {u_2_0 : Int32} {u_32_0 : Int32} {u_32_1 : Int32} {u_30_0 : Int32} (hd : 7 ≤ d) (hI : Inv s) (e_2_0 : u_2_0 = s.2.2.1 2 0) (e_32_0 : u_32_0 = s.2.2.1 32 0) (e_32_1 : u_32_1 = s.2.2.1 32 1) (e_30_0 : u_30_0 = s.2.2.1 30 0) (p_0 : 7 * (u_2_0).toInt ≤ (u_30_0).toInt) (q_0 : KL s) : GC Z d 217 [.ref (A 0), .int x1] (WW Z A s ++ ex) 3 18 (fun v u => ∃ t : GS, Inv t ∧ Fr fm_217_0 s t ∧ ∃ z : Int32, v = some (.int z) ∧ u = WW Z A t ++ ex ∧ In z 0 4000 ∧ (KL t) ∧ ((-1 ≤ (x1).toInt ∧ (x1).toInt ≤ (s.2.2.1 2 0).toInt) ∧ (z) = (if (x1).toInt < 0 then s.2.2.1 2 0 else (x1))) ∧ (VWD s t x1) ∧ (TQD s → TQD t)) (gEx Z A ex ([], [], [], []) s (¬ (-1 ≤ x1.toInt ∧ x1.toInt ≤ (s.2.2.1 2 0).toInt)) (False)) := by
  intro post xp hP hX
  have ro_2_0 := inv_F hI 0 4000 rfl e_2_0
  have ro_30_0 := inv_F hI 448 28000 rfl e_30_0
  refine g_enter2 (k := 217) (N := 900) (by first | exact dq1 hd rfl | exact dq0 hd rfl | exact dq2 hd rfl | exact dq3 hd rfl | omega) rfl (Nat.le_of_ble_eq_true rfl) ?_
  refine g_iload_n 1 (gd rfl) rfl rfl ?_
  refine g_iconst (-1) 2 (gd rfl) rfl rfl ?_
  refine g_cmp_lt 5 23 (gd rfl) rfl rfl (fun c2 => ?_) (fun c2 => ?_)
  · skip
    have i2 := r_lt1 (-2147483648) (-2) c2 (i_rng x1) (in_c (-1) rfl) rfl
    refine g_iconst 0 24 (gd rfl) rfl rfl ?_
    refine g_thr (E := am_IA) (y := yX11_allow) 27 (gd rfl) rfl rfl (Or.inl ⟨rfl, rfl, rfl⟩) (by first | exact dq1 hd rfl | exact dq0 hd rfl | exact dq2 hd rfl | exact dq3 hd rfl | omega) (Nat.le_of_ble_eq_true rfl) (Nat.le_of_ble_eq_true rfl) (Nat.le_of_ble_eq_true rfl) (fun c24 => ?_) (fun c24 => ?_)
    · skip
      exact zn_ne c24 (in_c 0 rfl) rfl
    · skip
      have n24 : ¬ (-1 ≤ x1.toInt ∧ x1.toInt ≤ (s.2.2.1 2 0).toInt) := by rw [← e_2_0]; have a0 := oa5 ((inv_F hI 448 28000 rfl e_30_0)) ((inv_F hI 0 32 rfl e_32_1)) ((inv_F hI 0 4000 rfl e_32_0)) ((inv_F hI 0 4000 rfl e_2_0)) i2; have oc := oc_217_0; omega
      exact (hX _ _ ⟨Or.inl ⟨rfl, n24⟩, s, hI, fr_rf, rfl⟩)
  · skip
    have i2 := r_le2 (-1) 2147483647 c2 (in_c (-1) rfl) (i_rng x1) rfl
    refine g_iload_n 6 (gd rfl) rfl rfl ?_
    refine g_aload_n 7 (gd rfl) rfl rfl ?_
    refine g_getA (q2 := 1) 10 (gd rfl) rfl rfl rfl rfl ?_
    refine g_getA (q2 := 2) 13 (gd rfl) rfl rfl rfl rfl ?_
    refine g_getI 16 (gd rfl) rfl rfl rfl (fun z13 e13 => ?_)
    have q13 : u_2_0 = z13 := (e_2_0).trans e13.symm
    subst q13
    refine g_cmp_gt 19 23 (gd rfl) rfl rfl (fun c16 => ?_) (fun c16 => ?_)
    · skip
      have i16 := r_lt2 1 2147483647 c16 (inv_F hI 0 4000 rfl e_2_0) i2 rfl
      refine g_iconst 0 24 (gd rfl) rfl rfl ?_
      refine g_thr (E := am_IA) (y := yX11_allow) 27 (gd rfl) rfl rfl (Or.inl ⟨rfl, rfl, rfl⟩) (by first | exact dq1 hd rfl | exact dq0 hd rfl | exact dq2 hd rfl | exact dq3 hd rfl | omega) (Nat.le_of_ble_eq_true rfl) (Nat.le_of_ble_eq_true rfl) (Nat.le_of_ble_eq_true rfl) (fun c24 => ?_) (fun c24 => ?_)
      · skip
        exact zn_ne c24 (in_c 0 rfl) rfl
      · skip
        have n24 : ¬ (-1 ≤ x1.toInt ∧ x1.toInt ≤ (s.2.2.1 2 0).toInt) := by rw [← e_2_0]; have a0 := oa5 ((inv_F hI 448 28000 rfl e_30_0)) ((inv_F hI 0 32 rfl e_32_1)) ((inv_F hI 0 4000 rfl e_32_0)) ((inv_F hI 0 4000 rfl e_2_0)) i16; have oc := oc_217_0; omega
        exact (hX _ _ ⟨Or.inl ⟨rfl, n24⟩, s, hI, fr_rf, rfl⟩)
    · skip
      have i16 := r_le1 (-1) 4000 c16 i2 (inv_F hI 0 4000 rfl e_2_0) rfl
      refine g_iconst 1 20 (gd rfl) rfl rfl ?_
      refine g_goto 24 (gd rfl) rfl ?_
      refine g_thr (E := am_IA) (y := yX11_allow) 27 (gd rfl) rfl rfl (Or.inl ⟨rfl, rfl, rfl⟩) (by first | exact dq1 hd rfl | exact dq0 hd rfl | exact dq2 hd rfl | exact dq3 hd rfl | omega) (Nat.le_of_ble_eq_true rfl) (Nat.le_of_ble_eq_true rfl) (Nat.le_of_ble_eq_true rfl) (fun c24 => ?_) (fun c24 => ?_)
      · skip
        refine g_aload_n 28 (gd rfl) rfl rfl ?_
        refine g_iload_n 29 (gd rfl) rfl rfl ?_
        refine g_putI 32 (gd rfl) rfl rfl rfl rfl ?_
        have hI29 := inv_sF (q := 0) (j := 2) hI rfl (in_w (-1) 4000 i16 rfl)
        refine g_iload_n 33 (gd rfl) rfl rfl ?_
        refine g_iconst (-1) 34 (gd rfl) rfl rfl ?_
        refine g_cmp_eq 37 49 (gd rfl) rfl rfl (fun c34 => ?_) (fun c34 => ?_)
        · skip
          have i34 := r_eq1 (-1) (-1) c34 i16 (in_c (-1) rfl) rfl
          refine g_aload_n 50 (gd rfl) rfl rfl ?_
          refine g_callv (X := _) (As := []) (r := []) (b := A 0) (q := 0) 53 (gd rfl) rfl rfl rfl rfl rfl (ww_o rfl) (Nat.le_of_ble_eq_true rfl) (mc := 0) (ms := 0) (Nat.zero_le _) (Nat.zero_le _) (P := fun v u => _) ?_ (fun e u h => h) (fun v u h => h)
          intro po50 xx50 hp50 hx50
          refine g_enter2 (k := 259) (N := 300) (by first | exact dq1 hd rfl | exact dq0 hd rfl | exact dq2 hd rfl | exact dq3 hd rfl | omega) rfl (Nat.le_of_ble_eq_true rfl) ?_
          refine g_aload_n 1 (gd rfl) rfl rfl ?_
          refine g_getI 4 (gd rfl) rfl rfl rfl (fun z50x1 e50x1 => ?_)
          have q50x1 : x1 = z50x1 := (sF_get).trans e50x1.symm
          subst q50x1
          refine g_iconst (-1) 5 (gd rfl) rfl rfl ?_
          refine g_cmp_ne 8 18 (gd rfl) rfl rfl (fun c50x5 => ?_) (fun c50x5 => ?_)
          · skip
            exact n_ne c50x5 i34 (in_c (-1) rfl) rfl
          · skip
            refine g_aload_n 9 (gd rfl) rfl rfl ?_
            refine g_getA (q2 := 1) 12 (gd rfl) rfl rfl rfl rfl ?_
            refine g_getA (q2 := 2) 15 (gd rfl) rfl rfl rfl rfl ?_
            refine g_goto 22 (gd rfl) rfl ?_
            refine g_areturn (gd rfl) rfl (hp50 _ _ ?_)
            show GG _ _ _ _ _ _ _ _ [.ref (A 2)] _ _ _
            refine g_getI 56 (gd rfl) rfl rfl rfl (fun z53 e53 => ?_)
            have q53 : u_2_0 = z53 := (sF_ne rfl (e_2_0)).trans e53.symm
            subst q53
            have n56 : KL (sF s 0 2 x1) := by exact kl_fr q_0 (show Fr ([], [], [(0, 2)], []) s (sF s 0 2 x1) from (fr_sF rfl fr_rf)) rfl
            have n56a : (-1 ≤ (x1).toInt ∧ (x1).toInt ≤ (s.2.2.1 2 0).toInt) ∧ (u_2_0) = (if (x1).toInt < 0 then s.2.2.1 2 0 else (x1)) := by exact ⟨⟨by have a0 := oa5 i34 ((inv_F hI 448 28000 rfl e_30_0)) ((inv_F hI 0 32 rfl e_32_1)) ((inv_F hI 0 4000 rfl e_32_0)) ((inv_F hI 0 4000 rfl e_2_0)); have oc := oc_217_0; omega, by rw [← e_2_0]; have a0 := oa5 i34 ((inv_F hI 448 28000 rfl e_30_0)) ((inv_F hI 0 32 rfl e_32_1)) ((inv_F hI 0 4000 rfl e_32_0)) ((inv_F hI 0 4000 rfl e_2_0)); have oc := oc_217_0; omega⟩, by rw [if_pos (by have a0 := oa5 i34 ((inv_F hI 448 28000 rfl e_30_0)) ((inv_F hI 0 32 rfl e_32_1)) ((inv_F hI 0 4000 rfl e_32_0)) ((inv_F hI 0 4000 rfl e_2_0)); have oc := oc_217_0; omega)]; exact e_2_0⟩
            have n56b : VWD s (sF s 0 2 x1) x1 := by exact ⟨sF_get.symm, fun _ => gvD_fr (L := ([], [], [(0, 2)], [])) (fr_sF rfl fr_rf) rfl, fun h => (by exfalso; have a0 := oa5 i34 ((inv_F hI 448 28000 rfl e_30_0)) ((inv_F hI 0 32 rfl e_32_1)) ((inv_F hI 0 4000 rfl e_32_0)) ((inv_F hI 0 4000 rfl e_2_0)); have oc := oc_217_0; omega)⟩
            have n56c : TQD s → TQD (sF s 0 2 x1) := by exact fun h => tqd_fr (L := ([], [], [(0, 2)], [])) h (fr_sF rfl fr_rf) rfl
            exact g_ireturn (gd rfl) rfl rfl (hP _ _ ⟨(sF s 0 2 x1), hI29, (fr_sF rfl fr_rf), u_2_0, rfl, rfl, in_w 0 4000 (inv_F hI 0 4000 rfl e_2_0) rfl, n56, n56a, n56b, n56c⟩)
        · skip
          have i34 := r_ne1 0 4000 c34 i16 (in_c (-1) rfl) rfl
          refine g_aload_n 38 (gd rfl) rfl rfl ?_
          refine g_getA (q2 := 1) 41 (gd rfl) rfl rfl rfl rfl ?_
          refine g_aload_n 42 (gd rfl) rfl rfl ?_
          refine g_getA (q2 := 32) 45 (gd rfl) rfl rfl rfl rfl ?_
          refine g_iload_n 46 (gd rfl) rfl rfl ?_
          have v46 : u_32_0 = (sF s 0 2 x1).2.2.1 32 0 := sF_ne rfl (e_32_0)
          have v46a : u_32_1 = (sF s 0 2 x1).2.2.1 32 1 := sF_ne rfl (e_32_1)
          have v46b : u_2_0 = (sF s 0 2 x1).2.2.1 2 0 := sF_ne rfl (e_2_0)
          have v46c : u_30_0 = (sF s 0 2 x1).2.2.1 30 0 := sF_ne rfl (e_30_0)
          have n46 : (x1).toInt ≤ (u_2_0).toInt := by have a0 := oa5 i34 ((inv_F hI 448 28000 rfl e_30_0)) ((inv_F hI 0 32 rfl e_32_1)) ((inv_F hI 0 4000 rfl e_32_0)) ((inv_F hI 0 4000 rfl e_2_0)); have oc := oc_217_0; omega
          have n46a : 7 * (u_2_0).toInt ≤ (u_30_0).toInt := by have a0 := oa5 i34 ((inv_F hI 448 28000 rfl e_30_0)) ((inv_F hI 0 32 rfl e_32_1)) ((inv_F hI 0 4000 rfl e_32_0)) ((inv_F hI 0 4000 rfl e_2_0)); have oc := oc_217_0; omega
          have p46 : KL (sF s 0 2 x1) := by exact kl_fr q_0 (show Fr ([], [], [(0, 2)], []) s (sF s 0 2 x1) from (fr_sF rfl fr_rf)) rfl
          refine g_callv (X := _) (As := [.ref (A 32), .int x1]) (r := []) (b := A 1) (q := 1) 49 (gd rfl) rfl rfl rfl rfl rfl (ww_o rfl) (Nat.le_of_ble_eq_true rfl) (Nat.zero_le _) (Nat.zero_le _) (f_134_1_32 (by first | exact dq1 hd rfl | exact dq0 hd rfl | exact dq2 hd rfl | exact dq3 hd rfl | omega) hI29 (in_w 0 4000 i34 rfl) v46 v46a v46b v46c n46 n46a p46) (fun e u h => h) (fun v u h => ?_)
          obtain ⟨s46, hI46, hF46, rfl, rfl, p46a, p46b, p46c, p46d⟩ := h
          show GG _ _ _ _ _ _ _ _ [] _ _ _
          refine g_aload_n 50 (gd rfl) rfl rfl ?_
          refine g_callv (X := _) (As := []) (r := []) (b := A 0) (q := 0) 53 (gd rfl) rfl rfl rfl rfl rfl (ww_o rfl) (Nat.le_of_ble_eq_true rfl) (mc := 0) (ms := 0) (Nat.zero_le _) (Nat.zero_le _) (P := fun v u => _) ?_ (fun e u h => h) (fun v u h => h)
          intro po50 xx50 hp50 hx50
          refine g_enter2 (k := 259) (N := 300) (by first | exact dq1 hd rfl | exact dq0 hd rfl | exact dq2 hd rfl | exact dq3 hd rfl | omega) rfl (Nat.le_of_ble_eq_true rfl) ?_
          refine g_aload_n 1 (gd rfl) rfl rfl ?_
          refine g_getI 4 (gd rfl) rfl rfl rfl (fun z50x1 e50x1 => ?_)
          have q50x1 : x1 = z50x1 := (fr_F (s := (sF s 0 2 x1)) (sF_get) hF46 rfl).trans e50x1.symm
          subst q50x1
          refine g_iconst (-1) 5 (gd rfl) rfl rfl ?_
          refine g_cmp_ne 8 18 (gd rfl) rfl rfl (fun c50x5 => ?_) (fun c50x5 => ?_)
          · skip
            refine g_aload_n 19 (gd rfl) rfl rfl ?_
            refine g_getA (q2 := 32) 22 (gd rfl) rfl rfl rfl rfl ?_
            refine g_areturn (gd rfl) rfl (hp50 _ _ ?_)
            show GG _ _ _ _ _ _ _ _ [.ref (A 32)] _ _ _
            refine g_getI 56 (gd rfl) rfl rfl rfl (fun z53 e53 => ?_)
            have i53 := inv_F hI46 0 4000 rfl e53
            have n56 : KL s46 := by exact p46a
            have n56a : (-1 ≤ (x1).toInt ∧ (x1).toInt ≤ (s.2.2.1 2 0).toInt) ∧ (z53) = (if (x1).toInt < 0 then s.2.2.1 2 0 else (x1)) := by exact ⟨⟨by have a0 := oa6 i34 ((inv_F hI 448 28000 rfl e_30_0)) ((inv_F hI 0 32 rfl e_32_1)) ((inv_F hI 0 4000 rfl e_32_0)) ((inv_F hI 0 4000 rfl e_2_0)) i53; have oc := oc_217_0; omega, by rw [← e_2_0]; have a0 := oa6 i34 ((inv_F hI 448 28000 rfl e_30_0)) ((inv_F hI 0 32 rfl e_32_1)) ((inv_F hI 0 4000 rfl e_32_0)) ((inv_F hI 0 4000 rfl e_2_0)) i53; have oc := oc_217_0; omega⟩, by rw [if_neg (by have a0 := oa6 i34 ((inv_F hI 448 28000 rfl e_30_0)) ((inv_F hI 0 32 rfl e_32_1)) ((inv_F hI 0 4000 rfl e_32_0)) ((inv_F hI 0 4000 rfl e_2_0)) i53; have oc := oc_217_0; omega)]; exact i_eq.mpr (by rw [e53]; exact p46b)⟩
            have n56b : VWD s s46 x1 := by exact ⟨(hF46.2.2.1 0 2 rfl).trans sF_get.symm, fun h => (by exfalso; have a0 := oa6 i34 ((inv_F hI 448 28000 rfl e_30_0)) ((inv_F hI 0 32 rfl e_32_1)) ((inv_F hI 0 4000 rfl e_32_0)) ((inv_F hI 0 4000 rfl e_2_0)) i53; have oc := oc_217_0; omega), fun _ => ⟨shd_fr (L := ([], [], [(0, 2)], [])) p46c (fr_sF rfl fr_rf) rfl rfl, i_eq.mpr p46b⟩⟩
            have n56c : TQD s → TQD s46 := by exact fun h => p46d (tqd_cg h rfl rfl)
            exact g_ireturn (gd rfl) rfl rfl (hP _ _ ⟨s46, hI46, (fr_tr rfl (fr_sF rfl fr_rf) hF46), z53, rfl, rfl, in_w 0 4000 i53 rfl, n56, n56a, n56b, n56c⟩)
          · skip
            exact absurd c50x5 c34
      · skip
        exact zn_eq c24 (in_c 1 rfl) rfl

theorem oc_276_109 : (Int32.ofInt (-1)).toInt = (-1) ∧ (Int32.ofInt 0).toInt = 0 ∧ (Int32.ofInt 1).toInt = 1 ∧ (Int32.ofInt 160).toInt = 160 := ⟨rfl, rfl, rfl, rfl⟩
/-- GraphHouseModel.look -/
theorem f_276 {Z : AmZ} {A : Nat → Nat} {s : GS} {ex : va_W} {d : Nat} {X : AmX}  (hd : 1 ≤ d) (hI : Rng s) (q_0 : In (s.1 110 0) 0 32 ∧ In (s.1 110 1) 0 32) : GC Z d 276 [.ref (A 109)] (WW Z A s ++ ex) 0 0 (fun v u => ∃ t : GS, Rng t ∧ Fr fm_276 s t ∧ v = none ∧ u = WW Z A t ++ ex ∧ ((t.2.2.1 109 19).toInt = 160 * (t.2.2.1 109 18).toInt ∧ t.2.2.1 109 20 = t.1 110 (t.2.2.1 109 18).toNatClampNeg) ∧ (GSE t)) X := by
  intro post xp hP hX
  obtain ⟨u_109_17, e_109_17⟩ : ∃ w, w = s.2.2.1 109 17 := ⟨_, rfl⟩
  have ro_109_17 := rng_F hI (-1) 4000 rfl e_109_17
  refine g_enter2 (k := 276) (N := 900) (by first | exact dq1 hd rfl | exact dq0 hd rfl | exact dq2 hd rfl | exact dq3 hd rfl | omega) rfl (Nat.le_of_ble_eq_true rfl) ?_
  refine g_aload_n 1 (gd rfl) rfl rfl ?_
  refine g_aload_n 2 (gd rfl) rfl rfl ?_
  refine g_getI 5 (gd rfl) rfl rfl rfl (fun z2 e2 => ?_)
  have q2 : u_109_17 = z2 := (e_109_17).trans e2.symm
  subst q2
  refine g_if_ge 8 12 (gd rfl) rfl rfl (fun c5 => ?_) (fun c5 => ?_)
  · skip
    have i5 := z_ge 0 4000 c5 ro_109_17 rfl
    refine g_iconst 1 13 (gd rfl) rfl rfl ?_
    refine g_putI 16 (gd rfl) rfl rfl rfl rfl ?_
    have hI13 := rng_sF (q := 109) (j := 18) hI rfl (in_w 0 1 (in_c 1 rfl) rfl)
    refine g_aload_n 17 (gd rfl) rfl rfl ?_
    refine g_sipush 160 20 (gd rfl) rfl rfl ?_
    refine g_aload_n 21 (gd rfl) rfl rfl ?_
    refine g_getI 24 (gd rfl) rfl rfl rfl (fun z21 e21 => ?_)
    have q21 : (Int32.ofInt 1) = z21 := (sF_get).trans e21.symm
    subst q21
    refine g_imul 25 (gd rfl) rfl (fun z24 e24 => ?_)
    have i24 := in_mulc 160 160 160 (Or.inl e24) (in_c 1 rfl) rfl rfl
    refine g_putI 28 (gd rfl) rfl rfl rfl rfl ?_
    have hI25 := rng_sF (q := 109) (j := 19) hI13 rfl (in_w 0 160 i24 rfl)
    refine g_aload_n 29 (gd rfl) rfl rfl ?_
    refine g_aload_n 30 (gd rfl) rfl rfl ?_
    refine g_getA (q2 := 110) 33 (gd rfl) rfl rfl rfl rfl ?_
    refine g_aload_n 34 (gd rfl) rfl rfl ?_
    refine g_getI 37 (gd rfl) rfl rfl rfl (fun z34 e34 => ?_)
    have q34 : (Int32.ofInt 1) = z34 := (sF_ne rfl (sF_get)).trans e34.symm
    subst q34
    refine g_iaload 38 (gd rfl) rfl (n := 3) rfl (in_ix (in_c 1 rfl) rfl) (fun z37 e37 => ?_)
    have i38 : In z37 0 32 := by first | (rw [e37]; exact q_0.1) | (rw [e37]; exact q_0.2)
    refine g_putI 41 (gd rfl) rfl rfl rfl rfl ?_
    have hI38 := rng_sF (q := 109) (j := 20) hI25 rfl (in_w 0 32 i38 rfl)
    have n41 : ((sF (sF (sF s 109 18 (Int32.ofInt 1)) 109 19 z24) 109 20 z37).2.2.1 109 19).toInt = 160 * ((sF (sF (sF s 109 18 (Int32.ofInt 1)) 109 19 z24) 109 20 z37).2.2.1 109 18).toInt ∧ (sF (sF (sF s 109 18 (Int32.ofInt 1)) 109 19 z24) 109 20 z37).2.2.1 109 20 = (sF (sF (sF s 109 18 (Int32.ofInt 1)) 109 19 z24) 109 20 z37).1 110 ((sF (sF (sF s 109 18 (Int32.ofInt 1)) 109 19 z24) 109 20 z37).2.2.1 109 18).toNatClampNeg := by rw [← (show z24 = (sF (sF (sF s 109 18 (Int32.ofInt 1)) 109 19 z24) 109 20 z37).2.2.1 109 19 from sF_ne rfl (sF_get)), ← (show (Int32.ofInt 1) = (sF (sF (sF s 109 18 (Int32.ofInt 1)) 109 19 z24) 109 20 z37).2.2.1 109 18 from sF_ne rfl (sF_ne rfl (sF_get))), ← (show z37 = (sF (sF (sF s 109 18 (Int32.ofInt 1)) 109 19 z24) 109 20 z37).2.2.1 109 20 from sF_get)]; exact ⟨(t_mulc 160 (Or.inl e24) (in_c _ rfl) rfl).1, e37⟩
    have n41a : GSE (sF (sF (sF s 109 18 (Int32.ofInt 1)) 109 19 z24) 109 20 z37) := by exact gse_i (a := (Int32.ofInt 1)) (b := u_109_17) (show (Int32.ofInt 1) = (sF (sF (sF s 109 18 (Int32.ofInt 1)) 109 19 z24) 109 20 z37).2.2.1 109 18 from sF_ne rfl (sF_ne rfl (sF_get))) (show u_109_17 = (sF (sF (sF s 109 18 (Int32.ofInt 1)) 109 19 z24) 109 20 z37).2.2.1 109 17 from sF_ne rfl (sF_ne rfl (sF_ne rfl (e_109_17)))) (by have a0 := oa3 i5 i38 i24; have a3 := (t_mulc 160 (Or.inl e24) (in_c 1 rfl) rfl).1; have a4 := in_u ((in_c 1 rfl)); have oc := oc_276_109; omega)
    exact g_return (gd rfl) rfl (hP _ _ ⟨(sF (sF (sF s 109 18 (Int32.ofInt 1)) 109 19 z24) 109 20 z37), hI38, (fr_sF rfl (fr_sF rfl (fr_sF rfl fr_rf))), rfl, rfl, n41, n41a⟩)
  · skip
    have i5 := z_lt (-1) (-1) c5 ro_109_17 rfl
    refine g_iconst 0 9 (gd rfl) rfl rfl ?_
    refine g_goto 13 (gd rfl) rfl ?_
    refine g_putI 16 (gd rfl) rfl rfl rfl rfl ?_
    have hI13 := rng_sF (q := 109) (j := 18) hI rfl (in_w 0 1 (in_c 0 rfl) rfl)
    refine g_aload_n 17 (gd rfl) rfl rfl ?_
    refine g_sipush 160 20 (gd rfl) rfl rfl ?_
    refine g_aload_n 21 (gd rfl) rfl rfl ?_
    refine g_getI 24 (gd rfl) rfl rfl rfl (fun z21 e21 => ?_)
    have q21 : (Int32.ofInt 0) = z21 := (sF_get).trans e21.symm
    subst q21
    refine g_imul 25 (gd rfl) rfl (fun z24 e24 => ?_)
    have i24 := in_mulc 160 0 0 (Or.inl e24) (in_c 0 rfl) rfl rfl
    refine g_putI 28 (gd rfl) rfl rfl rfl rfl ?_
    have hI25 := rng_sF (q := 109) (j := 19) hI13 rfl (in_w 0 160 i24 rfl)
    refine g_aload_n 29 (gd rfl) rfl rfl ?_
    refine g_aload_n 30 (gd rfl) rfl rfl ?_
    refine g_getA (q2 := 110) 33 (gd rfl) rfl rfl rfl rfl ?_
    refine g_aload_n 34 (gd rfl) rfl rfl ?_
    refine g_getI 37 (gd rfl) rfl rfl rfl (fun z34 e34 => ?_)
    have q34 : (Int32.ofInt 0) = z34 := (sF_ne rfl (sF_get)).trans e34.symm
    subst q34
    refine g_iaload 38 (gd rfl) rfl (n := 3) rfl (in_ix (in_c 0 rfl) rfl) (fun z37 e37 => ?_)
    have i38 : In z37 0 32 := by first | (rw [e37]; exact q_0.1) | (rw [e37]; exact q_0.2)
    refine g_putI 41 (gd rfl) rfl rfl rfl rfl ?_
    have hI38 := rng_sF (q := 109) (j := 20) hI25 rfl (in_w 0 32 i38 rfl)
    have n41 : ((sF (sF (sF s 109 18 (Int32.ofInt 0)) 109 19 z24) 109 20 z37).2.2.1 109 19).toInt = 160 * ((sF (sF (sF s 109 18 (Int32.ofInt 0)) 109 19 z24) 109 20 z37).2.2.1 109 18).toInt ∧ (sF (sF (sF s 109 18 (Int32.ofInt 0)) 109 19 z24) 109 20 z37).2.2.1 109 20 = (sF (sF (sF s 109 18 (Int32.ofInt 0)) 109 19 z24) 109 20 z37).1 110 ((sF (sF (sF s 109 18 (Int32.ofInt 0)) 109 19 z24) 109 20 z37).2.2.1 109 18).toNatClampNeg := by rw [← (show z24 = (sF (sF (sF s 109 18 (Int32.ofInt 0)) 109 19 z24) 109 20 z37).2.2.1 109 19 from sF_ne rfl (sF_get)), ← (show (Int32.ofInt 0) = (sF (sF (sF s 109 18 (Int32.ofInt 0)) 109 19 z24) 109 20 z37).2.2.1 109 18 from sF_ne rfl (sF_ne rfl (sF_get))), ← (show z37 = (sF (sF (sF s 109 18 (Int32.ofInt 0)) 109 19 z24) 109 20 z37).2.2.1 109 20 from sF_get)]; exact ⟨(t_mulc 160 (Or.inl e24) (in_c _ rfl) rfl).1, e37⟩
    have n41a : GSE (sF (sF (sF s 109 18 (Int32.ofInt 0)) 109 19 z24) 109 20 z37) := by exact gse_i (a := (Int32.ofInt 0)) (b := u_109_17) (show (Int32.ofInt 0) = (sF (sF (sF s 109 18 (Int32.ofInt 0)) 109 19 z24) 109 20 z37).2.2.1 109 18 from sF_ne rfl (sF_ne rfl (sF_get))) (show u_109_17 = (sF (sF (sF s 109 18 (Int32.ofInt 0)) 109 19 z24) 109 20 z37).2.2.1 109 17 from sF_ne rfl (sF_ne rfl (sF_ne rfl (e_109_17)))) (by have a0 := oa3 i5 i38 i24; have a3 := (t_mulc 160 (Or.inl e24) (in_c 0 rfl) rfl).1; have a4 := in_u ((in_c 0 rfl)); have oc := oc_276_109; omega)
    exact g_return (gd rfl) rfl (hP _ _ ⟨(sF (sF (sF s 109 18 (Int32.ofInt 0)) 109 19 z24) 109 20 z37), hI38, (fr_sF rfl (fr_sF rfl (fr_sF rfl fr_rf))), rfl, rfl, n41, n41a⟩)

theorem oc_274_109 : (Int32.ofInt (-1)).toInt = (-1) ∧ (Int32.ofInt 0).toInt = 0 ∧ (Int32.ofInt 1).toInt = 1 := ⟨rfl, rfl, rfl⟩
/-- GraphHouseModel.make -/
theorem f_274 {Z : AmZ} {A : Nat → Nat} {s : GS} {ex : va_W} {d : Nat} {X : AmX} {x1 : Int32} {x2 : Int32} {x3 : Int32} {x4 : Int32} {x5 : Int32} {x6 : Int32} {x7 : Int32} {u_109_9 : Int32} (hd : 2 ≤ d) (hI : Inv s) (h1 : In x1 0 4) (h2 : In x2 0 159) (h3 : In x3 0 31) (h4 : In x4 (-1000000) 1000000) (h5 : In x5 (-1000000) 1000000) (h6 : In x6 0 1000000) (h7 : In x7 0 25) (e_109_9 : u_109_9 = s.2.2.1 109 9) (r_109_9 : In u_109_9 0 3999) (q_0 : MK s x1 x2 x3 x4) : GC Z d 274 [.ref (A 109), .int x1, .int x2, .int x3, .int x4, .int x5, .int x6, .int x7] (WW Z A s ++ ex) 0 0 (fun v u => ∃ t : GS, Inv t ∧ Fr fm_274 s t ∧ ((t.2.2.1 109 9).toInt = (s.2.2.1 109 9).toInt + 1) ∧ v = none ∧ u = WW Z A t ++ ex ∧ (PMK s t (x1).toInt (x2).toNatClampNeg) ∧ (MKP s t x1 x2 x3 x4 x5 x6 x7) ∧ (t.1 118 = upd (s.1 118) (s.2.2.1 109 9).toNatClampNeg x1 ∧ t.1 119 = upd (s.1 119) (s.2.2.1 109 9).toNatClampNeg x2 ∧ t.1 120 = upd (s.1 120) (s.2.2.1 109 9).toNatClampNeg x3 ∧ t.1 121 = upd (s.1 121) (s.2.2.1 109 9).toNatClampNeg x4 ∧ t.1 122 = upd (s.1 122) (s.2.2.1 109 9).toNatClampNeg x5 ∧ t.1 123 = upd (s.1 123) (s.2.2.1 109 9).toNatClampNeg x6 ∧ t.1 124 = upd (s.1 124) (s.2.2.1 109 9).toNatClampNeg x7) ∧ (GSE t) ∧ (G1S s t)) X := by
  intro post xp hP hX
  refine g_enter2 (k := 274) (N := 900) (by first | exact dq1 hd rfl | exact dq0 hd rfl | exact dq2 hd rfl | exact dq3 hd rfl | omega) rfl (Nat.le_of_ble_eq_true rfl) ?_
  refine g_aload_n 1 (gd rfl) rfl rfl ?_
  refine g_getA (q2 := 118) 4 (gd rfl) rfl rfl rfl rfl ?_
  refine g_aload_n 5 (gd rfl) rfl rfl ?_
  refine g_getI 8 (gd rfl) rfl rfl rfl (fun z5 e5 => ?_)
  have q5 : u_109_9 = z5 := (e_109_9).trans e5.symm
  subst q5
  refine g_iload_n 9 (gd rfl) rfl rfl ?_
  refine g_iastore 10 (gd rfl) rfl (n := 4000) rfl (in_ix r_109_9 rfl) ?_
  have hI9 := rng_sI (q := 118) (j := u_109_9.toNatClampNeg) hI.1 rfl (in_w 0 4 h1 rfl)
  refine g_aload_n 11 (gd rfl) rfl rfl ?_
  refine g_getA (q2 := 119) 14 (gd rfl) rfl rfl rfl rfl ?_
  refine g_aload_n 15 (gd rfl) rfl rfl ?_
  refine g_getI 18 (gd rfl) rfl rfl rfl (fun z15 e15 => ?_)
  have q15 : u_109_9 = z15 := (sI_F (e_109_9)).trans e15.symm
  subst q15
  refine g_iload_n 19 (gd rfl) rfl rfl ?_
  refine g_iastore 20 (gd rfl) rfl (n := 4000) rfl (in_ix r_109_9 rfl) ?_
  have hI19 := rng_sI (q := 119) (j := u_109_9.toNatClampNeg) hI9 rfl (in_w 0 159 h2 rfl)
  refine g_aload_n 21 (gd rfl) rfl rfl ?_
  refine g_getA (q2 := 120) 24 (gd rfl) rfl rfl rfl rfl ?_
  refine g_aload_n 25 (gd rfl) rfl rfl ?_
  refine g_getI 28 (gd rfl) rfl rfl rfl (fun z25 e25 => ?_)
  have q25 : u_109_9 = z25 := (sI_F (sI_F (e_109_9))).trans e25.symm
  subst q25
  refine g_iload_n 29 (gd rfl) rfl rfl ?_
  refine g_iastore 30 (gd rfl) rfl (n := 4000) rfl (in_ix r_109_9 rfl) ?_
  have hI29 := rng_sI (q := 120) (j := u_109_9.toNatClampNeg) hI19 rfl (in_w 0 31 h3 rfl)
  refine g_aload_n 31 (gd rfl) rfl rfl ?_
  refine g_getA (q2 := 121) 34 (gd rfl) rfl rfl rfl rfl ?_
  refine g_aload_n 35 (gd rfl) rfl rfl ?_
  refine g_getI 38 (gd rfl) rfl rfl rfl (fun z35 e35 => ?_)
  have q35 : u_109_9 = z35 := (sI_F (sI_F (sI_F (e_109_9)))).trans e35.symm
  subst q35
  refine g_iload 40 (gd rfl) rfl rfl ?_
  refine g_iastore 41 (gd rfl) rfl (n := 4000) rfl (in_ix r_109_9 rfl) ?_
  have hI40 := rng_sI (q := 121) (j := u_109_9.toNatClampNeg) hI29 rfl (in_w (-1000000) 1000000 h4 rfl)
  refine g_aload_n 42 (gd rfl) rfl rfl ?_
  refine g_getA (q2 := 122) 45 (gd rfl) rfl rfl rfl rfl ?_
  refine g_aload_n 46 (gd rfl) rfl rfl ?_
  refine g_getI 49 (gd rfl) rfl rfl rfl (fun z46 e46 => ?_)
  have q46 : u_109_9 = z46 := (sI_F (sI_F (sI_F (sI_F (e_109_9))))).trans e46.symm
  subst q46
  refine g_iload 51 (gd rfl) rfl rfl ?_
  refine g_iastore 52 (gd rfl) rfl (n := 4000) rfl (in_ix r_109_9 rfl) ?_
  have hI51 := rng_sI (q := 122) (j := u_109_9.toNatClampNeg) hI40 rfl (in_w (-1000000) 1000000 h5 rfl)
  refine g_aload_n 53 (gd rfl) rfl rfl ?_
  refine g_getA (q2 := 123) 56 (gd rfl) rfl rfl rfl rfl ?_
  refine g_aload_n 57 (gd rfl) rfl rfl ?_
  refine g_getI 60 (gd rfl) rfl rfl rfl (fun z57 e57 => ?_)
  have q57 : u_109_9 = z57 := (sI_F (sI_F (sI_F (sI_F (sI_F (e_109_9)))))).trans e57.symm
  subst q57
  refine g_iload 62 (gd rfl) rfl rfl ?_
  refine g_iastore 63 (gd rfl) rfl (n := 4000) rfl (in_ix r_109_9 rfl) ?_
  have hI62 := rng_sI (q := 123) (j := u_109_9.toNatClampNeg) hI51 rfl (in_w 0 1000000 h6 rfl)
  refine g_aload_n 64 (gd rfl) rfl rfl ?_
  refine g_getA (q2 := 124) 67 (gd rfl) rfl rfl rfl rfl ?_
  refine g_aload_n 68 (gd rfl) rfl rfl ?_
  refine g_getI 71 (gd rfl) rfl rfl rfl (fun z68 e68 => ?_)
  have q68 : u_109_9 = z68 := (sI_F (sI_F (sI_F (sI_F (sI_F (sI_F (e_109_9))))))).trans e68.symm
  subst q68
  refine g_iload 73 (gd rfl) rfl rfl ?_
  refine g_iastore 74 (gd rfl) rfl (n := 4000) rfl (in_ix r_109_9 rfl) ?_
  have hI73 := rng_sI (q := 124) (j := u_109_9.toNatClampNeg) hI62 rfl (in_w 0 25 h7 rfl)
  refine g_aload_n 75 (gd rfl) rfl rfl ?_
  refine g_aload_n 76 (gd rfl) rfl rfl ?_
  refine g_getI 79 (gd rfl) rfl rfl rfl (fun z76 e76 => ?_)
  have q76 : u_109_9 = z76 := (sI_F (sI_F (sI_F (sI_F (sI_F (sI_F (sI_F (e_109_9)))))))).trans e76.symm
  subst q76
  refine g_iconst 0 80 (gd rfl) rfl rfl ?_
  obtain ⟨u80, hu80⟩ : ∃ w, w = (sI (sI (sI (sI (sI (sI (sI s 118 u_109_9.toNatClampNeg x1) 119 u_109_9.toNatClampNeg x2) 120 u_109_9.toNatClampNeg x3) 121 u_109_9.toNatClampNeg x4) 122 u_109_9.toNatClampNeg x5) 123 u_109_9.toNatClampNeg x6) 124 u_109_9.toNatClampNeg x7) := ⟨_, rfl⟩
  have p80 : AQ (sI (sI (sI (sI (sI (sI (sI s 118 u_109_9.toNatClampNeg x1) 119 u_109_9.toNatClampNeg x2) 120 u_109_9.toNatClampNeg x3) 121 u_109_9.toNatClampNeg x4) 122 u_109_9.toNatClampNeg x5) 123 u_109_9.toNatClampNeg x6) 124 u_109_9.toNatClampNeg x7) (u_109_9).toNatClampNeg ((Int32.ofInt 0)).toNatClampNeg := by exact mk_aq hI q_0 e_109_9 rfl rfl rfl rfl rfl
  refine g_callv (X := _) (As := [.int u_109_9, .int (Int32.ofInt 0)]) (r := []) (b := A 109) (q := 109) 83 (gd rfl) rfl rfl rfl rfl rfl (ww_o rfl) (Nat.le_of_ble_eq_true rfl) (Nat.zero_le _) (Nat.zero_le _) (f_275 (by first | exact dq1 hd rfl | exact dq0 hd rfl | exact dq2 hd rfl | exact dq3 hd rfl | omega) hI73 (in_w 0 3999 r_109_9 rfl) (in_w 0 1 (in_c 0 rfl) rfl) p80) (fun e u h => h) (fun v u h => ?_)
  obtain ⟨s80, hI80, hF80, rfl, rfl, p80a, p80b, p80c⟩ := h
  show GG _ _ _ _ _ _ _ _ [] _ _ _
  refine g_aload_n 84 (gd rfl) rfl rfl ?_
  refine g_dup 85 (gd rfl) rfl rfl ?_
  refine g_getI 88 (gd rfl) rfl rfl rfl (fun z85 e85 => ?_)
  have q85 : u_109_9 = z85 := (fr_F (s := (sI (sI (sI (sI (sI (sI (sI s 118 u_109_9.toNatClampNeg x1) 119 u_109_9.toNatClampNeg x2) 120 u_109_9.toNatClampNeg x3) 121 u_109_9.toNatClampNeg x4) 122 u_109_9.toNatClampNeg x5) 123 u_109_9.toNatClampNeg x6) 124 u_109_9.toNatClampNeg x7)) (sI_F (sI_F (sI_F (sI_F (sI_F (sI_F (sI_F (e_109_9)))))))) hF80 rfl).trans e85.symm
  subst q85
  refine g_iconst 1 89 (gd rfl) rfl rfl ?_
  refine g_iadd 90 (gd rfl) rfl (fun z89 e89 => ?_)
  have i89 := in_add 1 4000 e89 r_109_9 (in_c 1 rfl) rfl rfl
  refine g_putI 93 (gd rfl) rfl rfl rfl rfl ?_
  have hI90 := rng_sF (q := 109) (j := 9) hI80 rfl (in_w 0 4000 i89 rfl)
  refine g_aload_n 94 (gd rfl) rfl rfl ?_
  have p94 : In ((sF s80 109 9 z89).1 110 0) 0 32 ∧ In ((sF s80 109 9 z89).1 110 1) 0 32 := by exact mk_nn hI p80 p80a rfl
  refine g_callv (X := _) (As := []) (r := []) (b := A 109) (q := 109) 97 (gd rfl) rfl rfl rfl rfl rfl (ww_o rfl) (Nat.le_of_ble_eq_true rfl) (Nat.zero_le _) (Nat.zero_le _) (f_276 (by first | exact dq1 hd rfl | exact dq0 hd rfl | exact dq2 hd rfl | exact dq3 hd rfl | omega) hI90 p94) (fun e u h => h) (fun v u h => ?_)
  obtain ⟨s94, hI94, hF94, rfl, rfl, p94a, p94b⟩ := h
  show GG _ _ _ _ _ _ _ _ [] _ _ _
  have hI97 : Inv s94 := by have hFF : Fr fm_274 s s94 := (fr_tr rfl (fr_sF rfl (fr_tr rfl (fr_sI rfl (fr_sI rfl (fr_sI rfl (fr_sI rfl (fr_sI rfl (fr_sI rfl (fr_sI rfl fr_rf))))))) hF80)) hF94); exact ⟨hI94, kk_g hI.2.1 hFF rfl rfl rfl rfl rfl, kk_g hI.2.2.1 hFF rfl rfl rfl rfl rfl, kk_s hI.2.2.2.1 hFF rfl, mk_kr hI e_109_9 r_109_9 p80 rfl rfl rfl rfl rfl rfl rfl rfl p80a (hF80.1 118 rfl) (hF80.1 119 rfl) (hF80.1 120 rfl) (hF80.1 121 rfl) (funext fun q => hF94.1 q rfl) (fr_F (s := sF s80 109 9 z89) sF_get hF94 rfl) (t_add e89 r_109_9 (in_c 1 rfl) rfl) p94a⟩
  have n97 : PMK s s94 (x1).toInt (x2).toNatClampNeg := by exact pmk_i p80 p80a p80b rfl rfl rfl rfl (funext fun q => hF94.1 q rfl)
  have n97a : MKP s s94 x1 x2 x3 x4 x5 x6 x7 := by have w0 : u80.1 118 (s.2.2.1 109 9).toNatClampNeg = x1 := (by rw [hu80, ← e_109_9]; simp [sI, upd]); have w1 : u80.1 119 (s.2.2.1 109 9).toNatClampNeg = x2 := (by rw [hu80, ← e_109_9]; simp [sI, upd]); have w2 : u80.1 120 (s.2.2.1 109 9).toNatClampNeg = x3 := (by rw [hu80, ← e_109_9]; simp [sI, upd]); have w3 : u80.1 121 (s.2.2.1 109 9).toNatClampNeg = x4 := (by rw [hu80, ← e_109_9]; simp [sI, upd]); have w4 : u80.1 122 (s.2.2.1 109 9).toNatClampNeg = x5 := (by rw [hu80, ← e_109_9]; simp [sI, upd]); have w5 : u80.1 123 (s.2.2.1 109 9).toNatClampNeg = x6 := (by rw [hu80, ← e_109_9]; simp [sI, upd]); have w6 : u80.1 124 (s.2.2.1 109 9).toNatClampNeg = x7 := (by rw [hu80, ← e_109_9]; simp [sI, upd]); exact mkp_i (pmk_i p80 p80a p80b rfl rfl rfl rfl (funext fun q => hF94.1 q rfl)) (by rw [← hu80, e_109_9] at p80c; exact p80c) w0 w1 w2 w3 w4 w5 w6 (by rw [hu80]; rfl) (by rw [hu80]; rfl) (by rw [hu80]; rfl) (by rw [hu80]; rfl) (by rw [hu80]; rfl) (by rw [hu80]; rfl) (by rw [hu80]; rfl) (by rw [hu80]; rfl) (funext fun q => hF94.1 q rfl) (by rw [← (show z89 = s94.2.2.1 109 9 from fr_F (s := (sF s80 109 9 z89)) (sF_get) hF94 rfl), ← e_109_9]; have a0 := oa9 r_109_9 h7 h6 h5 h4 h3 h2 h1 i89; have a9 := t_add e89 r_109_9 (in_c 1 rfl) rfl; have a10 := in_u ((in_c 1 rfl)); have oc := oc_274_109; omega)
  have n97b : s94.1 118 = upd (s.1 118) (s.2.2.1 109 9).toNatClampNeg x1 ∧ s94.1 119 = upd (s.1 119) (s.2.2.1 109 9).toNatClampNeg x2 ∧ s94.1 120 = upd (s.1 120) (s.2.2.1 109 9).toNatClampNeg x3 ∧ s94.1 121 = upd (s.1 121) (s.2.2.1 109 9).toNatClampNeg x4 ∧ s94.1 122 = upd (s.1 122) (s.2.2.1 109 9).toNatClampNeg x5 ∧ s94.1 123 = upd (s.1 123) (s.2.2.1 109 9).toNatClampNeg x6 ∧ s94.1 124 = upd (s.1 124) (s.2.2.1 109 9).toNatClampNeg x7 := by rw [← e_109_9]; exact ⟨(hF94.1 118 rfl).trans ((hF80.1 118 rfl).trans rfl), (hF94.1 119 rfl).trans ((hF80.1 119 rfl).trans rfl), (hF94.1 120 rfl).trans ((hF80.1 120 rfl).trans rfl), (hF94.1 121 rfl).trans ((hF80.1 121 rfl).trans rfl), (hF94.1 122 rfl).trans ((hF80.1 122 rfl).trans rfl), (hF94.1 123 rfl).trans ((hF80.1 123 rfl).trans rfl), (hF94.1 124 rfl).trans ((hF80.1 124 rfl).trans rfl)⟩
  have n97c : GSE s94 := by first | exact p94b | exact p94a | exact p94
  have n97d : G1S s s94 := by exact g1_mk p80 p80a p80c rfl h1 rfl h2 rfl rfl rfl rfl rfl rfl rfl rfl (funext fun q => hF94.1 q rfl)
  have n97e : (z89).toInt = (u_109_9).toInt + 1 := by have a0 := oa9 r_109_9 h7 h6 h5 h4 h3 h2 h1 i89; have a9 := t_add e89 r_109_9 (in_c 1 rfl) rfl; have a10 := in_u ((in_c 1 rfl)); have oc := oc_274_109; omega
  have n97f : (s94.2.2.1 109 9).toInt = (s.2.2.1 109 9).toInt + 1 := by have b0 : z89 = s94.2.2.1 109 9 := fr_F (s := (sF s80 109 9 z89)) (sF_get) hF94 rfl; first | (rw [← b0, ← e_109_9]; exact n97e) | (rw [← b0]; exact n97e)
  exact g_return (gd rfl) rfl (hP _ _ ⟨s94, hI97, (fr_tr rfl (fr_sF rfl (fr_tr rfl (fr_sI rfl (fr_sI rfl (fr_sI rfl (fr_sI rfl (fr_sI rfl (fr_sI rfl (fr_sI rfl fr_rf))))))) hF80)) hF94), n97f, rfl, rfl, n97, n97a, n97b, n97c, n97d⟩)

theorem oc_286_109 : (Int32.ofInt (-1)).toInt = (-1) ∧ (Int32.ofInt 0).toInt = 0 ∧ (Int32.ofInt 1).toInt = 1 ∧ (Int32.ofInt 160).toInt = 160 ∧ (Int64.ofInt (-1)).toInt = (-1) := ⟨rfl, rfl, rfl, rfl, rfl⟩
/-- GraphHouseModel.view -/
theorem f_286 {Z : AmZ} {A : Nat → Nat} {s : GS} {ex : va_W} {d : Nat} {X : AmX} {x1 : Int32} (hd : 4 ≤ d) (hI : Inv s)  : GC Z d 286 [.ref (A 109), .int x1] (WW Z A s ++ ex) 0 0 (fun v u => ∃ t : GS, Inv t ∧ Fr fm_286 s t ∧ ∃ z : Int32, v = some (.int z) ∧ u = WW Z A t ++ ex ∧ In z 0 4000 ∧ (GEQ (gvR t) (gvR s)) ∧ (VWQ s t x1 z) ∧ (VW1 s t x1) ∧ (GSE s → GSE t)) X := by
  intro post xp hP hX
  obtain ⟨u_109_9, e_109_9⟩ : ∃ w, w = s.2.2.1 109 9 := ⟨_, rfl⟩
  have ro_109_9 := inv_F hI 0 4000 rfl e_109_9
  have ct66 : ∀ (k66 : Nat) (sc66 : GS) (y66_2 : Int32), Rng sc66 → Fr fm_286 s sc66 → (In x1 0 4000) → (In y66_2 0 4000) → ((x1).toInt ≤ (u_109_9).toInt) → (0 ≤ (x1).toInt) → ((y66_2).toInt ≤ (x1).toInt) → (sc66.1 110 0 = s.1 110 0 ∧ (sc66.1 110 1).toInt = (cz (s.1 118) (y66_2).toInt.toNat : Int)) → (∀ i, i < 160 → sc66.1 112 i = s.1 112 i ∧ sc66.1 113 i = s.1 113 i ∧ sc66.1 114 i = s.1 114 i) → (KE (sc66.1 112) (sc66.1 113) (sc66.1 114) (sc66.1 110) 1) → (GEQ (gvR sc66) (gvR s)) → ((sc66.2.2.1 109 0).toInt = 0) → (G1Q s sc66 (y66_2).toInt) → (sc66.2.2.1 109 17 = x1) → 4000 - (y66_2).toInt < (k66 : Int) → GG Z (d - 1) 286 post (gx xp) (1 + k66 * 900) 66 (fun j => xlook j [(0, .ref (A 109)), (1, .int x1), (2, .int y66_2)]) [] (WW Z A sc66 ++ ex) 0 0 := by
    intro k66
    induction k66 with
    | zero => intro sc66 y66_2 hIc66 hFc66 j66_1 j66_2 n66_0 n66_1 n66_2 g66_0 g66_1 g66_2 g66_3 g66_4 g66_5 g66_6 mm66; exact m_no mm66 j66_2 rfl
    | succ k66 ih66 =>
      intro sc66 y66_2 hIc66 hFc66 j66_1 j66_2 n66_0 n66_1 n66_2 g66_0 g66_1 g66_2 g66_3 g66_4 g66_5 g66_6 mm66
      refine gg_w (M := 1 + k66 * 900 + 900) gws ?_
      refine g_iload_n 67 (gd rfl) rfl rfl ?_
      refine g_iload_n 68 (gd rfl) rfl rfl ?_
      refine g_cmp_ge 71 83 (gd rfl) rfl rfl (fun c68 => ?_) (fun c68 => ?_)
      · skip
        refine g_aload_n 84 (gd rfl) rfl rfl ?_
        have p84 : In (sc66.1 110 0) 0 32 ∧ In (sc66.1 110 1) 0 32 := by first | (have h := kr_nn hI; exact h) | exact vw_nn (x := y66_2) hI (by have a0 := oa3 j66_1 ro_109_9 j66_2; have oc := oc_286_109; omega) (by rw [← e_109_9]; have a0 := oa3 j66_1 ro_109_9 j66_2; have oc := oc_286_109; omega) g66_0.1 g66_0.2
        refine g_callv (X := _) (As := []) (r := []) (b := A 109) (q := 109) 87 (gd rfl) rfl rfl rfl rfl rfl (ww_o rfl) (Nat.le_of_ble_eq_true rfl) (Nat.zero_le _) (Nat.zero_le _) (f_276 (by first | exact dq1 hd rfl | exact dq0 hd rfl | exact dq2 hd rfl | exact dq3 hd rfl | omega) hIc66 p84) (fun e u h => h) (fun v u h => ?_)
        obtain ⟨s84, hI84, hF84, rfl, rfl, p84a, p84b⟩ := h
        show GG _ _ _ _ _ _ _ _ [] _ _ _
        refine g_iload_n 88 (gd rfl) rfl rfl ?_
        refine g_if_ge 91 98 (gd rfl) rfl rfl (fun c88 => ?_) (fun c88 => ?_)
        · skip
          refine g_iload_n 99 (gd rfl) rfl rfl ?_
          have hI99 : Inv s84 := by first | (have hFF : Fr ([], [], [(109, 0), (109, 17)], []) s s84 := (fr_tr rfl hFc66 hF84); exact ⟨hI84, kk_all hI.2 hFF rfl⟩) | (have hFF : Fr fm_286 s s84 := (fr_tr rfl hFc66 hF84); exact ⟨hI84, kk_g hI.2.1 hFF rfl rfl rfl rfl rfl, kk_g hI.2.2.1 hFF rfl rfl rfl rfl rfl, kk_s hI.2.2.2.1 hFF rfl, lk_kr hI (funext fun q => hF84.1 q rfl) (hFF.2.2.1 109 9 rfl) p84a⟩) | (have hFF : Fr fm_286 s s84 := (fr_tr rfl hFc66 hF84); exact ⟨hI84, kk_g hI.2.1 hFF rfl rfl rfl rfl rfl, kk_g hI.2.2.1 hFF rfl rfl rfl rfl rfl, kk_s hI.2.2.2.1 hFF rfl, vw_kr (x := y66_2) hI (in_w 0 4000 j66_2 rfl) (by rw [← e_109_9]; have a0 := oa3 j66_1 ro_109_9 j66_2; have oc := oc_286_109; omega) ((hF84.1 118 rfl).trans (hFc66.1 118 rfl)) ((hF84.1 119 rfl).trans (hFc66.1 119 rfl)) ((hF84.1 120 rfl).trans (hFc66.1 120 rfl)) ((hF84.1 121 rfl).trans (hFc66.1 121 rfl)) (hFF.2.2.1 109 9 rfl) ((congrFun (hF84.1 110 rfl) 0).trans g66_0.1) (by rw [hF84.1 110 rfl]; exact g66_0.2) (fun i hi => by rw [hF84.1 112 rfl, hF84.1 113 rfl, hF84.1 114 rfl]; exact g66_1 i hi) (by rw [hF84.1 112 rfl, hF84.1 113 rfl, hF84.1 114 rfl, hF84.1 110 rfl]; exact g66_2) p84a⟩)
          have n99 : GEQ (gvR s84) (gvR s) := by rw [gvR_cg hF84 rfl]; exact g66_3
          have n99a : VWQ s s84 x1 x1 := by exact Or.inr ⟨by rw [hF84.2.2.1 109 0 rfl]; exact g66_4, ⟨by have a0 := oa3 j66_1 ro_109_9 j66_2; have oc := oc_286_109; omega, by rw [← e_109_9]; have a0 := oa3 j66_1 ro_109_9 j66_2; have oc := oc_286_109; omega⟩, by rw [if_neg (by have a0 := oa3 j66_1 ro_109_9 j66_2; have oc := oc_286_109; omega)]⟩
          have n99b : VW1 s s84 x1 := by exact ⟨fun _ => ⟨(hF84.2.2.1 109 17 rfl).trans g66_6, fun _ => g1q_f (show (x1).toInt = (y66_2).toInt from (by have a0 := oa3 j66_1 ro_109_9 j66_2; have oc := oc_286_109; omega)) (funext fun q => hF84.1 q rfl) g66_5⟩, fun h => absurd (by rw [hF84.2.2.1 109 0 rfl]; exact g66_4) h⟩
          have n99c : GSE s → GSE s84 := by exact fun _ => p84b
          exact g_ireturn (gd rfl) rfl rfl (hP _ _ ⟨s84, hI99, (fr_tr rfl hFc66 hF84), x1, rfl, rfl, in_w 0 4000 j66_1 rfl, n99, n99a, n99b, n99c⟩)
        · skip
          exact zn_lt c88 j66_1 rfl
      · skip
        have i68 := r_lt1 0 3999 c68 j66_2 j66_1 rfl
        have i68a := r_lt2 1 4000 c68 j66_2 j66_1 rfl
        refine g_aload_n 72 (gd rfl) rfl rfl ?_
        refine g_iload_n 73 (gd rfl) rfl rfl ?_
        refine g_iconst 1 74 (gd rfl) rfl rfl ?_
        have p74 : AQ sc66 (y66_2).toNatClampNeg ((Int32.ofInt 1)).toNatClampNeg := by have h : AQ sc66 (y66_2).toNatClampNeg 1 := vw_aq hI (in_w 0 3999 i68 rfl) (by rw [← e_109_9]; have a0 := oa3 i68a ro_109_9 i68; have oc := oc_286_109; omega) ((hFc66 : Fr fm_286 s sc66).1 118 rfl) ((hFc66 : Fr fm_286 s sc66).1 119 rfl) ((hFc66 : Fr fm_286 s sc66).1 120 rfl) ((hFc66 : Fr fm_286 s sc66).1 121 rfl) g66_0.2; exact h
        refine g_callv (X := _) (As := [.int y66_2, .int (Int32.ofInt 1)]) (r := []) (b := A 109) (q := 109) 77 (gd rfl) rfl rfl rfl rfl rfl (ww_o rfl) (Nat.le_of_ble_eq_true rfl) (Nat.zero_le _) (Nat.zero_le _) (f_275 (by first | exact dq1 hd rfl | exact dq0 hd rfl | exact dq2 hd rfl | exact dq3 hd rfl | omega) hIc66 (in_w 0 3999 i68 rfl) (in_w 0 1 (in_c 1 rfl) rfl) p74) (fun e u h => h) (fun v u h => ?_)
        obtain ⟨s74, hI74, hF74, rfl, rfl, p74a, p74b, p74c⟩ := h
        show GG _ _ _ _ _ _ _ _ [] _ _ _
        refine g_iinc 80 (gd rfl) rfl rfl (Nat.le_of_ble_eq_true rfl) (fun z77 e77 => ?_)
        have i77 := in_add 1 4000 e77 i68 (in_c 1 rfl) rfl rfl
        refine g_goto 66 (gd rfl) rfl ?_
        have n66 : (x1).toInt ≤ (u_109_9).toInt := by first | exact n66_0 | (have a0 := oa4 i68a ro_109_9 i68 i77; have a4 := t_add e77 i68 (in_c 1 rfl) rfl; have a5 := in_u ((in_c 1 rfl)); have oc := oc_286_109; omega)
        have n66a : 0 ≤ (x1).toInt := by first | exact n66_1 | (have a0 := oa4 i68a ro_109_9 i68 i77; have a4 := t_add e77 i68 (in_c 1 rfl) rfl; have a5 := in_u ((in_c 1 rfl)); have oc := oc_286_109; omega)
        have n66b : (z77).toInt ≤ (x1).toInt := by have a0 := oa4 i68a ro_109_9 i68 i77; have a4 := t_add e77 i68 (in_c 1 rfl) rfl; have a5 := in_u ((in_c 1 rfl)); have oc := oc_286_109; omega
        have n66c : s74.1 110 0 = s.1 110 0 ∧ (s74.1 110 1).toInt = (cz (s.1 118) (z77).toInt.toNat : Int) := by first | exact ⟨g40_0.1, g40_0.2⟩ | (have hp : AP sc66 s74 y66_2.toNatClampNeg 1 := p74a; refine ⟨(hp.2.1 0 (by decide)).trans g66_0.1, ?_⟩; rw [hp.1, hFc66.1 118 rfl]; have e5 : y66_2.toNatClampNeg = y66_2.toInt.toNat := rfl; have e6 : z77.toInt.toNat = y66_2.toNatClampNeg + 1 := (by have a0 := oa4 i68a ro_109_9 i68 i77; have a4 := t_add e77 i68 (in_c 1 rfl) rfl; have a5 := in_u ((in_c 1 rfl)); have oc := oc_286_109; omega); rw [e6])
        have n66d : ∀ i, i < 160 → s74.1 112 i = s.1 112 i ∧ s74.1 113 i = s.1 113 i ∧ s74.1 114 i = s.1 114 i := by first | exact g40_1 | (have hp : AP sc66 s74 y66_2.toNatClampNeg 1 := p74a; intro i hi; have h := hp.2.2.2 i (Or.inl (by omega)); have h2 := g66_1 i hi; exact ⟨h.1.trans h2.1, h.2.1.trans h2.2.1, h.2.2.trans h2.2.2⟩)
        have n66e : KE (s74.1 112) (s74.1 113) (s74.1 114) (s74.1 110) 1 := by first | exact fun a ha h1 => absurd (g40_2 a (by have a0 := oa4 i68a ro_109_9 i68 i77; have a4 := t_add e77 i68 (in_c 1 rfl) rfl; have a5 := in_u ((in_c 1 rfl)); have oc := oc_286_109; omega)) h1 | (have hp : AP sc66 s74 y66_2.toNatClampNeg 1 := p74a; exact hp.2.2.1 g66_2)
        have n66f : GEQ (gvR s74) (gvR s) := by exact geq_t (geq_rp hIc66 (by show y66_2.toInt.toNat < 4000; have a0 := oa4 i68a ro_109_9 i68 i77; have a4 := t_add e77 i68 (in_c 1 rfl) rfl; have a5 := in_u ((in_c 1 rfl)); have oc := oc_286_109; (first | exact zt_l (by decide) (by omega) | omega)) p74a p74c (hF74.2.2.1 109 9 rfl)) g66_3
        have n66g : (s74.2.2.1 109 0).toInt = 0 := by rw [hF74.2.2.1 109 0 rfl]; exact g66_4
        have n66h : G1Q s s74 (z77).toInt := by exact g1q_s g66_5 (gv1_rp hIc66 (by show y66_2.toInt.toNat < 4000; have a0 := oa4 i68a ro_109_9 i68 i77; have a4 := t_add e77 i68 (in_c 1 rfl) rfl; have a5 := in_u ((in_c 1 rfl)); have oc := oc_286_109; (first | exact zt_l (by decide) (by omega) | omega)) p74 p74a p74c) rfl (by have a0 := oa4 i68a ro_109_9 i68 i77; have a4 := t_add e77 i68 (in_c 1 rfl) rfl; have a5 := in_u ((in_c 1 rfl)); have oc := oc_286_109; omega) (by have a0 := oa4 i68a ro_109_9 i68 i77; have a4 := t_add e77 i68 (in_c 1 rfl) rfl; have a5 := in_u ((in_c 1 rfl)); have oc := oc_286_109; omega) (by rw [← e_109_9]; have a0 := oa4 i68a ro_109_9 i68 i77; have a4 := t_add e77 i68 (in_c 1 rfl) rfl; have a5 := in_u ((in_c 1 rfl)); have oc := oc_286_109; omega) (by have hq := g66_0.2; omega) (hFc66.1 118 rfl) (hFc66.1 119 rfl) (hFc66.1 120 rfl) (hFc66.1 121 rfl) (hFc66.1 122 rfl) (hFc66.1 123 rfl) (hFc66.1 124 rfl)
        have n66i : s74.2.2.1 109 17 = x1 := by exact (hF74.2.2.1 109 17 rfl).trans g66_6
        exact gg_w (by first | exact Nat.le_add_right _ _ | exact gw2 | exact gw3 | exact gwe rfl | exact gwf rfl | exact gwg rfl | exact gwh rfl | omega) (gg_f (gf_cons rfl (gf_cons rfl (gf_cons rfl gf_nil))) (ih66 s74 z77 hI74 (fr_tr rfl hFc66 hF74) (in_w 0 4000 i68a rfl) (in_w 0 4000 i77 rfl) n66 n66a n66b n66c n66d n66e n66f n66g n66h n66i (m_up mm66 (t_add e77 i68 (in_c 1 rfl) rfl) (in_w 1 1 (in_c 1 rfl) rfl))))
  have ct40 : ∀ (k40 : Nat) (sc40 : GS) (y40_2 : Int32), Rng sc40 → Fr fm_286 s sc40 → (In x1 0 4000) → (In y40_2 0 160) → ((x1).toInt ≤ (u_109_9).toInt) → (0 ≤ (x1).toInt) → (sc40.1 110 0 = s.1 110 0 ∧ (sc40.1 110 1).toInt = 0) → (∀ i, i < 160 → sc40.1 112 i = s.1 112 i ∧ sc40.1 113 i = s.1 113 i ∧ sc40.1 114 i = s.1 114 i) → (∀ j : Nat, (j : Int) < (y40_2).toInt → (sc40.1 112 (160 + j)).toInt = 0) → (GEQ (gvR sc40) (gvR s)) → ((sc40.2.2.1 109 0).toInt = 0) → (sc40.2.2.1 109 17 = x1) → 160 - (y40_2).toInt < (k40 : Int) → GG Z (d - 1) 286 post (gx xp) (3600902 + k40 * 900) 40 (fun j => xlook j [(0, .ref (A 109)), (1, .int x1), (2, .int y40_2)]) [] (WW Z A sc40 ++ ex) 0 0 := by
    intro k40
    induction k40 with
    | zero => intro sc40 y40_2 hIc40 hFc40 j40_1 j40_2 n40_0 n40_1 g40_0 g40_1 g40_2 g40_3 g40_4 g40_5 mm40; exact m_no mm40 j40_2 rfl
    | succ k40 ih40 =>
      intro sc40 y40_2 hIc40 hFc40 j40_1 j40_2 n40_0 n40_1 g40_0 g40_1 g40_2 g40_3 g40_4 g40_5 mm40
      refine gg_w (M := 3600902 + k40 * 900 + 900) gws ?_
      refine g_iload_n 41 (gd rfl) rfl rfl ?_
      refine g_sipush 160 44 (gd rfl) rfl rfl ?_
      refine g_cmp_ge 47 64 (gd rfl) rfl rfl (fun c44 => ?_) (fun c44 => ?_)
      · skip
        have i44 := r_le2 160 160 c44 (in_c 160 rfl) j40_2 rfl
        refine g_iconst 0 65 (gd rfl) rfl rfl ?_
        refine g_istore_n 66 (gd rfl) rfl (Nat.le_of_ble_eq_true rfl) ?_
        have n66 : (x1).toInt ≤ (u_109_9).toInt := by first | exact n40_0 | (have a0 := oa4 j40_1 ro_109_9 i44 ((in_c 0 rfl)); have oc := oc_286_109; omega)
        have n66a : 0 ≤ (x1).toInt := by first | exact n40_1 | (have a0 := oa4 j40_1 ro_109_9 i44 ((in_c 0 rfl)); have oc := oc_286_109; omega)
        have n66b : ((Int32.ofInt 0)).toInt ≤ (x1).toInt := by have a0 := oa4 j40_1 ro_109_9 i44 ((in_c 0 rfl)); have oc := oc_286_109; omega
        have n66c : sc40.1 110 0 = s.1 110 0 ∧ (sc40.1 110 1).toInt = (cz (s.1 118) ((Int32.ofInt 0)).toInt.toNat : Int) := by first | exact ⟨g40_0.1, g40_0.2⟩ | (have hp : AP sc66 s74 y66_2.toNatClampNeg 1 := p74a; refine ⟨(hp.2.1 0 (by decide)).trans g66_0.1, ?_⟩; rw [hp.1, hFc66.1 118 rfl]; have e5 : y66_2.toNatClampNeg = y66_2.toInt.toNat := rfl; have e6 : z77.toInt.toNat = y66_2.toNatClampNeg + 1 := (by have a0 := oa4 j40_1 ro_109_9 i44 ((in_c 0 rfl)); have oc := oc_286_109; omega); rw [e6])
        have n66d : ∀ i, i < 160 → sc40.1 112 i = s.1 112 i ∧ sc40.1 113 i = s.1 113 i ∧ sc40.1 114 i = s.1 114 i := by first | exact g40_1 | (first | exact g40_1 | (have hp : AP sc66 s74 y66_2.toNatClampNeg 1 := p74a; intro i hi; have h := hp.2.2.2 i (Or.inl (by omega)); have h2 := g66_1 i hi; exact ⟨h.1.trans h2.1, h.2.1.trans h2.2.1, h.2.2.trans h2.2.2⟩))
        have n66e : KE (sc40.1 112) (sc40.1 113) (sc40.1 114) (sc40.1 110) 1 := by first | exact fun a ha h1 => absurd (g40_2 a (by have a0 := oa4 j40_1 ro_109_9 i44 ((in_c 0 rfl)); have oc := oc_286_109; omega)) h1 | (have hp : AP sc66 s74 y66_2.toNatClampNeg 1 := p74a; exact hp.2.2.1 g66_2)
        have n66f : GEQ (gvR sc40) (gvR s) := by exact g40_3
        have n66g : (sc40.2.2.1 109 0).toInt = 0 := by exact g40_4
        have n66h : G1Q s sc40 ((Int32.ofInt 0)).toInt := by exact g1q_0 g40_0.2 (fun j hj => g40_2 j (by have a0 := oa4 j40_1 ro_109_9 i44 ((in_c 0 rfl)); have oc := oc_286_109; omega)) rfl
        have n66i : sc40.2.2.1 109 17 = x1 := by exact g40_5
        exact gg_w (by first | exact Nat.le_add_right _ _ | exact gw2 | exact gw3 | exact gwe rfl | exact gwf rfl | exact gwg rfl | exact gwh rfl | omega) (gg_f (gf_cons rfl (gf_cons rfl (gf_cons rfl gf_nil))) (ct66 4001 sc40 (Int32.ofInt 0) hIc40 hFc40 (in_w 0 4000 j40_1 rfl) (in_w 0 4000 (in_c 0 rfl) rfl) n66 n66a n66b n66c n66d n66e n66f n66g n66h n66i (m_in 4001 (in_w 0 4000 (in_c 0 rfl) rfl) rfl)))
      · skip
        have i44 := r_lt1 0 159 c44 j40_2 (in_c 160 rfl) rfl
        refine g_aload_n 48 (gd rfl) rfl rfl ?_
        refine g_getA (q2 := 112) 51 (gd rfl) rfl rfl rfl rfl ?_
        refine g_sipush 160 54 (gd rfl) rfl rfl ?_
        refine g_iload_n 55 (gd rfl) rfl rfl ?_
        refine g_iadd 56 (gd rfl) rfl (fun z55 e55 => ?_)
        have i55 := in_add 160 319 e55 (in_c 160 rfl) i44 rfl rfl
        refine g_iconst 0 57 (gd rfl) rfl rfl ?_
        refine g_bastore 58 (gd rfl) rfl (n := 480) rfl (in_ix i55 rfl) ?_
        have hI57 := rng_sI (q := 112) (j := z55.toNatClampNeg) hIc40 rfl (in_w 0 1 (nar01 (in_w 0 1 (in_c 0 rfl) rfl)) rfl)
        refine g_iinc 61 (gd rfl) rfl rfl (Nat.le_of_ble_eq_true rfl) (fun z58 e58 => ?_)
        have i58 := in_add 1 160 e58 i44 (in_c 1 rfl) rfl rfl
        refine g_goto 40 (gd rfl) rfl ?_
        have n40 : (x1).toInt ≤ (u_109_9).toInt := by first | exact n40_0 | (have a0 := oa4 j40_1 ro_109_9 i44 i58; have a4 := t_add e58 i44 (in_c 1 rfl) rfl; have a5 := oa2 ((in_c 1 rfl)) i55; have a7 := t_add e55 (in_c 160 rfl) i44 rfl; have a8 := in_u ((in_c 160 rfl)); have oc := oc_286_109; omega)
        have n40a : 0 ≤ (x1).toInt := by first | exact n40_1 | (have a0 := oa4 j40_1 ro_109_9 i44 i58; have a4 := t_add e58 i44 (in_c 1 rfl) rfl; have a5 := oa2 ((in_c 1 rfl)) i55; have a7 := t_add e55 (in_c 160 rfl) i44 rfl; have a8 := in_u ((in_c 160 rfl)); have oc := oc_286_109; omega)
        have n40b : (sI sc40 112 z55.toNatClampNeg (vp_nar .boolean (Int32.ofInt 0))).1 110 0 = s.1 110 0 ∧ ((sI sc40 112 z55.toNatClampNeg (vp_nar .boolean (Int32.ofInt 0))).1 110 1).toInt = 0 := by first | exact g40_0 | exact ⟨rfl, rfl⟩
        have n40c : ∀ i, i < 160 → (sI sc40 112 z55.toNatClampNeg (vp_nar .boolean (Int32.ofInt 0))).1 112 i = s.1 112 i ∧ (sI sc40 112 z55.toNatClampNeg (vp_nar .boolean (Int32.ofInt 0))).1 113 i = s.1 113 i ∧ (sI sc40 112 z55.toNatClampNeg (vp_nar .boolean (Int32.ofInt 0))).1 114 i = s.1 114 i := by first | exact fun i hi => ⟨rfl, rfl, rfl⟩ | (intro i hi; refine ⟨?_, (g40_1 i hi).2⟩; rw [sI_q]; unfold upd; rw [if_neg (by have e5 : z55.toNatClampNeg = z55.toInt.toNat := rfl; have a0 := oa4 j40_1 ro_109_9 i44 i58; have a4 := t_add e58 i44 (in_c 1 rfl) rfl; have a5 := oa2 ((in_c 1 rfl)) i55; have a7 := t_add e55 (in_c 160 rfl) i44 rfl; have a8 := in_u ((in_c 160 rfl)); have oc := oc_286_109; omega)]; exact (g40_1 i hi).1)
        have n40d : ∀ j : Nat, (j : Int) < (z58).toInt → ((sI sc40 112 z55.toNatClampNeg (vp_nar .boolean (Int32.ofInt 0))).1 112 (160 + j)).toInt = 0 := by first | (intro j hj; exfalso; have h0 : (Int32.ofInt 0).toInt = 0 := rfl; omega) | (intro j hj; rw [sI_q]; unfold upd; have e5 : z55.toNatClampNeg = z55.toInt.toNat := rfl; by_cases c : 160 + j = z55.toNatClampNeg; (rw [if_pos c]; rfl); (rw [if_neg c]; exact g40_2 j (by have a0 := oa4 j40_1 ro_109_9 i44 i58; have a4 := t_add e58 i44 (in_c 1 rfl) rfl; have a5 := oa2 ((in_c 1 rfl)) i55; have a7 := t_add e55 (in_c 160 rfl) i44 rfl; have a8 := in_u ((in_c 160 rfl)); have oc := oc_286_109; omega)))
        have n40e : GEQ (gvR (sI sc40 112 z55.toNatClampNeg (vp_nar .boolean (Int32.ofInt 0)))) (gvR s) := by first | exact geq_112 (by show 160 ≤ z55.toInt.toNat; have a0 := oa4 j40_1 ro_109_9 i44 i58; have a4 := t_add e58 i44 (in_c 1 rfl) rfl; have a5 := oa2 ((in_c 1 rfl)) i55; have a7 := t_add e55 (in_c 160 rfl) i44 rfl; have a8 := in_u ((in_c 160 rfl)); have oc := oc_286_109; omega) g40_3 | exact geq_110 (by decide) (by rw [(gvR_cg (L := ([], [], [(109, 0), (109, 17)], [])) (fr_sF rfl (fr_sF rfl fr_rf)) rfl)]; exact geq_r)
        have n40f : ((sI sc40 112 z55.toNatClampNeg (vp_nar .boolean (Int32.ofInt 0))).2.2.1 109 0).toInt = 0 := by first | exact g40_4 | rfl
        have n40g : (sI sc40 112 z55.toNatClampNeg (vp_nar .boolean (Int32.ofInt 0))).2.2.1 109 17 = x1 := by first | exact g40_5 | exact sF_get.symm
        exact gg_w (by first | exact Nat.le_add_right _ _ | exact gw2 | exact gw3 | exact gwe rfl | exact gwf rfl | exact gwg rfl | exact gwh rfl | omega) (gg_f (gf_cons rfl (gf_cons rfl (gf_cons rfl gf_nil))) (ih40 (sI sc40 112 z55.toNatClampNeg (vp_nar .boolean (Int32.ofInt 0))) z58 hI57 (fr_sI rfl hFc40) (in_w 0 4000 j40_1 rfl) (in_w 0 160 i58 rfl) n40 n40a n40b n40c n40d n40e n40f n40g (m_up mm40 (t_add e58 i44 (in_c 1 rfl) rfl) (in_w 1 1 (in_c 1 rfl) rfl))))
  refine g_enter2 (k := 286) (N := 3746702) (by first | exact dq1 hd rfl | exact dq0 hd rfl | exact dq2 hd rfl | exact dq3 hd rfl | omega) rfl (Nat.le_of_ble_eq_true rfl) ?_
  refine g_aload_n 1 (gd rfl) rfl rfl ?_
  refine g_iload_n 2 (gd rfl) rfl rfl ?_
  refine g_i2l 3 (gd rfl) rfl (fun z2 e2 => ?_)
  have i2 := l_i e2 (i_rng x1)
  refine g_ldc2_w (-1) 6 (gd rfl) rfl rfl ?_
  refine g_aload_n 7 (gd rfl) rfl rfl ?_
  refine g_getI 10 (gd rfl) rfl rfl rfl (fun z7 e7 => ?_)
  have q7 : u_109_9 = z7 := (e_109_9).trans e7.symm
  subst q7
  refine g_i2l 11 (gd rfl) rfl (fun z10 e10 => ?_)
  have i10 := l_i e10 ro_109_9
  refine g_calls (As := [.long z2, .long (Int64.ofInt (-1)), .long z10]) (r := [.ref (A 109)]) 14 (gd rfl) rfl rfl rfl rfl rfl (Nat.le_of_ble_eq_true rfl) (mc := 0) (ms := 0) (Nat.zero_le _) (Nat.zero_le _) (P := fun v u => _) ?_ (fun v u h => h)
  intro po11 xx11 hp11 hx11
  refine g_enter2 (k := 269) (N := 300) (by first | exact dq1 hd rfl | exact dq0 hd rfl | exact dq2 hd rfl | exact dq3 hd rfl | omega) rfl (Nat.le_of_ble_eq_true rfl) ?_
  refine g_lload_n 1 (gd rfl) rfl rfl ?_
  refine g_lload_n 2 (gd rfl) rfl rfl ?_
  refine g_lcmp 3 (gd rfl) rfl (fun z11x2 e11x2 => ?_)
  have i11x2 := lc_in e11x2
  refine g_if_lt 6 17 (gd rfl) rfl rfl (fun c11x3 => ?_) (fun c11x3 => ?_)
  · skip
    have i11x3 := z_lt (-1) (-1) c11x3 i11x2 rfl
    have c11x3a := lc_lt e11x2 c11x3
    have i11x3a := lr_lt1 (-2147483648) (-2) c11x3a i2 (l_c (-1) rfl) rfl
    have i11x3b := l_b e2 i11x3a
    refine g_iconst 0 18 (gd rfl) rfl rfl ?_
    refine g_ireturn (gd rfl) rfl (nb01 (in_w 0 1 (in_c 0 rfl) rfl)) (hp11 _ _ ?_)
    show GG _ _ _ _ _ _ _ _ [.int (Int32.ofInt 0), .ref (A 109)] _ _ _
    refine g_callv (X := _) (As := [.int (Int32.ofInt 0)]) (r := []) (b := A 109) (q := 109) 17 (gd rfl) rfl rfl rfl rfl rfl (ww_o rfl) (Nat.le_of_ble_eq_true rfl) (mc := 0) (ms := 0) (Nat.zero_le _) (Nat.zero_le _) (P := fun v u => _) ?_ (fun e u h => h) (fun v u h => h)
    intro po14 xx14 hp14 hx14
    refine g_enter2 (k := 271) (N := 300) (by first | exact dq1 hd rfl | exact dq0 hd rfl | exact dq2 hd rfl | exact dq3 hd rfl | omega) rfl (Nat.le_of_ble_eq_true rfl) ?_
    refine g_aload_n 1 (gd rfl) rfl rfl ?_
    refine g_iload_n 2 (gd rfl) rfl rfl ?_
    refine g_iconst 1 3 (gd rfl) rfl rfl ?_
    refine g_callv (X := _) (As := [.int (Int32.ofInt 0), .int (Int32.ofInt 1)]) (r := []) (b := A 109) (q := 109) 6 (gd rfl) rfl rfl rfl rfl rfl (ww_o rfl) (Nat.le_of_ble_eq_true rfl) (mc := 0) (ms := 0) (Nat.zero_le _) (Nat.zero_le _) (P := fun v u => _) ?_ (fun e u h => h) (fun v u h => h)
    intro po14x3 xx14x3 hp14x3 hx14x3
    refine g_enter2 (k := 270) (N := 300) (by first | exact dq1 hd rfl | exact dq0 hd rfl | exact dq2 hd rfl | exact dq3 hd rfl | omega) rfl (Nat.le_of_ble_eq_true rfl) ?_
    refine g_aload_n 1 (gd rfl) rfl rfl ?_
    refine g_iload_n 2 (gd rfl) rfl rfl ?_
    refine g_if_ne 5 9 (gd rfl) rfl rfl (fun c14x3x2 => ?_) (fun c14x3x2 => ?_)
    · skip
      exact zn_ne c14x3x2 (in_c 0 rfl) rfl
    · skip
      refine g_iconst 1 6 (gd rfl) rfl rfl ?_
      refine g_goto 18 (gd rfl) rfl ?_
      refine g_putI 21 (gd rfl) rfl rfl rfl rfl ?_
      have hI14x3x18 := rng_sF (q := 109) (j := 0) hI.1 rfl (in_w 0 2 (in_c 1 rfl) rfl)
      refine g_aload_n 22 (gd rfl) rfl rfl ?_
      refine g_getI 25 (gd rfl) rfl rfl rfl (fun z14x3x22 e14x3x22 => ?_)
      have q14x3x22 : (Int32.ofInt 1) = z14x3x22 := (sF_get).trans e14x3x22.symm
      subst q14x3x22
      refine g_if_le 28 32 (gd rfl) rfl rfl (fun c14x3x25 => ?_) (fun c14x3x25 => ?_)
      · skip
        exact zn_le c14x3x25 (in_c 1 rfl) rfl
      · skip
        refine g_iconst 1 29 (gd rfl) rfl rfl ?_
        refine g_goto 33 (gd rfl) rfl ?_
        refine g_ireturn (gd rfl) rfl (nb01 (in_w 0 1 (in_c 1 rfl) rfl)) (hp14x3 _ _ ?_)
        show GG _ _ _ _ _ _ _ _ [.int (Int32.ofInt 1)] _ _ _
        refine g_ireturn (gd rfl) rfl (nb01 (in_w 0 1 (in_c 1 rfl) rfl)) (hp14 _ _ ?_)
        show GG _ _ _ _ _ _ _ _ [.int (Int32.ofInt 1)] _ _ _
        refine g_if_eq 20 22 (gd rfl) rfl rfl (fun c17 => ?_) (fun c17 => ?_)
        · skip
          exact zn_eq c17 (in_c 1 rfl) rfl
        · skip
          refine g_iconst 0 21 (gd rfl) rfl rfl ?_
          have hI21 : Inv (sF s 109 0 (Int32.ofInt 1)) := by first | (have hFF : Fr ([], [], [(109, 0), (109, 17)], []) s (sF s 109 0 (Int32.ofInt 1)) := (fr_sF rfl fr_rf); exact ⟨hI14x3x18, kk_all hI.2 hFF rfl⟩) | (have hFF : Fr fm_286 s (sF s 109 0 (Int32.ofInt 1)) := (fr_sF rfl fr_rf); exact ⟨hI14x3x18, kk_g hI.2.1 hFF rfl rfl rfl rfl rfl, kk_g hI.2.2.1 hFF rfl rfl rfl rfl rfl, kk_s hI.2.2.2.1 hFF rfl, lk_kr hI (funext fun q => hF84.1 q rfl) (hFF.2.2.1 109 9 rfl) p84a⟩) | (have hFF : Fr fm_286 s (sF s 109 0 (Int32.ofInt 1)) := (fr_sF rfl fr_rf); exact ⟨hI14x3x18, kk_g hI.2.1 hFF rfl rfl rfl rfl rfl, kk_g hI.2.2.1 hFF rfl rfl rfl rfl rfl, kk_s hI.2.2.2.1 hFF rfl, vw_kr (x := y66_2) hI (in_w 0 4000 j66_2 rfl) (by rw [← e_109_9]; have a0 := oa3 ro_109_9 i11x3b ((in_c 1 rfl)); have a3 := tx_i2l e10; have a4 := tx_i2l e2; have oc := oc_286_109; omega) ((hF84.1 118 rfl).trans (hFc66.1 118 rfl)) ((hF84.1 119 rfl).trans (hFc66.1 119 rfl)) ((hF84.1 120 rfl).trans (hFc66.1 120 rfl)) ((hF84.1 121 rfl).trans (hFc66.1 121 rfl)) (hFF.2.2.1 109 9 rfl) ((congrFun (hF84.1 110 rfl) 0).trans g66_0.1) (by rw [hF84.1 110 rfl]; exact g66_0.2) (fun i hi => by rw [hF84.1 112 rfl, hF84.1 113 rfl, hF84.1 114 rfl]; exact g66_1 i hi) (by rw [hF84.1 112 rfl, hF84.1 113 rfl, hF84.1 114 rfl, hF84.1 110 rfl]; exact g66_2) p84a⟩)
          have n21 : GEQ (gvR (sF s 109 0 (Int32.ofInt 1))) (gvR s) := by rw [gvR_cg (L := ([], [], [(109, 0)], [])) (fr_sF rfl fr_rf) rfl]; exact geq_r
          have n21a : VWQ s (sF s 109 0 (Int32.ofInt 1)) x1 (Int32.ofInt 0) := by exact Or.inl ⟨rfl, by rw [← e_109_9]; have a0 := oa3 ro_109_9 i11x3b ((in_c 1 rfl)); have a3 := tx_i2l e10; have a4 := tx_i2l e2; have oc := oc_286_109; omega⟩
          have n21b : VW1 s (sF s 109 0 (Int32.ofInt 1)) x1 := by exact ⟨fun h => absurd (show (Int32.ofInt 1).toInt = 0 from h) (by decide), fun _ => ⟨rfl, rfl⟩⟩
          have n21c : GSE s → GSE (sF s 109 0 (Int32.ofInt 1)) := by exact fun h => gse_fr (L := ([], [], [(109, 0)], [])) h (fr_sF rfl fr_rf) rfl
          exact g_ireturn (gd rfl) rfl rfl (hP _ _ ⟨(sF s 109 0 (Int32.ofInt 1)), hI21, (fr_sF rfl fr_rf), (Int32.ofInt 0), rfl, rfl, in_w 0 4000 (in_c 0 rfl) rfl, n21, n21a, n21b, n21c⟩)
  · skip
    have i11x3 := z_ge 0 1 c11x3 i11x2 rfl
    have c11x3a := lc_ge e11x2 c11x3
    have i11x3a := lr_le2 (-1) 2147483647 c11x3a (l_c (-1) rfl) i2 rfl
    have i11x3b := l_b e2 i11x3a
    refine g_lload_n 7 (gd rfl) rfl rfl ?_
    refine g_lload 9 (gd rfl) rfl rfl ?_
    refine g_lcmp 10 (gd rfl) rfl (fun z11x9 e11x9 => ?_)
    have i11x9 := lc_in e11x9
    refine g_if_gt 13 17 (gd rfl) rfl rfl (fun c11x10 => ?_) (fun c11x10 => ?_)
    · skip
      have i11x10 := z_gt 1 1 c11x10 i11x9 rfl
      have c11x10a := lc_gt e11x9 c11x10
      have i11x10a := lr_lt2 1 2147483647 c11x10a i10 i11x3a rfl
      have i11x10b := l_b e2 i11x10a
      refine g_iconst 0 18 (gd rfl) rfl rfl ?_
      refine g_ireturn (gd rfl) rfl (nb01 (in_w 0 1 (in_c 0 rfl) rfl)) (hp11 _ _ ?_)
      show GG _ _ _ _ _ _ _ _ [.int (Int32.ofInt 0), .ref (A 109)] _ _ _
      refine g_callv (X := _) (As := [.int (Int32.ofInt 0)]) (r := []) (b := A 109) (q := 109) 17 (gd rfl) rfl rfl rfl rfl rfl (ww_o rfl) (Nat.le_of_ble_eq_true rfl) (mc := 0) (ms := 0) (Nat.zero_le _) (Nat.zero_le _) (P := fun v u => _) ?_ (fun e u h => h) (fun v u h => h)
      intro po14 xx14 hp14 hx14
      refine g_enter2 (k := 271) (N := 300) (by first | exact dq1 hd rfl | exact dq0 hd rfl | exact dq2 hd rfl | exact dq3 hd rfl | omega) rfl (Nat.le_of_ble_eq_true rfl) ?_
      refine g_aload_n 1 (gd rfl) rfl rfl ?_
      refine g_iload_n 2 (gd rfl) rfl rfl ?_
      refine g_iconst 1 3 (gd rfl) rfl rfl ?_
      refine g_callv (X := _) (As := [.int (Int32.ofInt 0), .int (Int32.ofInt 1)]) (r := []) (b := A 109) (q := 109) 6 (gd rfl) rfl rfl rfl rfl rfl (ww_o rfl) (Nat.le_of_ble_eq_true rfl) (mc := 0) (ms := 0) (Nat.zero_le _) (Nat.zero_le _) (P := fun v u => _) ?_ (fun e u h => h) (fun v u h => h)
      intro po14x3 xx14x3 hp14x3 hx14x3
      refine g_enter2 (k := 270) (N := 300) (by first | exact dq1 hd rfl | exact dq0 hd rfl | exact dq2 hd rfl | exact dq3 hd rfl | omega) rfl (Nat.le_of_ble_eq_true rfl) ?_
      refine g_aload_n 1 (gd rfl) rfl rfl ?_
      refine g_iload_n 2 (gd rfl) rfl rfl ?_
      refine g_if_ne 5 9 (gd rfl) rfl rfl (fun c14x3x2 => ?_) (fun c14x3x2 => ?_)
      · skip
        exact zn_ne c14x3x2 (in_c 0 rfl) rfl
      · skip
        refine g_iconst 1 6 (gd rfl) rfl rfl ?_
        refine g_goto 18 (gd rfl) rfl ?_
        refine g_putI 21 (gd rfl) rfl rfl rfl rfl ?_
        have hI14x3x18 := rng_sF (q := 109) (j := 0) hI.1 rfl (in_w 0 2 (in_c 1 rfl) rfl)
        refine g_aload_n 22 (gd rfl) rfl rfl ?_
        refine g_getI 25 (gd rfl) rfl rfl rfl (fun z14x3x22 e14x3x22 => ?_)
        have q14x3x22 : (Int32.ofInt 1) = z14x3x22 := (sF_get).trans e14x3x22.symm
        subst q14x3x22
        refine g_if_le 28 32 (gd rfl) rfl rfl (fun c14x3x25 => ?_) (fun c14x3x25 => ?_)
        · skip
          exact zn_le c14x3x25 (in_c 1 rfl) rfl
        · skip
          refine g_iconst 1 29 (gd rfl) rfl rfl ?_
          refine g_goto 33 (gd rfl) rfl ?_
          refine g_ireturn (gd rfl) rfl (nb01 (in_w 0 1 (in_c 1 rfl) rfl)) (hp14x3 _ _ ?_)
          show GG _ _ _ _ _ _ _ _ [.int (Int32.ofInt 1)] _ _ _
          refine g_ireturn (gd rfl) rfl (nb01 (in_w 0 1 (in_c 1 rfl) rfl)) (hp14 _ _ ?_)
          show GG _ _ _ _ _ _ _ _ [.int (Int32.ofInt 1)] _ _ _
          refine g_if_eq 20 22 (gd rfl) rfl rfl (fun c17 => ?_) (fun c17 => ?_)
          · skip
            exact zn_eq c17 (in_c 1 rfl) rfl
          · skip
            refine g_iconst 0 21 (gd rfl) rfl rfl ?_
            have hI21 : Inv (sF s 109 0 (Int32.ofInt 1)) := by first | (have hFF : Fr ([], [], [(109, 0), (109, 17)], []) s (sF s 109 0 (Int32.ofInt 1)) := (fr_sF rfl fr_rf); exact ⟨hI14x3x18, kk_all hI.2 hFF rfl⟩) | (have hFF : Fr fm_286 s (sF s 109 0 (Int32.ofInt 1)) := (fr_sF rfl fr_rf); exact ⟨hI14x3x18, kk_g hI.2.1 hFF rfl rfl rfl rfl rfl, kk_g hI.2.2.1 hFF rfl rfl rfl rfl rfl, kk_s hI.2.2.2.1 hFF rfl, lk_kr hI (funext fun q => hF84.1 q rfl) (hFF.2.2.1 109 9 rfl) p84a⟩) | (have hFF : Fr fm_286 s (sF s 109 0 (Int32.ofInt 1)) := (fr_sF rfl fr_rf); exact ⟨hI14x3x18, kk_g hI.2.1 hFF rfl rfl rfl rfl rfl, kk_g hI.2.2.1 hFF rfl rfl rfl rfl rfl, kk_s hI.2.2.2.1 hFF rfl, vw_kr (x := y66_2) hI (in_w 0 4000 j66_2 rfl) (by rw [← e_109_9]; have a0 := oa3 ro_109_9 i11x10b ((in_c 1 rfl)); have a3 := tx_i2l e10; have a4 := tx_i2l e2; have oc := oc_286_109; omega) ((hF84.1 118 rfl).trans (hFc66.1 118 rfl)) ((hF84.1 119 rfl).trans (hFc66.1 119 rfl)) ((hF84.1 120 rfl).trans (hFc66.1 120 rfl)) ((hF84.1 121 rfl).trans (hFc66.1 121 rfl)) (hFF.2.2.1 109 9 rfl) ((congrFun (hF84.1 110 rfl) 0).trans g66_0.1) (by rw [hF84.1 110 rfl]; exact g66_0.2) (fun i hi => by rw [hF84.1 112 rfl, hF84.1 113 rfl, hF84.1 114 rfl]; exact g66_1 i hi) (by rw [hF84.1 112 rfl, hF84.1 113 rfl, hF84.1 114 rfl, hF84.1 110 rfl]; exact g66_2) p84a⟩)
            have n21 : GEQ (gvR (sF s 109 0 (Int32.ofInt 1))) (gvR s) := by rw [gvR_cg (L := ([], [], [(109, 0)], [])) (fr_sF rfl fr_rf) rfl]; exact geq_r
            have n21a : VWQ s (sF s 109 0 (Int32.ofInt 1)) x1 (Int32.ofInt 0) := by exact Or.inl ⟨rfl, by rw [← e_109_9]; have a0 := oa3 ro_109_9 i11x10b ((in_c 1 rfl)); have a3 := tx_i2l e10; have a4 := tx_i2l e2; have oc := oc_286_109; omega⟩
            have n21b : VW1 s (sF s 109 0 (Int32.ofInt 1)) x1 := by exact ⟨fun h => absurd (show (Int32.ofInt 1).toInt = 0 from h) (by decide), fun _ => ⟨rfl, rfl⟩⟩
            have n21c : GSE s → GSE (sF s 109 0 (Int32.ofInt 1)) := by exact fun h => gse_fr (L := ([], [], [(109, 0)], [])) h (fr_sF rfl fr_rf) rfl
            exact g_ireturn (gd rfl) rfl rfl (hP _ _ ⟨(sF s 109 0 (Int32.ofInt 1)), hI21, (fr_sF rfl fr_rf), (Int32.ofInt 0), rfl, rfl, in_w 0 4000 (in_c 0 rfl) rfl, n21, n21a, n21b, n21c⟩)
    · skip
      have i11x10 := z_le (-1) 0 c11x10 i11x9 rfl
      have c11x10a := lc_le e11x9 c11x10
      have i11x10a := lr_le1 (-1) 4000 c11x10a i11x3a i10 rfl
      have i11x10b := l_b e2 i11x10a
      refine g_iconst 1 14 (gd rfl) rfl rfl ?_
      refine g_goto 18 (gd rfl) rfl ?_
      refine g_ireturn (gd rfl) rfl (nb01 (in_w 0 1 (in_c 1 rfl) rfl)) (hp11 _ _ ?_)
      show GG _ _ _ _ _ _ _ _ [.int (Int32.ofInt 1), .ref (A 109)] _ _ _
      refine g_callv (X := _) (As := [.int (Int32.ofInt 1)]) (r := []) (b := A 109) (q := 109) 17 (gd rfl) rfl rfl rfl rfl rfl (ww_o rfl) (Nat.le_of_ble_eq_true rfl) (mc := 0) (ms := 0) (Nat.zero_le _) (Nat.zero_le _) (P := fun v u => _) ?_ (fun e u h => h) (fun v u h => h)
      intro po14 xx14 hp14 hx14
      refine g_enter2 (k := 271) (N := 300) (by first | exact dq1 hd rfl | exact dq0 hd rfl | exact dq2 hd rfl | exact dq3 hd rfl | omega) rfl (Nat.le_of_ble_eq_true rfl) ?_
      refine g_aload_n 1 (gd rfl) rfl rfl ?_
      refine g_iload_n 2 (gd rfl) rfl rfl ?_
      refine g_iconst 1 3 (gd rfl) rfl rfl ?_
      refine g_callv (X := _) (As := [.int (Int32.ofInt 1), .int (Int32.ofInt 1)]) (r := []) (b := A 109) (q := 109) 6 (gd rfl) rfl rfl rfl rfl rfl (ww_o rfl) (Nat.le_of_ble_eq_true rfl) (mc := 0) (ms := 0) (Nat.zero_le _) (Nat.zero_le _) (P := fun v u => _) ?_ (fun e u h => h) (fun v u h => h)
      intro po14x3 xx14x3 hp14x3 hx14x3
      refine g_enter2 (k := 270) (N := 300) (by first | exact dq1 hd rfl | exact dq0 hd rfl | exact dq2 hd rfl | exact dq3 hd rfl | omega) rfl (Nat.le_of_ble_eq_true rfl) ?_
      refine g_aload_n 1 (gd rfl) rfl rfl ?_
      refine g_iload_n 2 (gd rfl) rfl rfl ?_
      refine g_if_ne 5 9 (gd rfl) rfl rfl (fun c14x3x2 => ?_) (fun c14x3x2 => ?_)
      · skip
        refine g_iload_n 10 (gd rfl) rfl rfl ?_
        refine g_if_ne 13 17 (gd rfl) rfl rfl (fun c14x3x10 => ?_) (fun c14x3x10 => ?_)
        · skip
          refine g_iconst 0 18 (gd rfl) rfl rfl ?_
          refine g_putI 21 (gd rfl) rfl rfl rfl rfl ?_
          have hI14x3x18 := rng_sF (q := 109) (j := 0) hI.1 rfl (in_w 0 2 (in_c 0 rfl) rfl)
          refine g_aload_n 22 (gd rfl) rfl rfl ?_
          refine g_getI 25 (gd rfl) rfl rfl rfl (fun z14x3x22 e14x3x22 => ?_)
          have q14x3x22 : (Int32.ofInt 0) = z14x3x22 := (sF_get).trans e14x3x22.symm
          subst q14x3x22
          refine g_if_le 28 32 (gd rfl) rfl rfl (fun c14x3x25 => ?_) (fun c14x3x25 => ?_)
          · skip
            refine g_iconst 0 33 (gd rfl) rfl rfl ?_
            refine g_ireturn (gd rfl) rfl (nb01 (in_w 0 1 (in_c 0 rfl) rfl)) (hp14x3 _ _ ?_)
            show GG _ _ _ _ _ _ _ _ [.int (Int32.ofInt 0)] _ _ _
            refine g_ireturn (gd rfl) rfl (nb01 (in_w 0 1 (in_c 0 rfl) rfl)) (hp14 _ _ ?_)
            show GG _ _ _ _ _ _ _ _ [.int (Int32.ofInt 0)] _ _ _
            refine g_if_eq 20 22 (gd rfl) rfl rfl (fun c17 => ?_) (fun c17 => ?_)
            · skip
              refine g_aload_n 23 (gd rfl) rfl rfl ?_
              refine g_iload_n 24 (gd rfl) rfl rfl ?_
              refine g_putI 27 (gd rfl) rfl rfl rfl rfl ?_
              have hI24 := rng_sF (q := 109) (j := 17) hI14x3x18 rfl (in_w (-1) 4000 i11x10b rfl)
              refine g_iload_n 28 (gd rfl) rfl rfl ?_
              refine g_if_lt 31 83 (gd rfl) rfl rfl (fun c28 => ?_) (fun c28 => ?_)
              · skip
                have i28 := z_lt (-1) (-1) c28 i11x10b rfl
                refine g_aload_n 84 (gd rfl) rfl rfl ?_
                have p84 : In ((sF (sF s 109 0 (Int32.ofInt 0)) 109 17 x1).1 110 0) 0 32 ∧ In ((sF (sF s 109 0 (Int32.ofInt 0)) 109 17 x1).1 110 1) 0 32 := by first | (have h := kr_nn hI; exact h) | exact vw_nn (x := y66_2) hI (by have a0 := oa3 i28 ro_109_9 ((in_c 0 rfl)); have a3 := tx_i2l e10; have a4 := tx_i2l e2; have oc := oc_286_109; omega) (by rw [← e_109_9]; have a0 := oa3 i28 ro_109_9 ((in_c 0 rfl)); have a3 := tx_i2l e10; have a4 := tx_i2l e2; have oc := oc_286_109; omega) g66_0.1 g66_0.2
                refine g_callv (X := _) (As := []) (r := []) (b := A 109) (q := 109) 87 (gd rfl) rfl rfl rfl rfl rfl (ww_o rfl) (Nat.le_of_ble_eq_true rfl) (Nat.zero_le _) (Nat.zero_le _) (f_276 (by first | exact dq1 hd rfl | exact dq0 hd rfl | exact dq2 hd rfl | exact dq3 hd rfl | omega) hI24 p84) (fun e u h => h) (fun v u h => ?_)
                obtain ⟨s84, hI84, hF84, rfl, rfl, p84a, p84b⟩ := h
                show GG _ _ _ _ _ _ _ _ [] _ _ _
                refine g_iload_n 88 (gd rfl) rfl rfl ?_
                refine g_if_ge 91 98 (gd rfl) rfl rfl (fun c88 => ?_) (fun c88 => ?_)
                · skip
                  exact zn_ge c88 i28 rfl
                · skip
                  refine g_aload_n 92 (gd rfl) rfl rfl ?_
                  refine g_getI 95 (gd rfl) rfl rfl rfl (fun z92 e92 => ?_)
                  have q92 : u_109_9 = z92 := (fr_F (s := (sF (sF s 109 0 (Int32.ofInt 0)) 109 17 x1)) (sF_ne rfl (sF_ne rfl (e_109_9))) hF84 rfl).trans e92.symm
                  subst q92
                  refine g_goto 99 (gd rfl) rfl ?_
                  have hI99 : Inv s84 := by first | (have hFF : Fr ([], [], [(109, 0), (109, 17)], []) s s84 := (fr_tr rfl (fr_sF rfl (fr_sF rfl fr_rf)) hF84); exact ⟨hI84, kk_all hI.2 hFF rfl⟩) | (have hFF : Fr fm_286 s s84 := (fr_tr rfl (fr_sF rfl (fr_sF rfl fr_rf)) hF84); exact ⟨hI84, kk_g hI.2.1 hFF rfl rfl rfl rfl rfl, kk_g hI.2.2.1 hFF rfl rfl rfl rfl rfl, kk_s hI.2.2.2.1 hFF rfl, lk_kr hI (funext fun q => hF84.1 q rfl) (hFF.2.2.1 109 9 rfl) p84a⟩) | (have hFF : Fr fm_286 s s84 := (fr_tr rfl (fr_sF rfl (fr_sF rfl fr_rf)) hF84); exact ⟨hI84, kk_g hI.2.1 hFF rfl rfl rfl rfl rfl, kk_g hI.2.2.1 hFF rfl rfl rfl rfl rfl, kk_s hI.2.2.2.1 hFF rfl, vw_kr (x := y66_2) hI (in_w 0 4000 j66_2 rfl) (by rw [← e_109_9]; have a0 := oa3 i28 ro_109_9 ((in_c 0 rfl)); have a3 := tx_i2l e10; have a4 := tx_i2l e2; have oc := oc_286_109; omega) ((hF84.1 118 rfl).trans (hFc66.1 118 rfl)) ((hF84.1 119 rfl).trans (hFc66.1 119 rfl)) ((hF84.1 120 rfl).trans (hFc66.1 120 rfl)) ((hF84.1 121 rfl).trans (hFc66.1 121 rfl)) (hFF.2.2.1 109 9 rfl) ((congrFun (hF84.1 110 rfl) 0).trans g66_0.1) (by rw [hF84.1 110 rfl]; exact g66_0.2) (fun i hi => by rw [hF84.1 112 rfl, hF84.1 113 rfl, hF84.1 114 rfl]; exact g66_1 i hi) (by rw [hF84.1 112 rfl, hF84.1 113 rfl, hF84.1 114 rfl, hF84.1 110 rfl]; exact g66_2) p84a⟩)
                  have n99 : GEQ (gvR s84) (gvR s) := by rw [gvR_cg hF84 rfl, (gvR_cg (L := ([], [], [(109, 0), (109, 17)], [])) (fr_sF rfl (fr_sF rfl fr_rf)) rfl)]; exact geq_r
                  have n99a : VWQ s s84 x1 u_109_9 := by exact Or.inr ⟨by rw [hF84.2.2.1 109 0 rfl]; rfl, ⟨by have a0 := oa3 i28 ro_109_9 ((in_c 0 rfl)); have a3 := tx_i2l e10; have a4 := tx_i2l e2; have oc := oc_286_109; omega, by rw [← e_109_9]; have a0 := oa3 i28 ro_109_9 ((in_c 0 rfl)); have a3 := tx_i2l e10; have a4 := tx_i2l e2; have oc := oc_286_109; omega⟩, by rw [if_pos (by have a0 := oa3 i28 ro_109_9 ((in_c 0 rfl)); have a3 := tx_i2l e10; have a4 := tx_i2l e2; have oc := oc_286_109; omega)]; exact e_109_9⟩
                  have n99b : VW1 s s84 x1 := by exact ⟨fun _ => ⟨(hF84.2.2.1 109 17 rfl).trans sF_get.symm, fun h => (by exfalso; have a0 := oa3 i28 ro_109_9 ((in_c 0 rfl)); have a3 := tx_i2l e10; have a4 := tx_i2l e2; have oc := oc_286_109; omega)⟩, fun h => absurd (by rw [hF84.2.2.1 109 0 rfl]; rfl) h⟩
                  have n99c : GSE s → GSE s84 := by exact fun _ => p84b
                  exact g_ireturn (gd rfl) rfl rfl (hP _ _ ⟨s84, hI99, (fr_tr rfl (fr_sF rfl (fr_sF rfl fr_rf)) hF84), u_109_9, rfl, rfl, in_w 0 4000 ro_109_9 rfl, n99, n99a, n99b, n99c⟩)
              · skip
                have i28 := z_ge 0 4000 c28 i11x10b rfl
                refine g_aload_n 32 (gd rfl) rfl rfl ?_
                refine g_getA (q2 := 110) 35 (gd rfl) rfl rfl rfl rfl ?_
                refine g_iconst 1 36 (gd rfl) rfl rfl ?_
                refine g_iconst 0 37 (gd rfl) rfl rfl ?_
                refine g_iastore 38 (gd rfl) rfl (n := 3) rfl (in_ix (in_c 1 rfl) rfl) ?_
                have hI37 := rng_sI (q := 110) (j := (Int32.ofInt 1).toNatClampNeg) hI24 rfl (in_w (-2147483648) 2147483647 (in_c 0 rfl) rfl)
                refine g_iconst 0 39 (gd rfl) rfl rfl ?_
                refine g_istore_n 40 (gd rfl) rfl (Nat.le_of_ble_eq_true rfl) ?_
                have n40 : (x1).toInt ≤ (u_109_9).toInt := by have a0 := oa3 i28 ro_109_9 ((in_c 0 rfl)); have a3 := tx_i2l e10; have a4 := tx_i2l e2; have oc := oc_286_109; omega
                have n40a : 0 ≤ (x1).toInt := by have a0 := oa3 i28 ro_109_9 ((in_c 0 rfl)); have a3 := tx_i2l e10; have a4 := tx_i2l e2; have oc := oc_286_109; omega
                have n40b : (sI (sF (sF s 109 0 (Int32.ofInt 0)) 109 17 x1) 110 (Int32.ofInt 1).toNatClampNeg (Int32.ofInt 0)).1 110 0 = s.1 110 0 ∧ ((sI (sF (sF s 109 0 (Int32.ofInt 0)) 109 17 x1) 110 (Int32.ofInt 1).toNatClampNeg (Int32.ofInt 0)).1 110 1).toInt = 0 := by first | exact g40_0 | exact ⟨rfl, rfl⟩
                have n40c : ∀ i, i < 160 → (sI (sF (sF s 109 0 (Int32.ofInt 0)) 109 17 x1) 110 (Int32.ofInt 1).toNatClampNeg (Int32.ofInt 0)).1 112 i = s.1 112 i ∧ (sI (sF (sF s 109 0 (Int32.ofInt 0)) 109 17 x1) 110 (Int32.ofInt 1).toNatClampNeg (Int32.ofInt 0)).1 113 i = s.1 113 i ∧ (sI (sF (sF s 109 0 (Int32.ofInt 0)) 109 17 x1) 110 (Int32.ofInt 1).toNatClampNeg (Int32.ofInt 0)).1 114 i = s.1 114 i := by first | exact fun i hi => ⟨rfl, rfl, rfl⟩ | (intro i hi; refine ⟨?_, (g40_1 i hi).2⟩; rw [sI_q]; unfold upd; rw [if_neg (by have e5 : z55.toNatClampNeg = z55.toInt.toNat := rfl; have a0 := oa3 i28 ro_109_9 ((in_c 0 rfl)); have a3 := tx_i2l e10; have a4 := tx_i2l e2; have oc := oc_286_109; omega)]; exact (g40_1 i hi).1)
                have n40d : ∀ j : Nat, (j : Int) < ((Int32.ofInt 0)).toInt → ((sI (sF (sF s 109 0 (Int32.ofInt 0)) 109 17 x1) 110 (Int32.ofInt 1).toNatClampNeg (Int32.ofInt 0)).1 112 (160 + j)).toInt = 0 := by first | (intro j hj; exfalso; have h0 : (Int32.ofInt 0).toInt = 0 := rfl; omega) | (intro j hj; rw [sI_q]; unfold upd; have e5 : z55.toNatClampNeg = z55.toInt.toNat := rfl; by_cases c : 160 + j = z55.toNatClampNeg; (rw [if_pos c]; rfl); (rw [if_neg c]; exact g40_2 j (by have a0 := oa3 i28 ro_109_9 ((in_c 0 rfl)); have a3 := tx_i2l e10; have a4 := tx_i2l e2; have oc := oc_286_109; omega)))
                have n40e : GEQ (gvR (sI (sF (sF s 109 0 (Int32.ofInt 0)) 109 17 x1) 110 (Int32.ofInt 1).toNatClampNeg (Int32.ofInt 0))) (gvR s) := by first | exact geq_112 (by show 160 ≤ z55.toInt.toNat; have a0 := oa3 i28 ro_109_9 ((in_c 0 rfl)); have a3 := tx_i2l e10; have a4 := tx_i2l e2; have oc := oc_286_109; omega) g40_3 | exact geq_110 (by decide) (by rw [(gvR_cg (L := ([], [], [(109, 0), (109, 17)], [])) (fr_sF rfl (fr_sF rfl fr_rf)) rfl)]; exact geq_r)
                have n40f : ((sI (sF (sF s 109 0 (Int32.ofInt 0)) 109 17 x1) 110 (Int32.ofInt 1).toNatClampNeg (Int32.ofInt 0)).2.2.1 109 0).toInt = 0 := by first | exact g40_4 | rfl
                have n40g : (sI (sF (sF s 109 0 (Int32.ofInt 0)) 109 17 x1) 110 (Int32.ofInt 1).toNatClampNeg (Int32.ofInt 0)).2.2.1 109 17 = x1 := by first | exact g40_5 | exact sF_get.symm
                exact gg_w (by first | exact Nat.le_of_ble_eq_true rfl | omega) (gg_f (gf_cons rfl (gf_cons rfl (gf_cons rfl gf_nil))) (ct40 161 (sI (sF (sF s 109 0 (Int32.ofInt 0)) 109 17 x1) 110 (Int32.ofInt 1).toNatClampNeg (Int32.ofInt 0)) (Int32.ofInt 0) hI37 (fr_sI rfl (fr_sF rfl (fr_sF rfl fr_rf))) (in_w 0 4000 i28 rfl) (in_w 0 160 (in_c 0 rfl) rfl) n40 n40a n40b n40c n40d n40e n40f n40g (m_in 161 (in_w 0 160 (in_c 0 rfl) rfl) rfl)))
            · skip
              exact zn_ne c17 (in_c 0 rfl) rfl
          · skip
            exact zn_gt c14x3x25 (in_c 0 rfl) rfl
        · skip
          exact zn_eq c14x3x10 (in_c 1 rfl) rfl
      · skip
        exact zn_eq c14x3x2 (in_c 1 rfl) rfl
end
section
/-! FUNCTIONAL CONTRACTS, by fgen.py -/
theorem oc_281_109 : (Int32.ofInt (-1)).toInt = (-1) ∧ (Int32.ofInt 0).toInt = 0 ∧ (Int32.ofInt 1).toInt = 1 ∧ (Int32.ofInt 2).toInt = 2 ∧ (Int32.ofInt 32).toInt = 32 ∧ (Int32.ofInt 4000).toInt = 4000 ∧ (Int64.ofInt 0).toInt = 0 ∧ (Int64.ofInt 25).toInt = 25 := ⟨rfl, rfl, rfl, rfl, rfl, rfl, rfl, rfl⟩
/-- GraphHouseModel.node -/
theorem f_281 {Z : AmZ} {A : Nat → Nat} {s : GS} {ex : va_W} {d : Nat} {X : AmX} {x1 : Int32} {u_109_9 : Int32} {u_109_0 : Int32} (hd : 3 ≤ d) (hI : Inv s) (e_109_9 : u_109_9 = s.2.2.1 109 9) (e_109_0 : u_109_0 = s.2.2.1 109 0) : GC Z d 281 [.ref (A 109), .int x1] (WW Z A s ++ ex) 0 0 (fun v u => ∃ t : GS, Inv t ∧ Fr fm_281 s t ∧ ∃ z : Int32, v = some (.int z) ∧ u = WW Z A t ++ ex ∧ In z (-1) 31 ∧ (CDR s t (In x1 0 25) ((s.1 110 0).toInt ≤ 31 ∧ (s.2.2.1 109 9).toInt ≤ 3999) ((z).toInt = (s.1 110 0).toInt ∧ gvR t = gqN (gvR s) (s.1 110 0).toNatClampNeg x1)) ∧ (LGX s t (Int32.ofInt 0) x1 (Int32.ofInt 0) (Int32.ofInt 0) (Int32.ofInt 0) (Int32.ofInt 0) (Int32.ofInt 0)) ∧ (GSE s → GSE t) ∧ (G1S s t)) X := by
  intro post xp hP hX
  refine g_enter2 (k := 281) (N := 900) (by first | exact dq1 hd rfl | exact dq0 hd rfl | exact dq2 hd rfl | exact dq3 hd rfl | omega) rfl (Nat.le_of_ble_eq_true rfl) ?_
  refine g_aload_n 1 (gd rfl) rfl rfl ?_
  refine g_iload_n 2 (gd rfl) rfl rfl ?_
  refine g_i2l 3 (gd rfl) rfl (fun z2 e2 => ?_)
  have i2 := l_i e2 (i_rng x1)
  refine g_lconst 0 4 (gd rfl) rfl rfl ?_
  refine g_ldc2_w 25 7 (gd rfl) rfl rfl ?_
  refine g_calls (As := [.long z2, .long (Int64.ofInt 0), .long (Int64.ofInt 25)]) (r := [.ref (A 109)]) 10 (gd rfl) rfl rfl rfl rfl rfl (Nat.le_of_ble_eq_true rfl) (mc := 0) (ms := 0) (Nat.zero_le _) (Nat.zero_le _) (P := fun v u => _) ?_ (fun v u h => h)
  intro po7 xx7 hp7 hx7
  refine g_enter2 (k := 269) (N := 300) (by first | exact dq1 hd rfl | exact dq0 hd rfl | exact dq2 hd rfl | exact dq3 hd rfl | omega) rfl (Nat.le_of_ble_eq_true rfl) ?_
  refine g_lload_n 1 (gd rfl) rfl rfl ?_
  refine g_lload_n 2 (gd rfl) rfl rfl ?_
  refine g_lcmp 3 (gd rfl) rfl (fun z7x2 e7x2 => ?_)
  have i7x2 := lc_in e7x2
  refine g_if_lt 6 17 (gd rfl) rfl rfl (fun c7x3 => ?_) (fun c7x3 => ?_)
  · skip
    have i7x3 := z_lt (-1) (-1) c7x3 i7x2 rfl
    have c7x3a := lc_lt e7x2 c7x3
    have i7x3a := lr_lt1 (-2147483648) (-1) c7x3a i2 (l_c 0 rfl) rfl
    have i7x3b := l_b e2 i7x3a
    refine g_iconst 0 18 (gd rfl) rfl rfl ?_
    refine g_ireturn (gd rfl) rfl (nb01 (in_w 0 1 (in_c 0 rfl) rfl)) (hp7 _ _ ?_)
    show GG _ _ _ _ _ _ _ _ [.int (Int32.ofInt 0), .ref (A 109)] _ _ _
    refine g_aload_n 11 (gd rfl) rfl rfl ?_
    refine g_getA (q2 := 110) 14 (gd rfl) rfl rfl rfl rfl ?_
    refine g_iconst 0 15 (gd rfl) rfl rfl ?_
    refine g_iaload 16 (gd rfl) rfl (n := 3) rfl (in_ix (in_c 0 rfl) rfl) (fun z15 e15 => ?_)
    have i15 := nn_01 hI (in_c 0 rfl) rfl e15
    refine g_bipush 32 18 (gd rfl) rfl rfl ?_
    refine g_cmp_ge 21 35 (gd rfl) rfl rfl (fun c18 => ?_) (fun c18 => ?_)
    · skip
      have i18 := r_le2 32 32 c18 (in_c 32 rfl) i15 rfl
      refine g_iconst 0 36 (gd rfl) rfl rfl ?_
      refine g_callv (X := _) (As := [.int (Int32.ofInt 0), .int (Int32.ofInt 0)]) (r := []) (b := A 109) (q := 109) 39 (gd rfl) rfl rfl rfl rfl rfl (ww_o rfl) (Nat.le_of_ble_eq_true rfl) (mc := 0) (ms := 0) (Nat.zero_le _) (Nat.zero_le _) (P := fun v u => _) ?_ (fun e u h => h) (fun v u h => h)
      intro po36 xx36 hp36 hx36
      refine g_enter2 (k := 270) (N := 300) (by first | exact dq1 hd rfl | exact dq0 hd rfl | exact dq2 hd rfl | exact dq3 hd rfl | omega) rfl (Nat.le_of_ble_eq_true rfl) ?_
      refine g_aload_n 1 (gd rfl) rfl rfl ?_
      refine g_iload_n 2 (gd rfl) rfl rfl ?_
      refine g_if_ne 5 9 (gd rfl) rfl rfl (fun c36x2 => ?_) (fun c36x2 => ?_)
      · skip
        exact zn_ne c36x2 (in_c 0 rfl) rfl
      · skip
        refine g_iconst 1 6 (gd rfl) rfl rfl ?_
        refine g_goto 18 (gd rfl) rfl ?_
        refine g_putI 21 (gd rfl) rfl rfl rfl rfl ?_
        have hI36x18 := inv_sF (q := 109) (j := 0) hI rfl (in_w 0 2 (in_c 1 rfl) rfl)
        refine g_aload_n 22 (gd rfl) rfl rfl ?_
        refine g_getI 25 (gd rfl) rfl rfl rfl (fun z36x22 e36x22 => ?_)
        have q36x22 : (Int32.ofInt 1) = z36x22 := (sF_get).trans e36x22.symm
        subst q36x22
        refine g_if_le 28 32 (gd rfl) rfl rfl (fun c36x25 => ?_) (fun c36x25 => ?_)
        · skip
          exact zn_le c36x25 (in_c 1 rfl) rfl
        · skip
          refine g_iconst 1 29 (gd rfl) rfl rfl ?_
          refine g_goto 33 (gd rfl) rfl ?_
          refine g_ireturn (gd rfl) rfl (nb01 (in_w 0 1 (in_c 1 rfl) rfl)) (hp36 _ _ ?_)
          show GG _ _ _ _ _ _ _ _ [.int (Int32.ofInt 1)] _ _ _
          refine g_if_eq 42 44 (gd rfl) rfl rfl (fun c39 => ?_) (fun c39 => ?_)
          · skip
            exact zn_eq c39 (in_c 1 rfl) rfl
          · skip
            refine g_iconst 0 43 (gd rfl) rfl rfl ?_
            have n43 : CDR s (sF s 109 0 (Int32.ofInt 1)) (In x1 0 25) ((s.1 110 0).toInt ≤ 31 ∧ (s.2.2.1 109 9).toInt ≤ 3999) (((Int32.ofInt 0)).toInt = (s.1 110 0).toInt ∧ gvR (sF s 109 0 (Int32.ofInt 1)) = gqN (gvR s) (s.1 110 0).toNatClampNeg x1) := by first | exact Or.inl ⟨rfl, (by unfold In; have a0 := oa4 ((inv_F hI 0 2 rfl e_109_0)) ((inv_F hI 0 4000 rfl e_109_9)) i7x3b ((in_c 1 rfl)); have a4 := tx_i2l e2; have oc := oc_281_109; omega), (gvR_cg (L := ([], [], [(109, 0)], [])) (fr_sF rfl fr_rf) rfl)⟩ | exact Or.inr (Or.inl ⟨rfl, ⟨by have a0 := oa4 ((inv_F hI 0 2 rfl e_109_0)) ((inv_F hI 0 4000 rfl e_109_9)) i7x3b ((in_c 1 rfl)); have a4 := tx_i2l e2; have oc := oc_281_109; omega, by have a0 := oa4 ((inv_F hI 0 2 rfl e_109_0)) ((inv_F hI 0 4000 rfl e_109_9)) i7x3b ((in_c 1 rfl)); have a4 := tx_i2l e2; have oc := oc_281_109; omega⟩, (by rw [show s.1 110 0 = z15 from e15.symm, ← e_109_9]; have a0 := oa4 ((inv_F hI 0 2 rfl e_109_0)) ((inv_F hI 0 4000 rfl e_109_9)) i7x3b ((in_c 1 rfl)); have a4 := tx_i2l e2; have oc := oc_281_109; omega), (gvR_cg (L := ([], [], [(109, 0)], [])) (fr_sF rfl fr_rf) rfl)⟩)
            have n43a : LGX s (sF s 109 0 (Int32.ofInt 1)) (Int32.ofInt 0) x1 (Int32.ofInt 0) (Int32.ofInt 0) (Int32.ofInt 0) (Int32.ofInt 0) (Int32.ofInt 0) := by exact Or.inl ⟨rfl, rfl, rfl, rfl, rfl, rfl, rfl, rfl⟩
            have n43b : GSE s → GSE (sF s 109 0 (Int32.ofInt 1)) := by exact fun h => gse_fr (L := ([], [], [(109, 0)], [])) h (fr_sF rfl fr_rf) rfl
            have n43c : G1S s (sF s 109 0 (Int32.ofInt 1)) := by exact ⟨rfl, fun _ _ => rfl, fun _ _ _ => ⟨rfl, rfl, rfl, rfl, rfl, rfl⟩⟩
            exact g_ireturn (gd rfl) rfl rfl (hP _ _ ⟨(sF s 109 0 (Int32.ofInt 1)), hI36x18, (fr_sF rfl fr_rf), (Int32.ofInt 0), rfl, rfl, in_w (-1) 31 (in_c 0 rfl) rfl, n43, n43a, n43b, n43c⟩)
    · skip
      have i18 := r_lt1 0 31 c18 i15 (in_c 32 rfl) rfl
      refine g_aload_n 22 (gd rfl) rfl rfl ?_
      refine g_getI 25 (gd rfl) rfl rfl rfl (fun z22 e22 => ?_)
      have q22 : u_109_9 = z22 := (e_109_9).trans e22.symm
      subst q22
      refine g_sipush 4000 28 (gd rfl) rfl rfl ?_
      refine g_cmp_ge 31 35 (gd rfl) rfl rfl (fun c28 => ?_) (fun c28 => ?_)
      · skip
        have i28 := r_le2 4000 4000 c28 (in_c 4000 rfl) (inv_F hI 0 4000 rfl e_109_9) rfl
        refine g_iconst 0 36 (gd rfl) rfl rfl ?_
        refine g_callv (X := _) (As := [.int (Int32.ofInt 0), .int (Int32.ofInt 0)]) (r := []) (b := A 109) (q := 109) 39 (gd rfl) rfl rfl rfl rfl rfl (ww_o rfl) (Nat.le_of_ble_eq_true rfl) (mc := 0) (ms := 0) (Nat.zero_le _) (Nat.zero_le _) (P := fun v u => _) ?_ (fun e u h => h) (fun v u h => h)
        intro po36 xx36 hp36 hx36
        refine g_enter2 (k := 270) (N := 300) (by first | exact dq1 hd rfl | exact dq0 hd rfl | exact dq2 hd rfl | exact dq3 hd rfl | omega) rfl (Nat.le_of_ble_eq_true rfl) ?_
        refine g_aload_n 1 (gd rfl) rfl rfl ?_
        refine g_iload_n 2 (gd rfl) rfl rfl ?_
        refine g_if_ne 5 9 (gd rfl) rfl rfl (fun c36x2 => ?_) (fun c36x2 => ?_)
        · skip
          exact zn_ne c36x2 (in_c 0 rfl) rfl
        · skip
          refine g_iconst 1 6 (gd rfl) rfl rfl ?_
          refine g_goto 18 (gd rfl) rfl ?_
          refine g_putI 21 (gd rfl) rfl rfl rfl rfl ?_
          have hI36x18 := inv_sF (q := 109) (j := 0) hI rfl (in_w 0 2 (in_c 1 rfl) rfl)
          refine g_aload_n 22 (gd rfl) rfl rfl ?_
          refine g_getI 25 (gd rfl) rfl rfl rfl (fun z36x22 e36x22 => ?_)
          have q36x22 : (Int32.ofInt 1) = z36x22 := (sF_get).trans e36x22.symm
          subst q36x22
          refine g_if_le 28 32 (gd rfl) rfl rfl (fun c36x25 => ?_) (fun c36x25 => ?_)
          · skip
            exact zn_le c36x25 (in_c 1 rfl) rfl
          · skip
            refine g_iconst 1 29 (gd rfl) rfl rfl ?_
            refine g_goto 33 (gd rfl) rfl ?_
            refine g_ireturn (gd rfl) rfl (nb01 (in_w 0 1 (in_c 1 rfl) rfl)) (hp36 _ _ ?_)
            show GG _ _ _ _ _ _ _ _ [.int (Int32.ofInt 1)] _ _ _
            refine g_if_eq 42 44 (gd rfl) rfl rfl (fun c39 => ?_) (fun c39 => ?_)
            · skip
              exact zn_eq c39 (in_c 1 rfl) rfl
            · skip
              refine g_iconst 0 43 (gd rfl) rfl rfl ?_
              have n43 : CDR s (sF s 109 0 (Int32.ofInt 1)) (In x1 0 25) ((s.1 110 0).toInt ≤ 31 ∧ (s.2.2.1 109 9).toInt ≤ 3999) (((Int32.ofInt 0)).toInt = (s.1 110 0).toInt ∧ gvR (sF s 109 0 (Int32.ofInt 1)) = gqN (gvR s) (s.1 110 0).toNatClampNeg x1) := by first | exact Or.inl ⟨rfl, (by unfold In; have a0 := oa4 ((inv_F hI 0 2 rfl e_109_0)) i28 i7x3b ((in_c 1 rfl)); have a4 := tx_i2l e2; have oc := oc_281_109; omega), (gvR_cg (L := ([], [], [(109, 0)], [])) (fr_sF rfl fr_rf) rfl)⟩ | exact Or.inr (Or.inl ⟨rfl, ⟨by have a0 := oa4 ((inv_F hI 0 2 rfl e_109_0)) i28 i7x3b ((in_c 1 rfl)); have a4 := tx_i2l e2; have oc := oc_281_109; omega, by have a0 := oa4 ((inv_F hI 0 2 rfl e_109_0)) i28 i7x3b ((in_c 1 rfl)); have a4 := tx_i2l e2; have oc := oc_281_109; omega⟩, (by rw [show s.1 110 0 = z15 from e15.symm, ← e_109_9]; have a0 := oa4 ((inv_F hI 0 2 rfl e_109_0)) i28 i7x3b ((in_c 1 rfl)); have a4 := tx_i2l e2; have oc := oc_281_109; omega), (gvR_cg (L := ([], [], [(109, 0)], [])) (fr_sF rfl fr_rf) rfl)⟩)
              have n43a : LGX s (sF s 109 0 (Int32.ofInt 1)) (Int32.ofInt 0) x1 (Int32.ofInt 0) (Int32.ofInt 0) (Int32.ofInt 0) (Int32.ofInt 0) (Int32.ofInt 0) := by exact Or.inl ⟨rfl, rfl, rfl, rfl, rfl, rfl, rfl, rfl⟩
              have n43b : GSE s → GSE (sF s 109 0 (Int32.ofInt 1)) := by exact fun h => gse_fr (L := ([], [], [(109, 0)], [])) h (fr_sF rfl fr_rf) rfl
              have n43c : G1S s (sF s 109 0 (Int32.ofInt 1)) := by exact ⟨rfl, fun _ _ => rfl, fun _ _ _ => ⟨rfl, rfl, rfl, rfl, rfl, rfl⟩⟩
              exact g_ireturn (gd rfl) rfl rfl (hP _ _ ⟨(sF s 109 0 (Int32.ofInt 1)), hI36x18, (fr_sF rfl fr_rf), (Int32.ofInt 0), rfl, rfl, in_w (-1) 31 (in_c 0 rfl) rfl, n43, n43a, n43b, n43c⟩)
      · skip
        have i28 := r_lt1 0 3999 c28 (inv_F hI 0 4000 rfl e_109_9) (in_c 4000 rfl) rfl
        refine g_iconst 1 32 (gd rfl) rfl rfl ?_
        refine g_goto 36 (gd rfl) rfl ?_
        refine g_callv (X := _) (As := [.int (Int32.ofInt 0), .int (Int32.ofInt 1)]) (r := []) (b := A 109) (q := 109) 39 (gd rfl) rfl rfl rfl rfl rfl (ww_o rfl) (Nat.le_of_ble_eq_true rfl) (mc := 0) (ms := 0) (Nat.zero_le _) (Nat.zero_le _) (P := fun v u => _) ?_ (fun e u h => h) (fun v u h => h)
        intro po36 xx36 hp36 hx36
        refine g_enter2 (k := 270) (N := 300) (by first | exact dq1 hd rfl | exact dq0 hd rfl | exact dq2 hd rfl | exact dq3 hd rfl | omega) rfl (Nat.le_of_ble_eq_true rfl) ?_
        refine g_aload_n 1 (gd rfl) rfl rfl ?_
        refine g_iload_n 2 (gd rfl) rfl rfl ?_
        refine g_if_ne 5 9 (gd rfl) rfl rfl (fun c36x2 => ?_) (fun c36x2 => ?_)
        · skip
          exact zn_ne c36x2 (in_c 0 rfl) rfl
        · skip
          refine g_iconst 1 6 (gd rfl) rfl rfl ?_
          refine g_goto 18 (gd rfl) rfl ?_
          refine g_putI 21 (gd rfl) rfl rfl rfl rfl ?_
          have hI36x18 := inv_sF (q := 109) (j := 0) hI rfl (in_w 0 2 (in_c 1 rfl) rfl)
          refine g_aload_n 22 (gd rfl) rfl rfl ?_
          refine g_getI 25 (gd rfl) rfl rfl rfl (fun z36x22 e36x22 => ?_)
          have q36x22 : (Int32.ofInt 1) = z36x22 := (sF_get).trans e36x22.symm
          subst q36x22
          refine g_if_le 28 32 (gd rfl) rfl rfl (fun c36x25 => ?_) (fun c36x25 => ?_)
          · skip
            exact zn_le c36x25 (in_c 1 rfl) rfl
          · skip
            refine g_iconst 1 29 (gd rfl) rfl rfl ?_
            refine g_goto 33 (gd rfl) rfl ?_
            refine g_ireturn (gd rfl) rfl (nb01 (in_w 0 1 (in_c 1 rfl) rfl)) (hp36 _ _ ?_)
            show GG _ _ _ _ _ _ _ _ [.int (Int32.ofInt 1)] _ _ _
            refine g_if_eq 42 44 (gd rfl) rfl rfl (fun c39 => ?_) (fun c39 => ?_)
            · skip
              exact zn_eq c39 (in_c 1 rfl) rfl
            · skip
              refine g_iconst 0 43 (gd rfl) rfl rfl ?_
              have n43 : CDR s (sF s 109 0 (Int32.ofInt 1)) (In x1 0 25) ((s.1 110 0).toInt ≤ 31 ∧ (s.2.2.1 109 9).toInt ≤ 3999) (((Int32.ofInt 0)).toInt = (s.1 110 0).toInt ∧ gvR (sF s 109 0 (Int32.ofInt 1)) = gqN (gvR s) (s.1 110 0).toNatClampNeg x1) := by first | exact Or.inl ⟨rfl, (by unfold In; have a0 := oa4 ((inv_F hI 0 2 rfl e_109_0)) i28 i7x3b ((in_c 1 rfl)); have a4 := tx_i2l e2; have oc := oc_281_109; omega), (gvR_cg (L := ([], [], [(109, 0)], [])) (fr_sF rfl fr_rf) rfl)⟩ | exact Or.inr (Or.inl ⟨rfl, ⟨by have a0 := oa4 ((inv_F hI 0 2 rfl e_109_0)) i28 i7x3b ((in_c 1 rfl)); have a4 := tx_i2l e2; have oc := oc_281_109; omega, by have a0 := oa4 ((inv_F hI 0 2 rfl e_109_0)) i28 i7x3b ((in_c 1 rfl)); have a4 := tx_i2l e2; have oc := oc_281_109; omega⟩, (by rw [show s.1 110 0 = z15 from e15.symm, ← e_109_9]; have a0 := oa4 ((inv_F hI 0 2 rfl e_109_0)) i28 i7x3b ((in_c 1 rfl)); have a4 := tx_i2l e2; have oc := oc_281_109; omega), (gvR_cg (L := ([], [], [(109, 0)], [])) (fr_sF rfl fr_rf) rfl)⟩)
              have n43a : LGX s (sF s 109 0 (Int32.ofInt 1)) (Int32.ofInt 0) x1 (Int32.ofInt 0) (Int32.ofInt 0) (Int32.ofInt 0) (Int32.ofInt 0) (Int32.ofInt 0) := by exact Or.inl ⟨rfl, rfl, rfl, rfl, rfl, rfl, rfl, rfl⟩
              have n43b : GSE s → GSE (sF s 109 0 (Int32.ofInt 1)) := by exact fun h => gse_fr (L := ([], [], [(109, 0)], [])) h (fr_sF rfl fr_rf) rfl
              have n43c : G1S s (sF s 109 0 (Int32.ofInt 1)) := by exact ⟨rfl, fun _ _ => rfl, fun _ _ _ => ⟨rfl, rfl, rfl, rfl, rfl, rfl⟩⟩
              exact g_ireturn (gd rfl) rfl rfl (hP _ _ ⟨(sF s 109 0 (Int32.ofInt 1)), hI36x18, (fr_sF rfl fr_rf), (Int32.ofInt 0), rfl, rfl, in_w (-1) 31 (in_c 0 rfl) rfl, n43, n43a, n43b, n43c⟩)
  · skip
    have i7x3 := z_ge 0 1 c7x3 i7x2 rfl
    have c7x3a := lc_ge e7x2 c7x3
    have i7x3a := lr_le2 0 2147483647 c7x3a (l_c 0 rfl) i2 rfl
    have i7x3b := l_b e2 i7x3a
    refine g_lload_n 7 (gd rfl) rfl rfl ?_
    refine g_lload 9 (gd rfl) rfl rfl ?_
    refine g_lcmp 10 (gd rfl) rfl (fun z7x9 e7x9 => ?_)
    have i7x9 := lc_in e7x9
    refine g_if_gt 13 17 (gd rfl) rfl rfl (fun c7x10 => ?_) (fun c7x10 => ?_)
    · skip
      have i7x10 := z_gt 1 1 c7x10 i7x9 rfl
      have c7x10a := lc_gt e7x9 c7x10
      have i7x10a := lr_lt2 26 2147483647 c7x10a (l_c 25 rfl) i7x3a rfl
      have i7x10b := l_b e2 i7x10a
      refine g_iconst 0 18 (gd rfl) rfl rfl ?_
      refine g_ireturn (gd rfl) rfl (nb01 (in_w 0 1 (in_c 0 rfl) rfl)) (hp7 _ _ ?_)
      show GG _ _ _ _ _ _ _ _ [.int (Int32.ofInt 0), .ref (A 109)] _ _ _
      refine g_aload_n 11 (gd rfl) rfl rfl ?_
      refine g_getA (q2 := 110) 14 (gd rfl) rfl rfl rfl rfl ?_
      refine g_iconst 0 15 (gd rfl) rfl rfl ?_
      refine g_iaload 16 (gd rfl) rfl (n := 3) rfl (in_ix (in_c 0 rfl) rfl) (fun z15 e15 => ?_)
      have i15 := nn_01 hI (in_c 0 rfl) rfl e15
      refine g_bipush 32 18 (gd rfl) rfl rfl ?_
      refine g_cmp_ge 21 35 (gd rfl) rfl rfl (fun c18 => ?_) (fun c18 => ?_)
      · skip
        have i18 := r_le2 32 32 c18 (in_c 32 rfl) i15 rfl
        refine g_iconst 0 36 (gd rfl) rfl rfl ?_
        refine g_callv (X := _) (As := [.int (Int32.ofInt 0), .int (Int32.ofInt 0)]) (r := []) (b := A 109) (q := 109) 39 (gd rfl) rfl rfl rfl rfl rfl (ww_o rfl) (Nat.le_of_ble_eq_true rfl) (mc := 0) (ms := 0) (Nat.zero_le _) (Nat.zero_le _) (P := fun v u => _) ?_ (fun e u h => h) (fun v u h => h)
        intro po36 xx36 hp36 hx36
        refine g_enter2 (k := 270) (N := 300) (by first | exact dq1 hd rfl | exact dq0 hd rfl | exact dq2 hd rfl | exact dq3 hd rfl | omega) rfl (Nat.le_of_ble_eq_true rfl) ?_
        refine g_aload_n 1 (gd rfl) rfl rfl ?_
        refine g_iload_n 2 (gd rfl) rfl rfl ?_
        refine g_if_ne 5 9 (gd rfl) rfl rfl (fun c36x2 => ?_) (fun c36x2 => ?_)
        · skip
          exact zn_ne c36x2 (in_c 0 rfl) rfl
        · skip
          refine g_iconst 1 6 (gd rfl) rfl rfl ?_
          refine g_goto 18 (gd rfl) rfl ?_
          refine g_putI 21 (gd rfl) rfl rfl rfl rfl ?_
          have hI36x18 := inv_sF (q := 109) (j := 0) hI rfl (in_w 0 2 (in_c 1 rfl) rfl)
          refine g_aload_n 22 (gd rfl) rfl rfl ?_
          refine g_getI 25 (gd rfl) rfl rfl rfl (fun z36x22 e36x22 => ?_)
          have q36x22 : (Int32.ofInt 1) = z36x22 := (sF_get).trans e36x22.symm
          subst q36x22
          refine g_if_le 28 32 (gd rfl) rfl rfl (fun c36x25 => ?_) (fun c36x25 => ?_)
          · skip
            exact zn_le c36x25 (in_c 1 rfl) rfl
          · skip
            refine g_iconst 1 29 (gd rfl) rfl rfl ?_
            refine g_goto 33 (gd rfl) rfl ?_
            refine g_ireturn (gd rfl) rfl (nb01 (in_w 0 1 (in_c 1 rfl) rfl)) (hp36 _ _ ?_)
            show GG _ _ _ _ _ _ _ _ [.int (Int32.ofInt 1)] _ _ _
            refine g_if_eq 42 44 (gd rfl) rfl rfl (fun c39 => ?_) (fun c39 => ?_)
            · skip
              exact zn_eq c39 (in_c 1 rfl) rfl
            · skip
              refine g_iconst 0 43 (gd rfl) rfl rfl ?_
              have n43 : CDR s (sF s 109 0 (Int32.ofInt 1)) (In x1 0 25) ((s.1 110 0).toInt ≤ 31 ∧ (s.2.2.1 109 9).toInt ≤ 3999) (((Int32.ofInt 0)).toInt = (s.1 110 0).toInt ∧ gvR (sF s 109 0 (Int32.ofInt 1)) = gqN (gvR s) (s.1 110 0).toNatClampNeg x1) := by first | exact Or.inl ⟨rfl, (by unfold In; have a0 := oa4 ((inv_F hI 0 2 rfl e_109_0)) ((inv_F hI 0 4000 rfl e_109_9)) i7x10b ((in_c 1 rfl)); have a4 := tx_i2l e2; have oc := oc_281_109; omega), (gvR_cg (L := ([], [], [(109, 0)], [])) (fr_sF rfl fr_rf) rfl)⟩ | exact Or.inr (Or.inl ⟨rfl, ⟨by have a0 := oa4 ((inv_F hI 0 2 rfl e_109_0)) ((inv_F hI 0 4000 rfl e_109_9)) i7x10b ((in_c 1 rfl)); have a4 := tx_i2l e2; have oc := oc_281_109; omega, by have a0 := oa4 ((inv_F hI 0 2 rfl e_109_0)) ((inv_F hI 0 4000 rfl e_109_9)) i7x10b ((in_c 1 rfl)); have a4 := tx_i2l e2; have oc := oc_281_109; omega⟩, (by rw [show s.1 110 0 = z15 from e15.symm, ← e_109_9]; have a0 := oa4 ((inv_F hI 0 2 rfl e_109_0)) ((inv_F hI 0 4000 rfl e_109_9)) i7x10b ((in_c 1 rfl)); have a4 := tx_i2l e2; have oc := oc_281_109; omega), (gvR_cg (L := ([], [], [(109, 0)], [])) (fr_sF rfl fr_rf) rfl)⟩)
              have n43a : LGX s (sF s 109 0 (Int32.ofInt 1)) (Int32.ofInt 0) x1 (Int32.ofInt 0) (Int32.ofInt 0) (Int32.ofInt 0) (Int32.ofInt 0) (Int32.ofInt 0) := by exact Or.inl ⟨rfl, rfl, rfl, rfl, rfl, rfl, rfl, rfl⟩
              have n43b : GSE s → GSE (sF s 109 0 (Int32.ofInt 1)) := by exact fun h => gse_fr (L := ([], [], [(109, 0)], [])) h (fr_sF rfl fr_rf) rfl
              have n43c : G1S s (sF s 109 0 (Int32.ofInt 1)) := by exact ⟨rfl, fun _ _ => rfl, fun _ _ _ => ⟨rfl, rfl, rfl, rfl, rfl, rfl⟩⟩
              exact g_ireturn (gd rfl) rfl rfl (hP _ _ ⟨(sF s 109 0 (Int32.ofInt 1)), hI36x18, (fr_sF rfl fr_rf), (Int32.ofInt 0), rfl, rfl, in_w (-1) 31 (in_c 0 rfl) rfl, n43, n43a, n43b, n43c⟩)
      · skip
        have i18 := r_lt1 0 31 c18 i15 (in_c 32 rfl) rfl
        refine g_aload_n 22 (gd rfl) rfl rfl ?_
        refine g_getI 25 (gd rfl) rfl rfl rfl (fun z22 e22 => ?_)
        have q22 : u_109_9 = z22 := (e_109_9).trans e22.symm
        subst q22
        refine g_sipush 4000 28 (gd rfl) rfl rfl ?_
        refine g_cmp_ge 31 35 (gd rfl) rfl rfl (fun c28 => ?_) (fun c28 => ?_)
        · skip
          have i28 := r_le2 4000 4000 c28 (in_c 4000 rfl) (inv_F hI 0 4000 rfl e_109_9) rfl
          refine g_iconst 0 36 (gd rfl) rfl rfl ?_
          refine g_callv (X := _) (As := [.int (Int32.ofInt 0), .int (Int32.ofInt 0)]) (r := []) (b := A 109) (q := 109) 39 (gd rfl) rfl rfl rfl rfl rfl (ww_o rfl) (Nat.le_of_ble_eq_true rfl) (mc := 0) (ms := 0) (Nat.zero_le _) (Nat.zero_le _) (P := fun v u => _) ?_ (fun e u h => h) (fun v u h => h)
          intro po36 xx36 hp36 hx36
          refine g_enter2 (k := 270) (N := 300) (by first | exact dq1 hd rfl | exact dq0 hd rfl | exact dq2 hd rfl | exact dq3 hd rfl | omega) rfl (Nat.le_of_ble_eq_true rfl) ?_
          refine g_aload_n 1 (gd rfl) rfl rfl ?_
          refine g_iload_n 2 (gd rfl) rfl rfl ?_
          refine g_if_ne 5 9 (gd rfl) rfl rfl (fun c36x2 => ?_) (fun c36x2 => ?_)
          · skip
            exact zn_ne c36x2 (in_c 0 rfl) rfl
          · skip
            refine g_iconst 1 6 (gd rfl) rfl rfl ?_
            refine g_goto 18 (gd rfl) rfl ?_
            refine g_putI 21 (gd rfl) rfl rfl rfl rfl ?_
            have hI36x18 := inv_sF (q := 109) (j := 0) hI rfl (in_w 0 2 (in_c 1 rfl) rfl)
            refine g_aload_n 22 (gd rfl) rfl rfl ?_
            refine g_getI 25 (gd rfl) rfl rfl rfl (fun z36x22 e36x22 => ?_)
            have q36x22 : (Int32.ofInt 1) = z36x22 := (sF_get).trans e36x22.symm
            subst q36x22
            refine g_if_le 28 32 (gd rfl) rfl rfl (fun c36x25 => ?_) (fun c36x25 => ?_)
            · skip
              exact zn_le c36x25 (in_c 1 rfl) rfl
            · skip
              refine g_iconst 1 29 (gd rfl) rfl rfl ?_
              refine g_goto 33 (gd rfl) rfl ?_
              refine g_ireturn (gd rfl) rfl (nb01 (in_w 0 1 (in_c 1 rfl) rfl)) (hp36 _ _ ?_)
              show GG _ _ _ _ _ _ _ _ [.int (Int32.ofInt 1)] _ _ _
              refine g_if_eq 42 44 (gd rfl) rfl rfl (fun c39 => ?_) (fun c39 => ?_)
              · skip
                exact zn_eq c39 (in_c 1 rfl) rfl
              · skip
                refine g_iconst 0 43 (gd rfl) rfl rfl ?_
                have n43 : CDR s (sF s 109 0 (Int32.ofInt 1)) (In x1 0 25) ((s.1 110 0).toInt ≤ 31 ∧ (s.2.2.1 109 9).toInt ≤ 3999) (((Int32.ofInt 0)).toInt = (s.1 110 0).toInt ∧ gvR (sF s 109 0 (Int32.ofInt 1)) = gqN (gvR s) (s.1 110 0).toNatClampNeg x1) := by first | exact Or.inl ⟨rfl, (by unfold In; have a0 := oa4 ((inv_F hI 0 2 rfl e_109_0)) i28 i7x10b ((in_c 1 rfl)); have a4 := tx_i2l e2; have oc := oc_281_109; omega), (gvR_cg (L := ([], [], [(109, 0)], [])) (fr_sF rfl fr_rf) rfl)⟩ | exact Or.inr (Or.inl ⟨rfl, ⟨by have a0 := oa4 ((inv_F hI 0 2 rfl e_109_0)) i28 i7x10b ((in_c 1 rfl)); have a4 := tx_i2l e2; have oc := oc_281_109; omega, by have a0 := oa4 ((inv_F hI 0 2 rfl e_109_0)) i28 i7x10b ((in_c 1 rfl)); have a4 := tx_i2l e2; have oc := oc_281_109; omega⟩, (by rw [show s.1 110 0 = z15 from e15.symm, ← e_109_9]; have a0 := oa4 ((inv_F hI 0 2 rfl e_109_0)) i28 i7x10b ((in_c 1 rfl)); have a4 := tx_i2l e2; have oc := oc_281_109; omega), (gvR_cg (L := ([], [], [(109, 0)], [])) (fr_sF rfl fr_rf) rfl)⟩)
                have n43a : LGX s (sF s 109 0 (Int32.ofInt 1)) (Int32.ofInt 0) x1 (Int32.ofInt 0) (Int32.ofInt 0) (Int32.ofInt 0) (Int32.ofInt 0) (Int32.ofInt 0) := by exact Or.inl ⟨rfl, rfl, rfl, rfl, rfl, rfl, rfl, rfl⟩
                have n43b : GSE s → GSE (sF s 109 0 (Int32.ofInt 1)) := by exact fun h => gse_fr (L := ([], [], [(109, 0)], [])) h (fr_sF rfl fr_rf) rfl
                have n43c : G1S s (sF s 109 0 (Int32.ofInt 1)) := by exact ⟨rfl, fun _ _ => rfl, fun _ _ _ => ⟨rfl, rfl, rfl, rfl, rfl, rfl⟩⟩
                exact g_ireturn (gd rfl) rfl rfl (hP _ _ ⟨(sF s 109 0 (Int32.ofInt 1)), hI36x18, (fr_sF rfl fr_rf), (Int32.ofInt 0), rfl, rfl, in_w (-1) 31 (in_c 0 rfl) rfl, n43, n43a, n43b, n43c⟩)
        · skip
          have i28 := r_lt1 0 3999 c28 (inv_F hI 0 4000 rfl e_109_9) (in_c 4000 rfl) rfl
          refine g_iconst 1 32 (gd rfl) rfl rfl ?_
          refine g_goto 36 (gd rfl) rfl ?_
          refine g_callv (X := _) (As := [.int (Int32.ofInt 0), .int (Int32.ofInt 1)]) (r := []) (b := A 109) (q := 109) 39 (gd rfl) rfl rfl rfl rfl rfl (ww_o rfl) (Nat.le_of_ble_eq_true rfl) (mc := 0) (ms := 0) (Nat.zero_le _) (Nat.zero_le _) (P := fun v u => _) ?_ (fun e u h => h) (fun v u h => h)
          intro po36 xx36 hp36 hx36
          refine g_enter2 (k := 270) (N := 300) (by first | exact dq1 hd rfl | exact dq0 hd rfl | exact dq2 hd rfl | exact dq3 hd rfl | omega) rfl (Nat.le_of_ble_eq_true rfl) ?_
          refine g_aload_n 1 (gd rfl) rfl rfl ?_
          refine g_iload_n 2 (gd rfl) rfl rfl ?_
          refine g_if_ne 5 9 (gd rfl) rfl rfl (fun c36x2 => ?_) (fun c36x2 => ?_)
          · skip
            exact zn_ne c36x2 (in_c 0 rfl) rfl
          · skip
            refine g_iconst 1 6 (gd rfl) rfl rfl ?_
            refine g_goto 18 (gd rfl) rfl ?_
            refine g_putI 21 (gd rfl) rfl rfl rfl rfl ?_
            have hI36x18 := inv_sF (q := 109) (j := 0) hI rfl (in_w 0 2 (in_c 1 rfl) rfl)
            refine g_aload_n 22 (gd rfl) rfl rfl ?_
            refine g_getI 25 (gd rfl) rfl rfl rfl (fun z36x22 e36x22 => ?_)
            have q36x22 : (Int32.ofInt 1) = z36x22 := (sF_get).trans e36x22.symm
            subst q36x22
            refine g_if_le 28 32 (gd rfl) rfl rfl (fun c36x25 => ?_) (fun c36x25 => ?_)
            · skip
              exact zn_le c36x25 (in_c 1 rfl) rfl
            · skip
              refine g_iconst 1 29 (gd rfl) rfl rfl ?_
              refine g_goto 33 (gd rfl) rfl ?_
              refine g_ireturn (gd rfl) rfl (nb01 (in_w 0 1 (in_c 1 rfl) rfl)) (hp36 _ _ ?_)
              show GG _ _ _ _ _ _ _ _ [.int (Int32.ofInt 1)] _ _ _
              refine g_if_eq 42 44 (gd rfl) rfl rfl (fun c39 => ?_) (fun c39 => ?_)
              · skip
                exact zn_eq c39 (in_c 1 rfl) rfl
              · skip
                refine g_iconst 0 43 (gd rfl) rfl rfl ?_
                have n43 : CDR s (sF s 109 0 (Int32.ofInt 1)) (In x1 0 25) ((s.1 110 0).toInt ≤ 31 ∧ (s.2.2.1 109 9).toInt ≤ 3999) (((Int32.ofInt 0)).toInt = (s.1 110 0).toInt ∧ gvR (sF s 109 0 (Int32.ofInt 1)) = gqN (gvR s) (s.1 110 0).toNatClampNeg x1) := by first | exact Or.inl ⟨rfl, (by unfold In; have a0 := oa4 ((inv_F hI 0 2 rfl e_109_0)) i28 i7x10b ((in_c 1 rfl)); have a4 := tx_i2l e2; have oc := oc_281_109; omega), (gvR_cg (L := ([], [], [(109, 0)], [])) (fr_sF rfl fr_rf) rfl)⟩ | exact Or.inr (Or.inl ⟨rfl, ⟨by have a0 := oa4 ((inv_F hI 0 2 rfl e_109_0)) i28 i7x10b ((in_c 1 rfl)); have a4 := tx_i2l e2; have oc := oc_281_109; omega, by have a0 := oa4 ((inv_F hI 0 2 rfl e_109_0)) i28 i7x10b ((in_c 1 rfl)); have a4 := tx_i2l e2; have oc := oc_281_109; omega⟩, (by rw [show s.1 110 0 = z15 from e15.symm, ← e_109_9]; have a0 := oa4 ((inv_F hI 0 2 rfl e_109_0)) i28 i7x10b ((in_c 1 rfl)); have a4 := tx_i2l e2; have oc := oc_281_109; omega), (gvR_cg (L := ([], [], [(109, 0)], [])) (fr_sF rfl fr_rf) rfl)⟩)
                have n43a : LGX s (sF s 109 0 (Int32.ofInt 1)) (Int32.ofInt 0) x1 (Int32.ofInt 0) (Int32.ofInt 0) (Int32.ofInt 0) (Int32.ofInt 0) (Int32.ofInt 0) := by exact Or.inl ⟨rfl, rfl, rfl, rfl, rfl, rfl, rfl, rfl⟩
                have n43b : GSE s → GSE (sF s 109 0 (Int32.ofInt 1)) := by exact fun h => gse_fr (L := ([], [], [(109, 0)], [])) h (fr_sF rfl fr_rf) rfl
                have n43c : G1S s (sF s 109 0 (Int32.ofInt 1)) := by exact ⟨rfl, fun _ _ => rfl, fun _ _ _ => ⟨rfl, rfl, rfl, rfl, rfl, rfl⟩⟩
                exact g_ireturn (gd rfl) rfl rfl (hP _ _ ⟨(sF s 109 0 (Int32.ofInt 1)), hI36x18, (fr_sF rfl fr_rf), (Int32.ofInt 0), rfl, rfl, in_w (-1) 31 (in_c 0 rfl) rfl, n43, n43a, n43b, n43c⟩)
    · skip
      have i7x10 := z_le (-1) 0 c7x10 i7x9 rfl
      have c7x10a := lc_le e7x9 c7x10
      have i7x10a := lr_le1 0 25 c7x10a i7x3a (l_c 25 rfl) rfl
      have i7x10b := l_b e2 i7x10a
      refine g_iconst 1 14 (gd rfl) rfl rfl ?_
      refine g_goto 18 (gd rfl) rfl ?_
      refine g_ireturn (gd rfl) rfl (nb01 (in_w 0 1 (in_c 1 rfl) rfl)) (hp7 _ _ ?_)
      show GG _ _ _ _ _ _ _ _ [.int (Int32.ofInt 1), .ref (A 109)] _ _ _
      refine g_aload_n 11 (gd rfl) rfl rfl ?_
      refine g_getA (q2 := 110) 14 (gd rfl) rfl rfl rfl rfl ?_
      refine g_iconst 0 15 (gd rfl) rfl rfl ?_
      refine g_iaload 16 (gd rfl) rfl (n := 3) rfl (in_ix (in_c 0 rfl) rfl) (fun z15 e15 => ?_)
      have i15 := nn_01 hI (in_c 0 rfl) rfl e15
      refine g_bipush 32 18 (gd rfl) rfl rfl ?_
      refine g_cmp_ge 21 35 (gd rfl) rfl rfl (fun c18 => ?_) (fun c18 => ?_)
      · skip
        have i18 := r_le2 32 32 c18 (in_c 32 rfl) i15 rfl
        refine g_iconst 0 36 (gd rfl) rfl rfl ?_
        refine g_callv (X := _) (As := [.int (Int32.ofInt 1), .int (Int32.ofInt 0)]) (r := []) (b := A 109) (q := 109) 39 (gd rfl) rfl rfl rfl rfl rfl (ww_o rfl) (Nat.le_of_ble_eq_true rfl) (mc := 0) (ms := 0) (Nat.zero_le _) (Nat.zero_le _) (P := fun v u => _) ?_ (fun e u h => h) (fun v u h => h)
        intro po36 xx36 hp36 hx36
        refine g_enter2 (k := 270) (N := 300) (by first | exact dq1 hd rfl | exact dq0 hd rfl | exact dq2 hd rfl | exact dq3 hd rfl | omega) rfl (Nat.le_of_ble_eq_true rfl) ?_
        refine g_aload_n 1 (gd rfl) rfl rfl ?_
        refine g_iload_n 2 (gd rfl) rfl rfl ?_
        refine g_if_ne 5 9 (gd rfl) rfl rfl (fun c36x2 => ?_) (fun c36x2 => ?_)
        · skip
          refine g_iload_n 10 (gd rfl) rfl rfl ?_
          refine g_if_ne 13 17 (gd rfl) rfl rfl (fun c36x10 => ?_) (fun c36x10 => ?_)
          · skip
            exact zn_ne c36x10 (in_c 0 rfl) rfl
          · skip
            refine g_iconst 2 14 (gd rfl) rfl rfl ?_
            refine g_goto 18 (gd rfl) rfl ?_
            refine g_putI 21 (gd rfl) rfl rfl rfl rfl ?_
            have hI36x18 := inv_sF (q := 109) (j := 0) hI rfl (in_w 0 2 (in_c 2 rfl) rfl)
            refine g_aload_n 22 (gd rfl) rfl rfl ?_
            refine g_getI 25 (gd rfl) rfl rfl rfl (fun z36x22 e36x22 => ?_)
            have q36x22 : (Int32.ofInt 2) = z36x22 := (sF_get).trans e36x22.symm
            subst q36x22
            refine g_if_le 28 32 (gd rfl) rfl rfl (fun c36x25 => ?_) (fun c36x25 => ?_)
            · skip
              exact zn_le c36x25 (in_c 2 rfl) rfl
            · skip
              refine g_iconst 1 29 (gd rfl) rfl rfl ?_
              refine g_goto 33 (gd rfl) rfl ?_
              refine g_ireturn (gd rfl) rfl (nb01 (in_w 0 1 (in_c 1 rfl) rfl)) (hp36 _ _ ?_)
              show GG _ _ _ _ _ _ _ _ [.int (Int32.ofInt 1)] _ _ _
              refine g_if_eq 42 44 (gd rfl) rfl rfl (fun c39 => ?_) (fun c39 => ?_)
              · skip
                exact zn_eq c39 (in_c 1 rfl) rfl
              · skip
                refine g_iconst 0 43 (gd rfl) rfl rfl ?_
                have n43 : CDR s (sF s 109 0 (Int32.ofInt 2)) (In x1 0 25) ((s.1 110 0).toInt ≤ 31 ∧ (s.2.2.1 109 9).toInt ≤ 3999) (((Int32.ofInt 0)).toInt = (s.1 110 0).toInt ∧ gvR (sF s 109 0 (Int32.ofInt 2)) = gqN (gvR s) (s.1 110 0).toNatClampNeg x1) := by first | exact Or.inl ⟨rfl, (by unfold In; have a0 := oa4 i7x10b ((inv_F hI 0 2 rfl e_109_0)) ((inv_F hI 0 4000 rfl e_109_9)) ((in_c 2 rfl)); have a4 := tx_i2l e2; have oc := oc_281_109; omega), (gvR_cg (L := ([], [], [(109, 0)], [])) (fr_sF rfl fr_rf) rfl)⟩ | exact Or.inr (Or.inl ⟨rfl, ⟨by have a0 := oa4 i7x10b ((inv_F hI 0 2 rfl e_109_0)) ((inv_F hI 0 4000 rfl e_109_9)) ((in_c 2 rfl)); have a4 := tx_i2l e2; have oc := oc_281_109; omega, by have a0 := oa4 i7x10b ((inv_F hI 0 2 rfl e_109_0)) ((inv_F hI 0 4000 rfl e_109_9)) ((in_c 2 rfl)); have a4 := tx_i2l e2; have oc := oc_281_109; omega⟩, (by rw [show s.1 110 0 = z15 from e15.symm, ← e_109_9]; have a0 := oa4 i7x10b ((inv_F hI 0 2 rfl e_109_0)) ((inv_F hI 0 4000 rfl e_109_9)) ((in_c 2 rfl)); have a4 := tx_i2l e2; have oc := oc_281_109; omega), (gvR_cg (L := ([], [], [(109, 0)], [])) (fr_sF rfl fr_rf) rfl)⟩)
                have n43a : LGX s (sF s 109 0 (Int32.ofInt 2)) (Int32.ofInt 0) x1 (Int32.ofInt 0) (Int32.ofInt 0) (Int32.ofInt 0) (Int32.ofInt 0) (Int32.ofInt 0) := by exact Or.inl ⟨rfl, rfl, rfl, rfl, rfl, rfl, rfl, rfl⟩
                have n43b : GSE s → GSE (sF s 109 0 (Int32.ofInt 2)) := by exact fun h => gse_fr (L := ([], [], [(109, 0)], [])) h (fr_sF rfl fr_rf) rfl
                have n43c : G1S s (sF s 109 0 (Int32.ofInt 2)) := by exact ⟨rfl, fun _ _ => rfl, fun _ _ _ => ⟨rfl, rfl, rfl, rfl, rfl, rfl⟩⟩
                exact g_ireturn (gd rfl) rfl rfl (hP _ _ ⟨(sF s 109 0 (Int32.ofInt 2)), hI36x18, (fr_sF rfl fr_rf), (Int32.ofInt 0), rfl, rfl, in_w (-1) 31 (in_c 0 rfl) rfl, n43, n43a, n43b, n43c⟩)
        · skip
          exact zn_eq c36x2 (in_c 1 rfl) rfl
      · skip
        have i18 := r_lt1 0 31 c18 i15 (in_c 32 rfl) rfl
        refine g_aload_n 22 (gd rfl) rfl rfl ?_
        refine g_getI 25 (gd rfl) rfl rfl rfl (fun z22 e22 => ?_)
        have q22 : u_109_9 = z22 := (e_109_9).trans e22.symm
        subst q22
        refine g_sipush 4000 28 (gd rfl) rfl rfl ?_
        refine g_cmp_ge 31 35 (gd rfl) rfl rfl (fun c28 => ?_) (fun c28 => ?_)
        · skip
          have i28 := r_le2 4000 4000 c28 (in_c 4000 rfl) (inv_F hI 0 4000 rfl e_109_9) rfl
          refine g_iconst 0 36 (gd rfl) rfl rfl ?_
          refine g_callv (X := _) (As := [.int (Int32.ofInt 1), .int (Int32.ofInt 0)]) (r := []) (b := A 109) (q := 109) 39 (gd rfl) rfl rfl rfl rfl rfl (ww_o rfl) (Nat.le_of_ble_eq_true rfl) (mc := 0) (ms := 0) (Nat.zero_le _) (Nat.zero_le _) (P := fun v u => _) ?_ (fun e u h => h) (fun v u h => h)
          intro po36 xx36 hp36 hx36
          refine g_enter2 (k := 270) (N := 300) (by first | exact dq1 hd rfl | exact dq0 hd rfl | exact dq2 hd rfl | exact dq3 hd rfl | omega) rfl (Nat.le_of_ble_eq_true rfl) ?_
          refine g_aload_n 1 (gd rfl) rfl rfl ?_
          refine g_iload_n 2 (gd rfl) rfl rfl ?_
          refine g_if_ne 5 9 (gd rfl) rfl rfl (fun c36x2 => ?_) (fun c36x2 => ?_)
          · skip
            refine g_iload_n 10 (gd rfl) rfl rfl ?_
            refine g_if_ne 13 17 (gd rfl) rfl rfl (fun c36x10 => ?_) (fun c36x10 => ?_)
            · skip
              exact zn_ne c36x10 (in_c 0 rfl) rfl
            · skip
              refine g_iconst 2 14 (gd rfl) rfl rfl ?_
              refine g_goto 18 (gd rfl) rfl ?_
              refine g_putI 21 (gd rfl) rfl rfl rfl rfl ?_
              have hI36x18 := inv_sF (q := 109) (j := 0) hI rfl (in_w 0 2 (in_c 2 rfl) rfl)
              refine g_aload_n 22 (gd rfl) rfl rfl ?_
              refine g_getI 25 (gd rfl) rfl rfl rfl (fun z36x22 e36x22 => ?_)
              have q36x22 : (Int32.ofInt 2) = z36x22 := (sF_get).trans e36x22.symm
              subst q36x22
              refine g_if_le 28 32 (gd rfl) rfl rfl (fun c36x25 => ?_) (fun c36x25 => ?_)
              · skip
                exact zn_le c36x25 (in_c 2 rfl) rfl
              · skip
                refine g_iconst 1 29 (gd rfl) rfl rfl ?_
                refine g_goto 33 (gd rfl) rfl ?_
                refine g_ireturn (gd rfl) rfl (nb01 (in_w 0 1 (in_c 1 rfl) rfl)) (hp36 _ _ ?_)
                show GG _ _ _ _ _ _ _ _ [.int (Int32.ofInt 1)] _ _ _
                refine g_if_eq 42 44 (gd rfl) rfl rfl (fun c39 => ?_) (fun c39 => ?_)
                · skip
                  exact zn_eq c39 (in_c 1 rfl) rfl
                · skip
                  refine g_iconst 0 43 (gd rfl) rfl rfl ?_
                  have n43 : CDR s (sF s 109 0 (Int32.ofInt 2)) (In x1 0 25) ((s.1 110 0).toInt ≤ 31 ∧ (s.2.2.1 109 9).toInt ≤ 3999) (((Int32.ofInt 0)).toInt = (s.1 110 0).toInt ∧ gvR (sF s 109 0 (Int32.ofInt 2)) = gqN (gvR s) (s.1 110 0).toNatClampNeg x1) := by first | exact Or.inl ⟨rfl, (by unfold In; have a0 := oa4 i7x10b ((inv_F hI 0 2 rfl e_109_0)) i28 ((in_c 2 rfl)); have a4 := tx_i2l e2; have oc := oc_281_109; omega), (gvR_cg (L := ([], [], [(109, 0)], [])) (fr_sF rfl fr_rf) rfl)⟩ | exact Or.inr (Or.inl ⟨rfl, ⟨by have a0 := oa4 i7x10b ((inv_F hI 0 2 rfl e_109_0)) i28 ((in_c 2 rfl)); have a4 := tx_i2l e2; have oc := oc_281_109; omega, by have a0 := oa4 i7x10b ((inv_F hI 0 2 rfl e_109_0)) i28 ((in_c 2 rfl)); have a4 := tx_i2l e2; have oc := oc_281_109; omega⟩, (by rw [show s.1 110 0 = z15 from e15.symm, ← e_109_9]; have a0 := oa4 i7x10b ((inv_F hI 0 2 rfl e_109_0)) i28 ((in_c 2 rfl)); have a4 := tx_i2l e2; have oc := oc_281_109; omega), (gvR_cg (L := ([], [], [(109, 0)], [])) (fr_sF rfl fr_rf) rfl)⟩)
                  have n43a : LGX s (sF s 109 0 (Int32.ofInt 2)) (Int32.ofInt 0) x1 (Int32.ofInt 0) (Int32.ofInt 0) (Int32.ofInt 0) (Int32.ofInt 0) (Int32.ofInt 0) := by exact Or.inl ⟨rfl, rfl, rfl, rfl, rfl, rfl, rfl, rfl⟩
                  have n43b : GSE s → GSE (sF s 109 0 (Int32.ofInt 2)) := by exact fun h => gse_fr (L := ([], [], [(109, 0)], [])) h (fr_sF rfl fr_rf) rfl
                  have n43c : G1S s (sF s 109 0 (Int32.ofInt 2)) := by exact ⟨rfl, fun _ _ => rfl, fun _ _ _ => ⟨rfl, rfl, rfl, rfl, rfl, rfl⟩⟩
                  exact g_ireturn (gd rfl) rfl rfl (hP _ _ ⟨(sF s 109 0 (Int32.ofInt 2)), hI36x18, (fr_sF rfl fr_rf), (Int32.ofInt 0), rfl, rfl, in_w (-1) 31 (in_c 0 rfl) rfl, n43, n43a, n43b, n43c⟩)
          · skip
            exact zn_eq c36x2 (in_c 1 rfl) rfl
        · skip
          have i28 := r_lt1 0 3999 c28 (inv_F hI 0 4000 rfl e_109_9) (in_c 4000 rfl) rfl
          refine g_iconst 1 32 (gd rfl) rfl rfl ?_
          refine g_goto 36 (gd rfl) rfl ?_
          refine g_callv (X := _) (As := [.int (Int32.ofInt 1), .int (Int32.ofInt 1)]) (r := []) (b := A 109) (q := 109) 39 (gd rfl) rfl rfl rfl rfl rfl (ww_o rfl) (Nat.le_of_ble_eq_true rfl) (mc := 0) (ms := 0) (Nat.zero_le _) (Nat.zero_le _) (P := fun v u => _) ?_ (fun e u h => h) (fun v u h => h)
          intro po36 xx36 hp36 hx36
          refine g_enter2 (k := 270) (N := 300) (by first | exact dq1 hd rfl | exact dq0 hd rfl | exact dq2 hd rfl | exact dq3 hd rfl | omega) rfl (Nat.le_of_ble_eq_true rfl) ?_
          refine g_aload_n 1 (gd rfl) rfl rfl ?_
          refine g_iload_n 2 (gd rfl) rfl rfl ?_
          refine g_if_ne 5 9 (gd rfl) rfl rfl (fun c36x2 => ?_) (fun c36x2 => ?_)
          · skip
            refine g_iload_n 10 (gd rfl) rfl rfl ?_
            refine g_if_ne 13 17 (gd rfl) rfl rfl (fun c36x10 => ?_) (fun c36x10 => ?_)
            · skip
              refine g_iconst 0 18 (gd rfl) rfl rfl ?_
              refine g_putI 21 (gd rfl) rfl rfl rfl rfl ?_
              have hI36x18 := inv_sF (q := 109) (j := 0) hI rfl (in_w 0 2 (in_c 0 rfl) rfl)
              refine g_aload_n 22 (gd rfl) rfl rfl ?_
              refine g_getI 25 (gd rfl) rfl rfl rfl (fun z36x22 e36x22 => ?_)
              have q36x22 : (Int32.ofInt 0) = z36x22 := (sF_get).trans e36x22.symm
              subst q36x22
              refine g_if_le 28 32 (gd rfl) rfl rfl (fun c36x25 => ?_) (fun c36x25 => ?_)
              · skip
                refine g_iconst 0 33 (gd rfl) rfl rfl ?_
                refine g_ireturn (gd rfl) rfl (nb01 (in_w 0 1 (in_c 0 rfl) rfl)) (hp36 _ _ ?_)
                show GG _ _ _ _ _ _ _ _ [.int (Int32.ofInt 0)] _ _ _
                refine g_if_eq 42 44 (gd rfl) rfl rfl (fun c39 => ?_) (fun c39 => ?_)
                · skip
                  refine g_aload_n 45 (gd rfl) rfl rfl ?_
                  refine g_iconst 0 46 (gd rfl) rfl rfl ?_
                  refine g_iload_n 47 (gd rfl) rfl rfl ?_
                  refine g_iconst 0 48 (gd rfl) rfl rfl ?_
                  refine g_iconst 0 49 (gd rfl) rfl rfl ?_
                  refine g_iconst 0 50 (gd rfl) rfl rfl ?_
                  refine g_iconst 0 51 (gd rfl) rfl rfl ?_
                  refine g_iconst 0 52 (gd rfl) rfl rfl ?_
                  have v52 : u_109_9 = (sF s 109 0 (Int32.ofInt 0)).2.2.1 109 9 := sF_ne rfl (e_109_9)
                  have p52 : MK (sF s 109 0 (Int32.ofInt 0)) (Int32.ofInt 0) x1 (Int32.ofInt 0) (Int32.ofInt 0) := by refine ⟨fun _ => ⟨by have a0 := oa4 i7x10b ((inv_F hI 0 2 rfl e_109_0)) i28 ((in_c 0 rfl)); have a4 := tx_i2l e2; have oc := oc_281_109; omega, ?_⟩, fun h => absurd h (by decide), fun h => absurd h (by decide), fun h => absurd h (by decide), fun h => absurd h (by decide)⟩; have e0 : ((sF s 109 0 (Int32.ofInt 0))).1 110 0 = z15 := e15.symm; rw [e0]; exact i18.2
                  refine g_callv (X := _) (As := [.int (Int32.ofInt 0), .int x1, .int (Int32.ofInt 0), .int (Int32.ofInt 0), .int (Int32.ofInt 0), .int (Int32.ofInt 0), .int (Int32.ofInt 0)]) (r := []) (b := A 109) (q := 109) 55 (gd rfl) rfl rfl rfl rfl rfl (ww_o rfl) (Nat.le_of_ble_eq_true rfl) (Nat.zero_le _) (Nat.zero_le _) (f_274 (by first | exact dq1 hd rfl | exact dq0 hd rfl | exact dq2 hd rfl | exact dq3 hd rfl | omega) hI36x18 (in_w 0 4 (in_c 0 rfl) rfl) (in_w 0 159 i7x10b rfl) (in_w 0 31 (in_c 0 rfl) rfl) (in_w (-1000000) 1000000 (in_c 0 rfl) rfl) (in_w (-1000000) 1000000 (in_c 0 rfl) rfl) (in_w 0 1000000 (in_c 0 rfl) rfl) (in_w 0 25 (in_c 0 rfl) rfl) v52 (in_w 0 3999 i28 rfl) p52) (fun e u h => h) (fun v u h => ?_)
                  obtain ⟨s52, hI52, hF52, n52, rfl, rfl, p52a, p52b, p52c, p52d, p52e⟩ := h
                  obtain ⟨z52a, e52⟩ : ∃ w, w = s52.2.2.1 109 9 := ⟨_, rfl⟩
                  have i52a := inv_F hI52 0 4000 rfl e52
                  rw [← (show u_109_9 = (sF s 109 0 (Int32.ofInt 0)).2.2.1 109 9 from sF_ne rfl (e_109_9))] at n52
                  rw [← (show z52a = s52.2.2.1 109 9 from e52)] at n52
                  show GG _ _ _ _ _ _ _ _ [] _ _ _
                  refine g_aload_n 56 (gd rfl) rfl rfl ?_
                  refine g_getA (q2 := 110) 59 (gd rfl) rfl rfl rfl rfl ?_
                  refine g_iconst 0 60 (gd rfl) rfl rfl ?_
                  refine g_iaload 61 (gd rfl) rfl (n := 3) rfl (in_ix (in_c 0 rfl) rfl) (fun z60 e60 => ?_)
                  have i60 := nn_01 hI52 (in_c 0 rfl) rfl e60
                  refine g_iconst 1 62 (gd rfl) rfl rfl ?_
                  refine g_isub 63 (gd rfl) rfl (fun z62 e62 => ?_)
                  have i62 := in_sub (-1) 31 e62 i60 (in_c 1 rfl) rfl rfl
                  have n63 : CDR s s52 (In x1 0 25) ((s.1 110 0).toInt ≤ 31 ∧ (s.2.2.1 109 9).toInt ≤ 3999) ((z62).toInt = (s.1 110 0).toInt ∧ gvR s52 = gqN (gvR s) (s.1 110 0).toNatClampNeg x1) := by exact Or.inr (Or.inr ⟨(by have hc9 : s52.2.2.1 109 0 = Int32.ofInt 0 := (hF52.2.2.1 109 0 rfl).trans rfl; rw [hc9]; rfl), ⟨by have a0 := oa6 i7x10b ((inv_F hI 0 2 rfl e_109_0)) i28 i52a ((in_c 0 rfl)) i62; have a6 := t_sub e62 i60 (in_c 1 rfl) rfl; have a7 := oa2 ((in_c 1 rfl)) i60; have a9 := tx_i2l e2; have oc := oc_281_109; omega, by have a0 := oa6 i7x10b ((inv_F hI 0 2 rfl e_109_0)) i28 i52a ((in_c 0 rfl)) i62; have a6 := t_sub e62 i60 (in_c 1 rfl) rfl; have a7 := oa2 ((in_c 1 rfl)) i60; have a9 := tx_i2l e2; have oc := oc_281_109; omega⟩, ⟨by rw [show s.1 110 0 = z15 from e15.symm]; have a0 := oa6 i7x10b ((inv_F hI 0 2 rfl e_109_0)) i28 i52a ((in_c 0 rfl)) i62; have a6 := t_sub e62 i60 (in_c 1 rfl) rfl; have a7 := oa2 ((in_c 1 rfl)) i60; have a9 := tx_i2l e2; have oc := oc_281_109; omega, by rw [← e_109_9]; have a0 := oa6 i7x10b ((inv_F hI 0 2 rfl e_109_0)) i28 i52a ((in_c 0 rfl)) i62; have a6 := t_sub e62 i60 (in_c 1 rfl) rfl; have a7 := oa2 ((in_c 1 rfl)) i60; have a9 := tx_i2l e2; have oc := oc_281_109; omega⟩, (by have hn : (s52.1 110 0).toInt = (s.1 110 0).toInt + 1 := p52a.1 rfl; rw [show s52.1 110 0 = z60 from e60.symm] at hn; have a0 := oa6 i7x10b ((inv_F hI 0 2 rfl e_109_0)) i28 i52a ((in_c 0 rfl)) i62; have a6 := t_sub e62 i60 (in_c 1 rfl) rfl; have a7 := oa2 ((in_c 1 rfl)) i60; have a9 := tx_i2l e2; have oc := oc_281_109; omega), (by have hm := (p52b).1 rfl; rw [hm, gvR_cg (L := ([], [], [(109, 0)], [])) (fr_sF rfl fr_rf) rfl] <;> rfl)⟩)
                  have n63a : LGX s s52 (Int32.ofInt 0) x1 (Int32.ofInt 0) (Int32.ofInt 0) (Int32.ofInt 0) (Int32.ofInt 0) (Int32.ofInt 0) := by exact Or.inr p52c
                  have n63b : GSE s → GSE s52 := by exact fun _ => p52d
                  have n63c : G1S s s52 := by exact p52e
                  exact g_ireturn (gd rfl) rfl rfl (hP _ _ ⟨s52, hI52, (fr_tr rfl (fr_sF rfl fr_rf) hF52), z62, rfl, rfl, in_w (-1) 31 i62 rfl, n63, n63a, n63b, n63c⟩)
                · skip
                  exact zn_ne c39 (in_c 0 rfl) rfl
              · skip
                exact zn_gt c36x25 (in_c 0 rfl) rfl
            · skip
              exact zn_eq c36x10 (in_c 1 rfl) rfl
          · skip
            exact zn_eq c36x2 (in_c 1 rfl) rfl
end
