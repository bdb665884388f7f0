/-! methods, by vc.py -/
def fm_328 : FM := ([129], [], [(109, 0)], [])
/-- GraphHouseModel.part -/
theorem k_328 {Z : AmZ} {A : Nat → Nat} {s : GS} {ex : va_W} {d : Nat} {X : AmX} {x1 : Int32} {x2 : Int32} (hd : 4 ≤ d) (hI : Inv s)  : GC Z d 328 [.ref (A 109), .int x1, .int x2] (WW Z A s ++ ex) 0 0 (fun v u => ∃ t : GS, Inv t ∧ Fr fm_328 s t ∧ ∃ z : Int32, v = some (.int z) ∧ u = WW Z A t ++ ex ∧ In z 0 31) X := by
  intro post xp hP hX
  obtain ⟨u_109_20, e_109_20⟩ : ∃ w, w = s.2.2.1 109 20 := ⟨_, rfl⟩
  have ro_109_20 := inv_F hI 0 32 rfl e_109_20
  have ct50 : ∀ (k50 : Nat) (sc50 : GS) (y50_3 : Int32), Inv sc50 → Fr fm_328 s sc50 → (In x1 0 1) → (In x2 0 31) → (In y50_3 0 31) → ((y50_3).toInt ≤ (x2).toInt) → (0 ≤ (x2).toInt) → ((x2).toInt < (u_109_20).toInt) → (bt (sc50.1 129 (x2).toNatClampNeg) (x2).toNatClampNeg = true) → (x2).toInt - (y50_3).toInt < (k50 : Int) → GG Z (d - 1) 328 post (gx xp) (1 + k50 * 900) 50 (fun j => xlook j [(0, .ref (A 109)), (1, .int x1), (2, .int x2), (3, .int y50_3)]) [] (WW Z A sc50 ++ ex) 0 0 := by
    intro k50
    induction k50 with
    | zero => intro sc50 y50_3 hIc50 hFc50 j50_1 j50_2 j50_3 n50_0 n50_1 n50_2 g50_0 mm50; exfalso; have a0 := j50_2; unfold In at a0; have a1 := j50_1; unfold In at a1; have a2 := ro_109_20; unfold In at a2; have a3 := j50_3; unfold In at a3; omega
    | succ k50 ih50 =>
      intro sc50 y50_3 hIc50 hFc50 j50_1 j50_2 j50_3 n50_0 n50_1 n50_2 g50_0 mm50
      refine gg_w (M := 1 + k50 * 900 + 900) (by omega) ?_
      refine g_aload_n 51 (gd rfl) rfl rfl ?_
      refine g_getA (q2 := 129) 54 (gd rfl) rfl rfl rfl rfl ?_
      refine g_iload_n 55 (gd rfl) rfl rfl ?_
      refine g_iaload 56 (gd rfl) rfl (n := 32) rfl (in_ix j50_2 rfl) (fun z55 e55 => ?_)
      refine g_iload_n 57 (gd rfl) rfl rfl ?_
      refine g_calls (As := [.int z55, .int y50_3]) (r := []) 60 (gd rfl) rfl rfl rfl rfl rfl (Nat.le_of_ble_eq_true rfl) (mc := 0) (ms := 0) (Nat.zero_le _) (Nat.zero_le _) (P := fun v u => _) ?_ (fun v u h => h)
      intro po57 xx57 hp57 hx57
      refine g_enter2 (k := 311) (N := 300) (by omega) rfl (Nat.le_of_ble_eq_true rfl) ?_
      refine g_iload_n 1 (gd rfl) rfl rfl ?_
      refine g_iload_n 2 (gd rfl) rfl rfl ?_
      refine g_ishr 3 (gd rfl) rfl (fun z57x2 e57x2 => ?_)
      refine g_iconst 1 4 (gd rfl) rfl rfl ?_
      refine g_iand 5 (gd rfl) rfl (fun z57x4 e57x4 => ?_)
      have i57x4 := in_and2 e57x4 (in_c 1 rfl) rfl
      refine g_iconst 1 6 (gd rfl) rfl rfl ?_
      refine g_cmp_ne 9 13 (gd rfl) rfl rfl (fun c57x6 => ?_) (fun c57x6 => ?_)
      · skip
        have i57x6 := r_ne1 0 0 c57x6 i57x4 (in_c 1 rfl) rfl
        refine g_iconst 0 14 (gd rfl) rfl rfl ?_
        refine g_ireturn (gd rfl) rfl (nb01 (in_w 0 1 (in_c 0 rfl) rfl)) (hp57 _ _ ?_)
        show GG _ _ _ _ _ _ _ _ [.int (Int32.ofInt 0)] _ _ _
        refine g_if_eq 63 76 (gd rfl) rfl rfl (fun c60 => ?_) (fun c60 => ?_)
        · skip
          have hne : y50_3.toInt ≠ (x2).toInt := by first | exact pt_ne (bt_no e57x2 e57x4 j50_3 c57x6) (by rw [e55]; exact g50_0) | (intro e; have hb := bt_no e70x2 e70x4 j50_2 c70x6; rw [e68, Int32.toInt_inj.mp e, g50_0] at hb; cases hb)
          refine g_iinc 79 (gd rfl) rfl rfl (Nat.le_of_ble_eq_true rfl) (fun z76 e76 => ?_)
          have i76 := in_add 1 32 e76 j50_3 (in_c 1 rfl) rfl rfl
          refine g_goto 50 (gd rfl) rfl ?_
          have i50 : In z76 0 31 := by exact ⟨by have a0 := j50_2; unfold In at a0; have a1 := j50_1; unfold In at a1; have a2 := ro_109_20; unfold In at a2; have a3 := j50_3; unfold In at a3; have a4 := i76; unfold In at a4; have a5 := t_add e76 j50_3 (in_c 1 rfl) rfl; have a6 := (in_c 1 rfl); unfold In at a6; omega, by have a0 := j50_2; unfold In at a0; have a1 := j50_1; unfold In at a1; have a2 := ro_109_20; unfold In at a2; have a3 := j50_3; unfold In at a3; have a4 := i76; unfold In at a4; have a5 := t_add e76 j50_3 (in_c 1 rfl) rfl; have a6 := (in_c 1 rfl); unfold In at a6; omega⟩
          have n50 : (z76).toInt ≤ (x2).toInt := by have a0 := j50_2; unfold In at a0; have a1 := j50_1; unfold In at a1; have a2 := ro_109_20; unfold In at a2; have a3 := j50_3; unfold In at a3; have a4 := i50; unfold In at a4; have a5 := t_add e76 j50_3 (in_c 1 rfl) rfl; have a6 := (in_c 1 rfl); unfold In at a6; omega
          have n50a : 0 ≤ (x2).toInt := by have a0 := j50_2; unfold In at a0; have a1 := j50_1; unfold In at a1; have a2 := ro_109_20; unfold In at a2; have a3 := j50_3; unfold In at a3; have a4 := i50; unfold In at a4; have a5 := t_add e76 j50_3 (in_c 1 rfl) rfl; have a6 := (in_c 1 rfl); unfold In at a6; omega
          have n50b : (x2).toInt < (u_109_20).toInt := by have a0 := j50_2; unfold In at a0; have a1 := j50_1; unfold In at a1; have a2 := ro_109_20; unfold In at a2; have a3 := j50_3; unfold In at a3; have a4 := i50; unfold In at a4; have a5 := t_add e76 j50_3 (in_c 1 rfl) rfl; have a6 := (in_c 1 rfl); unfold In at a6; omega
          have n50c : bt (sc50.1 129 (x2).toNatClampNeg) (x2).toNatClampNeg = true := by first | exact g50_0 | (refine p45 _ ⟨?_, ?_⟩; (have hn := (show u_109_20 = sc50.2.2.1 109 20 from fr_F e_109_20 hFc50 rfl); rw [← hn]; show (((x2).toInt.toNat : Nat) : Int) < _; have a0 := j50_2; unfold In at a0; have a1 := j50_1; unfold In at a1; have a2 := ro_109_20; unfold In at a2; have a3 := j50_3; unfold In at a3; have a4 := i50; unfold In at a4; have a5 := t_add e76 j50_3 (in_c 1 rfl) rfl; have a6 := (in_c 1 rfl); unfold In at a6; omega); (have e2 : (Int32.ofInt (-1)).toInt = -1 := rfl; rw [e2]; show (((x2).toInt.toNat : Nat) : Int) ≠ -1; omega))
          have m50 : (x2).toInt - (z76).toInt < ((k50 : Nat) : Int) := by have a0 := j50_2; unfold In at a0; have a1 := j50_1; unfold In at a1; have a2 := ro_109_20; unfold In at a2; have a3 := j50_3; unfold In at a3; have a4 := i50; unfold In at a4; have a5 := t_add e76 j50_3 (in_c 1 rfl) rfl; have a6 := (in_c 1 rfl); unfold In at a6; omega
          exact gg_w (by omega) (gg_f (gf_cons rfl (gf_cons rfl (gf_cons rfl (gf_cons rfl gf_nil)))) (ih50  sc50 z76 hIc50 hFc50 (in_w 0 1 j50_1 rfl) (in_w 0 31 j50_2 rfl) i50 n50 n50a n50b n50c m50))
        · skip
          exact zn_ne c60 (in_c 0 rfl) rfl
      · skip
        have i57x6 := r_eq1 1 1 c57x6 i57x4 (in_c 1 rfl) rfl
        refine g_iconst 1 10 (gd rfl) rfl rfl ?_
        refine g_goto 14 (gd rfl) rfl ?_
        refine g_ireturn (gd rfl) rfl (nb01 (in_w 0 1 (in_c 1 rfl) rfl)) (hp57 _ _ ?_)
        show GG _ _ _ _ _ _ _ _ [.int (Int32.ofInt 1)] _ _ _
        refine g_if_eq 63 76 (gd rfl) rfl rfl (fun c60 => ?_) (fun c60 => ?_)
        · skip
          exact zn_eq c60 (in_c 1 rfl) rfl
        · skip
          refine g_aload_n 64 (gd rfl) rfl rfl ?_
          refine g_getA (q2 := 129) 67 (gd rfl) rfl rfl rfl rfl ?_
          refine g_iload_n 68 (gd rfl) rfl rfl ?_
          refine g_iaload 69 (gd rfl) rfl (n := 32) rfl (in_ix j50_3 rfl) (fun z68 e68 => ?_)
          refine g_iload_n 70 (gd rfl) rfl rfl ?_
          refine g_calls (As := [.int z68, .int x2]) (r := []) 73 (gd rfl) rfl rfl rfl rfl rfl (Nat.le_of_ble_eq_true rfl) (mc := 0) (ms := 0) (Nat.zero_le _) (Nat.zero_le _) (P := fun v u => _) ?_ (fun v u h => h)
          intro po70 xx70 hp70 hx70
          refine g_enter2 (k := 311) (N := 300) (by omega) rfl (Nat.le_of_ble_eq_true rfl) ?_
          refine g_iload_n 1 (gd rfl) rfl rfl ?_
          refine g_iload_n 2 (gd rfl) rfl rfl ?_
          refine g_ishr 3 (gd rfl) rfl (fun z70x2 e70x2 => ?_)
          refine g_iconst 1 4 (gd rfl) rfl rfl ?_
          refine g_iand 5 (gd rfl) rfl (fun z70x4 e70x4 => ?_)
          have i70x4 := in_and2 e70x4 (in_c 1 rfl) rfl
          refine g_iconst 1 6 (gd rfl) rfl rfl ?_
          refine g_cmp_ne 9 13 (gd rfl) rfl rfl (fun c70x6 => ?_) (fun c70x6 => ?_)
          · skip
            have i70x6 := r_ne1 0 0 c70x6 i70x4 (in_c 1 rfl) rfl
            refine g_iconst 0 14 (gd rfl) rfl rfl ?_
            refine g_ireturn (gd rfl) rfl (nb01 (in_w 0 1 (in_c 0 rfl) rfl)) (hp70 _ _ ?_)
            show GG _ _ _ _ _ _ _ _ [.int (Int32.ofInt 0)] _ _ _
            refine g_if_ne 76 82 (gd rfl) rfl rfl (fun c73 => ?_) (fun c73 => ?_)
            · skip
              exact zn_ne c73 (in_c 0 rfl) rfl
            · skip
              have hne : y50_3.toInt ≠ (x2).toInt := by first | exact pt_ne (bt_no e57x2 e57x4 j50_3 c57x6) (by rw [e55]; exact g50_0) | (intro e; have hb := bt_no e70x2 e70x4 j50_2 c70x6; rw [e68, Int32.toInt_inj.mp e, g50_0] at hb; cases hb)
              refine g_iinc 79 (gd rfl) rfl rfl (Nat.le_of_ble_eq_true rfl) (fun z76 e76 => ?_)
              have i76 := in_add 1 32 e76 j50_3 (in_c 1 rfl) rfl rfl
              refine g_goto 50 (gd rfl) rfl ?_
              have i50 : In z76 0 31 := by exact ⟨by have a0 := j50_2; unfold In at a0; have a1 := j50_1; unfold In at a1; have a2 := ro_109_20; unfold In at a2; have a3 := j50_3; unfold In at a3; have a4 := i76; unfold In at a4; have a5 := t_add e76 j50_3 (in_c 1 rfl) rfl; have a6 := (in_c 1 rfl); unfold In at a6; omega, by have a0 := j50_2; unfold In at a0; have a1 := j50_1; unfold In at a1; have a2 := ro_109_20; unfold In at a2; have a3 := j50_3; unfold In at a3; have a4 := i76; unfold In at a4; have a5 := t_add e76 j50_3 (in_c 1 rfl) rfl; have a6 := (in_c 1 rfl); unfold In at a6; omega⟩
              have n50 : (z76).toInt ≤ (x2).toInt := by have a0 := j50_2; unfold In at a0; have a1 := j50_1; unfold In at a1; have a2 := ro_109_20; unfold In at a2; have a3 := j50_3; unfold In at a3; have a4 := i50; unfold In at a4; have a5 := t_add e76 j50_3 (in_c 1 rfl) rfl; have a6 := (in_c 1 rfl); unfold In at a6; omega
              have n50a : 0 ≤ (x2).toInt := by have a0 := j50_2; unfold In at a0; have a1 := j50_1; unfold In at a1; have a2 := ro_109_20; unfold In at a2; have a3 := j50_3; unfold In at a3; have a4 := i50; unfold In at a4; have a5 := t_add e76 j50_3 (in_c 1 rfl) rfl; have a6 := (in_c 1 rfl); unfold In at a6; omega
              have n50b : (x2).toInt < (u_109_20).toInt := by have a0 := j50_2; unfold In at a0; have a1 := j50_1; unfold In at a1; have a2 := ro_109_20; unfold In at a2; have a3 := j50_3; unfold In at a3; have a4 := i50; unfold In at a4; have a5 := t_add e76 j50_3 (in_c 1 rfl) rfl; have a6 := (in_c 1 rfl); unfold In at a6; omega
              have n50c : bt (sc50.1 129 (x2).toNatClampNeg) (x2).toNatClampNeg = true := by first | exact g50_0 | (refine p45 _ ⟨?_, ?_⟩; (have hn := (show u_109_20 = sc50.2.2.1 109 20 from fr_F e_109_20 hFc50 rfl); rw [← hn]; show (((x2).toInt.toNat : Nat) : Int) < _; have a0 := j50_2; unfold In at a0; have a1 := j50_1; unfold In at a1; have a2 := ro_109_20; unfold In at a2; have a3 := j50_3; unfold In at a3; have a4 := i50; unfold In at a4; have a5 := t_add e76 j50_3 (in_c 1 rfl) rfl; have a6 := (in_c 1 rfl); unfold In at a6; omega); (have e2 : (Int32.ofInt (-1)).toInt = -1 := rfl; rw [e2]; show (((x2).toInt.toNat : Nat) : Int) ≠ -1; omega))
              have m50 : (x2).toInt - (z76).toInt < ((k50 : Nat) : Int) := by have a0 := j50_2; unfold In at a0; have a1 := j50_1; unfold In at a1; have a2 := ro_109_20; unfold In at a2; have a3 := j50_3; unfold In at a3; have a4 := i50; unfold In at a4; have a5 := t_add e76 j50_3 (in_c 1 rfl) rfl; have a6 := (in_c 1 rfl); unfold In at a6; omega
              exact gg_w (by omega) (gg_f (gf_cons rfl (gf_cons rfl (gf_cons rfl (gf_cons rfl gf_nil)))) (ih50  sc50 z76 hIc50 hFc50 (in_w 0 1 j50_1 rfl) (in_w 0 31 j50_2 rfl) i50 n50 n50a n50b n50c m50))
          · skip
            have i70x6 := r_eq1 1 1 c70x6 i70x4 (in_c 1 rfl) rfl
            refine g_iconst 1 10 (gd rfl) rfl rfl ?_
            refine g_goto 14 (gd rfl) rfl ?_
            refine g_ireturn (gd rfl) rfl (nb01 (in_w 0 1 (in_c 1 rfl) rfl)) (hp70 _ _ ?_)
            show GG _ _ _ _ _ _ _ _ [.int (Int32.ofInt 1)] _ _ _
            refine g_if_ne 76 82 (gd rfl) rfl rfl (fun c73 => ?_) (fun c73 => ?_)
            · skip
              refine g_iload_n 83 (gd rfl) rfl rfl ?_
              exact g_ireturn (gd rfl) rfl rfl (hP _ _ ⟨sc50, hIc50, hFc50, y50_3, rfl, rfl, in_w 0 31 j50_3 rfl⟩)
            · skip
              exact zn_eq c73 (in_c 1 rfl) rfl
  refine g_enter2 (k := 328) (N := 30601) (by omega) rfl (Nat.le_of_ble_eq_true rfl) ?_
  refine g_aload_n 1 (gd rfl) rfl rfl ?_
  refine g_iload_n 2 (gd rfl) rfl rfl ?_
  refine g_i2l 3 (gd rfl) rfl (fun z2 e2 => ?_)
  have i2 := l_i e2 (i_rng x1)
  refine g_lconst 0 4 (gd rfl) rfl rfl ?_
  refine g_lconst 1 5 (gd rfl) rfl rfl ?_
  refine g_calls (As := [.long z2, .long (Int64.ofInt 0), .long (Int64.ofInt 1)]) (r := [.ref (A 109)]) 8 (gd rfl) rfl rfl rfl rfl rfl (Nat.le_of_ble_eq_true rfl) (mc := 0) (ms := 0) (Nat.zero_le _) (Nat.zero_le _) (P := fun v u => _) ?_ (fun v u h => h)
  intro po5 xx5 hp5 hx5
  refine g_enter2 (k := 269) (N := 300) (by omega) rfl (Nat.le_of_ble_eq_true rfl) ?_
  refine g_lload_n 1 (gd rfl) rfl rfl ?_
  refine g_lload_n 2 (gd rfl) rfl rfl ?_
  refine g_lcmp 3 (gd rfl) rfl (fun z5x2 e5x2 => ?_)
  have i5x2 := lc_in e5x2
  refine g_if_lt 6 17 (gd rfl) rfl rfl (fun c5x3 => ?_) (fun c5x3 => ?_)
  · skip
    have i5x3 := z_lt (-1) (-1) c5x3 i5x2 rfl
    have c5x3a := lc_lt e5x2 c5x3
    have i5x3a := lr_lt1 (-2147483648) (-1) c5x3a i2 (l_c 0 rfl) rfl
    have i5x3b := l_b e2 i5x3a
    refine g_iconst 0 18 (gd rfl) rfl rfl ?_
    refine g_ireturn (gd rfl) rfl (nb01 (in_w 0 1 (in_c 0 rfl) rfl)) (hp5 _ _ ?_)
    show GG _ _ _ _ _ _ _ _ [.int (Int32.ofInt 0), .ref (A 109)] _ _ _
    refine g_if_eq 11 23 (gd rfl) rfl rfl (fun c8 => ?_) (fun c8 => ?_)
    · skip
      refine g_iconst 0 24 (gd rfl) rfl rfl ?_
      refine g_callv (X := _) (As := [.int (Int32.ofInt 0)]) (r := []) (b := A 109) (q := 109) 27 (gd rfl) rfl rfl rfl rfl rfl (ww_o rfl) (Nat.le_of_ble_eq_true rfl) (mc := 0) (ms := 0) (Nat.zero_le _) (Nat.zero_le _) (P := fun v u => _) ?_ (fun e u h => h) (fun v u h => h)
      intro po24 xx24 hp24 hx24
      refine g_enter2 (k := 271) (N := 300) (by omega) rfl (Nat.le_of_ble_eq_true rfl) ?_
      refine g_aload_n 1 (gd rfl) rfl rfl ?_
      refine g_iload_n 2 (gd rfl) rfl rfl ?_
      refine g_iconst 1 3 (gd rfl) rfl rfl ?_
      refine g_callv (X := _) (As := [.int (Int32.ofInt 0), .int (Int32.ofInt 1)]) (r := []) (b := A 109) (q := 109) 6 (gd rfl) rfl rfl rfl rfl rfl (ww_o rfl) (Nat.le_of_ble_eq_true rfl) (mc := 0) (ms := 0) (Nat.zero_le _) (Nat.zero_le _) (P := fun v u => _) ?_ (fun e u h => h) (fun v u h => h)
      intro po24x3 xx24x3 hp24x3 hx24x3
      refine g_enter2 (k := 270) (N := 300) (by omega) rfl (Nat.le_of_ble_eq_true rfl) ?_
      refine g_aload_n 1 (gd rfl) rfl rfl ?_
      refine g_iload_n 2 (gd rfl) rfl rfl ?_
      refine g_if_ne 5 9 (gd rfl) rfl rfl (fun c24x3x2 => ?_) (fun c24x3x2 => ?_)
      · skip
        exact zn_ne c24x3x2 (in_c 0 rfl) rfl
      · skip
        refine g_iconst 1 6 (gd rfl) rfl rfl ?_
        refine g_goto 18 (gd rfl) rfl ?_
        refine g_putI 21 (gd rfl) rfl rfl rfl rfl ?_
        have hI24x3x18 := inv_sF (q := 109) (j := 0) hI rfl (in_w 0 2 (in_c 1 rfl) rfl)
        refine g_aload_n 22 (gd rfl) rfl rfl ?_
        refine g_getI 25 (gd rfl) rfl rfl rfl (fun z24x3x22 e24x3x22 => ?_)
        have q24x3x22 : (Int32.ofInt 1) = z24x3x22 := (sF_get).trans e24x3x22.symm
        subst q24x3x22
        refine g_if_le 28 32 (gd rfl) rfl rfl (fun c24x3x25 => ?_) (fun c24x3x25 => ?_)
        · skip
          exact zn_le c24x3x25 (in_c 1 rfl) rfl
        · skip
          refine g_iconst 1 29 (gd rfl) rfl rfl ?_
          refine g_goto 33 (gd rfl) rfl ?_
          refine g_ireturn (gd rfl) rfl (nb01 (in_w 0 1 (in_c 1 rfl) rfl)) (hp24x3 _ _ ?_)
          show GG _ _ _ _ _ _ _ _ [.int (Int32.ofInt 1)] _ _ _
          refine g_ireturn (gd rfl) rfl (nb01 (in_w 0 1 (in_c 1 rfl) rfl)) (hp24 _ _ ?_)
          show GG _ _ _ _ _ _ _ _ [.int (Int32.ofInt 1)] _ _ _
          refine g_if_eq 30 32 (gd rfl) rfl rfl (fun c27 => ?_) (fun c27 => ?_)
          · skip
            exact zn_eq c27 (in_c 1 rfl) rfl
          · skip
            refine g_iconst 0 31 (gd rfl) rfl rfl ?_
            exact g_ireturn (gd rfl) rfl rfl (hP _ _ ⟨(sF s 109 0 (Int32.ofInt 1)), hI24x3x18, (fr_sF rfl fr_rf), (Int32.ofInt 0), rfl, rfl, in_w 0 31 (in_c 0 rfl) rfl⟩)
    · skip
      exact zn_ne c8 (in_c 0 rfl) rfl
  · skip
    have i5x3 := z_ge 0 1 c5x3 i5x2 rfl
    have c5x3a := lc_ge e5x2 c5x3
    have i5x3a := lr_le2 0 2147483647 c5x3a (l_c 0 rfl) i2 rfl
    have i5x3b := l_b e2 i5x3a
    refine g_lload_n 7 (gd rfl) rfl rfl ?_
    refine g_lload 9 (gd rfl) rfl rfl ?_
    refine g_lcmp 10 (gd rfl) rfl (fun z5x9 e5x9 => ?_)
    have i5x9 := lc_in e5x9
    refine g_if_gt 13 17 (gd rfl) rfl rfl (fun c5x10 => ?_) (fun c5x10 => ?_)
    · skip
      have i5x10 := z_gt 1 1 c5x10 i5x9 rfl
      have c5x10a := lc_gt e5x9 c5x10
      have i5x10a := lr_lt2 2 2147483647 c5x10a (l_c 1 rfl) i5x3a rfl
      have i5x10b := l_b e2 i5x10a
      refine g_iconst 0 18 (gd rfl) rfl rfl ?_
      refine g_ireturn (gd rfl) rfl (nb01 (in_w 0 1 (in_c 0 rfl) rfl)) (hp5 _ _ ?_)
      show GG _ _ _ _ _ _ _ _ [.int (Int32.ofInt 0), .ref (A 109)] _ _ _
      refine g_if_eq 11 23 (gd rfl) rfl rfl (fun c8 => ?_) (fun c8 => ?_)
      · skip
        refine g_iconst 0 24 (gd rfl) rfl rfl ?_
        refine g_callv (X := _) (As := [.int (Int32.ofInt 0)]) (r := []) (b := A 109) (q := 109) 27 (gd rfl) rfl rfl rfl rfl rfl (ww_o rfl) (Nat.le_of_ble_eq_true rfl) (mc := 0) (ms := 0) (Nat.zero_le _) (Nat.zero_le _) (P := fun v u => _) ?_ (fun e u h => h) (fun v u h => h)
        intro po24 xx24 hp24 hx24
        refine g_enter2 (k := 271) (N := 300) (by omega) rfl (Nat.le_of_ble_eq_true rfl) ?_
        refine g_aload_n 1 (gd rfl) rfl rfl ?_
        refine g_iload_n 2 (gd rfl) rfl rfl ?_
        refine g_iconst 1 3 (gd rfl) rfl rfl ?_
        refine g_callv (X := _) (As := [.int (Int32.ofInt 0), .int (Int32.ofInt 1)]) (r := []) (b := A 109) (q := 109) 6 (gd rfl) rfl rfl rfl rfl rfl (ww_o rfl) (Nat.le_of_ble_eq_true rfl) (mc := 0) (ms := 0) (Nat.zero_le _) (Nat.zero_le _) (P := fun v u => _) ?_ (fun e u h => h) (fun v u h => h)
        intro po24x3 xx24x3 hp24x3 hx24x3
        refine g_enter2 (k := 270) (N := 300) (by omega) rfl (Nat.le_of_ble_eq_true rfl) ?_
        refine g_aload_n 1 (gd rfl) rfl rfl ?_
        refine g_iload_n 2 (gd rfl) rfl rfl ?_
        refine g_if_ne 5 9 (gd rfl) rfl rfl (fun c24x3x2 => ?_) (fun c24x3x2 => ?_)
        · skip
          exact zn_ne c24x3x2 (in_c 0 rfl) rfl
        · skip
          refine g_iconst 1 6 (gd rfl) rfl rfl ?_
          refine g_goto 18 (gd rfl) rfl ?_
          refine g_putI 21 (gd rfl) rfl rfl rfl rfl ?_
          have hI24x3x18 := inv_sF (q := 109) (j := 0) hI rfl (in_w 0 2 (in_c 1 rfl) rfl)
          refine g_aload_n 22 (gd rfl) rfl rfl ?_
          refine g_getI 25 (gd rfl) rfl rfl rfl (fun z24x3x22 e24x3x22 => ?_)
          have q24x3x22 : (Int32.ofInt 1) = z24x3x22 := (sF_get).trans e24x3x22.symm
          subst q24x3x22
          refine g_if_le 28 32 (gd rfl) rfl rfl (fun c24x3x25 => ?_) (fun c24x3x25 => ?_)
          · skip
            exact zn_le c24x3x25 (in_c 1 rfl) rfl
          · skip
            refine g_iconst 1 29 (gd rfl) rfl rfl ?_
            refine g_goto 33 (gd rfl) rfl ?_
            refine g_ireturn (gd rfl) rfl (nb01 (in_w 0 1 (in_c 1 rfl) rfl)) (hp24x3 _ _ ?_)
            show GG _ _ _ _ _ _ _ _ [.int (Int32.ofInt 1)] _ _ _
            refine g_ireturn (gd rfl) rfl (nb01 (in_w 0 1 (in_c 1 rfl) rfl)) (hp24 _ _ ?_)
            show GG _ _ _ _ _ _ _ _ [.int (Int32.ofInt 1)] _ _ _
            refine g_if_eq 30 32 (gd rfl) rfl rfl (fun c27 => ?_) (fun c27 => ?_)
            · skip
              exact zn_eq c27 (in_c 1 rfl) rfl
            · skip
              refine g_iconst 0 31 (gd rfl) rfl rfl ?_
              exact g_ireturn (gd rfl) rfl rfl (hP _ _ ⟨(sF s 109 0 (Int32.ofInt 1)), hI24x3x18, (fr_sF rfl fr_rf), (Int32.ofInt 0), rfl, rfl, in_w 0 31 (in_c 0 rfl) rfl⟩)
      · skip
        exact zn_ne c8 (in_c 0 rfl) rfl
    · skip
      have i5x10 := z_le (-1) 0 c5x10 i5x9 rfl
      have c5x10a := lc_le e5x9 c5x10
      have i5x10a := lr_le1 0 1 c5x10a i5x3a (l_c 1 rfl) rfl
      have i5x10b := l_b e2 i5x10a
      refine g_iconst 1 14 (gd rfl) rfl rfl ?_
      refine g_goto 18 (gd rfl) rfl ?_
      refine g_ireturn (gd rfl) rfl (nb01 (in_w 0 1 (in_c 1 rfl) rfl)) (hp5 _ _ ?_)
      show GG _ _ _ _ _ _ _ _ [.int (Int32.ofInt 1), .ref (A 109)] _ _ _
      refine g_if_eq 11 23 (gd rfl) rfl rfl (fun c8 => ?_) (fun c8 => ?_)
      · skip
        exact zn_eq c8 (in_c 1 rfl) rfl
      · skip
        refine g_aload_n 12 (gd rfl) rfl rfl ?_
        refine g_iload_n 13 (gd rfl) rfl rfl ?_
        refine g_callv (X := _) (As := [.int x2]) (r := [.ref (A 109)]) (b := A 109) (q := 109) 16 (gd rfl) rfl rfl rfl rfl rfl (ww_o rfl) (Nat.le_of_ble_eq_true rfl) (mc := 0) (ms := 0) (Nat.zero_le _) (Nat.zero_le _) (P := fun v u => _) ?_ (fun e u h => h) (fun v u h => h)
        intro po13 xx13 hp13 hx13
        refine g_enter2 (k := 272) (N := 300) (by omega) rfl (Nat.le_of_ble_eq_true rfl) ?_
        refine g_iload_n 1 (gd rfl) rfl rfl ?_
        refine g_if_lt 4 16 (gd rfl) rfl rfl (fun c13x1 => ?_) (fun c13x1 => ?_)
        · skip
          have i13x1 := z_lt (-2147483648) (-1) c13x1 (i_rng x2) rfl
          refine g_iconst 0 17 (gd rfl) rfl rfl ?_
          refine g_ireturn (gd rfl) rfl (nb01 (in_w 0 1 (in_c 0 rfl) rfl)) (hp13 _ _ ?_)
          show GG _ _ _ _ _ _ _ _ [.int (Int32.ofInt 0), .ref (A 109)] _ _ _
          refine g_if_eq 19 23 (gd rfl) rfl rfl (fun c16 => ?_) (fun c16 => ?_)
          · skip
            refine g_iconst 0 24 (gd rfl) rfl rfl ?_
            refine g_callv (X := _) (As := [.int (Int32.ofInt 0)]) (r := []) (b := A 109) (q := 109) 27 (gd rfl) rfl rfl rfl rfl rfl (ww_o rfl) (Nat.le_of_ble_eq_true rfl) (mc := 0) (ms := 0) (Nat.zero_le _) (Nat.zero_le _) (P := fun v u => _) ?_ (fun e u h => h) (fun v u h => h)
            intro po24 xx24 hp24 hx24
            refine g_enter2 (k := 271) (N := 300) (by omega) rfl (Nat.le_of_ble_eq_true rfl) ?_
            refine g_aload_n 1 (gd rfl) rfl rfl ?_
            refine g_iload_n 2 (gd rfl) rfl rfl ?_
            refine g_iconst 1 3 (gd rfl) rfl rfl ?_
            refine g_callv (X := _) (As := [.int (Int32.ofInt 0), .int (Int32.ofInt 1)]) (r := []) (b := A 109) (q := 109) 6 (gd rfl) rfl rfl rfl rfl rfl (ww_o rfl) (Nat.le_of_ble_eq_true rfl) (mc := 0) (ms := 0) (Nat.zero_le _) (Nat.zero_le _) (P := fun v u => _) ?_ (fun e u h => h) (fun v u h => h)
            intro po24x3 xx24x3 hp24x3 hx24x3
            refine g_enter2 (k := 270) (N := 300) (by omega) rfl (Nat.le_of_ble_eq_true rfl) ?_
            refine g_aload_n 1 (gd rfl) rfl rfl ?_
            refine g_iload_n 2 (gd rfl) rfl rfl ?_
            refine g_if_ne 5 9 (gd rfl) rfl rfl (fun c24x3x2 => ?_) (fun c24x3x2 => ?_)
            · skip
              exact zn_ne c24x3x2 (in_c 0 rfl) rfl
            · skip
              refine g_iconst 1 6 (gd rfl) rfl rfl ?_
              refine g_goto 18 (gd rfl) rfl ?_
              refine g_putI 21 (gd rfl) rfl rfl rfl rfl ?_
              have hI24x3x18 := inv_sF (q := 109) (j := 0) hI rfl (in_w 0 2 (in_c 1 rfl) rfl)
              refine g_aload_n 22 (gd rfl) rfl rfl ?_
              refine g_getI 25 (gd rfl) rfl rfl rfl (fun z24x3x22 e24x3x22 => ?_)
              have q24x3x22 : (Int32.ofInt 1) = z24x3x22 := (sF_get).trans e24x3x22.symm
              subst q24x3x22
              refine g_if_le 28 32 (gd rfl) rfl rfl (fun c24x3x25 => ?_) (fun c24x3x25 => ?_)
              · skip
                exact zn_le c24x3x25 (in_c 1 rfl) rfl
              · skip
                refine g_iconst 1 29 (gd rfl) rfl rfl ?_
                refine g_goto 33 (gd rfl) rfl ?_
                refine g_ireturn (gd rfl) rfl (nb01 (in_w 0 1 (in_c 1 rfl) rfl)) (hp24x3 _ _ ?_)
                show GG _ _ _ _ _ _ _ _ [.int (Int32.ofInt 1)] _ _ _
                refine g_ireturn (gd rfl) rfl (nb01 (in_w 0 1 (in_c 1 rfl) rfl)) (hp24 _ _ ?_)
                show GG _ _ _ _ _ _ _ _ [.int (Int32.ofInt 1)] _ _ _
                refine g_if_eq 30 32 (gd rfl) rfl rfl (fun c27 => ?_) (fun c27 => ?_)
                · skip
                  exact zn_eq c27 (in_c 1 rfl) rfl
                · skip
                  refine g_iconst 0 31 (gd rfl) rfl rfl ?_
                  exact g_ireturn (gd rfl) rfl rfl (hP _ _ ⟨(sF s 109 0 (Int32.ofInt 1)), hI24x3x18, (fr_sF rfl fr_rf), (Int32.ofInt 0), rfl, rfl, in_w 0 31 (in_c 0 rfl) rfl⟩)
          · skip
            exact zn_ne c16 (in_c 0 rfl) rfl
        · skip
          have i13x1 := z_ge 0 2147483647 c13x1 (i_rng x2) rfl
          refine g_iload_n 5 (gd rfl) rfl rfl ?_
          refine g_aload_n 6 (gd rfl) rfl rfl ?_
          refine g_getI 9 (gd rfl) rfl rfl rfl (fun z13x6 e13x6 => ?_)
          have q13x6 : u_109_20 = z13x6 := (e_109_20).trans e13x6.symm
          subst q13x6
          refine g_cmp_ge 12 16 (gd rfl) rfl rfl (fun c13x9 => ?_) (fun c13x9 => ?_)
          · skip
            refine g_iconst 0 17 (gd rfl) rfl rfl ?_
            refine g_ireturn (gd rfl) rfl (nb01 (in_w 0 1 (in_c 0 rfl) rfl)) (hp13 _ _ ?_)
            show GG _ _ _ _ _ _ _ _ [.int (Int32.ofInt 0), .ref (A 109)] _ _ _
            refine g_if_eq 19 23 (gd rfl) rfl rfl (fun c16 => ?_) (fun c16 => ?_)
            · skip
              refine g_iconst 0 24 (gd rfl) rfl rfl ?_
              refine g_callv (X := _) (As := [.int (Int32.ofInt 0)]) (r := []) (b := A 109) (q := 109) 27 (gd rfl) rfl rfl rfl rfl rfl (ww_o rfl) (Nat.le_of_ble_eq_true rfl) (mc := 0) (ms := 0) (Nat.zero_le _) (Nat.zero_le _) (P := fun v u => _) ?_ (fun e u h => h) (fun v u h => h)
              intro po24 xx24 hp24 hx24
              refine g_enter2 (k := 271) (N := 300) (by omega) rfl (Nat.le_of_ble_eq_true rfl) ?_
              refine g_aload_n 1 (gd rfl) rfl rfl ?_
              refine g_iload_n 2 (gd rfl) rfl rfl ?_
              refine g_iconst 1 3 (gd rfl) rfl rfl ?_
              refine g_callv (X := _) (As := [.int (Int32.ofInt 0), .int (Int32.ofInt 1)]) (r := []) (b := A 109) (q := 109) 6 (gd rfl) rfl rfl rfl rfl rfl (ww_o rfl) (Nat.le_of_ble_eq_true rfl) (mc := 0) (ms := 0) (Nat.zero_le _) (Nat.zero_le _) (P := fun v u => _) ?_ (fun e u h => h) (fun v u h => h)
              intro po24x3 xx24x3 hp24x3 hx24x3
              refine g_enter2 (k := 270) (N := 300) (by omega) rfl (Nat.le_of_ble_eq_true rfl) ?_
              refine g_aload_n 1 (gd rfl) rfl rfl ?_
              refine g_iload_n 2 (gd rfl) rfl rfl ?_
              refine g_if_ne 5 9 (gd rfl) rfl rfl (fun c24x3x2 => ?_) (fun c24x3x2 => ?_)
              · skip
                exact zn_ne c24x3x2 (in_c 0 rfl) rfl
              · skip
                refine g_iconst 1 6 (gd rfl) rfl rfl ?_
                refine g_goto 18 (gd rfl) rfl ?_
                refine g_putI 21 (gd rfl) rfl rfl rfl rfl ?_
                have hI24x3x18 := inv_sF (q := 109) (j := 0) hI rfl (in_w 0 2 (in_c 1 rfl) rfl)
                refine g_aload_n 22 (gd rfl) rfl rfl ?_
                refine g_getI 25 (gd rfl) rfl rfl rfl (fun z24x3x22 e24x3x22 => ?_)
                have q24x3x22 : (Int32.ofInt 1) = z24x3x22 := (sF_get).trans e24x3x22.symm
                subst q24x3x22
                refine g_if_le 28 32 (gd rfl) rfl rfl (fun c24x3x25 => ?_) (fun c24x3x25 => ?_)
                · skip
                  exact zn_le c24x3x25 (in_c 1 rfl) rfl
                · skip
                  refine g_iconst 1 29 (gd rfl) rfl rfl ?_
                  refine g_goto 33 (gd rfl) rfl ?_
                  refine g_ireturn (gd rfl) rfl (nb01 (in_w 0 1 (in_c 1 rfl) rfl)) (hp24x3 _ _ ?_)
                  show GG _ _ _ _ _ _ _ _ [.int (Int32.ofInt 1)] _ _ _
                  refine g_ireturn (gd rfl) rfl (nb01 (in_w 0 1 (in_c 1 rfl) rfl)) (hp24 _ _ ?_)
                  show GG _ _ _ _ _ _ _ _ [.int (Int32.ofInt 1)] _ _ _
                  refine g_if_eq 30 32 (gd rfl) rfl rfl (fun c27 => ?_) (fun c27 => ?_)
                  · skip
                    exact zn_eq c27 (in_c 1 rfl) rfl
                  · skip
                    refine g_iconst 0 31 (gd rfl) rfl rfl ?_
                    exact g_ireturn (gd rfl) rfl rfl (hP _ _ ⟨(sF s 109 0 (Int32.ofInt 1)), hI24x3x18, (fr_sF rfl fr_rf), (Int32.ofInt 0), rfl, rfl, in_w 0 31 (in_c 0 rfl) rfl⟩)
            · skip
              exact zn_ne c16 (in_c 0 rfl) rfl
          · skip
            have i13x9 := r_lt1 0 31 c13x9 i13x1 ro_109_20 rfl
            have i13x9a := r_lt2 1 32 c13x9 i13x1 ro_109_20 rfl
            refine g_iconst 1 13 (gd rfl) rfl rfl ?_
            refine g_goto 17 (gd rfl) rfl ?_
            refine g_ireturn (gd rfl) rfl (nb01 (in_w 0 1 (in_c 1 rfl) rfl)) (hp13 _ _ ?_)
            show GG _ _ _ _ _ _ _ _ [.int (Int32.ofInt 1), .ref (A 109)] _ _ _
            refine g_if_eq 19 23 (gd rfl) rfl rfl (fun c16 => ?_) (fun c16 => ?_)
            · skip
              exact zn_eq c16 (in_c 1 rfl) rfl
            · skip
              refine g_iconst 1 20 (gd rfl) rfl rfl ?_
              refine g_goto 24 (gd rfl) rfl ?_
              refine g_callv (X := _) (As := [.int (Int32.ofInt 1)]) (r := []) (b := A 109) (q := 109) 27 (gd rfl) rfl rfl rfl rfl rfl (ww_o rfl) (Nat.le_of_ble_eq_true rfl) (mc := 0) (ms := 0) (Nat.zero_le _) (Nat.zero_le _) (P := fun v u => _) ?_ (fun e u h => h) (fun v u h => h)
              intro po24 xx24 hp24 hx24
              refine g_enter2 (k := 271) (N := 300) (by omega) rfl (Nat.le_of_ble_eq_true rfl) ?_
              refine g_aload_n 1 (gd rfl) rfl rfl ?_
              refine g_iload_n 2 (gd rfl) rfl rfl ?_
              refine g_iconst 1 3 (gd rfl) rfl rfl ?_
              refine g_callv (X := _) (As := [.int (Int32.ofInt 1), .int (Int32.ofInt 1)]) (r := []) (b := A 109) (q := 109) 6 (gd rfl) rfl rfl rfl rfl rfl (ww_o rfl) (Nat.le_of_ble_eq_true rfl) (mc := 0) (ms := 0) (Nat.zero_le _) (Nat.zero_le _) (P := fun v u => _) ?_ (fun e u h => h) (fun v u h => h)
              intro po24x3 xx24x3 hp24x3 hx24x3
              refine g_enter2 (k := 270) (N := 300) (by omega) rfl (Nat.le_of_ble_eq_true rfl) ?_
              refine g_aload_n 1 (gd rfl) rfl rfl ?_
              refine g_iload_n 2 (gd rfl) rfl rfl ?_
              refine g_if_ne 5 9 (gd rfl) rfl rfl (fun c24x3x2 => ?_) (fun c24x3x2 => ?_)
              · skip
                refine g_iload_n 10 (gd rfl) rfl rfl ?_
                refine g_if_ne 13 17 (gd rfl) rfl rfl (fun c24x3x10 => ?_) (fun c24x3x10 => ?_)
                · skip
                  refine g_iconst 0 18 (gd rfl) rfl rfl ?_
                  refine g_putI 21 (gd rfl) rfl rfl rfl rfl ?_
                  have hI24x3x18 := inv_sF (q := 109) (j := 0) hI rfl (in_w 0 2 (in_c 0 rfl) rfl)
                  refine g_aload_n 22 (gd rfl) rfl rfl ?_
                  refine g_getI 25 (gd rfl) rfl rfl rfl (fun z24x3x22 e24x3x22 => ?_)
                  have q24x3x22 : (Int32.ofInt 0) = z24x3x22 := (sF_get).trans e24x3x22.symm
                  subst q24x3x22
                  refine g_if_le 28 32 (gd rfl) rfl rfl (fun c24x3x25 => ?_) (fun c24x3x25 => ?_)
                  · skip
                    refine g_iconst 0 33 (gd rfl) rfl rfl ?_
                    refine g_ireturn (gd rfl) rfl (nb01 (in_w 0 1 (in_c 0 rfl) rfl)) (hp24x3 _ _ ?_)
                    show GG _ _ _ _ _ _ _ _ [.int (Int32.ofInt 0)] _ _ _
                    refine g_ireturn (gd rfl) rfl (nb01 (in_w 0 1 (in_c 0 rfl) rfl)) (hp24 _ _ ?_)
                    show GG _ _ _ _ _ _ _ _ [.int (Int32.ofInt 0)] _ _ _
                    refine g_if_eq 30 32 (gd rfl) rfl rfl (fun c27 => ?_) (fun c27 => ?_)
                    · skip
                      refine g_aload_n 33 (gd rfl) rfl rfl ?_
                      refine g_iload_n 34 (gd rfl) rfl rfl ?_
                      refine g_iconst 1 35 (gd rfl) rfl rfl ?_
                      refine g_cmp_ne 38 42 (gd rfl) rfl rfl (fun c35 => ?_) (fun c35 => ?_)
                      · skip
                        have i35 := r_ne1 0 0 c35 i5x10b (in_c 1 rfl) rfl
                        refine g_iconst 0 43 (gd rfl) rfl rfl ?_
                        refine g_iconst (-1) 44 (gd rfl) rfl rfl ?_
                        refine g_iconst (-1) 45 (gd rfl) rfl rfl ?_
                        refine g_callv (X := _) (As := [.int (Int32.ofInt 0), .int (Int32.ofInt (-1)), .int (Int32.ofInt (-1))]) (r := []) (b := A 109) (q := 109) 48 (gd rfl) rfl rfl rfl rfl rfl (ww_o rfl) (Nat.le_of_ble_eq_true rfl) (Nat.zero_le _) (Nat.zero_le _) (k_310 (by omega) hI24x3x18 (in_w 0 1 (in_c 0 rfl) rfl) (in_w (-1) 159 (in_c (-1) rfl) rfl) (in_w (-1) 31 (in_c (-1) rfl) rfl)) (fun e u h => h) (fun v u h => ?_)
                        obtain ⟨s45, hI45, hF45, rfl, rfl, p45, p45a⟩ := h
                        show GG _ _ _ _ _ _ _ _ [] _ _ _
                        refine g_iconst 0 49 (gd rfl) rfl rfl ?_
                        refine g_istore_n 50 (gd rfl) rfl (Nat.le_of_ble_eq_true rfl) ?_
                        have n50 : ((Int32.ofInt 0)).toInt ≤ (x2).toInt := by have a0 := i13x9; unfold In at a0; have a1 := i35; unfold In at a1; have a2 := i13x9a; unfold In at a2; have a3 := (in_c 0 rfl); unfold In at a3; have a4 := tx_i2l e2; omega
                        have n50a : 0 ≤ (x2).toInt := by have a0 := i13x9; unfold In at a0; have a1 := i35; unfold In at a1; have a2 := i13x9a; unfold In at a2; have a3 := (in_c 0 rfl); unfold In at a3; have a4 := tx_i2l e2; omega
                        have n50b : (x2).toInt < (u_109_20).toInt := by have a0 := i13x9; unfold In at a0; have a1 := i35; unfold In at a1; have a2 := i13x9a; unfold In at a2; have a3 := (in_c 0 rfl); unfold In at a3; have a4 := tx_i2l e2; omega
                        have n50c : bt (s45.1 129 (x2).toNatClampNeg) (x2).toNatClampNeg = true := by first | exact g50_0 | (refine p45 _ ⟨?_, ?_⟩; (have hn := (show u_109_20 = s45.2.2.1 109 20 from fr_F (s := (sF s 109 0 (Int32.ofInt 0))) (sF_ne rfl (e_109_20)) hF45 rfl); rw [← hn]; show (((x2).toInt.toNat : Nat) : Int) < _; have a0 := i13x9; unfold In at a0; have a1 := i35; unfold In at a1; have a2 := i13x9a; unfold In at a2; have a3 := (in_c 0 rfl); unfold In at a3; have a4 := tx_i2l e2; omega); (have e2 : (Int32.ofInt (-1)).toInt = -1 := rfl; rw [e2]; show (((x2).toInt.toNat : Nat) : Int) ≠ -1; omega))
                        have m50 : (x2).toInt - ((Int32.ofInt 0)).toInt < ((33 : Nat) : Int) := by have a0 := i13x9; unfold In at a0; have a1 := i35; unfold In at a1; have a2 := i13x9a; unfold In at a2; have a3 := (in_c 0 rfl); unfold In at a3; have a4 := tx_i2l e2; omega
                        exact gg_w (by omega) (gg_f (gf_cons rfl (gf_cons rfl (gf_cons rfl (gf_cons rfl gf_nil)))) (ct50 33 s45 (Int32.ofInt 0) hI45 (fr_tr rfl (fr_sF rfl fr_rf) hF45) (in_w 0 1 i35 rfl) (in_w 0 31 i13x9 rfl) (in_w 0 31 (in_c 0 rfl) rfl) n50 n50a n50b n50c m50))
                      · skip
                        have i35 := r_eq1 1 1 c35 i5x10b (in_c 1 rfl) rfl
                        refine g_iconst 1 39 (gd rfl) rfl rfl ?_
                        refine g_goto 43 (gd rfl) rfl ?_
                        refine g_iconst (-1) 44 (gd rfl) rfl rfl ?_
                        refine g_iconst (-1) 45 (gd rfl) rfl rfl ?_
                        refine g_callv (X := _) (As := [.int (Int32.ofInt 1), .int (Int32.ofInt (-1)), .int (Int32.ofInt (-1))]) (r := []) (b := A 109) (q := 109) 48 (gd rfl) rfl rfl rfl rfl rfl (ww_o rfl) (Nat.le_of_ble_eq_true rfl) (Nat.zero_le _) (Nat.zero_le _) (k_310 (by omega) hI24x3x18 (in_w 0 1 (in_c 1 rfl) rfl) (in_w (-1) 159 (in_c (-1) rfl) rfl) (in_w (-1) 31 (in_c (-1) rfl) rfl)) (fun e u h => h) (fun v u h => ?_)
                        obtain ⟨s45, hI45, hF45, rfl, rfl, p45, p45a⟩ := h
                        show GG _ _ _ _ _ _ _ _ [] _ _ _
                        refine g_iconst 0 49 (gd rfl) rfl rfl ?_
                        refine g_istore_n 50 (gd rfl) rfl (Nat.le_of_ble_eq_true rfl) ?_
                        have n50 : ((Int32.ofInt 0)).toInt ≤ (x2).toInt := by have a0 := i13x9; unfold In at a0; have a1 := i35; unfold In at a1; have a2 := i13x9a; unfold In at a2; have a3 := (in_c 0 rfl); unfold In at a3; have a4 := tx_i2l e2; omega
                        have n50a : 0 ≤ (x2).toInt := by have a0 := i13x9; unfold In at a0; have a1 := i35; unfold In at a1; have a2 := i13x9a; unfold In at a2; have a3 := (in_c 0 rfl); unfold In at a3; have a4 := tx_i2l e2; omega
                        have n50b : (x2).toInt < (u_109_20).toInt := by have a0 := i13x9; unfold In at a0; have a1 := i35; unfold In at a1; have a2 := i13x9a; unfold In at a2; have a3 := (in_c 0 rfl); unfold In at a3; have a4 := tx_i2l e2; omega
                        have n50c : bt (s45.1 129 (x2).toNatClampNeg) (x2).toNatClampNeg = true := by first | exact g50_0 | (refine p45 _ ⟨?_, ?_⟩; (have hn := (show u_109_20 = s45.2.2.1 109 20 from fr_F (s := (sF s 109 0 (Int32.ofInt 0))) (sF_ne rfl (e_109_20)) hF45 rfl); rw [← hn]; show (((x2).toInt.toNat : Nat) : Int) < _; have a0 := i13x9; unfold In at a0; have a1 := i35; unfold In at a1; have a2 := i13x9a; unfold In at a2; have a3 := (in_c 0 rfl); unfold In at a3; have a4 := tx_i2l e2; omega); (have e2 : (Int32.ofInt (-1)).toInt = -1 := rfl; rw [e2]; show (((x2).toInt.toNat : Nat) : Int) ≠ -1; omega))
                        have m50 : (x2).toInt - ((Int32.ofInt 0)).toInt < ((33 : Nat) : Int) := by have a0 := i13x9; unfold In at a0; have a1 := i35; unfold In at a1; have a2 := i13x9a; unfold In at a2; have a3 := (in_c 0 rfl); unfold In at a3; have a4 := tx_i2l e2; omega
                        exact gg_w (by omega) (gg_f (gf_cons rfl (gf_cons rfl (gf_cons rfl (gf_cons rfl gf_nil)))) (ct50 33 s45 (Int32.ofInt 0) hI45 (fr_tr rfl (fr_sF rfl fr_rf) hF45) (in_w 0 1 i35 rfl) (in_w 0 31 i13x9 rfl) (in_w 0 31 (in_c 0 rfl) rfl) n50 n50a n50b n50c m50))
                    · skip
                      exact zn_ne c27 (in_c 0 rfl) rfl
                  · skip
                    exact zn_gt c24x3x25 (in_c 0 rfl) rfl
                · skip
                  exact zn_eq c24x3x10 (in_c 1 rfl) rfl
              · skip
                exact zn_eq c24x3x2 (in_c 1 rfl) rfl

def fm_329 : FM := ([129], [], [], [])
/-- GraphHouseModel.weakParts -/
theorem k_329 {Z : AmZ} {A : Nat → Nat} {s : GS} {ex : va_W} {d : Nat} {X : AmX} {x1 : Int32} {x2 : Int32} (hd : 4 ≤ d) (hI : Inv s) (h1 : In x1 (-1) 159) (h2 : In x2 (-1) 31) : GC Z d 329 [.ref (A 109), .int x1, .int x2] (WW Z A s ++ ex) 0 0 (fun v u => ∃ t : GS, Inv t ∧ Fr fm_329 s t ∧ ∃ z : Int32, v = some (.int z) ∧ u = WW Z A t ++ ex ∧ In z (-2147483648) 2147483647) X := by
  intro post xp hP hX
  obtain ⟨u_109_20, e_109_20⟩ : ∃ w, w = s.2.2.1 109 20 := ⟨_, rfl⟩
  have ro_109_20 := inv_F hI 0 32 rfl e_109_20
  have ct12 : ∀ (k12 : Nat) (sc12 : GS) (y12_3 : Int32) (y12_4 : Int32), Inv sc12 → Fr fm_329 s sc12 → (In y12_4 0 32) → (∀ j : Nat, ((j : Int) < (sc12.2.2.1 109 20).toInt ∧ (j : Int) ≠ (x2).toInt) → bt (sc12.1 129 j) j = true) → 32 - (y12_4).toInt < (k12 : Int) → GG Z (d - 1) 329 post (gx xp) (1 + k12 * 900) 12 (fun j => xlook j [(0, .ref (A 109)), (1, .int x1), (2, .int x2), (3, .int y12_3), (4, .int y12_4)]) [] (WW Z A sc12 ++ ex) 0 0 := by
    intro k12
    induction k12 with
    | zero => intro sc12 y12_3 y12_4 hIc12 hFc12 j12_4 g12_0 mm12; exact m_no mm12 j12_4 rfl
    | succ k12 ih12 =>
      intro sc12 y12_3 y12_4 hIc12 hFc12 j12_4 g12_0 mm12
      refine gg_w (M := 1 + k12 * 900 + 900) (by omega) ?_
      refine g_iload 14 (gd rfl) rfl rfl ?_
      refine g_aload_n 15 (gd rfl) rfl rfl ?_
      refine g_getI 18 (gd rfl) rfl rfl rfl (fun z15 e15 => ?_)
      have q15 : u_109_20 = z15 := (fr_F e_109_20 hFc12 rfl).trans e15.symm
      subst q15
      refine g_cmp_ge 21 56 (gd rfl) rfl rfl (fun c18 => ?_) (fun c18 => ?_)
      · skip
        refine g_iload_n 57 (gd rfl) rfl rfl ?_
        exact g_ireturn (gd rfl) rfl rfl (hP _ _ ⟨sc12, hIc12, hFc12, y12_3, rfl, rfl, in_w (-2147483648) 2147483647 (i_rng y12_3) rfl⟩)
      · skip
        have i18 := r_lt1 0 31 c18 j12_4 ro_109_20 rfl
        have i18a := r_lt2 1 32 c18 j12_4 ro_109_20 rfl
        refine g_iload_n 22 (gd rfl) rfl rfl ?_
        refine g_iload 24 (gd rfl) rfl rfl ?_
        refine g_iload_n 25 (gd rfl) rfl rfl ?_
        refine g_cmp_eq 28 47 (gd rfl) rfl rfl (fun c25 => ?_) (fun c25 => ?_)
        · skip
          have i25 := r_eq2 0 31 c25 i18 h2 rfl
          refine g_iconst 0 48 (gd rfl) rfl rfl ?_
          refine g_iadd 49 (gd rfl) rfl (fun z48 e48 => ?_)
          have i48 := in_add (-2147483648) 2147483647 e48 (i_rng y12_3) (in_c 0 rfl) rfl rfl
          refine g_istore_n 50 (gd rfl) rfl (Nat.le_of_ble_eq_true rfl) ?_
          refine g_iinc 53 (gd rfl) rfl rfl (Nat.le_of_ble_eq_true rfl) (fun z50 e50 => ?_)
          have i50 := in_add 1 32 e50 i18 (in_c 1 rfl) rfl rfl
          refine g_goto 12 (gd rfl) rfl ?_
          have n12 : ∀ j : Nat, ((j : Int) < (sc12.2.2.1 109 20).toInt ∧ (j : Int) ≠ (x2).toInt) → bt (sc12.1 129 j) j = true := by first | exact g12_0 | exact p4
          exact gg_w (by omega) (gg_f (gf_cons rfl (gf_cons rfl (gf_cons rfl (gf_cons rfl (gf_cons rfl gf_nil))))) (ih12 sc12 z48 z50 hIc12 hFc12 (in_w 0 32 i50 rfl) n12 (m_up mm12 (t_add e50 i18 (in_c 1 rfl) rfl) (in_w 1 1 (in_c 1 rfl) rfl))))
        · skip
          refine g_aload_n 29 (gd rfl) rfl rfl ?_
          refine g_getA (q2 := 129) 32 (gd rfl) rfl rfl rfl rfl ?_
          refine g_iload 34 (gd rfl) rfl rfl ?_
          refine g_iaload 35 (gd rfl) rfl (n := 32) rfl (in_ix i18 rfl) (fun z34 e34 => ?_)
          have nz35 : (z34).toInt ≠ 0 := by refine bt_nz (k := y12_4.toNatClampNeg) ?_; rw [e34]; refine g12_0 _ ⟨?_, ?_⟩; (have hn := (show u_109_20 = sc12.2.2.1 109 20 from fr_F e_109_20 hFc12 rfl); rw [← hn]; show ((y12_4.toInt.toNat : Nat) : Int) < _; have a0 := h2; unfold In at a0; have a1 := h1; unfold In at a1; have a2 := i18a; unfold In at a2; have a3 := i18; unfold In at a3; omega); (intro e; apply c25; have e4 : ((y12_4.toInt.toNat : Nat) : Int) = y12_4.toInt := (by have a0 := h2; unfold In at a0; have a1 := h1; unfold In at a1; have a2 := i18a; unfold In at a2; have a3 := i18; unfold In at a3; omega); have e5 : ((y12_4.toInt.toNat : Nat) : Int) = (x2).toInt := e; omega)
          refine g_calls (As := [.int z34]) (r := [.int y12_3]) 38 (gd rfl) rfl rfl rfl rfl rfl (Nat.le_of_ble_eq_true rfl) (Nat.zero_le _) (Nat.zero_le _) (k_327n (by omega) nz35) (fun v u h => ?_)
          obtain ⟨z35, rfl, rfl, i35, hb35⟩ := h
          show GG _ _ _ _ _ _ _ _ [.int z35, .int y12_3] _ _ _
          refine g_iload 40 (gd rfl) rfl rfl ?_
          refine g_cmp_ne 43 47 (gd rfl) rfl rfl (fun c40 => ?_) (fun c40 => ?_)
          · skip
            refine g_iconst 0 48 (gd rfl) rfl rfl ?_
            refine g_iadd 49 (gd rfl) rfl (fun z48 e48 => ?_)
            have i48 := in_add (-2147483648) 2147483647 e48 (i_rng y12_3) (in_c 0 rfl) rfl rfl
            refine g_istore_n 50 (gd rfl) rfl (Nat.le_of_ble_eq_true rfl) ?_
            refine g_iinc 53 (gd rfl) rfl rfl (Nat.le_of_ble_eq_true rfl) (fun z50 e50 => ?_)
            have i50 := in_add 1 32 e50 i18 (in_c 1 rfl) rfl rfl
            refine g_goto 12 (gd rfl) rfl ?_
            have n12 : ∀ j : Nat, ((j : Int) < (sc12.2.2.1 109 20).toInt ∧ (j : Int) ≠ (x2).toInt) → bt (sc12.1 129 j) j = true := by first | exact g12_0 | exact p4
            exact gg_w (by omega) (gg_f (gf_cons rfl (gf_cons rfl (gf_cons rfl (gf_cons rfl (gf_cons rfl gf_nil))))) (ih12 sc12 z48 z50 hIc12 hFc12 (in_w 0 32 i50 rfl) n12 (m_up mm12 (t_add e50 i18 (in_c 1 rfl) rfl) (in_w 1 1 (in_c 1 rfl) rfl))))
          · skip
            refine g_iconst 1 44 (gd rfl) rfl rfl ?_
            refine g_goto 48 (gd rfl) rfl ?_
            refine g_iadd 49 (gd rfl) rfl (fun z48 e48 => ?_)
            refine g_istore_n 50 (gd rfl) rfl (Nat.le_of_ble_eq_true rfl) ?_
            refine g_iinc 53 (gd rfl) rfl rfl (Nat.le_of_ble_eq_true rfl) (fun z50 e50 => ?_)
            have i50 := in_add 1 32 e50 i18 (in_c 1 rfl) rfl rfl
            refine g_goto 12 (gd rfl) rfl ?_
            have n12 : ∀ j : Nat, ((j : Int) < (sc12.2.2.1 109 20).toInt ∧ (j : Int) ≠ (x2).toInt) → bt (sc12.1 129 j) j = true := by first | exact g12_0 | exact p4
            exact gg_w (by omega) (gg_f (gf_cons rfl (gf_cons rfl (gf_cons rfl (gf_cons rfl (gf_cons rfl gf_nil))))) (ih12 sc12 z48 z50 hIc12 hFc12 (in_w 0 32 i50 rfl) n12 (m_up mm12 (t_add e50 i18 (in_c 1 rfl) rfl) (in_w 1 1 (in_c 1 rfl) rfl))))
  refine g_enter2 (k := 329) (N := 30601) (by omega) rfl (Nat.le_of_ble_eq_true rfl) ?_
  refine g_aload_n 1 (gd rfl) rfl rfl ?_
  refine g_iconst 1 2 (gd rfl) rfl rfl ?_
  refine g_iload_n 3 (gd rfl) rfl rfl ?_
  refine g_iload_n 4 (gd rfl) rfl rfl ?_
  refine g_callv (X := _) (As := [.int (Int32.ofInt 1), .int x1, .int x2]) (r := []) (b := A 109) (q := 109) 7 (gd rfl) rfl rfl rfl rfl rfl (ww_o rfl) (Nat.le_of_ble_eq_true rfl) (Nat.zero_le _) (Nat.zero_le _) (k_310 (by omega) hI (in_w 0 1 (in_c 1 rfl) rfl) (in_w (-1) 159 h1 rfl) (in_w (-1) 31 h2 rfl)) (fun e u h => h) (fun v u h => ?_)
  obtain ⟨s4, hI4, hF4, rfl, rfl, p4, p4a⟩ := h
  show GG _ _ _ _ _ _ _ _ [] _ _ _
  refine g_iconst 0 8 (gd rfl) rfl rfl ?_
  refine g_istore_n 9 (gd rfl) rfl (Nat.le_of_ble_eq_true rfl) ?_
  refine g_iconst 0 10 (gd rfl) rfl rfl ?_
  refine g_istore 12 (gd rfl) rfl (Nat.le_of_ble_eq_true rfl) ?_
  have n12 : ∀ j : Nat, ((j : Int) < (s4.2.2.1 109 20).toInt ∧ (j : Int) ≠ (x2).toInt) → bt (s4.1 129 j) j = true := by first | exact g12_0 | exact p4
  exact gg_w (by omega) (gg_f (gf_cons rfl (gf_cons rfl (gf_cons rfl (gf_cons rfl (gf_cons rfl gf_nil))))) (ct12 33 s4 (Int32.ofInt 0) (Int32.ofInt 0) hI4 (fr_tr rfl fr_rf hF4) (in_w 0 32 (in_c 0 rfl) rfl) n12 (m_in 33 (in_w 0 32 (in_c 0 rfl) rfl) rfl)))

def fm_330 : FM := ([129], [], [(109, 0)], [])
/-- GraphHouseModel.bridge -/
theorem k_330 {Z : AmZ} {A : Nat → Nat} {s : GS} {ex : va_W} {d : Nat} {X : AmX} {x1 : Int32} (hd : 5 ≤ d) (hI : Inv s)  : GC Z d 330 [.ref (A 109), .int x1] (WW Z A s ++ ex) 0 0 (fun v u => ∃ t : GS, Inv t ∧ Fr fm_330 s t ∧ ∃ z : Int32, v = some (.int z) ∧ u = WW Z A t ++ ex ∧ In z 0 1) X := by
  intro post xp hP hX
  obtain ⟨u_109_19, e_109_19⟩ : ∃ w, w = s.2.2.1 109 19 := ⟨_, rfl⟩
  have ro_109_19 := inv_F hI 0 160 rfl e_109_19
  refine g_enter2 (k := 330) (N := 900) (by omega) rfl (Nat.le_of_ble_eq_true rfl) ?_
  refine g_aload_n 1 (gd rfl) rfl rfl ?_
  refine g_aload_n 2 (gd rfl) rfl rfl ?_
  refine g_iload_n 3 (gd rfl) rfl rfl ?_
  refine g_callv (X := _) (As := [.int x1]) (r := [.ref (A 109)]) (b := A 109) (q := 109) 6 (gd rfl) rfl rfl rfl rfl rfl (ww_o rfl) (Nat.le_of_ble_eq_true rfl) (mc := 0) (ms := 0) (Nat.zero_le _) (Nat.zero_le _) (P := fun v u => _) ?_ (fun e u h => h) (fun v u h => h)
  intro po3 xx3 hp3 hx3
  refine g_enter2 (k := 273) (N := 300) (by omega) rfl (Nat.le_of_ble_eq_true rfl) ?_
  refine g_iload_n 1 (gd rfl) rfl rfl ?_
  refine g_if_lt 4 29 (gd rfl) rfl rfl (fun c3x1 => ?_) (fun c3x1 => ?_)
  · skip
    have i3x1 := z_lt (-2147483648) (-1) c3x1 (i_rng x1) rfl
    refine g_iconst 0 30 (gd rfl) rfl rfl ?_
    refine g_ireturn (gd rfl) rfl (nb01 (in_w 0 1 (in_c 0 rfl) rfl)) (hp3 _ _ ?_)
    show GG _ _ _ _ _ _ _ _ [.int (Int32.ofInt 0), .ref (A 109)] _ _ _
    refine g_callv (X := _) (As := [.int (Int32.ofInt 0)]) (r := []) (b := A 109) (q := 109) 9 (gd rfl) rfl rfl rfl rfl rfl (ww_o rfl) (Nat.le_of_ble_eq_true rfl) (mc := 0) (ms := 0) (Nat.zero_le _) (Nat.zero_le _) (P := fun v u => _) ?_ (fun e u h => h) (fun v u h => h)
    intro po6 xx6 hp6 hx6
    refine g_enter2 (k := 271) (N := 300) (by omega) rfl (Nat.le_of_ble_eq_true rfl) ?_
    refine g_aload_n 1 (gd rfl) rfl rfl ?_
    refine g_iload_n 2 (gd rfl) rfl rfl ?_
    refine g_iconst 1 3 (gd rfl) rfl rfl ?_
    refine g_callv (X := _) (As := [.int (Int32.ofInt 0), .int (Int32.ofInt 1)]) (r := []) (b := A 109) (q := 109) 6 (gd rfl) rfl rfl rfl rfl rfl (ww_o rfl) (Nat.le_of_ble_eq_true rfl) (mc := 0) (ms := 0) (Nat.zero_le _) (Nat.zero_le _) (P := fun v u => _) ?_ (fun e u h => h) (fun v u h => h)
    intro po6x3 xx6x3 hp6x3 hx6x3
    refine g_enter2 (k := 270) (N := 300) (by omega) rfl (Nat.le_of_ble_eq_true rfl) ?_
    refine g_aload_n 1 (gd rfl) rfl rfl ?_
    refine g_iload_n 2 (gd rfl) rfl rfl ?_
    refine g_if_ne 5 9 (gd rfl) rfl rfl (fun c6x3x2 => ?_) (fun c6x3x2 => ?_)
    · skip
      exact zn_ne c6x3x2 (in_c 0 rfl) rfl
    · skip
      refine g_iconst 1 6 (gd rfl) rfl rfl ?_
      refine g_goto 18 (gd rfl) rfl ?_
      refine g_putI 21 (gd rfl) rfl rfl rfl rfl ?_
      have hI6x3x18 := inv_sF (q := 109) (j := 0) hI rfl (in_w 0 2 (in_c 1 rfl) rfl)
      refine g_aload_n 22 (gd rfl) rfl rfl ?_
      refine g_getI 25 (gd rfl) rfl rfl rfl (fun z6x3x22 e6x3x22 => ?_)
      have q6x3x22 : (Int32.ofInt 1) = z6x3x22 := (sF_get).trans e6x3x22.symm
      subst q6x3x22
      refine g_if_le 28 32 (gd rfl) rfl rfl (fun c6x3x25 => ?_) (fun c6x3x25 => ?_)
      · skip
        exact zn_le c6x3x25 (in_c 1 rfl) rfl
      · skip
        refine g_iconst 1 29 (gd rfl) rfl rfl ?_
        refine g_goto 33 (gd rfl) rfl ?_
        refine g_ireturn (gd rfl) rfl (nb01 (in_w 0 1 (in_c 1 rfl) rfl)) (hp6x3 _ _ ?_)
        show GG _ _ _ _ _ _ _ _ [.int (Int32.ofInt 1)] _ _ _
        refine g_ireturn (gd rfl) rfl (nb01 (in_w 0 1 (in_c 1 rfl) rfl)) (hp6 _ _ ?_)
        show GG _ _ _ _ _ _ _ _ [.int (Int32.ofInt 1)] _ _ _
        refine g_if_eq 12 14 (gd rfl) rfl rfl (fun c9 => ?_) (fun c9 => ?_)
        · skip
          exact zn_eq c9 (in_c 1 rfl) rfl
        · skip
          refine g_iconst 0 13 (gd rfl) rfl rfl ?_
          exact g_ireturn (gd rfl) rfl (nb01 (in_w 0 1 (in_c 0 rfl) rfl)) (hP _ _ ⟨(sF s 109 0 (Int32.ofInt 1)), hI6x3x18, (fr_sF rfl fr_rf), (Int32.ofInt 0), rfl, rfl, in_w 0 1 (in_c 0 rfl) rfl⟩)
  · skip
    have i3x1 := z_ge 0 2147483647 c3x1 (i_rng x1) rfl
    refine g_iload_n 5 (gd rfl) rfl rfl ?_
    refine g_sipush 160 8 (gd rfl) rfl rfl ?_
    refine g_cmp_ge 11 29 (gd rfl) rfl rfl (fun c3x8 => ?_) (fun c3x8 => ?_)
    · skip
      have i3x8 := r_le2 160 2147483647 c3x8 (in_c 160 rfl) i3x1 rfl
      refine g_iconst 0 30 (gd rfl) rfl rfl ?_
      refine g_ireturn (gd rfl) rfl (nb01 (in_w 0 1 (in_c 0 rfl) rfl)) (hp3 _ _ ?_)
      show GG _ _ _ _ _ _ _ _ [.int (Int32.ofInt 0), .ref (A 109)] _ _ _
      refine g_callv (X := _) (As := [.int (Int32.ofInt 0)]) (r := []) (b := A 109) (q := 109) 9 (gd rfl) rfl rfl rfl rfl rfl (ww_o rfl) (Nat.le_of_ble_eq_true rfl) (mc := 0) (ms := 0) (Nat.zero_le _) (Nat.zero_le _) (P := fun v u => _) ?_ (fun e u h => h) (fun v u h => h)
      intro po6 xx6 hp6 hx6
      refine g_enter2 (k := 271) (N := 300) (by omega) rfl (Nat.le_of_ble_eq_true rfl) ?_
      refine g_aload_n 1 (gd rfl) rfl rfl ?_
      refine g_iload_n 2 (gd rfl) rfl rfl ?_
      refine g_iconst 1 3 (gd rfl) rfl rfl ?_
      refine g_callv (X := _) (As := [.int (Int32.ofInt 0), .int (Int32.ofInt 1)]) (r := []) (b := A 109) (q := 109) 6 (gd rfl) rfl rfl rfl rfl rfl (ww_o rfl) (Nat.le_of_ble_eq_true rfl) (mc := 0) (ms := 0) (Nat.zero_le _) (Nat.zero_le _) (P := fun v u => _) ?_ (fun e u h => h) (fun v u h => h)
      intro po6x3 xx6x3 hp6x3 hx6x3
      refine g_enter2 (k := 270) (N := 300) (by omega) rfl (Nat.le_of_ble_eq_true rfl) ?_
      refine g_aload_n 1 (gd rfl) rfl rfl ?_
      refine g_iload_n 2 (gd rfl) rfl rfl ?_
      refine g_if_ne 5 9 (gd rfl) rfl rfl (fun c6x3x2 => ?_) (fun c6x3x2 => ?_)
      · skip
        exact zn_ne c6x3x2 (in_c 0 rfl) rfl
      · skip
        refine g_iconst 1 6 (gd rfl) rfl rfl ?_
        refine g_goto 18 (gd rfl) rfl ?_
        refine g_putI 21 (gd rfl) rfl rfl rfl rfl ?_
        have hI6x3x18 := inv_sF (q := 109) (j := 0) hI rfl (in_w 0 2 (in_c 1 rfl) rfl)
        refine g_aload_n 22 (gd rfl) rfl rfl ?_
        refine g_getI 25 (gd rfl) rfl rfl rfl (fun z6x3x22 e6x3x22 => ?_)
        have q6x3x22 : (Int32.ofInt 1) = z6x3x22 := (sF_get).trans e6x3x22.symm
        subst q6x3x22
        refine g_if_le 28 32 (gd rfl) rfl rfl (fun c6x3x25 => ?_) (fun c6x3x25 => ?_)
        · skip
          exact zn_le c6x3x25 (in_c 1 rfl) rfl
        · skip
          refine g_iconst 1 29 (gd rfl) rfl rfl ?_
          refine g_goto 33 (gd rfl) rfl ?_
          refine g_ireturn (gd rfl) rfl (nb01 (in_w 0 1 (in_c 1 rfl) rfl)) (hp6x3 _ _ ?_)
          show GG _ _ _ _ _ _ _ _ [.int (Int32.ofInt 1)] _ _ _
          refine g_ireturn (gd rfl) rfl (nb01 (in_w 0 1 (in_c 1 rfl) rfl)) (hp6 _ _ ?_)
          show GG _ _ _ _ _ _ _ _ [.int (Int32.ofInt 1)] _ _ _
          refine g_if_eq 12 14 (gd rfl) rfl rfl (fun c9 => ?_) (fun c9 => ?_)
          · skip
            exact zn_eq c9 (in_c 1 rfl) rfl
          · skip
            refine g_iconst 0 13 (gd rfl) rfl rfl ?_
            exact g_ireturn (gd rfl) rfl (nb01 (in_w 0 1 (in_c 0 rfl) rfl)) (hP _ _ ⟨(sF s 109 0 (Int32.ofInt 1)), hI6x3x18, (fr_sF rfl fr_rf), (Int32.ofInt 0), rfl, rfl, in_w 0 1 (in_c 0 rfl) rfl⟩)
    · skip
      have i3x8 := r_lt1 0 159 c3x8 i3x1 (in_c 160 rfl) rfl
      refine g_aload_n 12 (gd rfl) rfl rfl ?_
      refine g_getA (q2 := 112) 15 (gd rfl) rfl rfl rfl rfl ?_
      refine g_aload_n 16 (gd rfl) rfl rfl ?_
      refine g_getI 19 (gd rfl) rfl rfl rfl (fun z3x16 e3x16 => ?_)
      have q3x16 : u_109_19 = z3x16 := (e_109_19).trans e3x16.symm
      subst q3x16
      refine g_iload_n 20 (gd rfl) rfl rfl ?_
      refine g_iadd 21 (gd rfl) rfl (fun z3x20 e3x20 => ?_)
      have i3x20 := in_add 0 319 e3x20 ro_109_19 i3x8 rfl rfl
      refine g_baload 22 (gd rfl) rfl (n := 480) rfl (in_ix i3x20 rfl) (fun z3x21 e3x21 => ?_)
      have i3x21 := inv_I hI (n := 480) (t := 3) 0 1 rfl (in_ix i3x20 rfl) rfl e3x21
      refine g_if_eq 25 29 (gd rfl) rfl rfl (fun c3x22 => ?_) (fun c3x22 => ?_)
      · skip
        have i3x22 := z_eq 0 0 c3x22 i3x21 rfl
        refine g_iconst 0 30 (gd rfl) rfl rfl ?_
        refine g_ireturn (gd rfl) rfl (nb01 (in_w 0 1 (in_c 0 rfl) rfl)) (hp3 _ _ ?_)
        show GG _ _ _ _ _ _ _ _ [.int (Int32.ofInt 0), .ref (A 109)] _ _ _
        refine g_callv (X := _) (As := [.int (Int32.ofInt 0)]) (r := []) (b := A 109) (q := 109) 9 (gd rfl) rfl rfl rfl rfl rfl (ww_o rfl) (Nat.le_of_ble_eq_true rfl) (mc := 0) (ms := 0) (Nat.zero_le _) (Nat.zero_le _) (P := fun v u => _) ?_ (fun e u h => h) (fun v u h => h)
        intro po6 xx6 hp6 hx6
        refine g_enter2 (k := 271) (N := 300) (by omega) rfl (Nat.le_of_ble_eq_true rfl) ?_
        refine g_aload_n 1 (gd rfl) rfl rfl ?_
        refine g_iload_n 2 (gd rfl) rfl rfl ?_
        refine g_iconst 1 3 (gd rfl) rfl rfl ?_
        refine g_callv (X := _) (As := [.int (Int32.ofInt 0), .int (Int32.ofInt 1)]) (r := []) (b := A 109) (q := 109) 6 (gd rfl) rfl rfl rfl rfl rfl (ww_o rfl) (Nat.le_of_ble_eq_true rfl) (mc := 0) (ms := 0) (Nat.zero_le _) (Nat.zero_le _) (P := fun v u => _) ?_ (fun e u h => h) (fun v u h => h)
        intro po6x3 xx6x3 hp6x3 hx6x3
        refine g_enter2 (k := 270) (N := 300) (by omega) rfl (Nat.le_of_ble_eq_true rfl) ?_
        refine g_aload_n 1 (gd rfl) rfl rfl ?_
        refine g_iload_n 2 (gd rfl) rfl rfl ?_
        refine g_if_ne 5 9 (gd rfl) rfl rfl (fun c6x3x2 => ?_) (fun c6x3x2 => ?_)
        · skip
          exact zn_ne c6x3x2 (in_c 0 rfl) rfl
        · skip
          refine g_iconst 1 6 (gd rfl) rfl rfl ?_
          refine g_goto 18 (gd rfl) rfl ?_
          refine g_putI 21 (gd rfl) rfl rfl rfl rfl ?_
          have hI6x3x18 := inv_sF (q := 109) (j := 0) hI rfl (in_w 0 2 (in_c 1 rfl) rfl)
          refine g_aload_n 22 (gd rfl) rfl rfl ?_
          refine g_getI 25 (gd rfl) rfl rfl rfl (fun z6x3x22 e6x3x22 => ?_)
          have q6x3x22 : (Int32.ofInt 1) = z6x3x22 := (sF_get).trans e6x3x22.symm
          subst q6x3x22
          refine g_if_le 28 32 (gd rfl) rfl rfl (fun c6x3x25 => ?_) (fun c6x3x25 => ?_)
          · skip
            exact zn_le c6x3x25 (in_c 1 rfl) rfl
          · skip
            refine g_iconst 1 29 (gd rfl) rfl rfl ?_
            refine g_goto 33 (gd rfl) rfl ?_
            refine g_ireturn (gd rfl) rfl (nb01 (in_w 0 1 (in_c 1 rfl) rfl)) (hp6x3 _ _ ?_)
            show GG _ _ _ _ _ _ _ _ [.int (Int32.ofInt 1)] _ _ _
            refine g_ireturn (gd rfl) rfl (nb01 (in_w 0 1 (in_c 1 rfl) rfl)) (hp6 _ _ ?_)
            show GG _ _ _ _ _ _ _ _ [.int (Int32.ofInt 1)] _ _ _
            refine g_if_eq 12 14 (gd rfl) rfl rfl (fun c9 => ?_) (fun c9 => ?_)
            · skip
              exact zn_eq c9 (in_c 1 rfl) rfl
            · skip
              refine g_iconst 0 13 (gd rfl) rfl rfl ?_
              exact g_ireturn (gd rfl) rfl (nb01 (in_w 0 1 (in_c 0 rfl) rfl)) (hP _ _ ⟨(sF s 109 0 (Int32.ofInt 1)), hI6x3x18, (fr_sF rfl fr_rf), (Int32.ofInt 0), rfl, rfl, in_w 0 1 (in_c 0 rfl) rfl⟩)
      · skip
        have i3x22 := z_ne 1 1 c3x22 i3x21 rfl
        refine g_iconst 1 26 (gd rfl) rfl rfl ?_
        refine g_goto 30 (gd rfl) rfl ?_
        refine g_ireturn (gd rfl) rfl (nb01 (in_w 0 1 (in_c 1 rfl) rfl)) (hp3 _ _ ?_)
        show GG _ _ _ _ _ _ _ _ [.int (Int32.ofInt 1), .ref (A 109)] _ _ _
        refine g_callv (X := _) (As := [.int (Int32.ofInt 1)]) (r := []) (b := A 109) (q := 109) 9 (gd rfl) rfl rfl rfl rfl rfl (ww_o rfl) (Nat.le_of_ble_eq_true rfl) (mc := 0) (ms := 0) (Nat.zero_le _) (Nat.zero_le _) (P := fun v u => _) ?_ (fun e u h => h) (fun v u h => h)
        intro po6 xx6 hp6 hx6
        refine g_enter2 (k := 271) (N := 300) (by omega) rfl (Nat.le_of_ble_eq_true rfl) ?_
        refine g_aload_n 1 (gd rfl) rfl rfl ?_
        refine g_iload_n 2 (gd rfl) rfl rfl ?_
        refine g_iconst 1 3 (gd rfl) rfl rfl ?_
        refine g_callv (X := _) (As := [.int (Int32.ofInt 1), .int (Int32.ofInt 1)]) (r := []) (b := A 109) (q := 109) 6 (gd rfl) rfl rfl rfl rfl rfl (ww_o rfl) (Nat.le_of_ble_eq_true rfl) (mc := 0) (ms := 0) (Nat.zero_le _) (Nat.zero_le _) (P := fun v u => _) ?_ (fun e u h => h) (fun v u h => h)
        intro po6x3 xx6x3 hp6x3 hx6x3
        refine g_enter2 (k := 270) (N := 300) (by omega) rfl (Nat.le_of_ble_eq_true rfl) ?_
        refine g_aload_n 1 (gd rfl) rfl rfl ?_
        refine g_iload_n 2 (gd rfl) rfl rfl ?_
        refine g_if_ne 5 9 (gd rfl) rfl rfl (fun c6x3x2 => ?_) (fun c6x3x2 => ?_)
        · skip
          refine g_iload_n 10 (gd rfl) rfl rfl ?_
          refine g_if_ne 13 17 (gd rfl) rfl rfl (fun c6x3x10 => ?_) (fun c6x3x10 => ?_)
          · skip
            refine g_iconst 0 18 (gd rfl) rfl rfl ?_
            refine g_putI 21 (gd rfl) rfl rfl rfl rfl ?_
            have hI6x3x18 := inv_sF (q := 109) (j := 0) hI rfl (in_w 0 2 (in_c 0 rfl) rfl)
            refine g_aload_n 22 (gd rfl) rfl rfl ?_
            refine g_getI 25 (gd rfl) rfl rfl rfl (fun z6x3x22 e6x3x22 => ?_)
            have q6x3x22 : (Int32.ofInt 0) = z6x3x22 := (sF_get).trans e6x3x22.symm
            subst q6x3x22
            refine g_if_le 28 32 (gd rfl) rfl rfl (fun c6x3x25 => ?_) (fun c6x3x25 => ?_)
            · skip
              refine g_iconst 0 33 (gd rfl) rfl rfl ?_
              refine g_ireturn (gd rfl) rfl (nb01 (in_w 0 1 (in_c 0 rfl) rfl)) (hp6x3 _ _ ?_)
              show GG _ _ _ _ _ _ _ _ [.int (Int32.ofInt 0)] _ _ _
              refine g_ireturn (gd rfl) rfl (nb01 (in_w 0 1 (in_c 0 rfl) rfl)) (hp6 _ _ ?_)
              show GG _ _ _ _ _ _ _ _ [.int (Int32.ofInt 0)] _ _ _
              refine g_if_eq 12 14 (gd rfl) rfl rfl (fun c9 => ?_) (fun c9 => ?_)
              · skip
                refine g_aload_n 15 (gd rfl) rfl rfl ?_
                refine g_iload_n 16 (gd rfl) rfl rfl ?_
                refine g_iconst (-1) 17 (gd rfl) rfl rfl ?_
                refine g_callv (X := _) (As := [.int x1, .int (Int32.ofInt (-1))]) (r := []) (b := A 109) (q := 109) 20 (gd rfl) rfl rfl rfl rfl rfl (ww_o rfl) (Nat.le_of_ble_eq_true rfl) (Nat.zero_le _) (Nat.zero_le _) (k_329 (by omega) hI6x3x18 (in_w (-1) 159 i3x8 rfl) (in_w (-1) 31 (in_c (-1) rfl) rfl)) (fun e u h => h) (fun v u h => ?_)
                obtain ⟨s17, hI17, hF17, z17, rfl, rfl, i17⟩ := h
                show GG _ _ _ _ _ _ _ _ [.int z17] _ _ _
                refine g_aload_n 21 (gd rfl) rfl rfl ?_
                refine g_iconst (-1) 22 (gd rfl) rfl rfl ?_
                refine g_iconst (-1) 23 (gd rfl) rfl rfl ?_
                refine g_callv (X := _) (As := [.int (Int32.ofInt (-1)), .int (Int32.ofInt (-1))]) (r := [.int z17]) (b := A 109) (q := 109) 26 (gd rfl) rfl rfl rfl rfl rfl (ww_o rfl) (Nat.le_of_ble_eq_true rfl) (Nat.zero_le _) (Nat.zero_le _) (k_329 (by omega) hI17 (in_w (-1) 159 (in_c (-1) rfl) rfl) (in_w (-1) 31 (in_c (-1) rfl) rfl)) (fun e u h => h) (fun v u h => ?_)
                obtain ⟨s23, hI23, hF23, z23, rfl, rfl, i23⟩ := h
                show GG _ _ _ _ _ _ _ _ [.int z23, .int z17] _ _ _
                refine g_cmp_le 29 33 (gd rfl) rfl rfl (fun c26 => ?_) (fun c26 => ?_)
                · skip
                  refine g_iconst 0 34 (gd rfl) rfl rfl ?_
                  exact g_ireturn (gd rfl) rfl (nb01 (in_w 0 1 (in_c 0 rfl) rfl)) (hP _ _ ⟨s23, hI23, (fr_tr rfl (fr_tr rfl (fr_sF rfl fr_rf) hF17) hF23), (Int32.ofInt 0), rfl, rfl, in_w 0 1 (in_c 0 rfl) rfl⟩)
                · skip
                  have i26 := r_lt1 (-2147483648) 2147483646 c26 i23 i17 rfl
                  have i26a := r_lt2 (-2147483647) 2147483647 c26 i23 i17 rfl
                  refine g_iconst 1 30 (gd rfl) rfl rfl ?_
                  refine g_goto 34 (gd rfl) rfl ?_
                  exact g_ireturn (gd rfl) rfl (nb01 (in_w 0 1 (in_c 1 rfl) rfl)) (hP _ _ ⟨s23, hI23, (fr_tr rfl (fr_tr rfl (fr_sF rfl fr_rf) hF17) hF23), (Int32.ofInt 1), rfl, rfl, in_w 0 1 (in_c 1 rfl) rfl⟩)
              · skip
                exact zn_ne c9 (in_c 0 rfl) rfl
            · skip
              exact zn_gt c6x3x25 (in_c 0 rfl) rfl
          · skip
            exact zn_eq c6x3x10 (in_c 1 rfl) rfl
        · skip
          exact zn_eq c6x3x2 (in_c 1 rfl) rfl

def fm_331 : FM := ([129], [], [(109, 0)], [])
/-- GraphHouseModel.cut -/
theorem k_331 {Z : AmZ} {A : Nat → Nat} {s : GS} {ex : va_W} {d : Nat} {X : AmX} {x1 : Int32} (hd : 5 ≤ d) (hI : Inv s)  : GC Z d 331 [.ref (A 109), .int x1] (WW Z A s ++ ex) 0 0 (fun v u => ∃ t : GS, Inv t ∧ Fr fm_331 s t ∧ ∃ z : Int32, v = some (.int z) ∧ u = WW Z A t ++ ex ∧ In z 0 1) X := by
  intro post xp hP hX
  obtain ⟨u_109_20, e_109_20⟩ : ∃ w, w = s.2.2.1 109 20 := ⟨_, rfl⟩
  have ro_109_20 := inv_F hI 0 32 rfl e_109_20
  refine g_enter2 (k := 331) (N := 900) (by omega) rfl (Nat.le_of_ble_eq_true rfl) ?_
  refine g_aload_n 1 (gd rfl) rfl rfl ?_
  refine g_aload_n 2 (gd rfl) rfl rfl ?_
  refine g_iload_n 3 (gd rfl) rfl rfl ?_
  refine g_callv (X := _) (As := [.int x1]) (r := [.ref (A 109)]) (b := A 109) (q := 109) 6 (gd rfl) rfl rfl rfl rfl rfl (ww_o rfl) (Nat.le_of_ble_eq_true rfl) (mc := 0) (ms := 0) (Nat.zero_le _) (Nat.zero_le _) (P := fun v u => _) ?_ (fun e u h => h) (fun v u h => h)
  intro po3 xx3 hp3 hx3
  refine g_enter2 (k := 272) (N := 300) (by omega) rfl (Nat.le_of_ble_eq_true rfl) ?_
  refine g_iload_n 1 (gd rfl) rfl rfl ?_
  refine g_if_lt 4 16 (gd rfl) rfl rfl (fun c3x1 => ?_) (fun c3x1 => ?_)
  · skip
    have i3x1 := z_lt (-2147483648) (-1) c3x1 (i_rng x1) rfl
    refine g_iconst 0 17 (gd rfl) rfl rfl ?_
    refine g_ireturn (gd rfl) rfl (nb01 (in_w 0 1 (in_c 0 rfl) rfl)) (hp3 _ _ ?_)
    show GG _ _ _ _ _ _ _ _ [.int (Int32.ofInt 0), .ref (A 109)] _ _ _
    refine g_callv (X := _) (As := [.int (Int32.ofInt 0)]) (r := []) (b := A 109) (q := 109) 9 (gd rfl) rfl rfl rfl rfl rfl (ww_o rfl) (Nat.le_of_ble_eq_true rfl) (mc := 0) (ms := 0) (Nat.zero_le _) (Nat.zero_le _) (P := fun v u => _) ?_ (fun e u h => h) (fun v u h => h)
    intro po6 xx6 hp6 hx6
    refine g_enter2 (k := 271) (N := 300) (by omega) rfl (Nat.le_of_ble_eq_true rfl) ?_
    refine g_aload_n 1 (gd rfl) rfl rfl ?_
    refine g_iload_n 2 (gd rfl) rfl rfl ?_
    refine g_iconst 1 3 (gd rfl) rfl rfl ?_
    refine g_callv (X := _) (As := [.int (Int32.ofInt 0), .int (Int32.ofInt 1)]) (r := []) (b := A 109) (q := 109) 6 (gd rfl) rfl rfl rfl rfl rfl (ww_o rfl) (Nat.le_of_ble_eq_true rfl) (mc := 0) (ms := 0) (Nat.zero_le _) (Nat.zero_le _) (P := fun v u => _) ?_ (fun e u h => h) (fun v u h => h)
    intro po6x3 xx6x3 hp6x3 hx6x3
    refine g_enter2 (k := 270) (N := 300) (by omega) rfl (Nat.le_of_ble_eq_true rfl) ?_
    refine g_aload_n 1 (gd rfl) rfl rfl ?_
    refine g_iload_n 2 (gd rfl) rfl rfl ?_
    refine g_if_ne 5 9 (gd rfl) rfl rfl (fun c6x3x2 => ?_) (fun c6x3x2 => ?_)
    · skip
      exact zn_ne c6x3x2 (in_c 0 rfl) rfl
    · skip
      refine g_iconst 1 6 (gd rfl) rfl rfl ?_
      refine g_goto 18 (gd rfl) rfl ?_
      refine g_putI 21 (gd rfl) rfl rfl rfl rfl ?_
      have hI6x3x18 := inv_sF (q := 109) (j := 0) hI rfl (in_w 0 2 (in_c 1 rfl) rfl)
      refine g_aload_n 22 (gd rfl) rfl rfl ?_
      refine g_getI 25 (gd rfl) rfl rfl rfl (fun z6x3x22 e6x3x22 => ?_)
      have q6x3x22 : (Int32.ofInt 1) = z6x3x22 := (sF_get).trans e6x3x22.symm
      subst q6x3x22
      refine g_if_le 28 32 (gd rfl) rfl rfl (fun c6x3x25 => ?_) (fun c6x3x25 => ?_)
      · skip
        exact zn_le c6x3x25 (in_c 1 rfl) rfl
      · skip
        refine g_iconst 1 29 (gd rfl) rfl rfl ?_
        refine g_goto 33 (gd rfl) rfl ?_
        refine g_ireturn (gd rfl) rfl (nb01 (in_w 0 1 (in_c 1 rfl) rfl)) (hp6x3 _ _ ?_)
        show GG _ _ _ _ _ _ _ _ [.int (Int32.ofInt 1)] _ _ _
        refine g_ireturn (gd rfl) rfl (nb01 (in_w 0 1 (in_c 1 rfl) rfl)) (hp6 _ _ ?_)
        show GG _ _ _ _ _ _ _ _ [.int (Int32.ofInt 1)] _ _ _
        refine g_if_eq 12 14 (gd rfl) rfl rfl (fun c9 => ?_) (fun c9 => ?_)
        · skip
          exact zn_eq c9 (in_c 1 rfl) rfl
        · skip
          refine g_iconst 0 13 (gd rfl) rfl rfl ?_
          exact g_ireturn (gd rfl) rfl (nb01 (in_w 0 1 (in_c 0 rfl) rfl)) (hP _ _ ⟨(sF s 109 0 (Int32.ofInt 1)), hI6x3x18, (fr_sF rfl fr_rf), (Int32.ofInt 0), rfl, rfl, in_w 0 1 (in_c 0 rfl) rfl⟩)
  · skip
    have i3x1 := z_ge 0 2147483647 c3x1 (i_rng x1) rfl
    refine g_iload_n 5 (gd rfl) rfl rfl ?_
    refine g_aload_n 6 (gd rfl) rfl rfl ?_
    refine g_getI 9 (gd rfl) rfl rfl rfl (fun z3x6 e3x6 => ?_)
    have q3x6 : u_109_20 = z3x6 := (e_109_20).trans e3x6.symm
    subst q3x6
    refine g_cmp_ge 12 16 (gd rfl) rfl rfl (fun c3x9 => ?_) (fun c3x9 => ?_)
    · skip
      refine g_iconst 0 17 (gd rfl) rfl rfl ?_
      refine g_ireturn (gd rfl) rfl (nb01 (in_w 0 1 (in_c 0 rfl) rfl)) (hp3 _ _ ?_)
      show GG _ _ _ _ _ _ _ _ [.int (Int32.ofInt 0), .ref (A 109)] _ _ _
      refine g_callv (X := _) (As := [.int (Int32.ofInt 0)]) (r := []) (b := A 109) (q := 109) 9 (gd rfl) rfl rfl rfl rfl rfl (ww_o rfl) (Nat.le_of_ble_eq_true rfl) (mc := 0) (ms := 0) (Nat.zero_le _) (Nat.zero_le _) (P := fun v u => _) ?_ (fun e u h => h) (fun v u h => h)
      intro po6 xx6 hp6 hx6
      refine g_enter2 (k := 271) (N := 300) (by omega) rfl (Nat.le_of_ble_eq_true rfl) ?_
      refine g_aload_n 1 (gd rfl) rfl rfl ?_
      refine g_iload_n 2 (gd rfl) rfl rfl ?_
      refine g_iconst 1 3 (gd rfl) rfl rfl ?_
      refine g_callv (X := _) (As := [.int (Int32.ofInt 0), .int (Int32.ofInt 1)]) (r := []) (b := A 109) (q := 109) 6 (gd rfl) rfl rfl rfl rfl rfl (ww_o rfl) (Nat.le_of_ble_eq_true rfl) (mc := 0) (ms := 0) (Nat.zero_le _) (Nat.zero_le _) (P := fun v u => _) ?_ (fun e u h => h) (fun v u h => h)
      intro po6x3 xx6x3 hp6x3 hx6x3
      refine g_enter2 (k := 270) (N := 300) (by omega) rfl (Nat.le_of_ble_eq_true rfl) ?_
      refine g_aload_n 1 (gd rfl) rfl rfl ?_
      refine g_iload_n 2 (gd rfl) rfl rfl ?_
      refine g_if_ne 5 9 (gd rfl) rfl rfl (fun c6x3x2 => ?_) (fun c6x3x2 => ?_)
      · skip
        exact zn_ne c6x3x2 (in_c 0 rfl) rfl
      · skip
        refine g_iconst 1 6 (gd rfl) rfl rfl ?_
        refine g_goto 18 (gd rfl) rfl ?_
        refine g_putI 21 (gd rfl) rfl rfl rfl rfl ?_
        have hI6x3x18 := inv_sF (q := 109) (j := 0) hI rfl (in_w 0 2 (in_c 1 rfl) rfl)
        refine g_aload_n 22 (gd rfl) rfl rfl ?_
        refine g_getI 25 (gd rfl) rfl rfl rfl (fun z6x3x22 e6x3x22 => ?_)
        have q6x3x22 : (Int32.ofInt 1) = z6x3x22 := (sF_get).trans e6x3x22.symm
        subst q6x3x22
        refine g_if_le 28 32 (gd rfl) rfl rfl (fun c6x3x25 => ?_) (fun c6x3x25 => ?_)
        · skip
          exact zn_le c6x3x25 (in_c 1 rfl) rfl
        · skip
          refine g_iconst 1 29 (gd rfl) rfl rfl ?_
          refine g_goto 33 (gd rfl) rfl ?_
          refine g_ireturn (gd rfl) rfl (nb01 (in_w 0 1 (in_c 1 rfl) rfl)) (hp6x3 _ _ ?_)
          show GG _ _ _ _ _ _ _ _ [.int (Int32.ofInt 1)] _ _ _
          refine g_ireturn (gd rfl) rfl (nb01 (in_w 0 1 (in_c 1 rfl) rfl)) (hp6 _ _ ?_)
          show GG _ _ _ _ _ _ _ _ [.int (Int32.ofInt 1)] _ _ _
          refine g_if_eq 12 14 (gd rfl) rfl rfl (fun c9 => ?_) (fun c9 => ?_)
          · skip
            exact zn_eq c9 (in_c 1 rfl) rfl
          · skip
            refine g_iconst 0 13 (gd rfl) rfl rfl ?_
            exact g_ireturn (gd rfl) rfl (nb01 (in_w 0 1 (in_c 0 rfl) rfl)) (hP _ _ ⟨(sF s 109 0 (Int32.ofInt 1)), hI6x3x18, (fr_sF rfl fr_rf), (Int32.ofInt 0), rfl, rfl, in_w 0 1 (in_c 0 rfl) rfl⟩)
    · skip
      have i3x9 := r_lt1 0 31 c3x9 i3x1 ro_109_20 rfl
      have i3x9a := r_lt2 1 32 c3x9 i3x1 ro_109_20 rfl
      refine g_iconst 1 13 (gd rfl) rfl rfl ?_
      refine g_goto 17 (gd rfl) rfl ?_
      refine g_ireturn (gd rfl) rfl (nb01 (in_w 0 1 (in_c 1 rfl) rfl)) (hp3 _ _ ?_)
      show GG _ _ _ _ _ _ _ _ [.int (Int32.ofInt 1), .ref (A 109)] _ _ _
      refine g_callv (X := _) (As := [.int (Int32.ofInt 1)]) (r := []) (b := A 109) (q := 109) 9 (gd rfl) rfl rfl rfl rfl rfl (ww_o rfl) (Nat.le_of_ble_eq_true rfl) (mc := 0) (ms := 0) (Nat.zero_le _) (Nat.zero_le _) (P := fun v u => _) ?_ (fun e u h => h) (fun v u h => h)
      intro po6 xx6 hp6 hx6
      refine g_enter2 (k := 271) (N := 300) (by omega) rfl (Nat.le_of_ble_eq_true rfl) ?_
      refine g_aload_n 1 (gd rfl) rfl rfl ?_
      refine g_iload_n 2 (gd rfl) rfl rfl ?_
      refine g_iconst 1 3 (gd rfl) rfl rfl ?_
      refine g_callv (X := _) (As := [.int (Int32.ofInt 1), .int (Int32.ofInt 1)]) (r := []) (b := A 109) (q := 109) 6 (gd rfl) rfl rfl rfl rfl rfl (ww_o rfl) (Nat.le_of_ble_eq_true rfl) (mc := 0) (ms := 0) (Nat.zero_le _) (Nat.zero_le _) (P := fun v u => _) ?_ (fun e u h => h) (fun v u h => h)
      intro po6x3 xx6x3 hp6x3 hx6x3
      refine g_enter2 (k := 270) (N := 300) (by omega) rfl (Nat.le_of_ble_eq_true rfl) ?_
      refine g_aload_n 1 (gd rfl) rfl rfl ?_
      refine g_iload_n 2 (gd rfl) rfl rfl ?_
      refine g_if_ne 5 9 (gd rfl) rfl rfl (fun c6x3x2 => ?_) (fun c6x3x2 => ?_)
      · skip
        refine g_iload_n 10 (gd rfl) rfl rfl ?_
        refine g_if_ne 13 17 (gd rfl) rfl rfl (fun c6x3x10 => ?_) (fun c6x3x10 => ?_)
        · skip
          refine g_iconst 0 18 (gd rfl) rfl rfl ?_
          refine g_putI 21 (gd rfl) rfl rfl rfl rfl ?_
          have hI6x3x18 := inv_sF (q := 109) (j := 0) hI rfl (in_w 0 2 (in_c 0 rfl) rfl)
          refine g_aload_n 22 (gd rfl) rfl rfl ?_
          refine g_getI 25 (gd rfl) rfl rfl rfl (fun z6x3x22 e6x3x22 => ?_)
          have q6x3x22 : (Int32.ofInt 0) = z6x3x22 := (sF_get).trans e6x3x22.symm
          subst q6x3x22
          refine g_if_le 28 32 (gd rfl) rfl rfl (fun c6x3x25 => ?_) (fun c6x3x25 => ?_)
          · skip
            refine g_iconst 0 33 (gd rfl) rfl rfl ?_
            refine g_ireturn (gd rfl) rfl (nb01 (in_w 0 1 (in_c 0 rfl) rfl)) (hp6x3 _ _ ?_)
            show GG _ _ _ _ _ _ _ _ [.int (Int32.ofInt 0)] _ _ _
            refine g_ireturn (gd rfl) rfl (nb01 (in_w 0 1 (in_c 0 rfl) rfl)) (hp6 _ _ ?_)
            show GG _ _ _ _ _ _ _ _ [.int (Int32.ofInt 0)] _ _ _
            refine g_if_eq 12 14 (gd rfl) rfl rfl (fun c9 => ?_) (fun c9 => ?_)
            · skip
              refine g_aload_n 15 (gd rfl) rfl rfl ?_
              refine g_iconst (-1) 16 (gd rfl) rfl rfl ?_
              refine g_iload_n 17 (gd rfl) rfl rfl ?_
              refine g_callv (X := _) (As := [.int (Int32.ofInt (-1)), .int x1]) (r := []) (b := A 109) (q := 109) 20 (gd rfl) rfl rfl rfl rfl rfl (ww_o rfl) (Nat.le_of_ble_eq_true rfl) (Nat.zero_le _) (Nat.zero_le _) (k_329 (by omega) hI6x3x18 (in_w (-1) 159 (in_c (-1) rfl) rfl) (in_w (-1) 31 i3x9 rfl)) (fun e u h => h) (fun v u h => ?_)
              obtain ⟨s17, hI17, hF17, z17, rfl, rfl, i17⟩ := h
              show GG _ _ _ _ _ _ _ _ [.int z17] _ _ _
              refine g_aload_n 21 (gd rfl) rfl rfl ?_
              refine g_iconst (-1) 22 (gd rfl) rfl rfl ?_
              refine g_iconst (-1) 23 (gd rfl) rfl rfl ?_
              refine g_callv (X := _) (As := [.int (Int32.ofInt (-1)), .int (Int32.ofInt (-1))]) (r := [.int z17]) (b := A 109) (q := 109) 26 (gd rfl) rfl rfl rfl rfl rfl (ww_o rfl) (Nat.le_of_ble_eq_true rfl) (Nat.zero_le _) (Nat.zero_le _) (k_329 (by omega) hI17 (in_w (-1) 159 (in_c (-1) rfl) rfl) (in_w (-1) 31 (in_c (-1) rfl) rfl)) (fun e u h => h) (fun v u h => ?_)
              obtain ⟨s23, hI23, hF23, z23, rfl, rfl, i23⟩ := h
              show GG _ _ _ _ _ _ _ _ [.int z23, .int z17] _ _ _
              refine g_cmp_le 29 33 (gd rfl) rfl rfl (fun c26 => ?_) (fun c26 => ?_)
              · skip
                refine g_iconst 0 34 (gd rfl) rfl rfl ?_
                exact g_ireturn (gd rfl) rfl (nb01 (in_w 0 1 (in_c 0 rfl) rfl)) (hP _ _ ⟨s23, hI23, (fr_tr rfl (fr_tr rfl (fr_sF rfl fr_rf) hF17) hF23), (Int32.ofInt 0), rfl, rfl, in_w 0 1 (in_c 0 rfl) rfl⟩)
              · skip
                have i26 := r_lt1 (-2147483648) 2147483646 c26 i23 i17 rfl
                have i26a := r_lt2 (-2147483647) 2147483647 c26 i23 i17 rfl
                refine g_iconst 1 30 (gd rfl) rfl rfl ?_
                refine g_goto 34 (gd rfl) rfl ?_
                exact g_ireturn (gd rfl) rfl (nb01 (in_w 0 1 (in_c 1 rfl) rfl)) (hP _ _ ⟨s23, hI23, (fr_tr rfl (fr_tr rfl (fr_sF rfl fr_rf) hF17) hF23), (Int32.ofInt 1), rfl, rfl, in_w 0 1 (in_c 1 rfl) rfl⟩)
            · skip
              exact zn_ne c9 (in_c 0 rfl) rfl
          · skip
            exact zn_gt c6x3x25 (in_c 0 rfl) rfl
        · skip
          exact zn_eq c6x3x10 (in_c 1 rfl) rfl
      · skip
        exact zn_eq c6x3x2 (in_c 1 rfl) rfl

def fm_332 : FM := ([], [], [(109, 0)], [])
/-- GraphHouseModel.order -/
theorem k_332 {Z : AmZ} {A : Nat → Nat} {s : GS} {ex : va_W} {d : Nat} {X : AmX} {x1 : Int32} (hd : 4 ≤ d) (hI : Inv s)  : GC Z d 332 [.ref (A 109), .int x1] (WW Z A s ++ ex) 0 0 (fun v u => ∃ t : GS, Inv t ∧ Fr fm_332 s t ∧ ∃ z : Int32, v = some (.int z) ∧ u = WW Z A t ++ ex ∧ In z (-1) 31) X := by
  intro post xp hP hX
  obtain ⟨u_109_19, e_109_19⟩ : ∃ w, w = s.2.2.1 109 19 := ⟨_, rfl⟩
  have ro_109_19 := inv_F hI 0 160 rfl e_109_19
  obtain ⟨u_109_20, e_109_20⟩ : ∃ w, w = s.2.2.1 109 20 := ⟨_, rfl⟩
  have ro_109_20 := inv_F hI 0 32 rfl e_109_20
  have ct28 : ∀ (k28 : Nat) (sc28 : GS) (y28_2 : Int32) (y28_3 : Int32) (y28_4 : Int32) (y28_5 : Int32), Inv sc28 → Fr fm_332 s sc28 → (In x1 0 2147483647) → (In y28_3 (-1) 31) → (In y28_4 (-1) 31) → (In y28_5 0 32) → 32 - (y28_5).toInt < (k28 : Int) → GG Z (d - 1) 332 post (gx xp) (1 + k28 * 27648969) 28 (fun j => xlook j [(0, .ref (A 109)), (1, .int x1), (2, .int y28_2), (3, .int y28_3), (4, .int y28_4), (5, .int y28_5)]) [] (WW Z A sc28 ++ ex) 0 0 := by
    intro k28
    induction k28 with
    | zero => intro sc28 y28_2 y28_3 y28_4 y28_5 hIc28 hFc28 j28_1 j28_3 j28_4 j28_5 mm28; exact m_no mm28 j28_5 rfl
    | succ k28 ih28 =>
      intro sc28 y28_2 y28_3 y28_4 y28_5 hIc28 hFc28 j28_1 j28_3 j28_4 j28_5 mm28
      refine gg_w (M := 1 + k28 * 27648969 + 27648969) (by omega) ?_
      have ct47 : ∀ (k47 : Nat) (sc47 : GS) (y47_3 : Int32) (y47_6 : Int32), Inv sc47 → Fr fm_332 s sc47 → (In y47_3 (-1) 31) → (In y28_5 0 31) → (In y47_6 (-1) 31) → (y47_6).toInt - (-1) < (k47 : Int) → GG Z (d - 1) 332 post (gx xp) (1 + k28 * 27648969 + 1 + k47 * 813152) 47 (fun j => xlook j [(0, .ref (A 109)), (1, .int x1), (2, .int y28_2), (3, .int y47_3), (4, .int y28_4), (5, .int y28_5), (6, .int y47_6)]) [] (WW Z A sc47 ++ ex) 0 0 := by
        intro k47
        induction k47 with
        | zero => intro sc47 y47_3 y47_6 hIc47 hFc47 j47_3 j47_5 j47_6 mm47; exact m_nod mm47 j47_6 rfl
        | succ k47 ih47 =>
          intro sc47 y47_3 y47_6 hIc47 hFc47 j47_3 j47_5 j47_6 mm47
          refine gg_w (M := 1 + k28 * 27648969 + 1 + k47 * 813152 + 813152) (by omega) ?_
          have ct141 : ∀ (sc141 : GS) (y141_7 : Int32) (y141_8 : Int32), Inv sc141 → Fr fm_332 s sc141 → (In y47_6 0 31) → (In y141_7 0 1) → (In y141_8 0 448) → GG Z (d - 1) 332 post (gx xp) (1 + k28 * 27648969 + 1 + k47 * 813152 + 901) 141 (fun j => xlook j [(0, .ref (A 109)), (1, .int x1), (2, .int y28_2), (3, .int y47_3), (4, .int y28_4), (5, .int y28_5), (6, .int y47_6), (7, .int y141_7), (8, .int y141_8)]) [] (WW Z A sc141 ++ ex) 0 0 := by
            intro sc141 y141_7 y141_8 hIc141 hFc141 j141_6 j141_7 j141_8
            refine g_iload 143 (gd rfl) rfl rfl ?_
            refine g_if_eq 146 151 (gd rfl) rfl rfl (fun c143 => ?_) (fun c143 => ?_)
            · skip
              have i143 := z_eq 0 0 c143 j141_7 rfl
              refine g_iload_n 152 (gd rfl) rfl rfl ?_
              refine g_istore_n 153 (gd rfl) rfl (Nat.le_of_ble_eq_true rfl) ?_
              refine g_iinc 156 (gd rfl) rfl rfl (Nat.le_of_ble_eq_true rfl) (fun z153 e153 => ?_)
              have i153 := in_add (-1) 30 e153 j141_6 (in_c (-1) rfl) rfl rfl
              refine g_goto 47 (gd rfl) rfl ?_
              exact gg_w (by omega) (gg_f (gf_cons rfl (gf_cons rfl (gf_cons rfl (gf_cons rfl (gf_cons rfl (gf_cons rfl (gf_cons rfl gf_nil))))))) (ih47 sc141 y47_3 z153 hIc141 hFc141 (in_w (-1) 31 j47_3 rfl) (in_w 0 31 j47_5 rfl) (in_w (-1) 31 i153 rfl) (m_dn mm47 (t_add e153 j141_6 (in_c (-1) rfl) rfl) (in_w (-1) (-1) (in_c (-1) rfl) rfl))))
            · skip
              have i143 := z_ne 1 1 c143 j141_7 rfl
              refine g_iload 148 (gd rfl) rfl rfl ?_
              refine g_goto 152 (gd rfl) rfl ?_
              refine g_istore_n 153 (gd rfl) rfl (Nat.le_of_ble_eq_true rfl) ?_
              refine g_iinc 156 (gd rfl) rfl rfl (Nat.le_of_ble_eq_true rfl) (fun z153 e153 => ?_)
              have i153 := in_add (-1) 30 e153 j141_6 (in_c (-1) rfl) rfl rfl
              refine g_goto 47 (gd rfl) rfl ?_
              exact gg_w (by omega) (gg_f (gf_cons rfl (gf_cons rfl (gf_cons rfl (gf_cons rfl (gf_cons rfl (gf_cons rfl (gf_cons rfl gf_nil))))))) (ih47 sc141 y47_6 z153 hIc141 hFc141 (in_w (-1) 31 j141_6 rfl) (in_w 0 31 j47_5 rfl) (in_w (-1) 31 i153 rfl) (m_dn mm47 (t_add e153 j141_6 (in_c (-1) rfl) rfl) (in_w (-1) (-1) (in_c (-1) rfl) rfl))))
          have ct74 : ∀ (k74 : Nat) (sc74 : GS) (y74_7 : Int32) (y74_8 : Int32), Inv sc74 → Fr fm_332 s sc74 → (In y47_6 0 31) → (In y74_7 0 1) → (In y74_8 0 448) → 448 - (y74_8).toInt < (k74 : Int) → GG Z (d - 1) 332 post (gx xp) (1 + k28 * 27648969 + 1 + k47 * 813152 + 902 + k74 * 1801) 74 (fun j => xlook j [(0, .ref (A 109)), (1, .int x1), (2, .int y28_2), (3, .int y47_3), (4, .int y28_4), (5, .int y28_5), (6, .int y47_6), (7, .int y74_7), (8, .int y74_8)]) [] (WW Z A sc74 ++ ex) 0 0 := by
            intro k74
            induction k74 with
            | zero => intro sc74 y74_7 y74_8 hIc74 hFc74 j74_6 j74_7 j74_8 mm74; exact m_no mm74 j74_8 rfl
            | succ k74 ih74 =>
              intro sc74 y74_7 y74_8 hIc74 hFc74 j74_6 j74_7 j74_8 mm74
              refine gg_w (M := 1 + k28 * 27648969 + 1 + k47 * 813152 + 902 + k74 * 1801 + 1801) (by omega) ?_
              have ct128 : ∀ (sc128 : GS) , Inv sc128 → Fr fm_332 s sc128 → (In y74_7 1 1) → (In y74_8 0 400) → ((y74_7).toInt ≠ 0) → GG Z (d - 1) 332 post (gx xp) (1 + k28 * 27648969 + 1 + k47 * 813152 + 902 + k74 * 1801 + 901) 128 (fun j => xlook j [(0, .ref (A 109)), (1, .int x1), (2, .int y28_2), (3, .int y47_3), (4, .int y28_4), (5, .int y28_5), (6, .int y47_6), (7, .int y74_7), (8, .int y74_8)]) [] (WW Z A sc128 ++ ex) 0 0 := by
                intro sc128  hIc128 hFc128 j128_7 j128_8 nz128_7
                refine g_iconst 1 129 (gd rfl) rfl rfl ?_
                refine g_goto 133 (gd rfl) rfl ?_
                refine g_istore 135 (gd rfl) rfl (Nat.le_of_ble_eq_true rfl) ?_
                refine g_iinc 138 (gd rfl) rfl rfl (Nat.le_of_ble_eq_true rfl) (fun z135 e135 => ?_)
                have i135 := in_add 1 401 e135 j128_8 (in_c 1 rfl) rfl rfl
                refine g_goto 74 (gd rfl) rfl ?_
                exact gg_w (by omega) (gg_f (gf_cons rfl (gf_cons rfl (gf_cons rfl (gf_cons rfl (gf_cons rfl (gf_cons rfl (gf_cons rfl (gf_cons rfl (gf_cons rfl gf_nil))))))))) (ih74 sc128 (Int32.ofInt 1) z135 hIc128 hFc128 (in_w 0 31 j74_6 rfl) (in_w 0 1 (in_c 1 rfl) rfl) (in_w 0 448 i135 rfl) (m_up mm74 (t_add e135 j128_8 (in_c 1 rfl) rfl) (in_w 1 1 (in_c 1 rfl) rfl))))
              refine g_iload 76 (gd rfl) rfl rfl ?_
              refine g_aload_n 77 (gd rfl) rfl rfl ?_
              refine g_getI 80 (gd rfl) rfl rfl rfl (fun z77 e77 => ?_)
              have q77 : u_109_19 = z77 := (fr_F e_109_19 hFc74 rfl).trans e77.symm
              subst q77
              refine g_sipush 160 83 (gd rfl) rfl rfl ?_
              refine g_iadd 84 (gd rfl) rfl (fun z83 e83 => ?_)
              have i83 := in_add 160 320 e83 ro_109_19 (in_c 160 rfl) rfl rfl
              refine g_cmp_ge 87 141 (gd rfl) rfl rfl (fun c84 => ?_) (fun c84 => ?_)
              · skip
                have i84 := r_le2 160 448 c84 i83 j74_8 rfl
                exact gg_w (by omega) (gg_f (gf_cons rfl (gf_cons rfl (gf_cons rfl (gf_cons rfl (gf_cons rfl (gf_cons rfl (gf_cons rfl (gf_cons rfl (gf_cons rfl gf_nil))))))))) (ct141 sc74 y74_7 y74_8 hIc74 hFc74 (in_w 0 31 j74_6 rfl) (in_w 0 1 j74_7 rfl) (in_w 0 448 i84 rfl)))
              · skip
                have i84 := r_lt1 0 319 c84 j74_8 i83 rfl
                refine g_iload 89 (gd rfl) rfl rfl ?_
                refine g_if_eq 92 141 (gd rfl) rfl rfl (fun c89 => ?_) (fun c89 => ?_)
                · skip
                  have i89 := z_eq 0 0 c89 j74_7 rfl
                  exact gg_w (by omega) (gg_f (gf_cons rfl (gf_cons rfl (gf_cons rfl (gf_cons rfl (gf_cons rfl (gf_cons rfl (gf_cons rfl (gf_cons rfl (gf_cons rfl gf_nil))))))))) (ct141 sc74 y74_7 y74_8 hIc74 hFc74 (in_w 0 31 j74_6 rfl) (in_w 0 1 i89 rfl) (in_w 0 448 i84 rfl)))
                · skip
                  have i89 := z_ne 1 1 c89 j74_7 rfl
                  refine g_aload_n 93 (gd rfl) rfl rfl ?_
                  refine g_getA (q2 := 112) 96 (gd rfl) rfl rfl rfl rfl ?_
                  refine g_iload 98 (gd rfl) rfl rfl ?_
                  refine g_baload 99 (gd rfl) rfl (n := 480) rfl (in_ix i84 rfl) (fun z98 e98 => ?_)
                  have i98 := inv_I hIc74 (n := 480) (t := 3) 0 1 rfl (in_ix i84 rfl) rfl e98
                  refine g_if_eq 102 128 (gd rfl) rfl rfl (fun c99 => ?_) (fun c99 => ?_)
                  · skip
                    have i99 := z_eq 0 0 c99 i98 rfl
                    exact gg_w (by omega) (gg_f (gf_cons rfl (gf_cons rfl (gf_cons rfl (gf_cons rfl (gf_cons rfl (gf_cons rfl (gf_cons rfl (gf_cons rfl (gf_cons rfl gf_nil))))))))) (ct128 sc74  hIc74 hFc74 (in_w 1 1 i89 rfl) (in_w 0 400 i84 rfl) c89))
                  · skip
                    have i99 := z_ne 1 1 c99 i98 rfl
                    refine g_aload_n 103 (gd rfl) rfl rfl ?_
                    refine g_getA (q2 := 114) 106 (gd rfl) rfl rfl rfl rfl ?_
                    refine g_iload 108 (gd rfl) rfl rfl ?_
                    refine g_iaload 109 (gd rfl) rfl (n := 480) rfl (in_ix i84 rfl) (fun z108 e108 => ?_)
                    have i108 := inv_I hIc74 (n := 480) (t := 0) 0 31 rfl (in_ix i84 rfl) rfl e108
                    refine g_iload 111 (gd rfl) rfl rfl ?_
                    refine g_cmp_ne 114 128 (gd rfl) rfl rfl (fun c111 => ?_) (fun c111 => ?_)
                    · skip
                      exact gg_w (by omega) (gg_f (gf_cons rfl (gf_cons rfl (gf_cons rfl (gf_cons rfl (gf_cons rfl (gf_cons rfl (gf_cons rfl (gf_cons rfl (gf_cons rfl gf_nil))))))))) (ct128 sc74  hIc74 hFc74 (in_w 1 1 i89 rfl) (in_w 0 400 i84 rfl) c89))
                    · skip
                      refine g_iload_n 115 (gd rfl) rfl rfl ?_
                      refine g_aload_n 116 (gd rfl) rfl rfl ?_
                      refine g_getA (q2 := 113) 119 (gd rfl) rfl rfl rfl rfl ?_
                      refine g_iload 121 (gd rfl) rfl rfl ?_
                      refine g_iaload 122 (gd rfl) rfl (n := 480) rfl (in_ix i84 rfl) (fun z121 e121 => ?_)
                      have i121 := inv_I hIc74 (n := 480) (t := 0) 0 31 rfl (in_ix i84 rfl) rfl e121
                      refine g_calls (As := [.int y28_2, .int z121]) (r := []) 125 (gd rfl) rfl rfl rfl rfl rfl (Nat.le_of_ble_eq_true rfl) (mc := 0) (ms := 0) (Nat.zero_le _) (Nat.zero_le _) (P := fun v u => _) ?_ (fun v u h => h)
                      intro po122 xx122 hp122 hx122
                      refine g_enter2 (k := 311) (N := 300) (by omega) rfl (Nat.le_of_ble_eq_true rfl) ?_
                      refine g_iload_n 1 (gd rfl) rfl rfl ?_
                      refine g_iload_n 2 (gd rfl) rfl rfl ?_
                      refine g_ishr 3 (gd rfl) rfl (fun z122x2 e122x2 => ?_)
                      refine g_iconst 1 4 (gd rfl) rfl rfl ?_
                      refine g_iand 5 (gd rfl) rfl (fun z122x4 e122x4 => ?_)
                      have i122x4 := in_and2 e122x4 (in_c 1 rfl) rfl
                      refine g_iconst 1 6 (gd rfl) rfl rfl ?_
                      refine g_cmp_ne 9 13 (gd rfl) rfl rfl (fun c122x6 => ?_) (fun c122x6 => ?_)
                      · skip
                        have i122x6 := r_ne1 0 0 c122x6 i122x4 (in_c 1 rfl) rfl
                        refine g_iconst 0 14 (gd rfl) rfl rfl ?_
                        refine g_ireturn (gd rfl) rfl (nb01 (in_w 0 1 (in_c 0 rfl) rfl)) (hp122 _ _ ?_)
                        show GG _ _ _ _ _ _ _ _ [.int (Int32.ofInt 0)] _ _ _
                        refine g_if_eq 128 132 (gd rfl) rfl rfl (fun c125 => ?_) (fun c125 => ?_)
                        · skip
                          refine g_iconst 0 133 (gd rfl) rfl rfl ?_
                          refine g_istore 135 (gd rfl) rfl (Nat.le_of_ble_eq_true rfl) ?_
                          refine g_iinc 138 (gd rfl) rfl rfl (Nat.le_of_ble_eq_true rfl) (fun z135 e135 => ?_)
                          have i135 := in_add 1 320 e135 i84 (in_c 1 rfl) rfl rfl
                          refine g_goto 74 (gd rfl) rfl ?_
                          exact gg_w (by omega) (gg_f (gf_cons rfl (gf_cons rfl (gf_cons rfl (gf_cons rfl (gf_cons rfl (gf_cons rfl (gf_cons rfl (gf_cons rfl (gf_cons rfl gf_nil))))))))) (ih74 sc74 (Int32.ofInt 0) z135 hIc74 hFc74 (in_w 0 31 j74_6 rfl) (in_w 0 1 (in_c 0 rfl) rfl) (in_w 0 448 i135 rfl) (m_up mm74 (t_add e135 i84 (in_c 1 rfl) rfl) (in_w 1 1 (in_c 1 rfl) rfl))))
                        · skip
                          exact zn_ne c125 (in_c 0 rfl) rfl
                      · skip
                        have i122x6 := r_eq1 1 1 c122x6 i122x4 (in_c 1 rfl) rfl
                        refine g_iconst 1 10 (gd rfl) rfl rfl ?_
                        refine g_goto 14 (gd rfl) rfl ?_
                        refine g_ireturn (gd rfl) rfl (nb01 (in_w 0 1 (in_c 1 rfl) rfl)) (hp122 _ _ ?_)
                        show GG _ _ _ _ _ _ _ _ [.int (Int32.ofInt 1)] _ _ _
                        refine g_if_eq 128 132 (gd rfl) rfl rfl (fun c125 => ?_) (fun c125 => ?_)
                        · skip
                          exact zn_eq c125 (in_c 1 rfl) rfl
                        · skip
                          exact gg_w (by omega) (gg_f (gf_cons rfl (gf_cons rfl (gf_cons rfl (gf_cons rfl (gf_cons rfl (gf_cons rfl (gf_cons rfl (gf_cons rfl (gf_cons rfl gf_nil))))))))) (ct128 sc74  hIc74 hFc74 (in_w 1 1 i89 rfl) (in_w 0 400 i84 rfl) c89))
          refine g_iload 49 (gd rfl) rfl rfl ?_
          refine g_if_lt 52 159 (gd rfl) rfl rfl (fun c49 => ?_) (fun c49 => ?_)
          · skip
            have i49 := z_lt (-1) (-1) c49 j47_6 rfl
            refine g_iload_n 160 (gd rfl) rfl rfl ?_
            refine g_iconst (-1) 161 (gd rfl) rfl rfl ?_
            refine g_cmp_ne 164 166 (gd rfl) rfl rfl (fun c161 => ?_) (fun c161 => ?_)
            · skip
              have i161 := r_ne1 0 31 c161 j47_3 (in_c (-1) rfl) rfl
              refine g_iload_n 167 (gd rfl) rfl rfl ?_
              refine g_iconst 1 168 (gd rfl) rfl rfl ?_
              refine g_iload_n 169 (gd rfl) rfl rfl ?_
              refine g_ishl 170 (gd rfl) rfl (fun z169 e169 => ?_)
              refine g_ior 171 (gd rfl) rfl (fun z170 e170 => ?_)
              refine g_istore_n 172 (gd rfl) rfl (Nat.le_of_ble_eq_true rfl) ?_
              refine g_iload 174 (gd rfl) rfl rfl ?_
              refine g_iload_n 175 (gd rfl) rfl rfl ?_
              refine g_cmp_ne 178 182 (gd rfl) rfl rfl (fun c175 => ?_) (fun c175 => ?_)
              · skip
                refine g_iload 184 (gd rfl) rfl rfl ?_
                refine g_istore 186 (gd rfl) rfl (Nat.le_of_ble_eq_true rfl) ?_
                refine g_iinc 189 (gd rfl) rfl rfl (Nat.le_of_ble_eq_true rfl) (fun z186 e186 => ?_)
                have i186 := in_add 1 32 e186 j47_5 (in_c 1 rfl) rfl rfl
                refine g_goto 28 (gd rfl) rfl ?_
                exact gg_w (by omega) (gg_f (gf_cons rfl (gf_cons rfl (gf_cons rfl (gf_cons rfl (gf_cons rfl (gf_cons rfl gf_nil)))))) (ih28 sc47 z170 y47_3 y28_4 z186 hIc47 hFc47 (in_w 0 2147483647 j28_1 rfl) (in_w (-1) 31 i161 rfl) (in_w (-1) 31 j28_4 rfl) (in_w 0 32 i186 rfl) (m_up mm28 (t_add e186 j47_5 (in_c 1 rfl) rfl) (in_w 1 1 (in_c 1 rfl) rfl))))
              · skip
                have i175 := r_eq2 0 31 c175 j47_5 j28_1 rfl
                refine g_iload_n 179 (gd rfl) rfl rfl ?_
                refine g_goto 184 (gd rfl) rfl ?_
                refine g_istore 186 (gd rfl) rfl (Nat.le_of_ble_eq_true rfl) ?_
                refine g_iinc 189 (gd rfl) rfl rfl (Nat.le_of_ble_eq_true rfl) (fun z186 e186 => ?_)
                have i186 := in_add 1 32 e186 j47_5 (in_c 1 rfl) rfl rfl
                refine g_goto 28 (gd rfl) rfl ?_
                exact gg_w (by omega) (gg_f (gf_cons rfl (gf_cons rfl (gf_cons rfl (gf_cons rfl (gf_cons rfl (gf_cons rfl gf_nil)))))) (ih28 sc47 z170 y47_3 y47_3 z186 hIc47 hFc47 (in_w 0 2147483647 i175 rfl) (in_w (-1) 31 i161 rfl) (in_w (-1) 31 i161 rfl) (in_w 0 32 i186 rfl) (m_up mm28 (t_add e186 j47_5 (in_c 1 rfl) rfl) (in_w 1 1 (in_c 1 rfl) rfl))))
            · skip
              have i161 := r_eq1 (-1) (-1) c161 j47_3 (in_c (-1) rfl) rfl
              refine g_iconst (-1) 165 (gd rfl) rfl rfl ?_
              exact g_ireturn (gd rfl) rfl rfl (hP _ _ ⟨sc47, hIc47, hFc47, (Int32.ofInt (-1)), rfl, rfl, in_w (-1) 31 (in_c (-1) rfl) rfl⟩)
          · skip
            have i49 := z_ge 0 31 c49 j47_6 rfl
            refine g_iload_n 53 (gd rfl) rfl rfl ?_
            refine g_iload 55 (gd rfl) rfl rfl ?_
            refine g_calls (As := [.int y28_2, .int y47_6]) (r := []) 58 (gd rfl) rfl rfl rfl rfl rfl (Nat.le_of_ble_eq_true rfl) (mc := 0) (ms := 0) (Nat.zero_le _) (Nat.zero_le _) (P := fun v u => _) ?_ (fun v u h => h)
            intro po55 xx55 hp55 hx55
            refine g_enter2 (k := 311) (N := 300) (by omega) rfl (Nat.le_of_ble_eq_true rfl) ?_
            refine g_iload_n 1 (gd rfl) rfl rfl ?_
            refine g_iload_n 2 (gd rfl) rfl rfl ?_
            refine g_ishr 3 (gd rfl) rfl (fun z55x2 e55x2 => ?_)
            refine g_iconst 1 4 (gd rfl) rfl rfl ?_
            refine g_iand 5 (gd rfl) rfl (fun z55x4 e55x4 => ?_)
            have i55x4 := in_and2 e55x4 (in_c 1 rfl) rfl
            refine g_iconst 1 6 (gd rfl) rfl rfl ?_
            refine g_cmp_ne 9 13 (gd rfl) rfl rfl (fun c55x6 => ?_) (fun c55x6 => ?_)
            · skip
              have i55x6 := r_ne1 0 0 c55x6 i55x4 (in_c 1 rfl) rfl
              refine g_iconst 0 14 (gd rfl) rfl rfl ?_
              refine g_ireturn (gd rfl) rfl (nb01 (in_w 0 1 (in_c 0 rfl) rfl)) (hp55 _ _ ?_)
              show GG _ _ _ _ _ _ _ _ [.int (Int32.ofInt 0)] _ _ _
              refine g_if_ne 61 65 (gd rfl) rfl rfl (fun c58 => ?_) (fun c58 => ?_)
              · skip
                exact zn_ne c58 (in_c 0 rfl) rfl
              · skip
                refine g_iconst 1 62 (gd rfl) rfl rfl ?_
                refine g_goto 66 (gd rfl) rfl ?_
                refine g_istore 68 (gd rfl) rfl (Nat.le_of_ble_eq_true rfl) ?_
                refine g_aload_n 69 (gd rfl) rfl rfl ?_
                refine g_getI 72 (gd rfl) rfl rfl rfl (fun z69 e69 => ?_)
                have q69 : u_109_19 = z69 := (fr_F e_109_19 hFc47 rfl).trans e69.symm
                subst q69
                refine g_istore 74 (gd rfl) rfl (Nat.le_of_ble_eq_true rfl) ?_
                exact gg_w (by omega) (gg_f (gf_cons rfl (gf_cons rfl (gf_cons rfl (gf_cons rfl (gf_cons rfl (gf_cons rfl (gf_cons rfl (gf_cons rfl (gf_cons rfl gf_nil))))))))) (ct74 449 sc47 (Int32.ofInt 1) u_109_19 hIc47 hFc47 (in_w 0 31 i49 rfl) (in_w 0 1 (in_c 1 rfl) rfl) (in_w 0 448 ro_109_19 rfl) (m_in 449 (in_w 0 448 ro_109_19 rfl) rfl)))
            · skip
              have i55x6 := r_eq1 1 1 c55x6 i55x4 (in_c 1 rfl) rfl
              refine g_iconst 1 10 (gd rfl) rfl rfl ?_
              refine g_goto 14 (gd rfl) rfl ?_
              refine g_ireturn (gd rfl) rfl (nb01 (in_w 0 1 (in_c 1 rfl) rfl)) (hp55 _ _ ?_)
              show GG _ _ _ _ _ _ _ _ [.int (Int32.ofInt 1)] _ _ _
              refine g_if_ne 61 65 (gd rfl) rfl rfl (fun c58 => ?_) (fun c58 => ?_)
              · skip
                refine g_iconst 0 66 (gd rfl) rfl rfl ?_
                refine g_istore 68 (gd rfl) rfl (Nat.le_of_ble_eq_true rfl) ?_
                refine g_aload_n 69 (gd rfl) rfl rfl ?_
                refine g_getI 72 (gd rfl) rfl rfl rfl (fun z69 e69 => ?_)
                have q69 : u_109_19 = z69 := (fr_F e_109_19 hFc47 rfl).trans e69.symm
                subst q69
                refine g_istore 74 (gd rfl) rfl (Nat.le_of_ble_eq_true rfl) ?_
                exact gg_w (by omega) (gg_f (gf_cons rfl (gf_cons rfl (gf_cons rfl (gf_cons rfl (gf_cons rfl (gf_cons rfl (gf_cons rfl (gf_cons rfl (gf_cons rfl gf_nil))))))))) (ct74 449 sc47 (Int32.ofInt 0) u_109_19 hIc47 hFc47 (in_w 0 31 i49 rfl) (in_w 0 1 (in_c 0 rfl) rfl) (in_w 0 448 ro_109_19 rfl) (m_in 449 (in_w 0 448 ro_109_19 rfl) rfl)))
              · skip
                exact zn_eq c58 (in_c 1 rfl) rfl
      refine g_iload 30 (gd rfl) rfl rfl ?_
      refine g_aload_n 31 (gd rfl) rfl rfl ?_
      refine g_getI 34 (gd rfl) rfl rfl rfl (fun z31 e31 => ?_)
      have q31 : u_109_20 = z31 := (fr_F e_109_20 hFc28 rfl).trans e31.symm
      subst q31
      refine g_cmp_ge 37 192 (gd rfl) rfl rfl (fun c34 => ?_) (fun c34 => ?_)
      · skip
        refine g_iload 194 (gd rfl) rfl rfl ?_
        exact g_ireturn (gd rfl) rfl rfl (hP _ _ ⟨sc28, hIc28, hFc28, y28_4, rfl, rfl, in_w (-1) 31 j28_4 rfl⟩)
      · skip
        have i34 := r_lt1 0 31 c34 j28_5 ro_109_20 rfl
        have i34a := r_lt2 1 32 c34 j28_5 ro_109_20 rfl
        refine g_iconst (-1) 38 (gd rfl) rfl rfl ?_
        refine g_istore_n 39 (gd rfl) rfl (Nat.le_of_ble_eq_true rfl) ?_
        refine g_aload_n 40 (gd rfl) rfl rfl ?_
        refine g_getI 43 (gd rfl) rfl rfl rfl (fun z40 e40 => ?_)
        have q40 : u_109_20 = z40 := (fr_F e_109_20 hFc28 rfl).trans e40.symm
        subst q40
        refine g_iconst 1 44 (gd rfl) rfl rfl ?_
        refine g_isub 45 (gd rfl) rfl (fun z44 e44 => ?_)
        have i44 := in_sub 0 31 e44 i34a (in_c 1 rfl) rfl rfl
        refine g_istore 47 (gd rfl) rfl (Nat.le_of_ble_eq_true rfl) ?_
        exact gg_w (by omega) (gg_f (gf_cons rfl (gf_cons rfl (gf_cons rfl (gf_cons rfl (gf_cons rfl (gf_cons rfl (gf_cons rfl gf_nil))))))) (ct47 33 sc28 (Int32.ofInt (-1)) z44 hIc28 hFc28 (in_w (-1) 31 (in_c (-1) rfl) rfl) (in_w 0 31 i34 rfl) (in_w (-1) 31 i44 rfl) (m_ind 33 (in_w (-1) 31 i44 rfl) rfl)))
  refine g_enter2 (k := 332) (N := 912416878) (by omega) rfl (Nat.le_of_ble_eq_true rfl) ?_
  refine g_aload_n 1 (gd rfl) rfl rfl ?_
  refine g_iload_n 2 (gd rfl) rfl rfl ?_
  refine g_if_lt 5 9 (gd rfl) rfl rfl (fun c2 => ?_) (fun c2 => ?_)
  · skip
    have i2 := z_lt (-2147483648) (-1) c2 (i_rng x1) rfl
    refine g_iconst 0 10 (gd rfl) rfl rfl ?_
    refine g_callv (X := _) (As := [.int (Int32.ofInt 0)]) (r := []) (b := A 109) (q := 109) 13 (gd rfl) rfl rfl rfl rfl rfl (ww_o rfl) (Nat.le_of_ble_eq_true rfl) (mc := 0) (ms := 0) (Nat.zero_le _) (Nat.zero_le _) (P := fun v u => _) ?_ (fun e u h => h) (fun v u h => h)
    intro po10 xx10 hp10 hx10
    refine g_enter2 (k := 271) (N := 300) (by omega) rfl (Nat.le_of_ble_eq_true rfl) ?_
    refine g_aload_n 1 (gd rfl) rfl rfl ?_
    refine g_iload_n 2 (gd rfl) rfl rfl ?_
    refine g_iconst 1 3 (gd rfl) rfl rfl ?_
    refine g_callv (X := _) (As := [.int (Int32.ofInt 0), .int (Int32.ofInt 1)]) (r := []) (b := A 109) (q := 109) 6 (gd rfl) rfl rfl rfl rfl rfl (ww_o rfl) (Nat.le_of_ble_eq_true rfl) (mc := 0) (ms := 0) (Nat.zero_le _) (Nat.zero_le _) (P := fun v u => _) ?_ (fun e u h => h) (fun v u h => h)
    intro po10x3 xx10x3 hp10x3 hx10x3
    refine g_enter2 (k := 270) (N := 300) (by omega) rfl (Nat.le_of_ble_eq_true rfl) ?_
    refine g_aload_n 1 (gd rfl) rfl rfl ?_
    refine g_iload_n 2 (gd rfl) rfl rfl ?_
    refine g_if_ne 5 9 (gd rfl) rfl rfl (fun c10x3x2 => ?_) (fun c10x3x2 => ?_)
    · skip
      exact zn_ne c10x3x2 (in_c 0 rfl) rfl
    · skip
      refine g_iconst 1 6 (gd rfl) rfl rfl ?_
      refine g_goto 18 (gd rfl) rfl ?_
      refine g_putI 21 (gd rfl) rfl rfl rfl rfl ?_
      have hI10x3x18 := inv_sF (q := 109) (j := 0) hI rfl (in_w 0 2 (in_c 1 rfl) rfl)
      refine g_aload_n 22 (gd rfl) rfl rfl ?_
      refine g_getI 25 (gd rfl) rfl rfl rfl (fun z10x3x22 e10x3x22 => ?_)
      have q10x3x22 : (Int32.ofInt 1) = z10x3x22 := (sF_get).trans e10x3x22.symm
      subst q10x3x22
      refine g_if_le 28 32 (gd rfl) rfl rfl (fun c10x3x25 => ?_) (fun c10x3x25 => ?_)
      · skip
        exact zn_le c10x3x25 (in_c 1 rfl) rfl
      · skip
        refine g_iconst 1 29 (gd rfl) rfl rfl ?_
        refine g_goto 33 (gd rfl) rfl ?_
        refine g_ireturn (gd rfl) rfl (nb01 (in_w 0 1 (in_c 1 rfl) rfl)) (hp10x3 _ _ ?_)
        show GG _ _ _ _ _ _ _ _ [.int (Int32.ofInt 1)] _ _ _
        refine g_ireturn (gd rfl) rfl (nb01 (in_w 0 1 (in_c 1 rfl) rfl)) (hp10 _ _ ?_)
        show GG _ _ _ _ _ _ _ _ [.int (Int32.ofInt 1)] _ _ _
        refine g_if_eq 16 18 (gd rfl) rfl rfl (fun c13 => ?_) (fun c13 => ?_)
        · skip
          exact zn_eq c13 (in_c 1 rfl) rfl
        · skip
          refine g_iconst 0 17 (gd rfl) rfl rfl ?_
          exact g_ireturn (gd rfl) rfl rfl (hP _ _ ⟨(sF s 109 0 (Int32.ofInt 1)), hI10x3x18, (fr_sF rfl fr_rf), (Int32.ofInt 0), rfl, rfl, in_w (-1) 31 (in_c 0 rfl) rfl⟩)
  · skip
    have i2 := z_ge 0 2147483647 c2 (i_rng x1) rfl
    refine g_iconst 1 6 (gd rfl) rfl rfl ?_
    refine g_goto 10 (gd rfl) rfl ?_
    refine g_callv (X := _) (As := [.int (Int32.ofInt 1)]) (r := []) (b := A 109) (q := 109) 13 (gd rfl) rfl rfl rfl rfl rfl (ww_o rfl) (Nat.le_of_ble_eq_true rfl) (mc := 0) (ms := 0) (Nat.zero_le _) (Nat.zero_le _) (P := fun v u => _) ?_ (fun e u h => h) (fun v u h => h)
    intro po10 xx10 hp10 hx10
    refine g_enter2 (k := 271) (N := 300) (by omega) rfl (Nat.le_of_ble_eq_true rfl) ?_
    refine g_aload_n 1 (gd rfl) rfl rfl ?_
    refine g_iload_n 2 (gd rfl) rfl rfl ?_
    refine g_iconst 1 3 (gd rfl) rfl rfl ?_
    refine g_callv (X := _) (As := [.int (Int32.ofInt 1), .int (Int32.ofInt 1)]) (r := []) (b := A 109) (q := 109) 6 (gd rfl) rfl rfl rfl rfl rfl (ww_o rfl) (Nat.le_of_ble_eq_true rfl) (mc := 0) (ms := 0) (Nat.zero_le _) (Nat.zero_le _) (P := fun v u => _) ?_ (fun e u h => h) (fun v u h => h)
    intro po10x3 xx10x3 hp10x3 hx10x3
    refine g_enter2 (k := 270) (N := 300) (by omega) rfl (Nat.le_of_ble_eq_true rfl) ?_
    refine g_aload_n 1 (gd rfl) rfl rfl ?_
    refine g_iload_n 2 (gd rfl) rfl rfl ?_
    refine g_if_ne 5 9 (gd rfl) rfl rfl (fun c10x3x2 => ?_) (fun c10x3x2 => ?_)
    · skip
      refine g_iload_n 10 (gd rfl) rfl rfl ?_
      refine g_if_ne 13 17 (gd rfl) rfl rfl (fun c10x3x10 => ?_) (fun c10x3x10 => ?_)
      · skip
        refine g_iconst 0 18 (gd rfl) rfl rfl ?_
        refine g_putI 21 (gd rfl) rfl rfl rfl rfl ?_
        have hI10x3x18 := inv_sF (q := 109) (j := 0) hI rfl (in_w 0 2 (in_c 0 rfl) rfl)
        refine g_aload_n 22 (gd rfl) rfl rfl ?_
        refine g_getI 25 (gd rfl) rfl rfl rfl (fun z10x3x22 e10x3x22 => ?_)
        have q10x3x22 : (Int32.ofInt 0) = z10x3x22 := (sF_get).trans e10x3x22.symm
        subst q10x3x22
        refine g_if_le 28 32 (gd rfl) rfl rfl (fun c10x3x25 => ?_) (fun c10x3x25 => ?_)
        · skip
          refine g_iconst 0 33 (gd rfl) rfl rfl ?_
          refine g_ireturn (gd rfl) rfl (nb01 (in_w 0 1 (in_c 0 rfl) rfl)) (hp10x3 _ _ ?_)
          show GG _ _ _ _ _ _ _ _ [.int (Int32.ofInt 0)] _ _ _
          refine g_ireturn (gd rfl) rfl (nb01 (in_w 0 1 (in_c 0 rfl) rfl)) (hp10 _ _ ?_)
          show GG _ _ _ _ _ _ _ _ [.int (Int32.ofInt 0)] _ _ _
          refine g_if_eq 16 18 (gd rfl) rfl rfl (fun c13 => ?_) (fun c13 => ?_)
          · skip
            refine g_iconst 0 19 (gd rfl) rfl rfl ?_
            refine g_istore_n 20 (gd rfl) rfl (Nat.le_of_ble_eq_true rfl) ?_
            refine g_iconst (-1) 21 (gd rfl) rfl rfl ?_
            refine g_istore_n 22 (gd rfl) rfl (Nat.le_of_ble_eq_true rfl) ?_
            refine g_iconst (-1) 23 (gd rfl) rfl rfl ?_
            refine g_istore 25 (gd rfl) rfl (Nat.le_of_ble_eq_true rfl) ?_
            refine g_iconst 0 26 (gd rfl) rfl rfl ?_
            refine g_istore 28 (gd rfl) rfl (Nat.le_of_ble_eq_true rfl) ?_
            exact gg_w (by omega) (gg_f (gf_cons rfl (gf_cons rfl (gf_cons rfl (gf_cons rfl (gf_cons rfl (gf_cons rfl gf_nil)))))) (ct28 33 (sF s 109 0 (Int32.ofInt 0)) (Int32.ofInt 0) (Int32.ofInt (-1)) (Int32.ofInt (-1)) (Int32.ofInt 0) hI10x3x18 (fr_sF rfl fr_rf) (in_w 0 2147483647 i2 rfl) (in_w (-1) 31 (in_c (-1) rfl) rfl) (in_w (-1) 31 (in_c (-1) rfl) rfl) (in_w 0 32 (in_c 0 rfl) rfl) (m_in 33 (in_w 0 32 (in_c 0 rfl) rfl) rfl)))
          · skip
            exact zn_ne c13 (in_c 0 rfl) rfl
        · skip
          exact zn_gt c10x3x25 (in_c 0 rfl) rfl
      · skip
        exact zn_eq c10x3x10 (in_c 1 rfl) rfl
    · skip
      exact zn_eq c10x3x2 (in_c 1 rfl) rfl

/-- GraphHouseModel.jointsWith -/
theorem k_333 {Z : AmZ} {A : Nat → Nat} {s : GS} {ex : va_W} {d : Nat} {X : AmX} {x1 : Int32} {x2 : Int32} (hd : 3 ≤ d) (hI : Inv s) (h1 : In x1 0 31) : GC Z d 333 [.ref (A 109), .int x1, .int x2] (WW Z A s ++ ex) 0 0 (fun v u => ∃ z : Int32, v = some (.int z) ∧ u = WW Z A s ++ ex ∧ In z 0 160) X := by
  intro post xp hP hX
  obtain ⟨u_109_19, e_109_19⟩ : ∃ w, w = s.2.2.1 109 19 := ⟨_, rfl⟩
  have ro_109_19 := inv_F hI 0 160 rfl e_109_19
  have ct5 : ∀ (k5 : Nat) (y5_3 : Int32) (y5_4 : Int32), (In y5_3 0 160) → (In y5_4 0 160) → ((y5_3).toInt ≤ (y5_4).toInt + 0) → 160 - (y5_4).toInt < (k5 : Int) → GG Z (d - 1) 333 post (gx xp) (1 + k5 * 900) 5 (fun j => xlook j [(0, .ref (A 109)), (1, .int x1), (2, .int x2), (3, .int y5_3), (4, .int y5_4)]) [] (WW Z A s ++ ex) 0 0 := by
    intro k5
    induction k5 with
    | zero => intro y5_3 y5_4 j5_3 j5_4 l5_3 mm5; exact m_no mm5 j5_4 rfl
    | succ k5 ih5 =>
      intro y5_3 y5_4 j5_3 j5_4 l5_3 mm5
      refine gg_w (M := 1 + k5 * 900 + 900) (by omega) ?_
      refine g_iload 7 (gd rfl) rfl rfl ?_
      refine g_sipush 160 10 (gd rfl) rfl rfl ?_
      refine g_cmp_ge 13 94 (gd rfl) rfl rfl (fun c10 => ?_) (fun c10 => ?_)
      · skip
        have i10 := r_le2 160 160 c10 (in_c 160 rfl) j5_4 rfl
        refine g_iload_n 95 (gd rfl) rfl rfl ?_
        exact g_ireturn (gd rfl) rfl rfl (hP _ _ ⟨y5_3, rfl, rfl, in_w 0 160 j5_3 rfl⟩)
      · skip
        have i10 := r_lt1 0 159 c10 j5_4 (in_c 160 rfl) rfl
        refine g_aload_n 14 (gd rfl) rfl rfl ?_
        refine g_iload 16 (gd rfl) rfl rfl ?_
        refine g_callv (X := _) (As := [.int y5_4]) (r := []) (b := A 109) (q := 109) 19 (gd rfl) rfl rfl rfl rfl rfl (ww_o rfl) (Nat.le_of_ble_eq_true rfl) (mc := 0) (ms := 0) (Nat.zero_le _) (Nat.zero_le _) (P := fun v u => _) ?_ (fun e u h => h) (fun v u h => h)
        intro po16 xx16 hp16 hx16
        refine g_enter2 (k := 288) (N := 300) (by omega) rfl (Nat.le_of_ble_eq_true rfl) ?_
        refine g_aload_n 1 (gd rfl) rfl rfl ?_
        refine g_getA (q2 := 112) 4 (gd rfl) rfl rfl rfl rfl ?_
        refine g_aload_n 5 (gd rfl) rfl rfl ?_
        refine g_getI 8 (gd rfl) rfl rfl rfl (fun z16x5 e16x5 => ?_)
        have q16x5 : u_109_19 = z16x5 := (e_109_19).trans e16x5.symm
        subst q16x5
        refine g_iload_n 9 (gd rfl) rfl rfl ?_
        refine g_iadd 10 (gd rfl) rfl (fun z16x9 e16x9 => ?_)
        have i16x9 := in_add 0 319 e16x9 ro_109_19 i10 rfl rfl
        refine g_baload 11 (gd rfl) rfl (n := 480) rfl (in_ix i16x9 rfl) (fun z16x10 e16x10 => ?_)
        have i16x10 := inv_I hI (n := 480) (t := 3) 0 1 rfl (in_ix i16x9 rfl) rfl e16x10
        refine g_if_eq 14 43 (gd rfl) rfl rfl (fun c16x11 => ?_) (fun c16x11 => ?_)
        · skip
          have i16x11 := z_eq 0 0 c16x11 i16x10 rfl
          refine g_iconst 0 44 (gd rfl) rfl rfl ?_
          refine g_ireturn (gd rfl) rfl (nb01 (in_w 0 1 (in_c 0 rfl) rfl)) (hp16 _ _ ?_)
          show GG _ _ _ _ _ _ _ _ [.int (Int32.ofInt 0)] _ _ _
          refine g_if_eq 22 88 (gd rfl) rfl rfl (fun c19 => ?_) (fun c19 => ?_)
          · skip
            refine g_iinc 91 (gd rfl) rfl rfl (Nat.le_of_ble_eq_true rfl) (fun z88 e88 => ?_)
            have i88 := in_add 1 160 e88 i10 (in_c 1 rfl) rfl rfl
            refine g_goto 5 (gd rfl) rfl ?_
            have l5 := rl_0 l5_3 (t_add e88 i10 (in_c 1 rfl) rfl) (in_w 0 1 (in_c 1 rfl) rfl)
            exact gg_w (by omega) (gg_f (gf_cons rfl (gf_cons rfl (gf_cons rfl (gf_cons rfl (gf_cons rfl gf_nil))))) (ih5  y5_3 z88  (rl_w 0 160 l5 j5_3 (in_w 0 160 i88 rfl) rfl) (in_w 0 160 i88 rfl) l5 (m_up mm5 (t_add e88 i10 (in_c 1 rfl) rfl) (in_w 1 1 (in_c 1 rfl) rfl))))
          · skip
            exact zn_ne c19 (in_c 0 rfl) rfl
        · skip
          have i16x11 := z_ne 1 1 c16x11 i16x10 rfl
          refine g_aload_n 15 (gd rfl) rfl rfl ?_
          refine g_getA (q2 := 113) 18 (gd rfl) rfl rfl rfl rfl ?_
          refine g_aload_n 19 (gd rfl) rfl rfl ?_
          refine g_getI 22 (gd rfl) rfl rfl rfl (fun z16x19 e16x19 => ?_)
          have q16x19 : u_109_19 = z16x19 := (e_109_19).trans e16x19.symm
          subst q16x19
          refine g_iload_n 23 (gd rfl) rfl rfl ?_
          refine g_iadd 24 (gd rfl) rfl (fun z16x23 e16x23 => ?_)
          have i16x23 := in_add 0 319 e16x23 ro_109_19 i10 rfl rfl
          refine g_iaload 25 (gd rfl) rfl (n := 480) rfl (in_ix i16x23 rfl) (fun z16x24 e16x24 => ?_)
          have i16x24 := inv_I hI (n := 480) (t := 0) 0 31 rfl (in_ix i16x23 rfl) rfl e16x24
          refine g_aload_n 26 (gd rfl) rfl rfl ?_
          refine g_getA (q2 := 114) 29 (gd rfl) rfl rfl rfl rfl ?_
          refine g_aload_n 30 (gd rfl) rfl rfl ?_
          refine g_getI 33 (gd rfl) rfl rfl rfl (fun z16x30 e16x30 => ?_)
          have q16x30 : u_109_19 = z16x30 := (e_109_19).trans e16x30.symm
          subst q16x30
          refine g_iload_n 34 (gd rfl) rfl rfl ?_
          refine g_iadd 35 (gd rfl) rfl (fun z16x34 e16x34 => ?_)
          have i16x34 := in_add 0 319 e16x34 ro_109_19 i10 rfl rfl
          refine g_iaload 36 (gd rfl) rfl (n := 480) rfl (in_ix i16x34 rfl) (fun z16x35 e16x35 => ?_)
          have i16x35 := inv_I hI (n := 480) (t := 0) 0 31 rfl (in_ix i16x34 rfl) rfl e16x35
          refine g_cmp_eq 39 43 (gd rfl) rfl rfl (fun c16x36 => ?_) (fun c16x36 => ?_)
          · skip
            refine g_iconst 0 44 (gd rfl) rfl rfl ?_
            refine g_ireturn (gd rfl) rfl (nb01 (in_w 0 1 (in_c 0 rfl) rfl)) (hp16 _ _ ?_)
            show GG _ _ _ _ _ _ _ _ [.int (Int32.ofInt 0)] _ _ _
            refine g_if_eq 22 88 (gd rfl) rfl rfl (fun c19 => ?_) (fun c19 => ?_)
            · skip
              refine g_iinc 91 (gd rfl) rfl rfl (Nat.le_of_ble_eq_true rfl) (fun z88 e88 => ?_)
              have i88 := in_add 1 160 e88 i10 (in_c 1 rfl) rfl rfl
              refine g_goto 5 (gd rfl) rfl ?_
              have l5 := rl_0 l5_3 (t_add e88 i10 (in_c 1 rfl) rfl) (in_w 0 1 (in_c 1 rfl) rfl)
              exact gg_w (by omega) (gg_f (gf_cons rfl (gf_cons rfl (gf_cons rfl (gf_cons rfl (gf_cons rfl gf_nil))))) (ih5  y5_3 z88  (rl_w 0 160 l5 j5_3 (in_w 0 160 i88 rfl) rfl) (in_w 0 160 i88 rfl) l5 (m_up mm5 (t_add e88 i10 (in_c 1 rfl) rfl) (in_w 1 1 (in_c 1 rfl) rfl))))
            · skip
              exact zn_ne c19 (in_c 0 rfl) rfl
          · skip
            refine g_iconst 1 40 (gd rfl) rfl rfl ?_
            refine g_goto 44 (gd rfl) rfl ?_
            refine g_ireturn (gd rfl) rfl (nb01 (in_w 0 1 (in_c 1 rfl) rfl)) (hp16 _ _ ?_)
            show GG _ _ _ _ _ _ _ _ [.int (Int32.ofInt 1)] _ _ _
            refine g_if_eq 22 88 (gd rfl) rfl rfl (fun c19 => ?_) (fun c19 => ?_)
            · skip
              exact zn_eq c19 (in_c 1 rfl) rfl
            · skip
              refine g_aload_n 23 (gd rfl) rfl rfl ?_
              refine g_getA (q2 := 113) 26 (gd rfl) rfl rfl rfl rfl ?_
              refine g_aload_n 27 (gd rfl) rfl rfl ?_
              refine g_getI 30 (gd rfl) rfl rfl rfl (fun z27 e27 => ?_)
              have q27 : u_109_19 = z27 := (e_109_19).trans e27.symm
              subst q27
              refine g_iload 32 (gd rfl) rfl rfl ?_
              refine g_iadd 33 (gd rfl) rfl (fun z32 e32 => ?_)
              have i32 := in_add 0 319 e32 ro_109_19 i10 rfl rfl
              refine g_iaload 34 (gd rfl) rfl (n := 480) rfl (in_ix i32 rfl) (fun z33 e33 => ?_)
              have i33 := inv_I hI (n := 480) (t := 0) 0 31 rfl (in_ix i32 rfl) rfl e33
              refine g_istore 36 (gd rfl) rfl (Nat.le_of_ble_eq_true rfl) ?_
              refine g_aload_n 37 (gd rfl) rfl rfl ?_
              refine g_getA (q2 := 114) 40 (gd rfl) rfl rfl rfl rfl ?_
              refine g_aload_n 41 (gd rfl) rfl rfl ?_
              refine g_getI 44 (gd rfl) rfl rfl rfl (fun z41 e41 => ?_)
              have q41 : u_109_19 = z41 := (e_109_19).trans e41.symm
              subst q41
              refine g_iload 46 (gd rfl) rfl rfl ?_
              refine g_iadd 47 (gd rfl) rfl (fun z46 e46 => ?_)
              have i46 := in_add 0 319 e46 ro_109_19 i10 rfl rfl
              refine g_iaload 48 (gd rfl) rfl (n := 480) rfl (in_ix i46 rfl) (fun z47 e47 => ?_)
              have i47 := inv_I hI (n := 480) (t := 0) 0 31 rfl (in_ix i46 rfl) rfl e47
              refine g_istore 50 (gd rfl) rfl (Nat.le_of_ble_eq_true rfl) ?_
              refine g_iload_n 51 (gd rfl) rfl rfl ?_
              refine g_iload 53 (gd rfl) rfl rfl ?_
              refine g_iload_n 54 (gd rfl) rfl rfl ?_
              refine g_cmp_ne 57 66 (gd rfl) rfl rfl (fun c54 => ?_) (fun c54 => ?_)
              · skip
                refine g_iload 68 (gd rfl) rfl rfl ?_
                refine g_iload_n 69 (gd rfl) rfl rfl ?_
                refine g_cmp_ne 72 85 (gd rfl) rfl rfl (fun c69 => ?_) (fun c69 => ?_)
                · skip
                  refine g_iconst 0 86 (gd rfl) rfl rfl ?_
                  refine g_iadd 87 (gd rfl) rfl (fun z86 e86 => ?_)
                  have i86 := in_add 0 160 e86 j5_3 (in_c 0 rfl) rfl rfl
                  refine g_istore_n 88 (gd rfl) rfl (Nat.le_of_ble_eq_true rfl) ?_
                  refine g_iinc 91 (gd rfl) rfl rfl (Nat.le_of_ble_eq_true rfl) (fun z88 e88 => ?_)
                  have i88 := in_add 1 160 e88 i10 (in_c 1 rfl) rfl rfl
                  refine g_goto 5 (gd rfl) rfl ?_
                  have l5 := rl_1 l5_3 (t_add e86 j5_3 (in_c 0 rfl) rfl) (in_c 0 rfl) (t_add e88 i10 (in_c 1 rfl) rfl) (in_c 1 rfl) rfl
                  exact gg_w (by omega) (gg_f (gf_cons rfl (gf_cons rfl (gf_cons rfl (gf_cons rfl (gf_cons rfl gf_nil))))) (ih5  z86 z88  (rl_w 0 160 l5 i86 (in_w 0 160 i88 rfl) rfl) (in_w 0 160 i88 rfl) l5 (m_up mm5 (t_add e88 i10 (in_c 1 rfl) rfl) (in_w 1 1 (in_c 1 rfl) rfl))))
                · skip
                  refine g_iload_n 73 (gd rfl) rfl rfl ?_
                  refine g_iload 75 (gd rfl) rfl rfl ?_
                  refine g_calls (As := [.int x2, .int z33]) (r := [.int y5_3]) 78 (gd rfl) rfl rfl rfl rfl rfl (Nat.le_of_ble_eq_true rfl) (mc := 0) (ms := 0) (Nat.zero_le _) (Nat.zero_le _) (P := fun v u => _) ?_ (fun v u h => h)
                  intro po75 xx75 hp75 hx75
                  refine g_enter2 (k := 311) (N := 300) (by omega) rfl (Nat.le_of_ble_eq_true rfl) ?_
                  refine g_iload_n 1 (gd rfl) rfl rfl ?_
                  refine g_iload_n 2 (gd rfl) rfl rfl ?_
                  refine g_ishr 3 (gd rfl) rfl (fun z75x2 e75x2 => ?_)
                  refine g_iconst 1 4 (gd rfl) rfl rfl ?_
                  refine g_iand 5 (gd rfl) rfl (fun z75x4 e75x4 => ?_)
                  have i75x4 := in_and2 e75x4 (in_c 1 rfl) rfl
                  refine g_iconst 1 6 (gd rfl) rfl rfl ?_
                  refine g_cmp_ne 9 13 (gd rfl) rfl rfl (fun c75x6 => ?_) (fun c75x6 => ?_)
                  · skip
                    have i75x6 := r_ne1 0 0 c75x6 i75x4 (in_c 1 rfl) rfl
                    refine g_iconst 0 14 (gd rfl) rfl rfl ?_
                    refine g_ireturn (gd rfl) rfl (nb01 (in_w 0 1 (in_c 0 rfl) rfl)) (hp75 _ _ ?_)
                    show GG _ _ _ _ _ _ _ _ [.int (Int32.ofInt 0), .int y5_3] _ _ _
                    refine g_if_eq 81 85 (gd rfl) rfl rfl (fun c78 => ?_) (fun c78 => ?_)
                    · skip
                      refine g_iconst 0 86 (gd rfl) rfl rfl ?_
                      refine g_iadd 87 (gd rfl) rfl (fun z86 e86 => ?_)
                      have i86 := in_add 0 160 e86 j5_3 (in_c 0 rfl) rfl rfl
                      refine g_istore_n 88 (gd rfl) rfl (Nat.le_of_ble_eq_true rfl) ?_
                      refine g_iinc 91 (gd rfl) rfl rfl (Nat.le_of_ble_eq_true rfl) (fun z88 e88 => ?_)
                      have i88 := in_add 1 160 e88 i10 (in_c 1 rfl) rfl rfl
                      refine g_goto 5 (gd rfl) rfl ?_
                      have l5 := rl_1 l5_3 (t_add e86 j5_3 (in_c 0 rfl) rfl) (in_c 0 rfl) (t_add e88 i10 (in_c 1 rfl) rfl) (in_c 1 rfl) rfl
                      exact gg_w (by omega) (gg_f (gf_cons rfl (gf_cons rfl (gf_cons rfl (gf_cons rfl (gf_cons rfl gf_nil))))) (ih5  z86 z88  (rl_w 0 160 l5 i86 (in_w 0 160 i88 rfl) rfl) (in_w 0 160 i88 rfl) l5 (m_up mm5 (t_add e88 i10 (in_c 1 rfl) rfl) (in_w 1 1 (in_c 1 rfl) rfl))))
                    · skip
                      exact zn_ne c78 (in_c 0 rfl) rfl
                  · skip
                    have i75x6 := r_eq1 1 1 c75x6 i75x4 (in_c 1 rfl) rfl
                    refine g_iconst 1 10 (gd rfl) rfl rfl ?_
                    refine g_goto 14 (gd rfl) rfl ?_
                    refine g_ireturn (gd rfl) rfl (nb01 (in_w 0 1 (in_c 1 rfl) rfl)) (hp75 _ _ ?_)
                    show GG _ _ _ _ _ _ _ _ [.int (Int32.ofInt 1), .int y5_3] _ _ _
                    refine g_if_eq 81 85 (gd rfl) rfl rfl (fun c78 => ?_) (fun c78 => ?_)
                    · skip
                      exact zn_eq c78 (in_c 1 rfl) rfl
                    · skip
                      refine g_iconst 1 82 (gd rfl) rfl rfl ?_
                      refine g_goto 86 (gd rfl) rfl ?_
                      refine g_iadd 87 (gd rfl) rfl (fun z86 e86 => ?_)
                      have i86 := in_add 1 161 e86 j5_3 (in_c 1 rfl) rfl rfl
                      refine g_istore_n 88 (gd rfl) rfl (Nat.le_of_ble_eq_true rfl) ?_
                      refine g_iinc 91 (gd rfl) rfl rfl (Nat.le_of_ble_eq_true rfl) (fun z88 e88 => ?_)
                      have i88 := in_add 1 160 e88 i10 (in_c 1 rfl) rfl rfl
                      refine g_goto 5 (gd rfl) rfl ?_
                      have l5 := rl_1 l5_3 (t_add e86 j5_3 (in_c 1 rfl) rfl) (in_c 1 rfl) (t_add e88 i10 (in_c 1 rfl) rfl) (in_c 1 rfl) rfl
                      exact gg_w (by omega) (gg_f (gf_cons rfl (gf_cons rfl (gf_cons rfl (gf_cons rfl (gf_cons rfl gf_nil))))) (ih5  z86 z88  (rl_w 0 160 l5 i86 (in_w 0 160 i88 rfl) rfl) (in_w 0 160 i88 rfl) l5 (m_up mm5 (t_add e88 i10 (in_c 1 rfl) rfl) (in_w 1 1 (in_c 1 rfl) rfl))))
              · skip
                refine g_iload_n 58 (gd rfl) rfl rfl ?_
                refine g_iload 60 (gd rfl) rfl rfl ?_
                refine g_calls (As := [.int x2, .int z47]) (r := [.int y5_3]) 63 (gd rfl) rfl rfl rfl rfl rfl (Nat.le_of_ble_eq_true rfl) (mc := 0) (ms := 0) (Nat.zero_le _) (Nat.zero_le _) (P := fun v u => _) ?_ (fun v u h => h)
                intro po60 xx60 hp60 hx60
                refine g_enter2 (k := 311) (N := 300) (by omega) rfl (Nat.le_of_ble_eq_true rfl) ?_
                refine g_iload_n 1 (gd rfl) rfl rfl ?_
                refine g_iload_n 2 (gd rfl) rfl rfl ?_
                refine g_ishr 3 (gd rfl) rfl (fun z60x2 e60x2 => ?_)
                refine g_iconst 1 4 (gd rfl) rfl rfl ?_
                refine g_iand 5 (gd rfl) rfl (fun z60x4 e60x4 => ?_)
                have i60x4 := in_and2 e60x4 (in_c 1 rfl) rfl
                refine g_iconst 1 6 (gd rfl) rfl rfl ?_
                refine g_cmp_ne 9 13 (gd rfl) rfl rfl (fun c60x6 => ?_) (fun c60x6 => ?_)
                · skip
                  have i60x6 := r_ne1 0 0 c60x6 i60x4 (in_c 1 rfl) rfl
                  refine g_iconst 0 14 (gd rfl) rfl rfl ?_
                  refine g_ireturn (gd rfl) rfl (nb01 (in_w 0 1 (in_c 0 rfl) rfl)) (hp60 _ _ ?_)
                  show GG _ _ _ _ _ _ _ _ [.int (Int32.ofInt 0), .int y5_3] _ _ _
                  refine g_if_ne 66 81 (gd rfl) rfl rfl (fun c63 => ?_) (fun c63 => ?_)
                  · skip
                    exact zn_ne c63 (in_c 0 rfl) rfl
                  · skip
                    refine g_iload 68 (gd rfl) rfl rfl ?_
                    refine g_iload_n 69 (gd rfl) rfl rfl ?_
                    refine g_cmp_ne 72 85 (gd rfl) rfl rfl (fun c69 => ?_) (fun c69 => ?_)
                    · skip
                      refine g_iconst 0 86 (gd rfl) rfl rfl ?_
                      refine g_iadd 87 (gd rfl) rfl (fun z86 e86 => ?_)
                      have i86 := in_add 0 160 e86 j5_3 (in_c 0 rfl) rfl rfl
                      refine g_istore_n 88 (gd rfl) rfl (Nat.le_of_ble_eq_true rfl) ?_
                      refine g_iinc 91 (gd rfl) rfl rfl (Nat.le_of_ble_eq_true rfl) (fun z88 e88 => ?_)
                      have i88 := in_add 1 160 e88 i10 (in_c 1 rfl) rfl rfl
                      refine g_goto 5 (gd rfl) rfl ?_
                      have l5 := rl_1 l5_3 (t_add e86 j5_3 (in_c 0 rfl) rfl) (in_c 0 rfl) (t_add e88 i10 (in_c 1 rfl) rfl) (in_c 1 rfl) rfl
                      exact gg_w (by omega) (gg_f (gf_cons rfl (gf_cons rfl (gf_cons rfl (gf_cons rfl (gf_cons rfl gf_nil))))) (ih5  z86 z88  (rl_w 0 160 l5 i86 (in_w 0 160 i88 rfl) rfl) (in_w 0 160 i88 rfl) l5 (m_up mm5 (t_add e88 i10 (in_c 1 rfl) rfl) (in_w 1 1 (in_c 1 rfl) rfl))))
                    · skip
                      refine g_iload_n 73 (gd rfl) rfl rfl ?_
                      refine g_iload 75 (gd rfl) rfl rfl ?_
                      refine g_calls (As := [.int x2, .int z33]) (r := [.int y5_3]) 78 (gd rfl) rfl rfl rfl rfl rfl (Nat.le_of_ble_eq_true rfl) (mc := 0) (ms := 0) (Nat.zero_le _) (Nat.zero_le _) (P := fun v u => _) ?_ (fun v u h => h)
                      intro po75 xx75 hp75 hx75
                      refine g_enter2 (k := 311) (N := 300) (by omega) rfl (Nat.le_of_ble_eq_true rfl) ?_
                      refine g_iload_n 1 (gd rfl) rfl rfl ?_
                      refine g_iload_n 2 (gd rfl) rfl rfl ?_
                      refine g_ishr 3 (gd rfl) rfl (fun z75x2 e75x2 => ?_)
                      refine g_iconst 1 4 (gd rfl) rfl rfl ?_
                      refine g_iand 5 (gd rfl) rfl (fun z75x4 e75x4 => ?_)
                      have i75x4 := in_and2 e75x4 (in_c 1 rfl) rfl
                      refine g_iconst 1 6 (gd rfl) rfl rfl ?_
                      refine g_cmp_ne 9 13 (gd rfl) rfl rfl (fun c75x6 => ?_) (fun c75x6 => ?_)
                      · skip
                        have i75x6 := r_ne1 0 0 c75x6 i75x4 (in_c 1 rfl) rfl
                        refine g_iconst 0 14 (gd rfl) rfl rfl ?_
                        refine g_ireturn (gd rfl) rfl (nb01 (in_w 0 1 (in_c 0 rfl) rfl)) (hp75 _ _ ?_)
                        show GG _ _ _ _ _ _ _ _ [.int (Int32.ofInt 0), .int y5_3] _ _ _
                        refine g_if_eq 81 85 (gd rfl) rfl rfl (fun c78 => ?_) (fun c78 => ?_)
                        · skip
                          refine g_iconst 0 86 (gd rfl) rfl rfl ?_
                          refine g_iadd 87 (gd rfl) rfl (fun z86 e86 => ?_)
                          have i86 := in_add 0 160 e86 j5_3 (in_c 0 rfl) rfl rfl
                          refine g_istore_n 88 (gd rfl) rfl (Nat.le_of_ble_eq_true rfl) ?_
                          refine g_iinc 91 (gd rfl) rfl rfl (Nat.le_of_ble_eq_true rfl) (fun z88 e88 => ?_)
                          have i88 := in_add 1 160 e88 i10 (in_c 1 rfl) rfl rfl
                          refine g_goto 5 (gd rfl) rfl ?_
                          have l5 := rl_1 l5_3 (t_add e86 j5_3 (in_c 0 rfl) rfl) (in_c 0 rfl) (t_add e88 i10 (in_c 1 rfl) rfl) (in_c 1 rfl) rfl
                          exact gg_w (by omega) (gg_f (gf_cons rfl (gf_cons rfl (gf_cons rfl (gf_cons rfl (gf_cons rfl gf_nil))))) (ih5  z86 z88  (rl_w 0 160 l5 i86 (in_w 0 160 i88 rfl) rfl) (in_w 0 160 i88 rfl) l5 (m_up mm5 (t_add e88 i10 (in_c 1 rfl) rfl) (in_w 1 1 (in_c 1 rfl) rfl))))
                        · skip
                          exact zn_ne c78 (in_c 0 rfl) rfl
                      · skip
                        have i75x6 := r_eq1 1 1 c75x6 i75x4 (in_c 1 rfl) rfl
                        refine g_iconst 1 10 (gd rfl) rfl rfl ?_
                        refine g_goto 14 (gd rfl) rfl ?_
                        refine g_ireturn (gd rfl) rfl (nb01 (in_w 0 1 (in_c 1 rfl) rfl)) (hp75 _ _ ?_)
                        show GG _ _ _ _ _ _ _ _ [.int (Int32.ofInt 1), .int y5_3] _ _ _
                        refine g_if_eq 81 85 (gd rfl) rfl rfl (fun c78 => ?_) (fun c78 => ?_)
                        · skip
                          exact zn_eq c78 (in_c 1 rfl) rfl
                        · skip
                          refine g_iconst 1 82 (gd rfl) rfl rfl ?_
                          refine g_goto 86 (gd rfl) rfl ?_
                          refine g_iadd 87 (gd rfl) rfl (fun z86 e86 => ?_)
                          have i86 := in_add 1 161 e86 j5_3 (in_c 1 rfl) rfl rfl
                          refine g_istore_n 88 (gd rfl) rfl (Nat.le_of_ble_eq_true rfl) ?_
                          refine g_iinc 91 (gd rfl) rfl rfl (Nat.le_of_ble_eq_true rfl) (fun z88 e88 => ?_)
                          have i88 := in_add 1 160 e88 i10 (in_c 1 rfl) rfl rfl
                          refine g_goto 5 (gd rfl) rfl ?_
                          have l5 := rl_1 l5_3 (t_add e86 j5_3 (in_c 1 rfl) rfl) (in_c 1 rfl) (t_add e88 i10 (in_c 1 rfl) rfl) (in_c 1 rfl) rfl
                          exact gg_w (by omega) (gg_f (gf_cons rfl (gf_cons rfl (gf_cons rfl (gf_cons rfl (gf_cons rfl gf_nil))))) (ih5  z86 z88  (rl_w 0 160 l5 i86 (in_w 0 160 i88 rfl) rfl) (in_w 0 160 i88 rfl) l5 (m_up mm5 (t_add e88 i10 (in_c 1 rfl) rfl) (in_w 1 1 (in_c 1 rfl) rfl))))
                · skip
                  have i60x6 := r_eq1 1 1 c60x6 i60x4 (in_c 1 rfl) rfl
                  refine g_iconst 1 10 (gd rfl) rfl rfl ?_
                  refine g_goto 14 (gd rfl) rfl ?_
                  refine g_ireturn (gd rfl) rfl (nb01 (in_w 0 1 (in_c 1 rfl) rfl)) (hp60 _ _ ?_)
                  show GG _ _ _ _ _ _ _ _ [.int (Int32.ofInt 1), .int y5_3] _ _ _
                  refine g_if_ne 66 81 (gd rfl) rfl rfl (fun c63 => ?_) (fun c63 => ?_)
                  · skip
                    refine g_iconst 1 82 (gd rfl) rfl rfl ?_
                    refine g_goto 86 (gd rfl) rfl ?_
                    refine g_iadd 87 (gd rfl) rfl (fun z86 e86 => ?_)
                    have i86 := in_add 1 161 e86 j5_3 (in_c 1 rfl) rfl rfl
                    refine g_istore_n 88 (gd rfl) rfl (Nat.le_of_ble_eq_true rfl) ?_
                    refine g_iinc 91 (gd rfl) rfl rfl (Nat.le_of_ble_eq_true rfl) (fun z88 e88 => ?_)
                    have i88 := in_add 1 160 e88 i10 (in_c 1 rfl) rfl rfl
                    refine g_goto 5 (gd rfl) rfl ?_
                    have l5 := rl_1 l5_3 (t_add e86 j5_3 (in_c 1 rfl) rfl) (in_c 1 rfl) (t_add e88 i10 (in_c 1 rfl) rfl) (in_c 1 rfl) rfl
                    exact gg_w (by omega) (gg_f (gf_cons rfl (gf_cons rfl (gf_cons rfl (gf_cons rfl (gf_cons rfl gf_nil))))) (ih5  z86 z88  (rl_w 0 160 l5 i86 (in_w 0 160 i88 rfl) rfl) (in_w 0 160 i88 rfl) l5 (m_up mm5 (t_add e88 i10 (in_c 1 rfl) rfl) (in_w 1 1 (in_c 1 rfl) rfl))))
                  · skip
                    exact zn_eq c63 (in_c 1 rfl) rfl
  refine g_enter2 (k := 333) (N := 145801) (by omega) rfl (Nat.le_of_ble_eq_true rfl) ?_
  refine g_iconst 0 1 (gd rfl) rfl rfl ?_
  refine g_istore_n 2 (gd rfl) rfl (Nat.le_of_ble_eq_true rfl) ?_
  refine g_iconst 0 3 (gd rfl) rfl rfl ?_
  refine g_istore 5 (gd rfl) rfl (Nat.le_of_ble_eq_true rfl) ?_
  have l5 := rl_in 0 (in_c 0 rfl) (in_c 0 rfl) rfl
  exact gg_w (by omega) (gg_f (gf_cons rfl (gf_cons rfl (gf_cons rfl (gf_cons rfl (gf_cons rfl gf_nil))))) (ct5 161  (Int32.ofInt 0) (Int32.ofInt 0)  (rl_w 0 160 l5 (in_c 0 rfl) (in_w 0 160 (in_c 0 rfl) rfl) rfl) (in_w 0 160 (in_c 0 rfl) rfl) l5 (m_in 161 (in_w 0 160 (in_c 0 rfl) rfl) rfl)))

def fm_334 : FM := ([], [], [(109, 0)], [])
/-- GraphHouseModel.core -/
theorem k_334 {Z : AmZ} {A : Nat → Nat} {s : GS} {ex : va_W} {d : Nat} {X : AmX} {x1 : Int32} (hd : 4 ≤ d) (hI : Inv s)  : GC Z d 334 [.ref (A 109), .int x1] (WW Z A s ++ ex) 0 0 (fun v u => ∃ t : GS, Inv t ∧ Fr fm_334 s t ∧ ∃ z : Int32, v = some (.int z) ∧ u = WW Z A t ++ ex ∧ In z 0 160) X := by
  intro post xp hP hX
  obtain ⟨u_109_20, e_109_20⟩ : ∃ w, w = s.2.2.1 109 20 := ⟨_, rfl⟩
  have ro_109_20 := inv_F hI 0 32 rfl e_109_20
  have ct41 : ∀ (k41 : Nat) (sc41 : GS) (y41_2 : Int32) (y41_3 : Int32) (y41_4 : Int32), Inv sc41 → Fr fm_334 s sc41 → (In x1 0 31) → (In y41_3 0 161) → (In y41_4 0 160) → ((x1).toInt < (u_109_20).toInt) → (0 ≤ (x1).toInt) → (161 ≤ (y41_3).toInt → ∀ j : Nat, (j : Int) < (u_109_20).toInt → bt y41_2 j = false) → 200 - (y41_3).toInt < (k41 : Int) → GG Z (d - 1) 334 post (gx xp) (1 + k41 * 3274302) 41 (fun j => xlook j [(0, .ref (A 109)), (1, .int x1), (2, .int y41_2), (3, .int y41_3), (4, .int y41_4)]) [] (WW Z A sc41 ++ ex) 0 0 := by
    intro k41
    induction k41 with
    | zero => intro sc41 y41_2 y41_3 y41_4 hIc41 hFc41 j41_1 j41_3 j41_4 n41_0 n41_1 g41_0 mm41; exfalso; have a0 := j41_1; unfold In at a0; have a1 := ro_109_20; unfold In at a1; have a2 := j41_4; unfold In at a2; have a3 := j41_3; unfold In at a3; omega
    | succ k41 ih41 =>
      intro sc41 y41_2 y41_3 y41_4 hIc41 hFc41 j41_1 j41_3 j41_4 n41_0 n41_1 g41_0 mm41
      refine gg_w (M := 1 + k41 * 3274302 + 3274302) (by omega) ?_
      have ct58 : ∀ (k58 : Nat) (sc58 : GS) (y58_2 : Int32) (y58_3 : Int32) (y58_4 : Int32) (y58_5 : Int32), Inv sc58 → Fr fm_334 s sc58 → (In y58_3 1 161) → (In y58_4 0 160) → (In y58_5 0 1) → ((y58_3).toInt = y41_3.toInt + 1) → (161 ≤ (y58_3).toInt → (y58_5).toInt = 0 → ∀ j : Nat, (j : Int) < (u_109_20).toInt → bt y58_2 j = false) → cb y58_2 + (y58_5).toInt.toNat < k58 → GG Z (d - 1) 334 post (gx xp) (1 + k41 * 3274302 + 1 + k58 * 32401) 58 (fun j => xlook j [(0, .ref (A 109)), (1, .int x1), (2, .int y58_2), (3, .int y58_3), (4, .int y58_4), (5, .int y58_5)]) [] (WW Z A sc58 ++ ex) 0 0 := by
        intro k58
        induction k58 with
        | zero => intro sc58 y58_2 y58_3 y58_4 y58_5 hIc58 hFc58 j58_3 j58_4 j58_5 n58_0 g58_0 mm58; exact absurd mm58 (Nat.not_lt_zero _)
        | succ k58 ih58 =>
          intro sc58 y58_2 y58_3 y58_4 y58_5 hIc58 hFc58 j58_3 j58_4 j58_5 n58_0 g58_0 mm58
          refine gg_w (M := 1 + k41 * 3274302 + 1 + k58 * 32401 + 32401) (by omega) ?_
          have ct69 : ∀ (k69 : Nat) (sc69 : GS) (y69_2 : Int32) (y69_5 : Int32) (y69_6 : Int32), Inv sc69 → Fr fm_334 s sc69 → (In y69_5 0 1) → (In y69_6 0 32) → (161 ≤ (y58_3).toInt → (y69_5).toInt = 0 → ∀ j : Nat, (j : Int) < (y69_6).toInt → bt y69_2 j = false) → (cb y69_2 + (y69_5).toInt.toNat < k58) → 32 - (y69_6).toInt < (k69 : Int) → GG Z (d - 1) 334 post (gx xp) (1 + k41 * 3274302 + 1 + k58 * 32401 + 1 + k69 * 900) 69 (fun j => xlook j [(0, .ref (A 109)), (1, .int x1), (2, .int y69_2), (3, .int y58_3), (4, .int y58_4), (5, .int y69_5), (6, .int y69_6)]) [] (WW Z A sc69 ++ ex) 0 0 := by
            intro k69
            induction k69 with
            | zero => intro sc69 y69_2 y69_5 y69_6 hIc69 hFc69 j69_5 j69_6 g69_0 g69_1 mm69; exact m_no mm69 j69_6 rfl
            | succ k69 ih69 =>
              intro sc69 y69_2 y69_5 y69_6 hIc69 hFc69 j69_5 j69_6 g69_0 g69_1 mm69
              refine gg_w (M := 1 + k41 * 3274302 + 1 + k58 * 32401 + 1 + k69 * 900 + 900) (by omega) ?_
              refine g_iload 71 (gd rfl) rfl rfl ?_
              refine g_aload_n 72 (gd rfl) rfl rfl ?_
              refine g_getI 75 (gd rfl) rfl rfl rfl (fun z72 e72 => ?_)
              have q72 : u_109_20 = z72 := (fr_F e_109_20 hFc69 rfl).trans e72.symm
              subst q72
              refine g_cmp_ge 78 116 (gd rfl) rfl rfl (fun c75 => ?_) (fun c75 => ?_)
              · skip
                refine g_goto 58 (gd rfl) rfl ?_
                have n58 : (y58_3).toInt = y41_3.toInt + 1 := by have a0 := j58_4; unfold In at a0; have a1 := j58_3; unfold In at a1; have a2 := j41_1; unfold In at a2; have a3 := ro_109_20; unfold In at a3; have a4 := j69_6; unfold In at a4; have a5 := j69_5; unfold In at a5; omega
                have n58a : 161 ≤ (y58_3).toInt → (y69_5).toInt = 0 → ∀ j : Nat, (j : Int) < (u_109_20).toInt → bt y69_2 j = false := by first | (intro _ h; exact absurd h (by decide)) | (intro h1 h2 j hj; exact g69_0 h1 h2 j (by have a0 := j58_4; unfold In at a0; have a1 := j58_3; unfold In at a1; have a2 := j41_1; unfold In at a2; have a3 := ro_109_20; unfold In at a3; have a4 := j69_6; unfold In at a4; have a5 := j69_5; unfold In at a5; omega))
                have m58 : cb y69_2 + (y69_5).toInt.toNat < k58 := by exact g69_1
                exact gg_w (by omega) (gg_f (gf_cons rfl (gf_cons rfl (gf_cons rfl (gf_cons rfl (gf_cons rfl (gf_cons rfl gf_nil)))))) (ih58  sc69 y69_2 y58_3 y58_4 y69_5 hIc69 hFc69 (in_w 1 161 j58_3 rfl) (in_w 0 160 j58_4 rfl) (in_w 0 1 j69_5 rfl) n58 n58a m58))
              · skip
                have i75 := r_lt1 0 31 c75 j69_6 ro_109_20 rfl
                have i75a := r_lt2 1 32 c75 j69_6 ro_109_20 rfl
                refine g_iload_n 79 (gd rfl) rfl rfl ?_
                refine g_iload 81 (gd rfl) rfl rfl ?_
                refine g_calls (As := [.int y69_2, .int y69_6]) (r := []) 84 (gd rfl) rfl rfl rfl rfl rfl (Nat.le_of_ble_eq_true rfl) (mc := 0) (ms := 0) (Nat.zero_le _) (Nat.zero_le _) (P := fun v u => _) ?_ (fun v u h => h)
                intro po81 xx81 hp81 hx81
                refine g_enter2 (k := 311) (N := 300) (by omega) rfl (Nat.le_of_ble_eq_true rfl) ?_
                refine g_iload_n 1 (gd rfl) rfl rfl ?_
                refine g_iload_n 2 (gd rfl) rfl rfl ?_
                refine g_ishr 3 (gd rfl) rfl (fun z81x2 e81x2 => ?_)
                refine g_iconst 1 4 (gd rfl) rfl rfl ?_
                refine g_iand 5 (gd rfl) rfl (fun z81x4 e81x4 => ?_)
                have i81x4 := in_and2 e81x4 (in_c 1 rfl) rfl
                refine g_iconst 1 6 (gd rfl) rfl rfl ?_
                refine g_cmp_ne 9 13 (gd rfl) rfl rfl (fun c81x6 => ?_) (fun c81x6 => ?_)
                · skip
                  have i81x6 := r_ne1 0 0 c81x6 i81x4 (in_c 1 rfl) rfl
                  refine g_iconst 0 14 (gd rfl) rfl rfl ?_
                  refine g_ireturn (gd rfl) rfl (nb01 (in_w 0 1 (in_c 0 rfl) rfl)) (hp81 _ _ ?_)
                  show GG _ _ _ _ _ _ _ _ [.int (Int32.ofInt 0)] _ _ _
                  refine g_if_eq 87 110 (gd rfl) rfl rfl (fun c84 => ?_) (fun c84 => ?_)
                  · skip
                    refine g_iinc 113 (gd rfl) rfl rfl (Nat.le_of_ble_eq_true rfl) (fun z110 e110 => ?_)
                    have i110 := in_add 1 32 e110 i75 (in_c 1 rfl) rfl rfl
                    refine g_goto 69 (gd rfl) rfl ?_
                    have n69 : 161 ≤ (y58_3).toInt → (y69_5).toInt = 0 → ∀ j : Nat, (j : Int) < (z110).toInt → bt y69_2 j = false := by first | (intro _ _ j hj; exfalso; have h0 : (Int32.ofInt 0).toInt = 0 := rfl; omega) | (intro h1 h2 j hj; by_cases hj2 : (j : Int) < y69_6.toInt; exact g69_0 h1 h2 j hj2; (have ej : j = y69_6.toNatClampNeg := (by show j = y69_6.toInt.toNat; have a0 := j58_4; unfold In at a0; have a1 := j58_3; unfold In at a1; have a2 := j41_1; unfold In at a2; have a3 := i75a; unfold In at a3; have a4 := i75; unfold In at a4; have a5 := j69_5; unfold In at a5; have a6 := i110; unfold In at a6; have a7 := t_add e110 i75 (in_c 1 rfl) rfl; have a8 := (in_c 1 rfl); unfold In at a8; omega); rw [ej]; exact bt_no e81x2 e81x4 i75 c81x6)) | (intro h1 h2 j hj; exfalso; have h9 := i91; unfold In at h9; omega) | (intro _ h; exact absurd h (by decide))
                    have n69a : cb y69_2 + (y69_5).toInt.toNat < k58 := by first | exact g69_1 | (show cb y58_2 + 0 < k58; have h := j58_5; unfold In at h; omega) | (have h := cb_clr e102 e104 e105 i75 (bt_yes e81x2 e81x4 i75 c81x6); show cb z105 + 1 < k58; omega)
                    exact gg_w (by omega) (gg_f (gf_cons rfl (gf_cons rfl (gf_cons rfl (gf_cons rfl (gf_cons rfl (gf_cons rfl (gf_cons rfl gf_nil))))))) (ih69 sc69 y69_2 y69_5 z110 hIc69 hFc69 (in_w 0 1 j69_5 rfl) (in_w 0 32 i110 rfl) n69 n69a (m_up mm69 (t_add e110 i75 (in_c 1 rfl) rfl) (in_w 1 1 (in_c 1 rfl) rfl))))
                  · skip
                    exact zn_ne c84 (in_c 0 rfl) rfl
                · skip
                  have i81x6 := r_eq1 1 1 c81x6 i81x4 (in_c 1 rfl) rfl
                  refine g_iconst 1 10 (gd rfl) rfl rfl ?_
                  refine g_goto 14 (gd rfl) rfl ?_
                  refine g_ireturn (gd rfl) rfl (nb01 (in_w 0 1 (in_c 1 rfl) rfl)) (hp81 _ _ ?_)
                  show GG _ _ _ _ _ _ _ _ [.int (Int32.ofInt 1)] _ _ _
                  refine g_if_eq 87 110 (gd rfl) rfl rfl (fun c84 => ?_) (fun c84 => ?_)
                  · skip
                    exact zn_eq c84 (in_c 1 rfl) rfl
                  · skip
                    refine g_aload_n 88 (gd rfl) rfl rfl ?_
                    refine g_iload 90 (gd rfl) rfl rfl ?_
                    refine g_iload_n 91 (gd rfl) rfl rfl ?_
                    refine g_callv (X := _) (As := [.int y69_6, .int y69_2]) (r := []) (b := A 109) (q := 109) 94 (gd rfl) rfl rfl rfl rfl rfl (ww_o rfl) (Nat.le_of_ble_eq_true rfl) (Nat.zero_le _) (Nat.zero_le _) (k_333 (by omega) hIc69 (in_w 0 31 i75 rfl)) (fun e u h => h) (fun v u h => ?_)
                    obtain ⟨z91, rfl, rfl, i91⟩ := h
                    show GG _ _ _ _ _ _ _ _ [.int z91] _ _ _
                    refine g_iload_n 95 (gd rfl) rfl rfl ?_
                    refine g_cmp_ge 98 110 (gd rfl) rfl rfl (fun c95 => ?_) (fun c95 => ?_)
                    · skip
                      have i95 := r_le1 1 160 c95 j58_3 i91 rfl
                      have i95a := r_le2 1 160 c95 j58_3 i91 rfl
                      refine g_iinc 113 (gd rfl) rfl rfl (Nat.le_of_ble_eq_true rfl) (fun z110 e110 => ?_)
                      have i110 := in_add 1 32 e110 i75 (in_c 1 rfl) rfl rfl
                      refine g_goto 69 (gd rfl) rfl ?_
                      have n69 : 161 ≤ (y58_3).toInt → (y69_5).toInt = 0 → ∀ j : Nat, (j : Int) < (z110).toInt → bt y69_2 j = false := by first | (intro _ _ j hj; exfalso; have h0 : (Int32.ofInt 0).toInt = 0 := rfl; omega) | (intro h1 h2 j hj; by_cases hj2 : (j : Int) < y69_6.toInt; exact g69_0 h1 h2 j hj2; (have ej : j = y69_6.toNatClampNeg := (by show j = y69_6.toInt.toNat; have a0 := j58_4; unfold In at a0; have a1 := i95; unfold In at a1; have a2 := j41_1; unfold In at a2; have a3 := i75a; unfold In at a3; have a4 := i75; unfold In at a4; have a5 := j69_5; unfold In at a5; have a6 := i110; unfold In at a6; have a7 := t_add e110 i75 (in_c 1 rfl) rfl; have a8 := (in_c 1 rfl); unfold In at a8; omega); rw [ej]; exact bt_no e81x2 e81x4 i75 c81x6)) | (intro h1 h2 j hj; exfalso; have h9 := i91; unfold In at h9; omega) | (intro _ h; exact absurd h (by decide))
                      have n69a : cb y69_2 + (y69_5).toInt.toNat < k58 := by first | exact g69_1 | (show cb y58_2 + 0 < k58; have h := j58_5; unfold In at h; omega) | (have h := cb_clr e102 e104 e105 i75 (bt_yes e81x2 e81x4 i75 c81x6); show cb z105 + 1 < k58; omega)
                      exact gg_w (by omega) (gg_f (gf_cons rfl (gf_cons rfl (gf_cons rfl (gf_cons rfl (gf_cons rfl (gf_cons rfl (gf_cons rfl gf_nil))))))) (ih69 sc69 y69_2 y69_5 z110 hIc69 hFc69 (in_w 0 1 j69_5 rfl) (in_w 0 32 i110 rfl) n69 n69a (m_up mm69 (t_add e110 i75 (in_c 1 rfl) rfl) (in_w 1 1 (in_c 1 rfl) rfl))))
                    · skip
                      refine g_iload_n 99 (gd rfl) rfl rfl ?_
                      refine g_iconst 1 100 (gd rfl) rfl rfl ?_
                      refine g_iload 102 (gd rfl) rfl rfl ?_
                      refine g_ishl 103 (gd rfl) rfl (fun z102 e102 => ?_)
                      refine g_iconst (-1) 104 (gd rfl) rfl rfl ?_
                      refine g_ixor 105 (gd rfl) rfl (fun z104 e104 => ?_)
                      refine g_iand 106 (gd rfl) rfl (fun z105 e105 => ?_)
                      refine g_istore_n 107 (gd rfl) rfl (Nat.le_of_ble_eq_true rfl) ?_
                      refine g_iconst 1 108 (gd rfl) rfl rfl ?_
                      refine g_istore 110 (gd rfl) rfl (Nat.le_of_ble_eq_true rfl) ?_
                      refine g_iinc 113 (gd rfl) rfl rfl (Nat.le_of_ble_eq_true rfl) (fun z110 e110 => ?_)
                      have i110 := in_add 1 32 e110 i75 (in_c 1 rfl) rfl rfl
                      refine g_goto 69 (gd rfl) rfl ?_
                      have n69 : 161 ≤ (y58_3).toInt → ((Int32.ofInt 1)).toInt = 0 → ∀ j : Nat, (j : Int) < (z110).toInt → bt z105 j = false := by first | (intro _ _ j hj; exfalso; have h0 : (Int32.ofInt 0).toInt = 0 := rfl; omega) | (intro h1 h2 j hj; by_cases hj2 : (j : Int) < y69_6.toInt; exact g69_0 h1 h2 j hj2; (have ej : j = y69_6.toNatClampNeg := (by show j = y69_6.toInt.toNat; have a0 := j58_4; unfold In at a0; have a1 := j58_3; unfold In at a1; have a2 := j41_1; unfold In at a2; have a3 := i75a; unfold In at a3; have a4 := i75; unfold In at a4; have a5 := j69_5; unfold In at a5; have a6 := i110; unfold In at a6; have a7 := t_add e110 i75 (in_c 1 rfl) rfl; have a8 := (in_c 1 rfl); unfold In at a8; omega); rw [ej]; exact bt_no e81x2 e81x4 i75 c81x6)) | (intro h1 h2 j hj; exfalso; have h9 := i91; unfold In at h9; omega) | (intro _ h; exact absurd h (by decide))
                      have n69a : cb z105 + ((Int32.ofInt 1)).toInt.toNat < k58 := by first | exact g69_1 | (show cb y58_2 + 0 < k58; have h := j58_5; unfold In at h; omega) | (have h := cb_clr e102 e104 e105 i75 (bt_yes e81x2 e81x4 i75 c81x6); show cb z105 + 1 < k58; omega)
                      exact gg_w (by omega) (gg_f (gf_cons rfl (gf_cons rfl (gf_cons rfl (gf_cons rfl (gf_cons rfl (gf_cons rfl (gf_cons rfl gf_nil))))))) (ih69 sc69 z105 (Int32.ofInt 1) z110 hIc69 hFc69 (in_w 0 1 (in_c 1 rfl) rfl) (in_w 0 32 i110 rfl) n69 n69a (m_up mm69 (t_add e110 i75 (in_c 1 rfl) rfl) (in_w 1 1 (in_c 1 rfl) rfl))))
          refine g_iload 60 (gd rfl) rfl rfl ?_
          refine g_if_eq 63 119 (gd rfl) rfl rfl (fun c60 => ?_) (fun c60 => ?_)
          · skip
            have i60 := z_eq 0 0 c60 j58_5 rfl
            refine g_goto 41 (gd rfl) rfl ?_
            have n41 : (x1).toInt < (u_109_20).toInt := by have a0 := j41_1; unfold In at a0; have a1 := ro_109_20; unfold In at a1; have a2 := i60; unfold In at a2; have a3 := j58_4; unfold In at a3; have a4 := j58_3; unfold In at a4; omega
            have n41a : 0 ≤ (x1).toInt := by have a0 := j41_1; unfold In at a0; have a1 := ro_109_20; unfold In at a1; have a2 := i60; unfold In at a2; have a3 := j58_4; unfold In at a3; have a4 := j58_3; unfold In at a4; omega
            have n41b : 161 ≤ (y58_3).toInt → ∀ j : Nat, (j : Int) < (u_109_20).toInt → bt y58_2 j = false := by first | exact fun h => g58_0 h c60 | (intro h; exfalso; have h0 : (Int32.ofInt 0).toInt = 0 := rfl; omega)
            have m41 : 200 - (y58_3).toInt < ((k41 : Nat) : Int) := by have a0 := j41_1; unfold In at a0; have a1 := ro_109_20; unfold In at a1; have a2 := i60; unfold In at a2; have a3 := j58_4; unfold In at a3; have a4 := j58_3; unfold In at a4; omega
            exact gg_w (by omega) (gg_f (gf_cons rfl (gf_cons rfl (gf_cons rfl (gf_cons rfl (gf_cons rfl gf_nil))))) (ih41  sc58 y58_2 y58_3 y58_4 hIc58 hFc58 (in_w 0 31 j41_1 rfl) (in_w 0 161 j58_3 rfl) (in_w 0 160 j58_4 rfl) n41 n41a n41b m41))
          · skip
            have i60 := z_ne 1 1 c60 j58_5 rfl
            refine g_iconst 0 64 (gd rfl) rfl rfl ?_
            refine g_istore 66 (gd rfl) rfl (Nat.le_of_ble_eq_true rfl) ?_
            refine g_iconst 0 67 (gd rfl) rfl rfl ?_
            refine g_istore 69 (gd rfl) rfl (Nat.le_of_ble_eq_true rfl) ?_
            have n69 : 161 ≤ (y58_3).toInt → ((Int32.ofInt 0)).toInt = 0 → ∀ j : Nat, (j : Int) < ((Int32.ofInt 0)).toInt → bt y58_2 j = false := by first | (intro _ _ j hj; exfalso; have h0 : (Int32.ofInt 0).toInt = 0 := rfl; omega) | (intro h1 h2 j hj; by_cases hj2 : (j : Int) < y69_6.toInt; exact g69_0 h1 h2 j hj2; (have ej : j = y69_6.toNatClampNeg := (by show j = y69_6.toInt.toNat; have a0 := j41_1; unfold In at a0; have a1 := ro_109_20; unfold In at a1; have a2 := i60; unfold In at a2; have a3 := j58_4; unfold In at a3; have a4 := j58_3; unfold In at a4; have a5 := (in_c 0 rfl); unfold In at a5; omega); rw [ej]; exact bt_no e81x2 e81x4 i75 c81x6)) | (intro h1 h2 j hj; exfalso; have h9 := i91; unfold In at h9; omega) | (intro _ h; exact absurd h (by decide))
            have n69a : cb y58_2 + ((Int32.ofInt 0)).toInt.toNat < k58 := by first | exact g69_1 | (show cb y58_2 + 0 < k58; have h := j58_5; unfold In at h; omega) | (have h := cb_clr e102 e104 e105 i75 (bt_yes e81x2 e81x4 i75 c81x6); show cb z105 + 1 < k58; omega)
            exact gg_w (by omega) (gg_f (gf_cons rfl (gf_cons rfl (gf_cons rfl (gf_cons rfl (gf_cons rfl (gf_cons rfl (gf_cons rfl gf_nil))))))) (ct69 33 sc58 y58_2 (Int32.ofInt 0) (Int32.ofInt 0) hIc58 hFc58 (in_w 0 1 (in_c 0 rfl) rfl) (in_w 0 32 (in_c 0 rfl) rfl) n69 n69a (m_in 33 (in_w 0 32 (in_c 0 rfl) rfl) rfl)))
      refine g_iload_n 42 (gd rfl) rfl rfl ?_
      refine g_iload_n 43 (gd rfl) rfl rfl ?_
      refine g_calls (As := [.int y41_2, .int x1]) (r := []) 46 (gd rfl) rfl rfl rfl rfl rfl (Nat.le_of_ble_eq_true rfl) (mc := 0) (ms := 0) (Nat.zero_le _) (Nat.zero_le _) (P := fun v u => _) ?_ (fun v u h => h)
      intro po43 xx43 hp43 hx43
      refine g_enter2 (k := 311) (N := 300) (by omega) rfl (Nat.le_of_ble_eq_true rfl) ?_
      refine g_iload_n 1 (gd rfl) rfl rfl ?_
      refine g_iload_n 2 (gd rfl) rfl rfl ?_
      refine g_ishr 3 (gd rfl) rfl (fun z43x2 e43x2 => ?_)
      refine g_iconst 1 4 (gd rfl) rfl rfl ?_
      refine g_iand 5 (gd rfl) rfl (fun z43x4 e43x4 => ?_)
      have i43x4 := in_and2 e43x4 (in_c 1 rfl) rfl
      refine g_iconst 1 6 (gd rfl) rfl rfl ?_
      refine g_cmp_ne 9 13 (gd rfl) rfl rfl (fun c43x6 => ?_) (fun c43x6 => ?_)
      · skip
        have i43x6 := r_ne1 0 0 c43x6 i43x4 (in_c 1 rfl) rfl
        refine g_iconst 0 14 (gd rfl) rfl rfl ?_
        refine g_ireturn (gd rfl) rfl (nb01 (in_w 0 1 (in_c 0 rfl) rfl)) (hp43 _ _ ?_)
        show GG _ _ _ _ _ _ _ _ [.int (Int32.ofInt 0)] _ _ _
        refine g_if_eq 49 122 (gd rfl) rfl rfl (fun c46 => ?_) (fun c46 => ?_)
        · skip
          refine g_iload 124 (gd rfl) rfl rfl ?_
          exact g_ireturn (gd rfl) rfl rfl (hP _ _ ⟨sc41, hIc41, hFc41, y41_4, rfl, rfl, in_w 0 160 j41_4 rfl⟩)
        · skip
          exact zn_ne c46 (in_c 0 rfl) rfl
      · skip
        have i43x6 := r_eq1 1 1 c43x6 i43x4 (in_c 1 rfl) rfl
        refine g_iconst 1 10 (gd rfl) rfl rfl ?_
        refine g_goto 14 (gd rfl) rfl ?_
        refine g_ireturn (gd rfl) rfl (nb01 (in_w 0 1 (in_c 1 rfl) rfl)) (hp43 _ _ ?_)
        show GG _ _ _ _ _ _ _ _ [.int (Int32.ofInt 1)] _ _ _
        refine g_if_eq 49 122 (gd rfl) rfl rfl (fun c46 => ?_) (fun c46 => ?_)
        · skip
          exact zn_eq c46 (in_c 1 rfl) rfl
        · skip
          have i49 : In y41_3 0 160 := by refine ⟨by have a0 := j41_1; unfold In at a0; have a1 := ro_109_20; unfold In at a1; have a2 := j41_4; unfold In at a2; have a3 := j41_3; unfold In at a3; omega, Int.not_lt.mp fun h => ?_⟩; have hb := bt_yes e43x2 e43x4 j41_1 c43x6; have h2 := g41_0 (by omega) x1.toNatClampNeg (by show ((x1.toInt.toNat : Nat) : Int) < _; have a0 := j41_1; unfold In at a0; have a1 := ro_109_20; unfold In at a1; have a2 := j41_4; unfold In at a2; have a3 := j41_3; unfold In at a3; omega); rw [hb] at h2; cases h2
          refine g_iload_n 50 (gd rfl) rfl rfl ?_
          refine g_istore 52 (gd rfl) rfl (Nat.le_of_ble_eq_true rfl) ?_
          refine g_iinc 55 (gd rfl) rfl rfl (Nat.le_of_ble_eq_true rfl) (fun z52 e52 => ?_)
          have i52 := in_add 1 161 e52 i49 (in_c 1 rfl) rfl rfl
          refine g_iconst 1 56 (gd rfl) rfl rfl ?_
          refine g_istore 58 (gd rfl) rfl (Nat.le_of_ble_eq_true rfl) ?_
          have n58 : (z52).toInt = y41_3.toInt + 1 := by have a0 := j41_1; unfold In at a0; have a1 := ro_109_20; unfold In at a1; have a2 := j41_4; unfold In at a2; have a3 := i49; unfold In at a3; have a4 := (in_c 1 rfl); unfold In at a4; have a5 := i52; unfold In at a5; have a6 := t_add e52 i49 (in_c 1 rfl) rfl; omega
          have n58a : 161 ≤ (z52).toInt → ((Int32.ofInt 1)).toInt = 0 → ∀ j : Nat, (j : Int) < (u_109_20).toInt → bt y41_2 j = false := by first | (intro _ h; exact absurd h (by decide)) | (intro h1 h2 j hj; exact g69_0 h1 h2 j (by have a0 := j41_1; unfold In at a0; have a1 := ro_109_20; unfold In at a1; have a2 := j41_4; unfold In at a2; have a3 := i49; unfold In at a3; have a4 := (in_c 1 rfl); unfold In at a4; have a5 := i52; unfold In at a5; have a6 := t_add e52 i49 (in_c 1 rfl) rfl; omega))
          have m58 : cb y41_2 + ((Int32.ofInt 1)).toInt.toNat < 100 := by have h := cb_le y41_2; have h3 := (in_c 1 rfl); unfold In at h3; omega
          exact gg_w (by omega) (gg_f (gf_cons rfl (gf_cons rfl (gf_cons rfl (gf_cons rfl (gf_cons rfl (gf_cons rfl gf_nil)))))) (ct58 (100) sc41 y41_2 z52 y41_3 (Int32.ofInt 1) hIc41 hFc41 (in_w 1 161 i52 rfl) (in_w 0 160 i49 rfl) (in_w 0 1 (in_c 1 rfl) rfl) n58 n58a m58))
  refine g_enter2 (k := 334) (N := 658135603) (by omega) rfl (Nat.le_of_ble_eq_true rfl) ?_
  refine g_aload_n 1 (gd rfl) rfl rfl ?_
  refine g_aload_n 2 (gd rfl) rfl rfl ?_
  refine g_iload_n 3 (gd rfl) rfl rfl ?_
  refine g_callv (X := _) (As := [.int x1]) (r := [.ref (A 109)]) (b := A 109) (q := 109) 6 (gd rfl) rfl rfl rfl rfl rfl (ww_o rfl) (Nat.le_of_ble_eq_true rfl) (mc := 0) (ms := 0) (Nat.zero_le _) (Nat.zero_le _) (P := fun v u => _) ?_ (fun e u h => h) (fun v u h => h)
  intro po3 xx3 hp3 hx3
  refine g_enter2 (k := 272) (N := 300) (by omega) rfl (Nat.le_of_ble_eq_true rfl) ?_
  refine g_iload_n 1 (gd rfl) rfl rfl ?_
  refine g_if_lt 4 16 (gd rfl) rfl rfl (fun c3x1 => ?_) (fun c3x1 => ?_)
  · skip
    have i3x1 := z_lt (-2147483648) (-1) c3x1 (i_rng x1) rfl
    refine g_iconst 0 17 (gd rfl) rfl rfl ?_
    refine g_ireturn (gd rfl) rfl (nb01 (in_w 0 1 (in_c 0 rfl) rfl)) (hp3 _ _ ?_)
    show GG _ _ _ _ _ _ _ _ [.int (Int32.ofInt 0), .ref (A 109)] _ _ _
    refine g_callv (X := _) (As := [.int (Int32.ofInt 0)]) (r := []) (b := A 109) (q := 109) 9 (gd rfl) rfl rfl rfl rfl rfl (ww_o rfl) (Nat.le_of_ble_eq_true rfl) (mc := 0) (ms := 0) (Nat.zero_le _) (Nat.zero_le _) (P := fun v u => _) ?_ (fun e u h => h) (fun v u h => h)
    intro po6 xx6 hp6 hx6
    refine g_enter2 (k := 271) (N := 300) (by omega) rfl (Nat.le_of_ble_eq_true rfl) ?_
    refine g_aload_n 1 (gd rfl) rfl rfl ?_
    refine g_iload_n 2 (gd rfl) rfl rfl ?_
    refine g_iconst 1 3 (gd rfl) rfl rfl ?_
    refine g_callv (X := _) (As := [.int (Int32.ofInt 0), .int (Int32.ofInt 1)]) (r := []) (b := A 109) (q := 109) 6 (gd rfl) rfl rfl rfl rfl rfl (ww_o rfl) (Nat.le_of_ble_eq_true rfl) (mc := 0) (ms := 0) (Nat.zero_le _) (Nat.zero_le _) (P := fun v u => _) ?_ (fun e u h => h) (fun v u h => h)
    intro po6x3 xx6x3 hp6x3 hx6x3
    refine g_enter2 (k := 270) (N := 300) (by omega) rfl (Nat.le_of_ble_eq_true rfl) ?_
    refine g_aload_n 1 (gd rfl) rfl rfl ?_
    refine g_iload_n 2 (gd rfl) rfl rfl ?_
    refine g_if_ne 5 9 (gd rfl) rfl rfl (fun c6x3x2 => ?_) (fun c6x3x2 => ?_)
    · skip
      exact zn_ne c6x3x2 (in_c 0 rfl) rfl
    · skip
      refine g_iconst 1 6 (gd rfl) rfl rfl ?_
      refine g_goto 18 (gd rfl) rfl ?_
      refine g_putI 21 (gd rfl) rfl rfl rfl rfl ?_
      have hI6x3x18 := inv_sF (q := 109) (j := 0) hI rfl (in_w 0 2 (in_c 1 rfl) rfl)
      refine g_aload_n 22 (gd rfl) rfl rfl ?_
      refine g_getI 25 (gd rfl) rfl rfl rfl (fun z6x3x22 e6x3x22 => ?_)
      have q6x3x22 : (Int32.ofInt 1) = z6x3x22 := (sF_get).trans e6x3x22.symm
      subst q6x3x22
      refine g_if_le 28 32 (gd rfl) rfl rfl (fun c6x3x25 => ?_) (fun c6x3x25 => ?_)
      · skip
        exact zn_le c6x3x25 (in_c 1 rfl) rfl
      · skip
        refine g_iconst 1 29 (gd rfl) rfl rfl ?_
        refine g_goto 33 (gd rfl) rfl ?_
        refine g_ireturn (gd rfl) rfl (nb01 (in_w 0 1 (in_c 1 rfl) rfl)) (hp6x3 _ _ ?_)
        show GG _ _ _ _ _ _ _ _ [.int (Int32.ofInt 1)] _ _ _
        refine g_ireturn (gd rfl) rfl (nb01 (in_w 0 1 (in_c 1 rfl) rfl)) (hp6 _ _ ?_)
        show GG _ _ _ _ _ _ _ _ [.int (Int32.ofInt 1)] _ _ _
        refine g_if_eq 12 14 (gd rfl) rfl rfl (fun c9 => ?_) (fun c9 => ?_)
        · skip
          exact zn_eq c9 (in_c 1 rfl) rfl
        · skip
          refine g_iconst 0 13 (gd rfl) rfl rfl ?_
          exact g_ireturn (gd rfl) rfl rfl (hP _ _ ⟨(sF s 109 0 (Int32.ofInt 1)), hI6x3x18, (fr_sF rfl fr_rf), (Int32.ofInt 0), rfl, rfl, in_w 0 160 (in_c 0 rfl) rfl⟩)
  · skip
    have i3x1 := z_ge 0 2147483647 c3x1 (i_rng x1) rfl
    refine g_iload_n 5 (gd rfl) rfl rfl ?_
    refine g_aload_n 6 (gd rfl) rfl rfl ?_
    refine g_getI 9 (gd rfl) rfl rfl rfl (fun z3x6 e3x6 => ?_)
    have q3x6 : u_109_20 = z3x6 := (e_109_20).trans e3x6.symm
    subst q3x6
    refine g_cmp_ge 12 16 (gd rfl) rfl rfl (fun c3x9 => ?_) (fun c3x9 => ?_)
    · skip
      refine g_iconst 0 17 (gd rfl) rfl rfl ?_
      refine g_ireturn (gd rfl) rfl (nb01 (in_w 0 1 (in_c 0 rfl) rfl)) (hp3 _ _ ?_)
      show GG _ _ _ _ _ _ _ _ [.int (Int32.ofInt 0), .ref (A 109)] _ _ _
      refine g_callv (X := _) (As := [.int (Int32.ofInt 0)]) (r := []) (b := A 109) (q := 109) 9 (gd rfl) rfl rfl rfl rfl rfl (ww_o rfl) (Nat.le_of_ble_eq_true rfl) (mc := 0) (ms := 0) (Nat.zero_le _) (Nat.zero_le _) (P := fun v u => _) ?_ (fun e u h => h) (fun v u h => h)
      intro po6 xx6 hp6 hx6
      refine g_enter2 (k := 271) (N := 300) (by omega) rfl (Nat.le_of_ble_eq_true rfl) ?_
      refine g_aload_n 1 (gd rfl) rfl rfl ?_
      refine g_iload_n 2 (gd rfl) rfl rfl ?_
      refine g_iconst 1 3 (gd rfl) rfl rfl ?_
      refine g_callv (X := _) (As := [.int (Int32.ofInt 0), .int (Int32.ofInt 1)]) (r := []) (b := A 109) (q := 109) 6 (gd rfl) rfl rfl rfl rfl rfl (ww_o rfl) (Nat.le_of_ble_eq_true rfl) (mc := 0) (ms := 0) (Nat.zero_le _) (Nat.zero_le _) (P := fun v u => _) ?_ (fun e u h => h) (fun v u h => h)
      intro po6x3 xx6x3 hp6x3 hx6x3
      refine g_enter2 (k := 270) (N := 300) (by omega) rfl (Nat.le_of_ble_eq_true rfl) ?_
      refine g_aload_n 1 (gd rfl) rfl rfl ?_
      refine g_iload_n 2 (gd rfl) rfl rfl ?_
      refine g_if_ne 5 9 (gd rfl) rfl rfl (fun c6x3x2 => ?_) (fun c6x3x2 => ?_)
      · skip
        exact zn_ne c6x3x2 (in_c 0 rfl) rfl
      · skip
        refine g_iconst 1 6 (gd rfl) rfl rfl ?_
        refine g_goto 18 (gd rfl) rfl ?_
        refine g_putI 21 (gd rfl) rfl rfl rfl rfl ?_
        have hI6x3x18 := inv_sF (q := 109) (j := 0) hI rfl (in_w 0 2 (in_c 1 rfl) rfl)
        refine g_aload_n 22 (gd rfl) rfl rfl ?_
        refine g_getI 25 (gd rfl) rfl rfl rfl (fun z6x3x22 e6x3x22 => ?_)
        have q6x3x22 : (Int32.ofInt 1) = z6x3x22 := (sF_get).trans e6x3x22.symm
        subst q6x3x22
        refine g_if_le 28 32 (gd rfl) rfl rfl (fun c6x3x25 => ?_) (fun c6x3x25 => ?_)
        · skip
          exact zn_le c6x3x25 (in_c 1 rfl) rfl
        · skip
          refine g_iconst 1 29 (gd rfl) rfl rfl ?_
          refine g_goto 33 (gd rfl) rfl ?_
          refine g_ireturn (gd rfl) rfl (nb01 (in_w 0 1 (in_c 1 rfl) rfl)) (hp6x3 _ _ ?_)
          show GG _ _ _ _ _ _ _ _ [.int (Int32.ofInt 1)] _ _ _
          refine g_ireturn (gd rfl) rfl (nb01 (in_w 0 1 (in_c 1 rfl) rfl)) (hp6 _ _ ?_)
          show GG _ _ _ _ _ _ _ _ [.int (Int32.ofInt 1)] _ _ _
          refine g_if_eq 12 14 (gd rfl) rfl rfl (fun c9 => ?_) (fun c9 => ?_)
          · skip
            exact zn_eq c9 (in_c 1 rfl) rfl
          · skip
            refine g_iconst 0 13 (gd rfl) rfl rfl ?_
            exact g_ireturn (gd rfl) rfl rfl (hP _ _ ⟨(sF s 109 0 (Int32.ofInt 1)), hI6x3x18, (fr_sF rfl fr_rf), (Int32.ofInt 0), rfl, rfl, in_w 0 160 (in_c 0 rfl) rfl⟩)
    · skip
      have i3x9 := r_lt1 0 31 c3x9 i3x1 ro_109_20 rfl
      have i3x9a := r_lt2 1 32 c3x9 i3x1 ro_109_20 rfl
      refine g_iconst 1 13 (gd rfl) rfl rfl ?_
      refine g_goto 17 (gd rfl) rfl ?_
      refine g_ireturn (gd rfl) rfl (nb01 (in_w 0 1 (in_c 1 rfl) rfl)) (hp3 _ _ ?_)
      show GG _ _ _ _ _ _ _ _ [.int (Int32.ofInt 1), .ref (A 109)] _ _ _
      refine g_callv (X := _) (As := [.int (Int32.ofInt 1)]) (r := []) (b := A 109) (q := 109) 9 (gd rfl) rfl rfl rfl rfl rfl (ww_o rfl) (Nat.le_of_ble_eq_true rfl) (mc := 0) (ms := 0) (Nat.zero_le _) (Nat.zero_le _) (P := fun v u => _) ?_ (fun e u h => h) (fun v u h => h)
      intro po6 xx6 hp6 hx6
      refine g_enter2 (k := 271) (N := 300) (by omega) rfl (Nat.le_of_ble_eq_true rfl) ?_
      refine g_aload_n 1 (gd rfl) rfl rfl ?_
      refine g_iload_n 2 (gd rfl) rfl rfl ?_
      refine g_iconst 1 3 (gd rfl) rfl rfl ?_
      refine g_callv (X := _) (As := [.int (Int32.ofInt 1), .int (Int32.ofInt 1)]) (r := []) (b := A 109) (q := 109) 6 (gd rfl) rfl rfl rfl rfl rfl (ww_o rfl) (Nat.le_of_ble_eq_true rfl) (mc := 0) (ms := 0) (Nat.zero_le _) (Nat.zero_le _) (P := fun v u => _) ?_ (fun e u h => h) (fun v u h => h)
      intro po6x3 xx6x3 hp6x3 hx6x3
      refine g_enter2 (k := 270) (N := 300) (by omega) rfl (Nat.le_of_ble_eq_true rfl) ?_
      refine g_aload_n 1 (gd rfl) rfl rfl ?_
      refine g_iload_n 2 (gd rfl) rfl rfl ?_
      refine g_if_ne 5 9 (gd rfl) rfl rfl (fun c6x3x2 => ?_) (fun c6x3x2 => ?_)
      · skip
        refine g_iload_n 10 (gd rfl) rfl rfl ?_
        refine g_if_ne 13 17 (gd rfl) rfl rfl (fun c6x3x10 => ?_) (fun c6x3x10 => ?_)
        · skip
          refine g_iconst 0 18 (gd rfl) rfl rfl ?_
          refine g_putI 21 (gd rfl) rfl rfl rfl rfl ?_
          have hI6x3x18 := inv_sF (q := 109) (j := 0) hI rfl (in_w 0 2 (in_c 0 rfl) rfl)
          refine g_aload_n 22 (gd rfl) rfl rfl ?_
          refine g_getI 25 (gd rfl) rfl rfl rfl (fun z6x3x22 e6x3x22 => ?_)
          have q6x3x22 : (Int32.ofInt 0) = z6x3x22 := (sF_get).trans e6x3x22.symm
          subst q6x3x22
          refine g_if_le 28 32 (gd rfl) rfl rfl (fun c6x3x25 => ?_) (fun c6x3x25 => ?_)
          · skip
            refine g_iconst 0 33 (gd rfl) rfl rfl ?_
            refine g_ireturn (gd rfl) rfl (nb01 (in_w 0 1 (in_c 0 rfl) rfl)) (hp6x3 _ _ ?_)
            show GG _ _ _ _ _ _ _ _ [.int (Int32.ofInt 0)] _ _ _
            refine g_ireturn (gd rfl) rfl (nb01 (in_w 0 1 (in_c 0 rfl) rfl)) (hp6 _ _ ?_)
            show GG _ _ _ _ _ _ _ _ [.int (Int32.ofInt 0)] _ _ _
            refine g_if_eq 12 14 (gd rfl) rfl rfl (fun c9 => ?_) (fun c9 => ?_)
            · skip
              refine g_aload_n 15 (gd rfl) rfl rfl ?_
              refine g_getI 18 (gd rfl) rfl rfl rfl (fun z15 e15 => ?_)
              have q15 : u_109_20 = z15 := (sF_ne rfl (e_109_20)).trans e15.symm
              subst q15
              refine g_bipush 32 20 (gd rfl) rfl rfl ?_
              refine g_cmp_ne 23 27 (gd rfl) rfl rfl (fun c20 => ?_) (fun c20 => ?_)
              · skip
                have i20 := r_ne1 1 31 c20 i3x9a (in_c 32 rfl) rfl
                refine g_iconst 1 28 (gd rfl) rfl rfl ?_
                refine g_aload_n 29 (gd rfl) rfl rfl ?_
                refine g_getI 32 (gd rfl) rfl rfl rfl (fun z29 e29 => ?_)
                have q29 : u_109_20 = z29 := (sF_ne rfl (e_109_20)).trans e29.symm
                subst q29
                refine g_ishl 33 (gd rfl) rfl (fun z32 e32 => ?_)
                refine g_iconst 1 34 (gd rfl) rfl rfl ?_
                refine g_isub 35 (gd rfl) rfl (fun z34 e34 => ?_)
                refine g_istore_n 36 (gd rfl) rfl (Nat.le_of_ble_eq_true rfl) ?_
                refine g_iconst 0 37 (gd rfl) rfl rfl ?_
                refine g_istore_n 38 (gd rfl) rfl (Nat.le_of_ble_eq_true rfl) ?_
                refine g_iconst 0 39 (gd rfl) rfl rfl ?_
                refine g_istore 41 (gd rfl) rfl (Nat.le_of_ble_eq_true rfl) ?_
                have n41 : (x1).toInt < (u_109_20).toInt := by have a0 := i3x9; unfold In at a0; have a1 := i20; unfold In at a1; have a2 := (in_c 0 rfl); unfold In at a2; omega
                have n41a : 0 ≤ (x1).toInt := by have a0 := i3x9; unfold In at a0; have a1 := i20; unfold In at a1; have a2 := (in_c 0 rfl); unfold In at a2; omega
                have n41b : 161 ≤ ((Int32.ofInt 0)).toInt → ∀ j : Nat, (j : Int) < (u_109_20).toInt → bt z34 j = false := by first | exact fun h => g58_0 h c60 | (intro h; exfalso; have h0 : (Int32.ofInt 0).toInt = 0 := rfl; omega)
                have m41 : 200 - ((Int32.ofInt 0)).toInt < ((201 : Nat) : Int) := by have a0 := i3x9; unfold In at a0; have a1 := i20; unfold In at a1; have a2 := (in_c 0 rfl); unfold In at a2; omega
                exact gg_w (by omega) (gg_f (gf_cons rfl (gf_cons rfl (gf_cons rfl (gf_cons rfl (gf_cons rfl gf_nil))))) (ct41 201 (sF s 109 0 (Int32.ofInt 0)) z34 (Int32.ofInt 0) (Int32.ofInt 0) hI6x3x18 (fr_sF rfl fr_rf) (in_w 0 31 i3x9 rfl) (in_w 0 161 (in_c 0 rfl) rfl) (in_w 0 160 (in_c 0 rfl) rfl) n41 n41a n41b m41))
              · skip
                have i20 := r_eq1 32 32 c20 i3x9a (in_c 32 rfl) rfl
                refine g_iconst (-1) 24 (gd rfl) rfl rfl ?_
                refine g_goto 35 (gd rfl) rfl ?_
                refine g_istore_n 36 (gd rfl) rfl (Nat.le_of_ble_eq_true rfl) ?_
                refine g_iconst 0 37 (gd rfl) rfl rfl ?_
                refine g_istore_n 38 (gd rfl) rfl (Nat.le_of_ble_eq_true rfl) ?_
                refine g_iconst 0 39 (gd rfl) rfl rfl ?_
                refine g_istore 41 (gd rfl) rfl (Nat.le_of_ble_eq_true rfl) ?_
                have n41 : (x1).toInt < (u_109_20).toInt := by have a0 := i3x9; unfold In at a0; have a1 := i20; unfold In at a1; have a2 := (in_c 0 rfl); unfold In at a2; have a3 := (in_c (-1) rfl); unfold In at a3; omega
                have n41a : 0 ≤ (x1).toInt := by have a0 := i3x9; unfold In at a0; have a1 := i20; unfold In at a1; have a2 := (in_c 0 rfl); unfold In at a2; have a3 := (in_c (-1) rfl); unfold In at a3; omega
                have n41b : 161 ≤ ((Int32.ofInt 0)).toInt → ∀ j : Nat, (j : Int) < (u_109_20).toInt → bt (Int32.ofInt (-1)) j = false := by first | exact fun h => g58_0 h c60 | (intro h; exfalso; have h0 : (Int32.ofInt 0).toInt = 0 := rfl; omega)
                have m41 : 200 - ((Int32.ofInt 0)).toInt < ((201 : Nat) : Int) := by have a0 := i3x9; unfold In at a0; have a1 := i20; unfold In at a1; have a2 := (in_c 0 rfl); unfold In at a2; have a3 := (in_c (-1) rfl); unfold In at a3; omega
                exact gg_w (by omega) (gg_f (gf_cons rfl (gf_cons rfl (gf_cons rfl (gf_cons rfl (gf_cons rfl gf_nil))))) (ct41 201 (sF s 109 0 (Int32.ofInt 0)) (Int32.ofInt (-1)) (Int32.ofInt 0) (Int32.ofInt 0) hI6x3x18 (fr_sF rfl fr_rf) (in_w 0 31 i3x9 rfl) (in_w 0 161 (in_c 0 rfl) rfl) (in_w 0 160 (in_c 0 rfl) rfl) n41 n41a n41b m41))
            · skip
              exact zn_ne c9 (in_c 0 rfl) rfl
          · skip
            exact zn_gt c6x3x25 (in_c 0 rfl) rfl
        · skip
          exact zn_eq c6x3x10 (in_c 1 rfl) rfl
      · skip
        exact zn_eq c6x3x2 (in_c 1 rfl) rfl

def fm_335 : FM := ([138], [], [], [])
/-- GraphHouseModel.findBeside -/
theorem k_335 {Z : AmZ} {A : Nat → Nat} {s : GS} {ex : va_W} {d : Nat} {X : AmX}  (hd : 3 ≤ d) (hI : Inv s)  : GC Z d 335 [.ref (A 109)] (WW Z A s ++ ex) 0 0 (fun v u => ∃ t : GS, Inv t ∧ Fr fm_335 s t ∧ v = none ∧ u = WW Z A t ++ ex ∧ (BSD t)) X := by
  intro post xp hP hX
  obtain ⟨u_109_19, e_109_19⟩ : ∃ w, w = s.2.2.1 109 19 := ⟨_, rfl⟩
  have ro_109_19 := inv_F hI 0 160 rfl e_109_19
  obtain ⟨u_109_20, e_109_20⟩ : ∃ w, w = s.2.2.1 109 20 := ⟨_, rfl⟩
  have ro_109_20 := inv_F hI 0 32 rfl e_109_20
  have ct25 : ∀ (k25 : Nat) (sc25 : GS) (y25_1 : Int32), Inv sc25 → Fr fm_335 s sc25 → (In y25_1 0 160) → (BSF (sc25.1 138) u_109_20.toInt) → 160 - (y25_1).toInt < (k25 : Int) → GG Z (d - 1) 335 post (gx xp) (1 + k25 * 900) 25 (fun j => xlook j [(0, .ref (A 109)), (1, .int y25_1)]) [] (WW Z A sc25 ++ ex) 0 0 := by
    intro k25
    induction k25 with
    | zero => intro sc25 y25_1 hIc25 hFc25 j25_1 g25_0 mm25; exact m_no mm25 j25_1 rfl
    | succ k25 ih25 =>
      intro sc25 y25_1 hIc25 hFc25 j25_1 g25_0 mm25
      refine gg_w (M := 1 + k25 * 900 + 900) (by omega) ?_
      refine g_iload_n 26 (gd rfl) rfl rfl ?_
      refine g_sipush 160 29 (gd rfl) rfl rfl ?_
      refine g_cmp_ge 32 110 (gd rfl) rfl rfl (fun c29 => ?_) (fun c29 => ?_)
      · skip
        have i29 := r_le2 160 160 c29 (in_c 160 rfl) j25_1 rfl
        have n110 : BSD sc25 := by have h := g25_0; unfold BSD; rw [hFc25.2.2.1 109 20 rfl, ← e_109_20]; exact h
        exact g_return (gd rfl) rfl (hP _ _ ⟨sc25, hIc25, hFc25, rfl, rfl, n110⟩)
      · skip
        have i29 := r_lt1 0 159 c29 j25_1 (in_c 160 rfl) rfl
        refine g_aload_n 33 (gd rfl) rfl rfl ?_
        refine g_iload_n 34 (gd rfl) rfl rfl ?_
        refine g_callv (X := _) (As := [.int y25_1]) (r := []) (b := A 109) (q := 109) 37 (gd rfl) rfl rfl rfl rfl rfl (ww_o rfl) (Nat.le_of_ble_eq_true rfl) (mc := 0) (ms := 0) (Nat.zero_le _) (Nat.zero_le _) (P := fun v u => _) ?_ (fun e u h => h) (fun v u h => h)
        intro po34 xx34 hp34 hx34
        refine g_enter2 (k := 288) (N := 300) (by omega) rfl (Nat.le_of_ble_eq_true rfl) ?_
        refine g_aload_n 1 (gd rfl) rfl rfl ?_
        refine g_getA (q2 := 112) 4 (gd rfl) rfl rfl rfl rfl ?_
        refine g_aload_n 5 (gd rfl) rfl rfl ?_
        refine g_getI 8 (gd rfl) rfl rfl rfl (fun z34x5 e34x5 => ?_)
        have q34x5 : u_109_19 = z34x5 := (fr_F e_109_19 hFc25 rfl).trans e34x5.symm
        subst q34x5
        refine g_iload_n 9 (gd rfl) rfl rfl ?_
        refine g_iadd 10 (gd rfl) rfl (fun z34x9 e34x9 => ?_)
        have i34x9 := in_add 0 319 e34x9 ro_109_19 i29 rfl rfl
        refine g_baload 11 (gd rfl) rfl (n := 480) rfl (in_ix i34x9 rfl) (fun z34x10 e34x10 => ?_)
        have i34x10 := inv_I hIc25 (n := 480) (t := 3) 0 1 rfl (in_ix i34x9 rfl) rfl e34x10
        refine g_if_eq 14 43 (gd rfl) rfl rfl (fun c34x11 => ?_) (fun c34x11 => ?_)
        · skip
          have i34x11 := z_eq 0 0 c34x11 i34x10 rfl
          refine g_iconst 0 44 (gd rfl) rfl rfl ?_
          refine g_ireturn (gd rfl) rfl (nb01 (in_w 0 1 (in_c 0 rfl) rfl)) (hp34 _ _ ?_)
          show GG _ _ _ _ _ _ _ _ [.int (Int32.ofInt 0)] _ _ _
          refine g_if_eq 40 104 (gd rfl) rfl rfl (fun c37 => ?_) (fun c37 => ?_)
          · skip
            refine g_iinc 107 (gd rfl) rfl rfl (Nat.le_of_ble_eq_true rfl) (fun z104 e104 => ?_)
            have i104 := in_add 1 160 e104 i29 (in_c 1 rfl) rfl rfl
            refine g_goto 25 (gd rfl) rfl ?_
            have n25 : BSF (sc25.1 138) u_109_20.toInt := by exact g25_0
            exact gg_w (by omega) (gg_f (gf_cons rfl (gf_cons rfl gf_nil)) (ih25 sc25 z104 hIc25 hFc25 (in_w 0 160 i104 rfl) n25 (m_up mm25 (t_add e104 i29 (in_c 1 rfl) rfl) (in_w 1 1 (in_c 1 rfl) rfl))))
          · skip
            exact zn_ne c37 (in_c 0 rfl) rfl
        · skip
          have i34x11 := z_ne 1 1 c34x11 i34x10 rfl
          refine g_aload_n 15 (gd rfl) rfl rfl ?_
          refine g_getA (q2 := 113) 18 (gd rfl) rfl rfl rfl rfl ?_
          refine g_aload_n 19 (gd rfl) rfl rfl ?_
          refine g_getI 22 (gd rfl) rfl rfl rfl (fun z34x19 e34x19 => ?_)
          have q34x19 : u_109_19 = z34x19 := (fr_F e_109_19 hFc25 rfl).trans e34x19.symm
          subst q34x19
          refine g_iload_n 23 (gd rfl) rfl rfl ?_
          refine g_iadd 24 (gd rfl) rfl (fun z34x23 e34x23 => ?_)
          have i34x23 := in_add 0 319 e34x23 ro_109_19 i29 rfl rfl
          refine g_iaload 25 (gd rfl) rfl (n := 480) rfl (in_ix i34x23 rfl) (fun z34x24 e34x24 => ?_)
          have i34x24 := inv_I hIc25 (n := 480) (t := 0) 0 31 rfl (in_ix i34x23 rfl) rfl e34x24
          refine g_aload_n 26 (gd rfl) rfl rfl ?_
          refine g_getA (q2 := 114) 29 (gd rfl) rfl rfl rfl rfl ?_
          refine g_aload_n 30 (gd rfl) rfl rfl ?_
          refine g_getI 33 (gd rfl) rfl rfl rfl (fun z34x30 e34x30 => ?_)
          have q34x30 : u_109_19 = z34x30 := (fr_F e_109_19 hFc25 rfl).trans e34x30.symm
          subst q34x30
          refine g_iload_n 34 (gd rfl) rfl rfl ?_
          refine g_iadd 35 (gd rfl) rfl (fun z34x34 e34x34 => ?_)
          have i34x34 := in_add 0 319 e34x34 ro_109_19 i29 rfl rfl
          refine g_iaload 36 (gd rfl) rfl (n := 480) rfl (in_ix i34x34 rfl) (fun z34x35 e34x35 => ?_)
          have i34x35 := inv_I hIc25 (n := 480) (t := 0) 0 31 rfl (in_ix i34x34 rfl) rfl e34x35
          refine g_cmp_eq 39 43 (gd rfl) rfl rfl (fun c34x36 => ?_) (fun c34x36 => ?_)
          · skip
            refine g_iconst 0 44 (gd rfl) rfl rfl ?_
            refine g_ireturn (gd rfl) rfl (nb01 (in_w 0 1 (in_c 0 rfl) rfl)) (hp34 _ _ ?_)
            show GG _ _ _ _ _ _ _ _ [.int (Int32.ofInt 0)] _ _ _
            refine g_if_eq 40 104 (gd rfl) rfl rfl (fun c37 => ?_) (fun c37 => ?_)
            · skip
              refine g_iinc 107 (gd rfl) rfl rfl (Nat.le_of_ble_eq_true rfl) (fun z104 e104 => ?_)
              have i104 := in_add 1 160 e104 i29 (in_c 1 rfl) rfl rfl
              refine g_goto 25 (gd rfl) rfl ?_
              have n25 : BSF (sc25.1 138) u_109_20.toInt := by exact g25_0
              exact gg_w (by omega) (gg_f (gf_cons rfl (gf_cons rfl gf_nil)) (ih25 sc25 z104 hIc25 hFc25 (in_w 0 160 i104 rfl) n25 (m_up mm25 (t_add e104 i29 (in_c 1 rfl) rfl) (in_w 1 1 (in_c 1 rfl) rfl))))
            · skip
              exact zn_ne c37 (in_c 0 rfl) rfl
          · skip
            refine g_iconst 1 40 (gd rfl) rfl rfl ?_
            refine g_goto 44 (gd rfl) rfl ?_
            refine g_ireturn (gd rfl) rfl (nb01 (in_w 0 1 (in_c 1 rfl) rfl)) (hp34 _ _ ?_)
            show GG _ _ _ _ _ _ _ _ [.int (Int32.ofInt 1)] _ _ _
            refine g_if_eq 40 104 (gd rfl) rfl rfl (fun c37 => ?_) (fun c37 => ?_)
            · skip
              exact zn_eq c37 (in_c 1 rfl) rfl
            · skip
              refine g_aload_n 41 (gd rfl) rfl rfl ?_
              have hk := ke_n hIc25 (i := z34x9.toNatClampNeg) (by rw [← (show u_109_19 = sc25.2.2.1 109 19 from fr_F e_109_19 hFc25 rfl)]; show _ ≤ ((z34x9.toInt.toNat : Nat) : Int); have a0 := ro_109_20; unfold In at a0; have a1 := ro_109_19; unfold In at a1; have a2 := i29; unfold In at a2; have a3 := i34x34; unfold In at a3; have a4 := t_add e34x34 ro_109_19 i29 rfl; have a5 := i34x23; unfold In at a5; have a6 := t_add e34x23 ro_109_19 i29 rfl; have a7 := i34x9; unfold In at a7; have a8 := t_add e34x9 ro_109_19 i29 rfl; omega) (by rw [← (show u_109_19 = sc25.2.2.1 109 19 from fr_F e_109_19 hFc25 rfl)]; show ((z34x9.toInt.toNat : Nat) : Int) < _; have a0 := ro_109_20; unfold In at a0; have a1 := ro_109_19; unfold In at a1; have a2 := i29; unfold In at a2; have a3 := i34x34; unfold In at a3; have a4 := t_add e34x34 ro_109_19 i29 rfl; have a5 := i34x23; unfold In at a5; have a6 := t_add e34x23 ro_109_19 i29 rfl; have a7 := i34x9; unfold In at a7; have a8 := t_add e34x9 ro_109_19 i29 rfl; omega) (by rw [← e34x10]; exact c34x11); rw [hFc25.2.2.1 109 20 rfl, ← e_109_20] at hk
              refine g_getA (q2 := 138) 44 (gd rfl) rfl rfl rfl rfl ?_
              refine g_aload_n 45 (gd rfl) rfl rfl ?_
              refine g_getA (q2 := 113) 48 (gd rfl) rfl rfl rfl rfl ?_
              refine g_aload_n 49 (gd rfl) rfl rfl ?_
              refine g_getI 52 (gd rfl) rfl rfl rfl (fun z49 e49 => ?_)
              have q49 : u_109_19 = z49 := (fr_F e_109_19 hFc25 rfl).trans e49.symm
              subst q49
              refine g_iload_n 53 (gd rfl) rfl rfl ?_
              refine g_iadd 54 (gd rfl) rfl (fun z53 e53 => ?_)
              have i53 := in_add 0 319 e53 ro_109_19 i29 rfl rfl
              refine g_iaload 55 (gd rfl) rfl (n := 480) rfl (in_ix i53 rfl) (fun z54 e54 => ?_)
              have i54 := inv_I hIc25 (n := 480) (t := 0) 0 31 rfl (in_ix i53 rfl) rfl e54
              refine g_dup2 56 (gd rfl) rfl rfl rfl ?_
              refine g_iaload 57 (gd rfl) rfl (n := 32) rfl (in_ix i54 rfl) (fun z56 e56 => ?_)
              refine g_iconst 1 58 (gd rfl) rfl rfl ?_
              refine g_aload_n 59 (gd rfl) rfl rfl ?_
              refine g_getA (q2 := 114) 62 (gd rfl) rfl rfl rfl rfl ?_
              refine g_aload_n 63 (gd rfl) rfl rfl ?_
              refine g_getI 66 (gd rfl) rfl rfl rfl (fun z63 e63 => ?_)
              have q63 : u_109_19 = z63 := (fr_F e_109_19 hFc25 rfl).trans e63.symm
              subst q63
              refine g_iload_n 67 (gd rfl) rfl rfl ?_
              refine g_iadd 68 (gd rfl) rfl (fun z67 e67 => ?_)
              have i67 := in_add 0 319 e67 ro_109_19 i29 rfl rfl
              refine g_iaload 69 (gd rfl) rfl (n := 480) rfl (in_ix i67 rfl) (fun z68 e68 => ?_)
              have i68 := inv_I hIc25 (n := 480) (t := 0) 0 31 rfl (in_ix i67 rfl) rfl e68
              refine g_ishl 70 (gd rfl) rfl (fun z69 e69 => ?_)
              refine g_ior 71 (gd rfl) rfl (fun z70 e70 => ?_)
              refine g_iastore 72 (gd rfl) rfl (n := 32) rfl (in_ix i54 rfl) ?_
              have hI71 := inv_sI (q := 138) (j := z54.toNatClampNeg) hIc25 rfl (in_w (-2147483648) 2147483647 (i_rng z70) rfl)
              refine g_aload_n 73 (gd rfl) rfl rfl ?_
              refine g_getA (q2 := 138) 76 (gd rfl) rfl rfl rfl rfl ?_
              refine g_aload_n 77 (gd rfl) rfl rfl ?_
              refine g_getA (q2 := 114) 80 (gd rfl) rfl rfl rfl rfl ?_
              refine g_aload_n 81 (gd rfl) rfl rfl ?_
              refine g_getI 84 (gd rfl) rfl rfl rfl (fun z81 e81 => ?_)
              have q81 : u_109_19 = z81 := (sI_F (fr_F e_109_19 hFc25 rfl)).trans e81.symm
              subst q81
              refine g_iload_n 85 (gd rfl) rfl rfl ?_
              refine g_iadd 86 (gd rfl) rfl (fun z85 e85 => ?_)
              have i85 := in_add 0 319 e85 ro_109_19 i29 rfl rfl
              refine g_iaload 87 (gd rfl) rfl (n := 480) rfl (in_ix i85 rfl) (fun z86 e86 => ?_)
              have i86 := inv_I hI71 (n := 480) (t := 0) 0 31 rfl (in_ix i85 rfl) rfl e86
              refine g_dup2 88 (gd rfl) rfl rfl rfl ?_
              refine g_iaload 89 (gd rfl) rfl (n := 32) rfl (in_ix i86 rfl) (fun z88 e88 => ?_)
              refine g_iconst 1 90 (gd rfl) rfl rfl ?_
              refine g_aload_n 91 (gd rfl) rfl rfl ?_
              refine g_getA (q2 := 113) 94 (gd rfl) rfl rfl rfl rfl ?_
              refine g_aload_n 95 (gd rfl) rfl rfl ?_
              refine g_getI 98 (gd rfl) rfl rfl rfl (fun z95 e95 => ?_)
              have q95 : u_109_19 = z95 := (sI_F (fr_F e_109_19 hFc25 rfl)).trans e95.symm
              subst q95
              refine g_iload_n 99 (gd rfl) rfl rfl ?_
              refine g_iadd 100 (gd rfl) rfl (fun z99 e99 => ?_)
              have i99 := in_add 0 319 e99 ro_109_19 i29 rfl rfl
              refine g_iaload 101 (gd rfl) rfl (n := 480) rfl (in_ix i99 rfl) (fun z100 e100 => ?_)
              have i100 := inv_I hI71 (n := 480) (t := 0) 0 31 rfl (in_ix i99 rfl) rfl e100
              refine g_ishl 102 (gd rfl) rfl (fun z101 e101 => ?_)
              refine g_ior 103 (gd rfl) rfl (fun z102 e102 => ?_)
              refine g_iastore 104 (gd rfl) rfl (n := 32) rfl (in_ix i86 rfl) ?_
              have hI103 := inv_sI (q := 138) (j := z86.toNatClampNeg) hI71 rfl (in_w (-2147483648) 2147483647 (i_rng z102) rfl)
              refine g_iinc 107 (gd rfl) rfl rfl (Nat.le_of_ble_eq_true rfl) (fun z104 e104 => ?_)
              have i104 := in_add 1 160 e104 i29 (in_c 1 rfl) rfl rfl
              refine g_goto 25 (gd rfl) rfl ?_
              have n25 : BSF ((sI (sI sc25 138 z54.toNatClampNeg z70) 138 z86.toNatClampNeg z102).1 138) u_109_20.toInt := by (have q86 : z86 = z68 := (by rw [e86, sI_p rfl, e85.trans e67.symm]; exact e68.symm); have q100 : z100 = z54 := (by rw [e100, sI_p rfl, e99.trans e53.symm]; exact e54.symm); subst q86; subst q100; rw [sI_q, sI_q]; exact bsf_s g25_0 i54 i68 (by rw [e54, e53.trans e34x9.symm]; exact hk.1) (by rw [e68, e67.trans e34x9.symm]; exact hk.2) (by rw [e54, e68, e53.trans e34x23.symm, e67.trans e34x34.symm, ← e34x24, ← e34x35]; exact c34x36) e56 e69 e70 (by rw [e88, sI_q]) e101 e102)
              exact gg_w (by omega) (gg_f (gf_cons rfl (gf_cons rfl gf_nil)) (ih25 (sI (sI sc25 138 z54.toNatClampNeg z70) 138 z86.toNatClampNeg z102) z104 hI103 (fr_sI rfl (fr_sI rfl hFc25)) (in_w 0 160 i104 rfl) n25 (m_up mm25 (t_add e104 i29 (in_c 1 rfl) rfl) (in_w 1 1 (in_c 1 rfl) rfl))))
  have ct2 : ∀ (k2 : Nat) (sc2 : GS) (y2_1 : Int32), Inv sc2 → Fr fm_335 s sc2 → (In y2_1 0 32) → (∀ k : Nat, (k : Int) < (y2_1).toInt → sc2.1 138 k = Int32.ofInt 0) → 32 - (y2_1).toInt < (k2 : Int) → GG Z (d - 1) 335 post (gx xp) (144902 + k2 * 900) 2 (fun j => xlook j [(0, .ref (A 109)), (1, .int y2_1)]) [] (WW Z A sc2 ++ ex) 0 0 := by
    intro k2
    induction k2 with
    | zero => intro sc2 y2_1 hIc2 hFc2 j2_1 g2_0 mm2; exact m_no mm2 j2_1 rfl
    | succ k2 ih2 =>
      intro sc2 y2_1 hIc2 hFc2 j2_1 g2_0 mm2
      refine gg_w (M := 144902 + k2 * 900 + 900) (by omega) ?_
      refine g_iload_n 3 (gd rfl) rfl rfl ?_
      refine g_aload_n 4 (gd rfl) rfl rfl ?_
      refine g_getI 7 (gd rfl) rfl rfl rfl (fun z4 e4 => ?_)
      have q4 : u_109_20 = z4 := (fr_F e_109_20 hFc2 rfl).trans e4.symm
      subst q4
      refine g_cmp_ge 10 23 (gd rfl) rfl rfl (fun c7 => ?_) (fun c7 => ?_)
      · skip
        refine g_iconst 0 24 (gd rfl) rfl rfl ?_
        refine g_istore_n 25 (gd rfl) rfl (Nat.le_of_ble_eq_true rfl) ?_
        have n25 : BSF (sc2.1 138) u_109_20.toInt := by (intro a b ha hb; exfalso; rw [g2_0 a (by have a0 := ro_109_20; unfold In at a0; have a1 := ro_109_19; unfold In at a1; have a2 := j2_1; unfold In at a2; have a3 := (in_c 0 rfl); unfold In at a3; omega), show (Int32.ofInt 0) = (0 : Int32) from rfl, bt_z] at hb; cases hb)
        exact gg_w (by omega) (gg_f (gf_cons rfl (gf_cons rfl gf_nil)) (ct25 161 sc2 (Int32.ofInt 0) hIc2 hFc2 (in_w 0 160 (in_c 0 rfl) rfl) n25 (m_in 161 (in_w 0 160 (in_c 0 rfl) rfl) rfl)))
      · skip
        have i7 := r_lt1 0 31 c7 j2_1 ro_109_20 rfl
        have i7a := r_lt2 1 32 c7 j2_1 ro_109_20 rfl
        refine g_aload_n 11 (gd rfl) rfl rfl ?_
        refine g_getA (q2 := 138) 14 (gd rfl) rfl rfl rfl rfl ?_
        refine g_iload_n 15 (gd rfl) rfl rfl ?_
        refine g_iconst 0 16 (gd rfl) rfl rfl ?_
        refine g_iastore 17 (gd rfl) rfl (n := 32) rfl (in_ix i7 rfl) ?_
        have hI16 := inv_sI (q := 138) (j := y2_1.toNatClampNeg) hIc2 rfl (in_w (-2147483648) 2147483647 (in_c 0 rfl) rfl)
        refine g_iinc 20 (gd rfl) rfl rfl (Nat.le_of_ble_eq_true rfl) (fun z17 e17 => ?_)
        have i17 := in_add 1 32 e17 i7 (in_c 1 rfl) rfl rfl
        refine g_goto 2 (gd rfl) rfl ?_
        have n2 : ∀ k : Nat, (k : Int) < (z17).toInt → (sI sc2 138 y2_1.toNatClampNeg (Int32.ofInt 0)).1 138 k = Int32.ofInt 0 := by (intro k hk; rw [sI_q]; have e1 : y2_1.toNatClampNeg = y2_1.toInt.toNat := rfl; by_cases c : k = y2_1.toNatClampNeg; (rw [c, up_e]); (rw [up_n c]; exact g2_0 k (by have a0 := i7a; unfold In at a0; have a1 := ro_109_19; unfold In at a1; have a2 := i7; unfold In at a2; have a3 := i17; unfold In at a3; have a4 := t_add e17 i7 (in_c 1 rfl) rfl; have a5 := (in_c 1 rfl); unfold In at a5; omega)))
        exact gg_w (by omega) (gg_f (gf_cons rfl (gf_cons rfl gf_nil)) (ih2 (sI sc2 138 y2_1.toNatClampNeg (Int32.ofInt 0)) z17 hI16 (fr_sI rfl hFc2) (in_w 0 32 i17 rfl) n2 (m_up mm2 (t_add e17 i7 (in_c 1 rfl) rfl) (in_w 1 1 (in_c 1 rfl) rfl))))
  refine g_enter2 (k := 335) (N := 175502) (by omega) rfl (Nat.le_of_ble_eq_true rfl) ?_
  refine g_iconst 0 1 (gd rfl) rfl rfl ?_
  refine g_istore_n 2 (gd rfl) rfl (Nat.le_of_ble_eq_true rfl) ?_
  have n2 : ∀ k : Nat, (k : Int) < ((Int32.ofInt 0)).toInt → s.1 138 k = Int32.ofInt 0 := by (intro k hk; exfalso; have h0 : (Int32.ofInt 0).toInt = 0 := rfl; omega)
  exact gg_w (by omega) (gg_f (gf_cons rfl (gf_cons rfl gf_nil)) (ct2 33 s (Int32.ofInt 0) hI fr_rf (in_w 0 32 (in_c 0 rfl) rfl) n2 (m_in 33 (in_w 0 32 (in_c 0 rfl) rfl) rfl)))

/-- GraphHouseModel.count -/
theorem k_336 {Z : AmZ} {A : Nat → Nat} {s : GS} {ex : va_W} {d : Nat} {X : AmX} {x0 : Int32} (hd : 1 ≤ d) (hI : Inv s)  : GC Z d 336 [.int x0] (WW Z A s ++ ex) 0 0 (fun v u => ∃ z : Int32, v = some (.int z) ∧ u = WW Z A s ++ ex ∧ In z 0 32 ∧ ((z).toInt = (cb (x0) : Int))) X := by
  intro post xp hP hX
  have ct4 : ∀ (k4 : Nat) (y4_1 : Int32) (y4_2 : Int32), (In y4_1 0 32) → (In y4_2 0 32) → ((y4_1).toInt ≤ (y4_2).toInt) → ((y4_1).toInt = (cbf (bt (x0)) (y4_2).toNatClampNeg : Int)) → 32 - (y4_2).toInt < (k4 : Int) → GG Z (d - 1) 336 post (gx xp) (1 + k4 * 900) 4 (fun j => xlook j [(0, .int x0), (1, .int y4_1), (2, .int y4_2)]) [] (WW Z A s ++ ex) 0 0 := by
    intro k4
    induction k4 with
    | zero => intro y4_1 y4_2 j4_1 j4_2 n4_0 g4_0 mm4; exact m_no mm4 j4_2 rfl
    | succ k4 ih4 =>
      intro y4_1 y4_2 j4_1 j4_2 n4_0 g4_0 mm4
      refine gg_w (M := 1 + k4 * 900 + 900) (by omega) ?_
      refine g_iload_n 5 (gd rfl) rfl rfl ?_
      refine g_bipush 32 7 (gd rfl) rfl rfl ?_
      refine g_cmp_ge 10 24 (gd rfl) rfl rfl (fun c7 => ?_) (fun c7 => ?_)
      · skip
        have i7 := r_le2 32 32 c7 (in_c 32 rfl) j4_2 rfl
        refine g_iload_n 25 (gd rfl) rfl rfl ?_
        have n25 : (y4_1).toInt = (cb (x0) : Int) := by have h := g4_0; rw [show y4_2.toNatClampNeg = 32 from (by show y4_2.toInt.toNat = 32; have a0 := i7; unfold In at a0; have a1 := j4_1; unfold In at a1; omega)] at h; exact h
        exact g_ireturn (gd rfl) rfl rfl (hP _ _ ⟨y4_1, rfl, rfl, in_w 0 32 j4_1 rfl, n25⟩)
      · skip
        have i7 := r_lt1 0 31 c7 j4_2 (in_c 32 rfl) rfl
        refine g_iload_n 11 (gd rfl) rfl rfl ?_
        refine g_iload_n 12 (gd rfl) rfl rfl ?_
        refine g_iload_n 13 (gd rfl) rfl rfl ?_
        refine g_ishr 14 (gd rfl) rfl (fun z13 e13 => ?_)
        refine g_iconst 1 15 (gd rfl) rfl rfl ?_
        refine g_iand 16 (gd rfl) rfl (fun z15 e15 => ?_)
        have i15 := in_and2 e15 (in_c 1 rfl) rfl
        refine g_iadd 17 (gd rfl) rfl (fun z16 e16 => ?_)
        have i16 := in_add 0 33 e16 j4_1 i15 rfl rfl
        refine g_istore_n 18 (gd rfl) rfl (Nat.le_of_ble_eq_true rfl) ?_
        refine g_iinc 21 (gd rfl) rfl rfl (Nat.le_of_ble_eq_true rfl) (fun z18 e18 => ?_)
        have i18 := in_add 1 32 e18 i7 (in_c 1 rfl) rfl rfl
        refine g_goto 4 (gd rfl) rfl ?_
        have i4 : In z16 0 32 := by exact ⟨by have a0 := i7; unfold In at a0; have a1 := j4_1; unfold In at a1; have a2 := i18; unfold In at a2; have a3 := t_add e18 i7 (in_c 1 rfl) rfl; have a4 := (in_c 1 rfl); unfold In at a4; have a5 := i16; unfold In at a5; have a6 := t_add e16 j4_1 i15 rfl; have a7 := i15; unfold In at a7; omega, by have a0 := i7; unfold In at a0; have a1 := j4_1; unfold In at a1; have a2 := i18; unfold In at a2; have a3 := t_add e18 i7 (in_c 1 rfl) rfl; have a4 := (in_c 1 rfl); unfold In at a4; have a5 := i16; unfold In at a5; have a6 := t_add e16 j4_1 i15 rfl; have a7 := i15; unfold In at a7; omega⟩
        have n4 : (z16).toInt ≤ (z18).toInt := by have a0 := i7; unfold In at a0; have a1 := j4_1; unfold In at a1; have a2 := i18; unfold In at a2; have a3 := t_add e18 i7 (in_c 1 rfl) rfl; have a4 := (in_c 1 rfl); unfold In at a4; have a5 := i4; unfold In at a5; have a6 := t_add e16 j4_1 i15 rfl; have a7 := i15; unfold In at a7; omega
        have n4a : (z16).toInt = (cbf (bt (x0)) (z18).toNatClampNeg : Int) := by rw [show z18.toNatClampNeg = y4_2.toNatClampNeg + 1 from (by show z18.toInt.toNat = y4_2.toInt.toNat + 1; have a0 := i7; unfold In at a0; have a1 := j4_1; unfold In at a1; have a2 := i18; unfold In at a2; have a3 := t_add e18 i7 (in_c 1 rfl) rfl; have a4 := (in_c 1 rfl); unfold In at a4; have a5 := i4; unfold In at a5; have a6 := t_add e16 j4_1 i15 rfl; have a7 := i15; unfold In at a7; omega), cbf_s, ← g4_0, show z16.toInt = y4_1.toInt + z15.toInt from (by have a0 := i7; unfold In at a0; have a1 := j4_1; unfold In at a1; have a2 := i18; unfold In at a2; have a3 := t_add e18 i7 (in_c 1 rfl) rfl; have a4 := (in_c 1 rfl); unfold In at a4; have a5 := i4; unfold In at a5; have a6 := t_add e16 j4_1 i15 rfl; have a7 := i15; unfold In at a7; omega), bt_ask e13 e15 i7]
        exact gg_w (by omega) (gg_f (gf_cons rfl (gf_cons rfl (gf_cons rfl gf_nil))) (ih4  z16 z18  i4 (in_w 0 32 i18 rfl) n4 n4a (m_up mm4 (t_add e18 i7 (in_c 1 rfl) rfl) (in_w 1 1 (in_c 1 rfl) rfl))))
  refine g_enter2 (k := 336) (N := 30601) (by omega) rfl (Nat.le_of_ble_eq_true rfl) ?_
  refine g_iconst 0 1 (gd rfl) rfl rfl ?_
  refine g_istore_n 2 (gd rfl) rfl (Nat.le_of_ble_eq_true rfl) ?_
  refine g_iconst 0 3 (gd rfl) rfl rfl ?_
  refine g_istore_n 4 (gd rfl) rfl (Nat.le_of_ble_eq_true rfl) ?_
  have n4 : ((Int32.ofInt 0)).toInt ≤ ((Int32.ofInt 0)).toInt := by have a0 := (in_c 0 rfl); unfold In at a0; omega
  have n4a : ((Int32.ofInt 0)).toInt = (cbf (bt (x0)) ((Int32.ofInt 0)).toNatClampNeg : Int) := by rfl
  exact gg_w (by omega) (gg_f (gf_cons rfl (gf_cons rfl (gf_cons rfl gf_nil))) (ct4 33  (Int32.ofInt 0) (Int32.ofInt 0)  (in_w 0 32 (in_c 0 rfl) rfl) (in_w 0 32 (in_c 0 rfl) rfl) n4 n4a (m_in 33 (in_w 0 32 (in_c 0 rfl) rfl) rfl)))

def fm_337 : FM := ([138, 139, 140], [], [], [])
/-- GraphHouseModel.findClique -/
theorem k_337 {Z : AmZ} {A : Nat → Nat} {s : GS} {ex : va_W} {d : Nat} {X : AmX}  (hd : 4 ≤ d) (hI : Inv s)  : GC Z d 337 [.ref (A 109)] (WW Z A s ++ ex) 0 0 (fun v u => ∃ t : GS, Inv t ∧ Fr fm_337 s t ∧ ∃ z : Int32, v = some (.int z) ∧ u = WW Z A t ++ ex ∧ In z (-2147483648) 2147483647) X := by
  intro post xp hP hX
  obtain ⟨u_109_20, e_109_20⟩ : ∃ w, w = s.2.2.1 109 20 := ⟨_, rfl⟩
  have ro_109_20 := inv_F hI 0 32 rfl e_109_20
  have ct44 : ∀ (k44 : Nat) (sc44 : GS) (y44_1 : Int32) (y44_2 : Int32) (y44_3 : Int32), Inv sc44 → Fr fm_337 s sc44 → (In y44_2 0 32) → (In y44_3 (-1) 32) → (∀ d : Nat, (d : Int) ≤ (y44_3).toInt → cb (sc44.1 140 d) + d ≤ 32) → sW (sc44.1 140) ((y44_3).toInt + 1).toNat < k44 → GG Z (d - 1) 337 post (gx xp) (1 + k44 * 900) 44 (fun j => xlook j [(0, .ref (A 109)), (1, .int y44_1), (2, .int y44_2), (3, .int y44_3)]) [] (WW Z A sc44 ++ ex) 0 0 := by
    intro k44
    induction k44 with
    | zero => intro sc44 y44_1 y44_2 y44_3 hIc44 hFc44 j44_2 j44_3 g44_0 mm44; exact absurd mm44 (Nat.not_lt_zero _)
    | succ k44 ih44 =>
      intro sc44 y44_1 y44_2 y44_3 hIc44 hFc44 j44_2 j44_3 g44_0 mm44
      refine gg_w (M := 1 + k44 * 900 + 900) (by omega) ?_
      refine g_iload_n 45 (gd rfl) rfl rfl ?_
      refine g_if_lt 48 165 (gd rfl) rfl rfl (fun c45 => ?_) (fun c45 => ?_)
      · skip
        have i45 := z_lt (-1) (-1) c45 j44_3 rfl
        refine g_iload_n 166 (gd rfl) rfl rfl ?_
        exact g_ireturn (gd rfl) rfl rfl (hP _ _ ⟨sc44, hIc44, hFc44, y44_1, rfl, rfl, in_w (-2147483648) 2147483647 (i_rng y44_1) rfl⟩)
      · skip
        have i45 := z_ge 0 32 c45 j44_3 rfl
        refine g_iload_n 49 (gd rfl) rfl rfl ?_
        refine g_iload_n 50 (gd rfl) rfl rfl ?_
        refine g_cmp_le 53 62 (gd rfl) rfl rfl (fun c50 => ?_) (fun c50 => ?_)
        · skip
          refine g_aload_n 63 (gd rfl) rfl rfl ?_
          refine g_getA (q2 := 140) 66 (gd rfl) rfl rfl rfl rfl ?_
          refine g_iload_n 67 (gd rfl) rfl rfl ?_
          refine g_iaload 68 (gd rfl) rfl (n := 33) rfl (in_ix i45 rfl) (fun z67 e67 => ?_)
          refine g_if_eq 71 86 (gd rfl) rfl rfl (fun c68 => ?_) (fun c68 => ?_)
          · skip
            have i68 := z_eq 0 0 c68 (i_rng z67) rfl
            refine g_iinc 89 (gd rfl) rfl rfl (Nat.le_of_ble_eq_true rfl) (fun z86 e86 => ?_)
            have i86 := in_add (-1) 31 e86 i45 (in_c (-1) rfl) rfl rfl
            refine g_goto 44 (gd rfl) rfl ?_
            have n44 : ∀ d : Nat, (d : Int) ≤ (z86).toInt → cb (sc44.1 140 d) + d ≤ 32 := by first | exact fun d hd => g44_0 d (by have a0 := ro_109_20; unfold In at a0; have a1 := i45; unfold In at a1; have a2 := j44_2; unfold In at a2; have a3 := i86; unfold In at a3; have a4 := t_add e86 i45 (in_c (-1) rfl) rfl; have a5 := (in_c (-1) rfl); unfold In at a5; omega) | (have hS : (sc44).1 140 = upd (upd (sc44.1 140) y44_3.toNatClampNeg z116) z124.toNatClampNeg z138 := (by simp [sI]); rw [hS]; exact (fc_push (w := z159) i92 g44_0 e67 (t_add e124 i92 (in_c 1 rfl) rfl) (t_add e159 i92 (in_c 1 rfl) rfl) (cb_clr e113 e115 e116 i98 hb98) (cb_and_le e138)).1) | (intro d hd; have h0 : (Int32.ofInt 0).toInt = 0 := rfl; have hc := cb_le (sc44.1 140 d); omega)
            have m44 : sW (sc44.1 140) ((z86).toInt + 1).toNat < k44 := by first | (have hS : (sc44).1 140 = upd (upd (sc44.1 140) y44_3.toNatClampNeg z116) z124.toNatClampNeg z138 := (by simp [sI]); rw [hS]; have h := (fc_push (w := z159) i92 g44_0 e67 (t_add e124 i92 (in_c 1 rfl) rfl) (t_add e159 i92 (in_c 1 rfl) rfl) (cb_clr e113 e115 e116 i98 hb98) (cb_and_le e138)).2; omega) | (have hp := sW_pop (sc44.1 140) ((z86).toInt + 1).toNat; have he : (y44_3.toInt + 1).toNat = ((z86).toInt + 1).toNat + 1 := (by have a0 := ro_109_20; unfold In at a0; have a1 := i45; unfold In at a1; have a2 := j44_2; unfold In at a2; have a3 := i86; unfold In at a3; have a4 := t_add e86 i45 (in_c (-1) rfl) rfl; have a5 := (in_c (-1) rfl); unfold In at a5; omega); have hm := mm44; rw [he] at hm; omega)
            exact gg_w (by omega) (gg_f (gf_cons rfl (gf_cons rfl (gf_cons rfl (gf_cons rfl gf_nil)))) (ih44  sc44 y44_1 y44_2 z86 hIc44 hFc44 (in_w 0 32 j44_2 rfl) (in_w (-1) 32 i86 rfl) n44 m44))
          · skip
            refine g_iload_n 72 (gd rfl) rfl rfl ?_
            refine g_aload_n 73 (gd rfl) rfl rfl ?_
            refine g_getA (q2 := 140) 76 (gd rfl) rfl rfl rfl rfl ?_
            refine g_iload_n 77 (gd rfl) rfl rfl ?_
            refine g_iaload 78 (gd rfl) rfl (n := 33) rfl (in_ix i45 rfl) (fun z77 e77 => ?_)
            have q77 : z67 = z77 := (e67).trans e77.symm
            subst q77
            refine g_calls (As := [.int z67]) (r := [.int y44_3]) 81 (gd rfl) rfl rfl rfl rfl rfl (Nat.le_of_ble_eq_true rfl) (Nat.zero_le _) (Nat.zero_le _) (k_336 (by omega) hIc44 ) (fun v u h => ?_)
            obtain ⟨z78, rfl, rfl, i78, p78⟩ := h
            show GG _ _ _ _ _ _ _ _ [.int z78, .int y44_3] _ _ _
            refine g_iadd 82 (gd rfl) rfl (fun z81 e81 => ?_)
            have i81 := in_add 0 64 e81 i45 i78 rfl rfl
            refine g_iload_n 83 (gd rfl) rfl rfl ?_
            refine g_cmp_gt 86 92 (gd rfl) rfl rfl (fun c83 => ?_) (fun c83 => ?_)
            · skip
              have i83 := r_lt2 1 64 c83 j44_2 i81 rfl
              have i92 : In y44_3 0 31 := by exact fc_ix (in_w 0 32 i45 rfl) g44_0 e67 c68
              refine g_aload_n 93 (gd rfl) rfl rfl ?_
              refine g_getA (q2 := 140) 96 (gd rfl) rfl rfl rfl rfl ?_
              refine g_iload_n 97 (gd rfl) rfl rfl ?_
              refine g_iaload 98 (gd rfl) rfl (n := 33) rfl (in_ix i92 rfl) (fun z97 e97 => ?_)
              have q97 : z67 = z97 := (e67).trans e97.symm
              subst q97
              refine g_calls (As := [.int z67]) (r := []) 101 (gd rfl) rfl rfl rfl rfl rfl (Nat.le_of_ble_eq_true rfl) (Nat.zero_le _) (Nat.zero_le _) (k_327n (by omega) c68) (fun v u h => ?_)
              obtain ⟨z98, rfl, rfl, i98, hb98⟩ := h
              show GG _ _ _ _ _ _ _ _ [.int z98] _ _ _
              refine g_istore 103 (gd rfl) rfl (Nat.le_of_ble_eq_true rfl) ?_
              refine g_aload_n 104 (gd rfl) rfl rfl ?_
              refine g_getA (q2 := 140) 107 (gd rfl) rfl rfl rfl rfl ?_
              refine g_iload_n 108 (gd rfl) rfl rfl ?_
              refine g_dup2 109 (gd rfl) rfl rfl rfl ?_
              refine g_iaload 110 (gd rfl) rfl (n := 33) rfl (in_ix i92 rfl) (fun z109 e109 => ?_)
              have q109 : z67 = z109 := (e67).trans e109.symm
              subst q109
              refine g_iconst 1 111 (gd rfl) rfl rfl ?_
              refine g_iload 113 (gd rfl) rfl rfl ?_
              refine g_ishl 114 (gd rfl) rfl (fun z113 e113 => ?_)
              refine g_iconst (-1) 115 (gd rfl) rfl rfl ?_
              refine g_ixor 116 (gd rfl) rfl (fun z115 e115 => ?_)
              refine g_iand 117 (gd rfl) rfl (fun z116 e116 => ?_)
              refine g_iastore 118 (gd rfl) rfl (n := 33) rfl (in_ix i92 rfl) ?_
              have hI117 := inv_sI (q := 140) (j := y44_3.toNatClampNeg) hIc44 rfl (in_w (-2147483648) 2147483647 (i_rng z116) rfl)
              refine g_aload_n 119 (gd rfl) rfl rfl ?_
              refine g_getA (q2 := 140) 122 (gd rfl) rfl rfl rfl rfl ?_
              refine g_iload_n 123 (gd rfl) rfl rfl ?_
              refine g_iconst 1 124 (gd rfl) rfl rfl ?_
              refine g_iadd 125 (gd rfl) rfl (fun z124 e124 => ?_)
              have i124 := in_add 1 32 e124 i92 (in_c 1 rfl) rfl rfl
              refine g_aload_n 126 (gd rfl) rfl rfl ?_
              refine g_getA (q2 := 140) 129 (gd rfl) rfl rfl rfl rfl ?_
              refine g_iload_n 130 (gd rfl) rfl rfl ?_
              refine g_iaload 131 (gd rfl) rfl (n := 33) rfl (in_ix i92 rfl) (fun z130 e130 => ?_)
              have q130 : z116 = z130 := (sI_get).trans e130.symm
              subst q130
              refine g_aload_n 132 (gd rfl) rfl rfl ?_
              refine g_getA (q2 := 138) 135 (gd rfl) rfl rfl rfl rfl ?_
              refine g_iload 137 (gd rfl) rfl rfl ?_
              refine g_iaload 138 (gd rfl) rfl (n := 32) rfl (in_ix i98 rfl) (fun z137 e137 => ?_)
              refine g_iand 139 (gd rfl) rfl (fun z138 e138 => ?_)
              refine g_iastore 140 (gd rfl) rfl (n := 33) rfl (in_ix i124 rfl) ?_
              have hI139 := inv_sI (q := 140) (j := z124.toNatClampNeg) hI117 rfl (in_w (-2147483648) 2147483647 (i_rng z138) rfl)
              refine g_aload_n 141 (gd rfl) rfl rfl ?_
              refine g_getA (q2 := 139) 144 (gd rfl) rfl rfl rfl rfl ?_
              refine g_iload_n 145 (gd rfl) rfl rfl ?_
              refine g_iconst 1 146 (gd rfl) rfl rfl ?_
              refine g_iadd 147 (gd rfl) rfl (fun z146 e146 => ?_)
              have i146 := in_add 1 32 e146 i92 (in_c 1 rfl) rfl rfl
              refine g_aload_n 148 (gd rfl) rfl rfl ?_
              refine g_getA (q2 := 139) 151 (gd rfl) rfl rfl rfl rfl ?_
              refine g_iload_n 152 (gd rfl) rfl rfl ?_
              refine g_iaload 153 (gd rfl) rfl (n := 33) rfl (in_ix i92 rfl) (fun z152 e152 => ?_)
              refine g_iconst 1 154 (gd rfl) rfl rfl ?_
              refine g_iload 156 (gd rfl) rfl rfl ?_
              refine g_ishl 157 (gd rfl) rfl (fun z156 e156 => ?_)
              refine g_ior 158 (gd rfl) rfl (fun z157 e157 => ?_)
              refine g_iastore 159 (gd rfl) rfl (n := 33) rfl (in_ix i146 rfl) ?_
              have hI158 := inv_sI (q := 139) (j := z146.toNatClampNeg) hI139 rfl (in_w (-2147483648) 2147483647 (i_rng z157) rfl)
              refine g_iinc 162 (gd rfl) rfl rfl (Nat.le_of_ble_eq_true rfl) (fun z159 e159 => ?_)
              have i159 := in_add 1 32 e159 i92 (in_c 1 rfl) rfl rfl
              refine g_goto 44 (gd rfl) rfl ?_
              have n44 : ∀ d : Nat, (d : Int) ≤ (z159).toInt → cb ((sI (sI (sI sc44 140 y44_3.toNatClampNeg z116) 140 z124.toNatClampNeg z138) 139 z146.toNatClampNeg z157).1 140 d) + d ≤ 32 := by first | exact fun d hd => g44_0 d (by have a0 := ro_109_20; unfold In at a0; have a1 := i92; unfold In at a1; have a2 := j44_2; unfold In at a2; have a3 := i98; unfold In at a3; have a4 := i159; unfold In at a4; have a5 := t_add e159 i92 (in_c 1 rfl) rfl; have a6 := (in_c 1 rfl); unfold In at a6; have a7 := i146; unfold In at a7; have a8 := t_add e146 i92 (in_c 1 rfl) rfl; have a9 := i124; unfold In at a9; have a10 := t_add e124 i92 (in_c 1 rfl) rfl; have a11 := i83; unfold In at a11; have a12 := t_add e81 i45 i78 rfl; have a13 := i78; unfold In at a13; omega) | (have hS : ((sI (sI (sI sc44 140 y44_3.toNatClampNeg z116) 140 z124.toNatClampNeg z138) 139 z146.toNatClampNeg z157)).1 140 = upd (upd (sc44.1 140) y44_3.toNatClampNeg z116) z124.toNatClampNeg z138 := (by simp [sI]); rw [hS]; exact (fc_push (w := z159) i92 g44_0 e67 (t_add e124 i92 (in_c 1 rfl) rfl) (t_add e159 i92 (in_c 1 rfl) rfl) (cb_clr e113 e115 e116 i98 hb98) (cb_and_le e138)).1) | (intro d hd; have h0 : (Int32.ofInt 0).toInt = 0 := rfl; have hc := cb_le ((sI (sI (sI sc44 140 y44_3.toNatClampNeg z116) 140 z124.toNatClampNeg z138) 139 z146.toNatClampNeg z157).1 140 d); omega)
              have m44 : sW ((sI (sI (sI sc44 140 y44_3.toNatClampNeg z116) 140 z124.toNatClampNeg z138) 139 z146.toNatClampNeg z157).1 140) ((z159).toInt + 1).toNat < k44 := by first | (have hS : ((sI (sI (sI sc44 140 y44_3.toNatClampNeg z116) 140 z124.toNatClampNeg z138) 139 z146.toNatClampNeg z157)).1 140 = upd (upd (sc44.1 140) y44_3.toNatClampNeg z116) z124.toNatClampNeg z138 := (by simp [sI]); rw [hS]; have h := (fc_push (w := z159) i92 g44_0 e67 (t_add e124 i92 (in_c 1 rfl) rfl) (t_add e159 i92 (in_c 1 rfl) rfl) (cb_clr e113 e115 e116 i98 hb98) (cb_and_le e138)).2; omega) | (have hp := sW_pop ((sI (sI (sI sc44 140 y44_3.toNatClampNeg z116) 140 z124.toNatClampNeg z138) 139 z146.toNatClampNeg z157).1 140) ((z159).toInt + 1).toNat; have he : (y44_3.toInt + 1).toNat = ((z159).toInt + 1).toNat + 1 := (by have a0 := ro_109_20; unfold In at a0; have a1 := i92; unfold In at a1; have a2 := j44_2; unfold In at a2; have a3 := i98; unfold In at a3; have a4 := i159; unfold In at a4; have a5 := t_add e159 i92 (in_c 1 rfl) rfl; have a6 := (in_c 1 rfl); unfold In at a6; have a7 := i146; unfold In at a7; have a8 := t_add e146 i92 (in_c 1 rfl) rfl; have a9 := i124; unfold In at a9; have a10 := t_add e124 i92 (in_c 1 rfl) rfl; have a11 := i83; unfold In at a11; have a12 := t_add e81 i45 i78 rfl; have a13 := i78; unfold In at a13; omega); have hm := mm44; rw [he] at hm; omega)
              exact gg_w (by omega) (gg_f (gf_cons rfl (gf_cons rfl (gf_cons rfl (gf_cons rfl gf_nil)))) (ih44  (sI (sI (sI sc44 140 y44_3.toNatClampNeg z116) 140 z124.toNatClampNeg z138) 139 z146.toNatClampNeg z157) y44_1 y44_2 z159 hI158 (fr_sI rfl (fr_sI rfl (fr_sI rfl hFc44))) (in_w 0 32 j44_2 rfl) (in_w (-1) 32 i159 rfl) n44 m44))
            · skip
              have i83 := r_le1 0 32 c83 i81 j44_2 rfl
              refine g_iinc 89 (gd rfl) rfl rfl (Nat.le_of_ble_eq_true rfl) (fun z86 e86 => ?_)
              have i86 := in_add (-1) 31 e86 i45 (in_c (-1) rfl) rfl rfl
              refine g_goto 44 (gd rfl) rfl ?_
              have n44 : ∀ d : Nat, (d : Int) ≤ (z86).toInt → cb (sc44.1 140 d) + d ≤ 32 := by first | exact fun d hd => g44_0 d (by have a0 := ro_109_20; unfold In at a0; have a1 := i45; unfold In at a1; have a2 := j44_2; unfold In at a2; have a3 := i86; unfold In at a3; have a4 := t_add e86 i45 (in_c (-1) rfl) rfl; have a5 := (in_c (-1) rfl); unfold In at a5; have a6 := i83; unfold In at a6; have a7 := t_add e81 i45 i78 rfl; have a8 := i78; unfold In at a8; omega) | (have hS : (sc44).1 140 = upd (upd (sc44.1 140) y44_3.toNatClampNeg z116) z124.toNatClampNeg z138 := (by simp [sI]); rw [hS]; exact (fc_push (w := z159) i92 g44_0 e67 (t_add e124 i92 (in_c 1 rfl) rfl) (t_add e159 i92 (in_c 1 rfl) rfl) (cb_clr e113 e115 e116 i98 hb98) (cb_and_le e138)).1) | (intro d hd; have h0 : (Int32.ofInt 0).toInt = 0 := rfl; have hc := cb_le (sc44.1 140 d); omega)
              have m44 : sW (sc44.1 140) ((z86).toInt + 1).toNat < k44 := by first | (have hS : (sc44).1 140 = upd (upd (sc44.1 140) y44_3.toNatClampNeg z116) z124.toNatClampNeg z138 := (by simp [sI]); rw [hS]; have h := (fc_push (w := z159) i92 g44_0 e67 (t_add e124 i92 (in_c 1 rfl) rfl) (t_add e159 i92 (in_c 1 rfl) rfl) (cb_clr e113 e115 e116 i98 hb98) (cb_and_le e138)).2; omega) | (have hp := sW_pop (sc44.1 140) ((z86).toInt + 1).toNat; have he : (y44_3.toInt + 1).toNat = ((z86).toInt + 1).toNat + 1 := (by have a0 := ro_109_20; unfold In at a0; have a1 := i45; unfold In at a1; have a2 := j44_2; unfold In at a2; have a3 := i86; unfold In at a3; have a4 := t_add e86 i45 (in_c (-1) rfl) rfl; have a5 := (in_c (-1) rfl); unfold In at a5; have a6 := i83; unfold In at a6; have a7 := t_add e81 i45 i78 rfl; have a8 := i78; unfold In at a8; omega); have hm := mm44; rw [he] at hm; omega)
              exact gg_w (by omega) (gg_f (gf_cons rfl (gf_cons rfl (gf_cons rfl (gf_cons rfl gf_nil)))) (ih44  sc44 y44_1 y44_2 z86 hIc44 hFc44 (in_w 0 32 j44_2 rfl) (in_w (-1) 32 i86 rfl) n44 m44))
        · skip
          have i50 := r_lt1 0 31 c50 j44_2 i45 rfl
          have i50a := r_lt2 1 32 c50 j44_2 i45 rfl
          refine g_iload_n 54 (gd rfl) rfl rfl ?_
          refine g_istore_n 55 (gd rfl) rfl (Nat.le_of_ble_eq_true rfl) ?_
          refine g_aload_n 56 (gd rfl) rfl rfl ?_
          refine g_getA (q2 := 139) 59 (gd rfl) rfl rfl rfl rfl ?_
          refine g_iload_n 60 (gd rfl) rfl rfl ?_
          refine g_iaload 61 (gd rfl) rfl (n := 33) rfl (in_ix i50a rfl) (fun z60 e60 => ?_)
          refine g_istore_n 62 (gd rfl) rfl (Nat.le_of_ble_eq_true rfl) ?_
          refine g_aload_n 63 (gd rfl) rfl rfl ?_
          refine g_getA (q2 := 140) 66 (gd rfl) rfl rfl rfl rfl ?_
          refine g_iload_n 67 (gd rfl) rfl rfl ?_
          refine g_iaload 68 (gd rfl) rfl (n := 33) rfl (in_ix i50a rfl) (fun z67 e67 => ?_)
          refine g_if_eq 71 86 (gd rfl) rfl rfl (fun c68 => ?_) (fun c68 => ?_)
          · skip
            have i68 := z_eq 0 0 c68 (i_rng z67) rfl
            refine g_iinc 89 (gd rfl) rfl rfl (Nat.le_of_ble_eq_true rfl) (fun z86 e86 => ?_)
            have i86 := in_add 0 31 e86 i50a (in_c (-1) rfl) rfl rfl
            refine g_goto 44 (gd rfl) rfl ?_
            have n44 : ∀ d : Nat, (d : Int) ≤ (z86).toInt → cb (sc44.1 140 d) + d ≤ 32 := by first | exact fun d hd => g44_0 d (by have a0 := ro_109_20; unfold In at a0; have a1 := i50a; unfold In at a1; have a2 := i50; unfold In at a2; have a3 := i86; unfold In at a3; have a4 := t_add e86 i50a (in_c (-1) rfl) rfl; have a5 := (in_c (-1) rfl); unfold In at a5; omega) | (have hS : (sc44).1 140 = upd (upd (sc44.1 140) y44_3.toNatClampNeg z116) z124.toNatClampNeg z138 := (by simp [sI]); rw [hS]; exact (fc_push (w := z159) i92 g44_0 e67 (t_add e124 i92 (in_c 1 rfl) rfl) (t_add e159 i92 (in_c 1 rfl) rfl) (cb_clr e113 e115 e116 i98 hb98) (cb_and_le e138)).1) | (intro d hd; have h0 : (Int32.ofInt 0).toInt = 0 := rfl; have hc := cb_le (sc44.1 140 d); omega)
            have m44 : sW (sc44.1 140) ((z86).toInt + 1).toNat < k44 := by first | (have hS : (sc44).1 140 = upd (upd (sc44.1 140) y44_3.toNatClampNeg z116) z124.toNatClampNeg z138 := (by simp [sI]); rw [hS]; have h := (fc_push (w := z159) i92 g44_0 e67 (t_add e124 i92 (in_c 1 rfl) rfl) (t_add e159 i92 (in_c 1 rfl) rfl) (cb_clr e113 e115 e116 i98 hb98) (cb_and_le e138)).2; omega) | (have hp := sW_pop (sc44.1 140) ((z86).toInt + 1).toNat; have he : (y44_3.toInt + 1).toNat = ((z86).toInt + 1).toNat + 1 := (by have a0 := ro_109_20; unfold In at a0; have a1 := i50a; unfold In at a1; have a2 := i50; unfold In at a2; have a3 := i86; unfold In at a3; have a4 := t_add e86 i50a (in_c (-1) rfl) rfl; have a5 := (in_c (-1) rfl); unfold In at a5; omega); have hm := mm44; rw [he] at hm; omega)
            exact gg_w (by omega) (gg_f (gf_cons rfl (gf_cons rfl (gf_cons rfl (gf_cons rfl gf_nil)))) (ih44  sc44 z60 y44_3 z86 hIc44 hFc44 (in_w 0 32 i50a rfl) (in_w (-1) 32 i86 rfl) n44 m44))
          · skip
            refine g_iload_n 72 (gd rfl) rfl rfl ?_
            refine g_aload_n 73 (gd rfl) rfl rfl ?_
            refine g_getA (q2 := 140) 76 (gd rfl) rfl rfl rfl rfl ?_
            refine g_iload_n 77 (gd rfl) rfl rfl ?_
            refine g_iaload 78 (gd rfl) rfl (n := 33) rfl (in_ix i50a rfl) (fun z77 e77 => ?_)
            have q77 : z67 = z77 := (e67).trans e77.symm
            subst q77
            refine g_calls (As := [.int z67]) (r := [.int y44_3]) 81 (gd rfl) rfl rfl rfl rfl rfl (Nat.le_of_ble_eq_true rfl) (Nat.zero_le _) (Nat.zero_le _) (k_336 (by omega) hIc44 ) (fun v u h => ?_)
            obtain ⟨z78, rfl, rfl, i78, p78⟩ := h
            show GG _ _ _ _ _ _ _ _ [.int z78, .int y44_3] _ _ _
            refine g_iadd 82 (gd rfl) rfl (fun z81 e81 => ?_)
            have i81 := in_add 1 64 e81 i50a i78 rfl rfl
            refine g_iload_n 83 (gd rfl) rfl rfl ?_
            refine g_cmp_gt 86 92 (gd rfl) rfl rfl (fun c83 => ?_) (fun c83 => ?_)
            · skip
              have i83 := r_lt2 2 64 c83 i50a i81 rfl
              have i92 : In y44_3 0 31 := by exact fc_ix (in_w 0 32 i50a rfl) g44_0 e67 c68
              refine g_aload_n 93 (gd rfl) rfl rfl ?_
              refine g_getA (q2 := 140) 96 (gd rfl) rfl rfl rfl rfl ?_
              refine g_iload_n 97 (gd rfl) rfl rfl ?_
              refine g_iaload 98 (gd rfl) rfl (n := 33) rfl (in_ix i92 rfl) (fun z97 e97 => ?_)
              have q97 : z67 = z97 := (e67).trans e97.symm
              subst q97
              refine g_calls (As := [.int z67]) (r := []) 101 (gd rfl) rfl rfl rfl rfl rfl (Nat.le_of_ble_eq_true rfl) (Nat.zero_le _) (Nat.zero_le _) (k_327n (by omega) c68) (fun v u h => ?_)
              obtain ⟨z98, rfl, rfl, i98, hb98⟩ := h
              show GG _ _ _ _ _ _ _ _ [.int z98] _ _ _
              refine g_istore 103 (gd rfl) rfl (Nat.le_of_ble_eq_true rfl) ?_
              refine g_aload_n 104 (gd rfl) rfl rfl ?_
              refine g_getA (q2 := 140) 107 (gd rfl) rfl rfl rfl rfl ?_
              refine g_iload_n 108 (gd rfl) rfl rfl ?_
              refine g_dup2 109 (gd rfl) rfl rfl rfl ?_
              refine g_iaload 110 (gd rfl) rfl (n := 33) rfl (in_ix i92 rfl) (fun z109 e109 => ?_)
              have q109 : z67 = z109 := (e67).trans e109.symm
              subst q109
              refine g_iconst 1 111 (gd rfl) rfl rfl ?_
              refine g_iload 113 (gd rfl) rfl rfl ?_
              refine g_ishl 114 (gd rfl) rfl (fun z113 e113 => ?_)
              refine g_iconst (-1) 115 (gd rfl) rfl rfl ?_
              refine g_ixor 116 (gd rfl) rfl (fun z115 e115 => ?_)
              refine g_iand 117 (gd rfl) rfl (fun z116 e116 => ?_)
              refine g_iastore 118 (gd rfl) rfl (n := 33) rfl (in_ix i92 rfl) ?_
              have hI117 := inv_sI (q := 140) (j := y44_3.toNatClampNeg) hIc44 rfl (in_w (-2147483648) 2147483647 (i_rng z116) rfl)
              refine g_aload_n 119 (gd rfl) rfl rfl ?_
              refine g_getA (q2 := 140) 122 (gd rfl) rfl rfl rfl rfl ?_
              refine g_iload_n 123 (gd rfl) rfl rfl ?_
              refine g_iconst 1 124 (gd rfl) rfl rfl ?_
              refine g_iadd 125 (gd rfl) rfl (fun z124 e124 => ?_)
              have i124 := in_add 1 32 e124 i92 (in_c 1 rfl) rfl rfl
              refine g_aload_n 126 (gd rfl) rfl rfl ?_
              refine g_getA (q2 := 140) 129 (gd rfl) rfl rfl rfl rfl ?_
              refine g_iload_n 130 (gd rfl) rfl rfl ?_
              refine g_iaload 131 (gd rfl) rfl (n := 33) rfl (in_ix i92 rfl) (fun z130 e130 => ?_)
              have q130 : z116 = z130 := (sI_get).trans e130.symm
              subst q130
              refine g_aload_n 132 (gd rfl) rfl rfl ?_
              refine g_getA (q2 := 138) 135 (gd rfl) rfl rfl rfl rfl ?_
              refine g_iload 137 (gd rfl) rfl rfl ?_
              refine g_iaload 138 (gd rfl) rfl (n := 32) rfl (in_ix i98 rfl) (fun z137 e137 => ?_)
              refine g_iand 139 (gd rfl) rfl (fun z138 e138 => ?_)
              refine g_iastore 140 (gd rfl) rfl (n := 33) rfl (in_ix i124 rfl) ?_
              have hI139 := inv_sI (q := 140) (j := z124.toNatClampNeg) hI117 rfl (in_w (-2147483648) 2147483647 (i_rng z138) rfl)
              refine g_aload_n 141 (gd rfl) rfl rfl ?_
              refine g_getA (q2 := 139) 144 (gd rfl) rfl rfl rfl rfl ?_
              refine g_iload_n 145 (gd rfl) rfl rfl ?_
              refine g_iconst 1 146 (gd rfl) rfl rfl ?_
              refine g_iadd 147 (gd rfl) rfl (fun z146 e146 => ?_)
              have i146 := in_add 1 32 e146 i92 (in_c 1 rfl) rfl rfl
              refine g_aload_n 148 (gd rfl) rfl rfl ?_
              refine g_getA (q2 := 139) 151 (gd rfl) rfl rfl rfl rfl ?_
              refine g_iload_n 152 (gd rfl) rfl rfl ?_
              refine g_iaload 153 (gd rfl) rfl (n := 33) rfl (in_ix i92 rfl) (fun z152 e152 => ?_)
              have q152 : z60 = z152 := (sI_ne rfl (sI_ne rfl (e60))).trans e152.symm
              subst q152
              refine g_iconst 1 154 (gd rfl) rfl rfl ?_
              refine g_iload 156 (gd rfl) rfl rfl ?_
              refine g_ishl 157 (gd rfl) rfl (fun z156 e156 => ?_)
              refine g_ior 158 (gd rfl) rfl (fun z157 e157 => ?_)
              refine g_iastore 159 (gd rfl) rfl (n := 33) rfl (in_ix i146 rfl) ?_
              have hI158 := inv_sI (q := 139) (j := z146.toNatClampNeg) hI139 rfl (in_w (-2147483648) 2147483647 (i_rng z157) rfl)
              refine g_iinc 162 (gd rfl) rfl rfl (Nat.le_of_ble_eq_true rfl) (fun z159 e159 => ?_)
              have i159 := in_add 1 32 e159 i92 (in_c 1 rfl) rfl rfl
              refine g_goto 44 (gd rfl) rfl ?_
              have n44 : ∀ d : Nat, (d : Int) ≤ (z159).toInt → cb ((sI (sI (sI sc44 140 y44_3.toNatClampNeg z116) 140 z124.toNatClampNeg z138) 139 z146.toNatClampNeg z157).1 140 d) + d ≤ 32 := by first | exact fun d hd => g44_0 d (by have a0 := ro_109_20; unfold In at a0; have a1 := i92; unfold In at a1; have a2 := i50; unfold In at a2; have a3 := i98; unfold In at a3; have a4 := i159; unfold In at a4; have a5 := t_add e159 i92 (in_c 1 rfl) rfl; have a6 := (in_c 1 rfl); unfold In at a6; have a7 := i146; unfold In at a7; have a8 := t_add e146 i92 (in_c 1 rfl) rfl; have a9 := i124; unfold In at a9; have a10 := t_add e124 i92 (in_c 1 rfl) rfl; have a11 := i83; unfold In at a11; have a12 := t_add e81 i50a i78 rfl; have a13 := i78; unfold In at a13; omega) | (have hS : ((sI (sI (sI sc44 140 y44_3.toNatClampNeg z116) 140 z124.toNatClampNeg z138) 139 z146.toNatClampNeg z157)).1 140 = upd (upd (sc44.1 140) y44_3.toNatClampNeg z116) z124.toNatClampNeg z138 := (by simp [sI]); rw [hS]; exact (fc_push (w := z159) i92 g44_0 e67 (t_add e124 i92 (in_c 1 rfl) rfl) (t_add e159 i92 (in_c 1 rfl) rfl) (cb_clr e113 e115 e116 i98 hb98) (cb_and_le e138)).1) | (intro d hd; have h0 : (Int32.ofInt 0).toInt = 0 := rfl; have hc := cb_le ((sI (sI (sI sc44 140 y44_3.toNatClampNeg z116) 140 z124.toNatClampNeg z138) 139 z146.toNatClampNeg z157).1 140 d); omega)
              have m44 : sW ((sI (sI (sI sc44 140 y44_3.toNatClampNeg z116) 140 z124.toNatClampNeg z138) 139 z146.toNatClampNeg z157).1 140) ((z159).toInt + 1).toNat < k44 := by first | (have hS : ((sI (sI (sI sc44 140 y44_3.toNatClampNeg z116) 140 z124.toNatClampNeg z138) 139 z146.toNatClampNeg z157)).1 140 = upd (upd (sc44.1 140) y44_3.toNatClampNeg z116) z124.toNatClampNeg z138 := (by simp [sI]); rw [hS]; have h := (fc_push (w := z159) i92 g44_0 e67 (t_add e124 i92 (in_c 1 rfl) rfl) (t_add e159 i92 (in_c 1 rfl) rfl) (cb_clr e113 e115 e116 i98 hb98) (cb_and_le e138)).2; omega) | (have hp := sW_pop ((sI (sI (sI sc44 140 y44_3.toNatClampNeg z116) 140 z124.toNatClampNeg z138) 139 z146.toNatClampNeg z157).1 140) ((z159).toInt + 1).toNat; have he : (y44_3.toInt + 1).toNat = ((z159).toInt + 1).toNat + 1 := (by have a0 := ro_109_20; unfold In at a0; have a1 := i92; unfold In at a1; have a2 := i50; unfold In at a2; have a3 := i98; unfold In at a3; have a4 := i159; unfold In at a4; have a5 := t_add e159 i92 (in_c 1 rfl) rfl; have a6 := (in_c 1 rfl); unfold In at a6; have a7 := i146; unfold In at a7; have a8 := t_add e146 i92 (in_c 1 rfl) rfl; have a9 := i124; unfold In at a9; have a10 := t_add e124 i92 (in_c 1 rfl) rfl; have a11 := i83; unfold In at a11; have a12 := t_add e81 i50a i78 rfl; have a13 := i78; unfold In at a13; omega); have hm := mm44; rw [he] at hm; omega)
              exact gg_w (by omega) (gg_f (gf_cons rfl (gf_cons rfl (gf_cons rfl (gf_cons rfl gf_nil)))) (ih44  (sI (sI (sI sc44 140 y44_3.toNatClampNeg z116) 140 z124.toNatClampNeg z138) 139 z146.toNatClampNeg z157) z60 y44_3 z159 hI158 (fr_sI rfl (fr_sI rfl (fr_sI rfl hFc44))) (in_w 0 32 i92 rfl) (in_w (-1) 32 i159 rfl) n44 m44))
            · skip
              have i83 := r_le1 1 32 c83 i81 i50a rfl
              refine g_iinc 89 (gd rfl) rfl rfl (Nat.le_of_ble_eq_true rfl) (fun z86 e86 => ?_)
              have i86 := in_add 0 31 e86 i50a (in_c (-1) rfl) rfl rfl
              refine g_goto 44 (gd rfl) rfl ?_
              have n44 : ∀ d : Nat, (d : Int) ≤ (z86).toInt → cb (sc44.1 140 d) + d ≤ 32 := by first | exact fun d hd => g44_0 d (by have a0 := ro_109_20; unfold In at a0; have a1 := i50a; unfold In at a1; have a2 := i50; unfold In at a2; have a3 := i86; unfold In at a3; have a4 := t_add e86 i50a (in_c (-1) rfl) rfl; have a5 := (in_c (-1) rfl); unfold In at a5; have a6 := i83; unfold In at a6; have a7 := t_add e81 i50a i78 rfl; have a8 := i78; unfold In at a8; omega) | (have hS : (sc44).1 140 = upd (upd (sc44.1 140) y44_3.toNatClampNeg z116) z124.toNatClampNeg z138 := (by simp [sI]); rw [hS]; exact (fc_push (w := z159) i92 g44_0 e67 (t_add e124 i92 (in_c 1 rfl) rfl) (t_add e159 i92 (in_c 1 rfl) rfl) (cb_clr e113 e115 e116 i98 hb98) (cb_and_le e138)).1) | (intro d hd; have h0 : (Int32.ofInt 0).toInt = 0 := rfl; have hc := cb_le (sc44.1 140 d); omega)
              have m44 : sW (sc44.1 140) ((z86).toInt + 1).toNat < k44 := by first | (have hS : (sc44).1 140 = upd (upd (sc44.1 140) y44_3.toNatClampNeg z116) z124.toNatClampNeg z138 := (by simp [sI]); rw [hS]; have h := (fc_push (w := z159) i92 g44_0 e67 (t_add e124 i92 (in_c 1 rfl) rfl) (t_add e159 i92 (in_c 1 rfl) rfl) (cb_clr e113 e115 e116 i98 hb98) (cb_and_le e138)).2; omega) | (have hp := sW_pop (sc44.1 140) ((z86).toInt + 1).toNat; have he : (y44_3.toInt + 1).toNat = ((z86).toInt + 1).toNat + 1 := (by have a0 := ro_109_20; unfold In at a0; have a1 := i50a; unfold In at a1; have a2 := i50; unfold In at a2; have a3 := i86; unfold In at a3; have a4 := t_add e86 i50a (in_c (-1) rfl) rfl; have a5 := (in_c (-1) rfl); unfold In at a5; have a6 := i83; unfold In at a6; have a7 := t_add e81 i50a i78 rfl; have a8 := i78; unfold In at a8; omega); have hm := mm44; rw [he] at hm; omega)
              exact gg_w (by omega) (gg_f (gf_cons rfl (gf_cons rfl (gf_cons rfl (gf_cons rfl gf_nil)))) (ih44  sc44 z60 y44_3 z86 hIc44 hFc44 (in_w 0 32 i50a rfl) (in_w (-1) 32 i86 rfl) n44 m44))
  refine g_enter2 (k := 337) (N := 989560464999301) (by omega) rfl (Nat.le_of_ble_eq_true rfl) ?_
  refine g_aload_n 1 (gd rfl) rfl rfl ?_
  refine g_callv (X := _) (As := []) (r := []) (b := A 109) (q := 109) 4 (gd rfl) rfl rfl rfl rfl rfl (ww_o rfl) (Nat.le_of_ble_eq_true rfl) (Nat.zero_le _) (Nat.zero_le _) (k_335 (by omega) hI ) (fun e u h => h) (fun v u h => ?_)
  obtain ⟨s1, hI1, hF1, rfl, rfl, p1⟩ := h
  show GG _ _ _ _ _ _ _ _ [] _ _ _
  refine g_iconst 0 5 (gd rfl) rfl rfl ?_
  refine g_istore_n 6 (gd rfl) rfl (Nat.le_of_ble_eq_true rfl) ?_
  refine g_iconst 0 7 (gd rfl) rfl rfl ?_
  refine g_istore_n 8 (gd rfl) rfl (Nat.le_of_ble_eq_true rfl) ?_
  refine g_iconst 0 9 (gd rfl) rfl rfl ?_
  refine g_istore_n 10 (gd rfl) rfl (Nat.le_of_ble_eq_true rfl) ?_
  refine g_aload_n 11 (gd rfl) rfl rfl ?_
  refine g_getA (q2 := 140) 14 (gd rfl) rfl rfl rfl rfl ?_
  refine g_iconst 0 15 (gd rfl) rfl rfl ?_
  refine g_aload_n 16 (gd rfl) rfl rfl ?_
  refine g_getI 19 (gd rfl) rfl rfl rfl (fun z16 e16 => ?_)
  have q16 : u_109_20 = z16 := (fr_F (e_109_20) hF1 rfl).trans e16.symm
  subst q16
  refine g_bipush 32 21 (gd rfl) rfl rfl ?_
  refine g_cmp_ne 24 28 (gd rfl) rfl rfl (fun c21 => ?_) (fun c21 => ?_)
  · skip
    have i21 := r_ne1 0 31 c21 ro_109_20 (in_c 32 rfl) rfl
    refine g_iconst 1 29 (gd rfl) rfl rfl ?_
    refine g_aload_n 30 (gd rfl) rfl rfl ?_
    refine g_getI 33 (gd rfl) rfl rfl rfl (fun z30 e30 => ?_)
    have q30 : u_109_20 = z30 := (fr_F (e_109_20) hF1 rfl).trans e30.symm
    subst q30
    refine g_ishl 34 (gd rfl) rfl (fun z33 e33 => ?_)
    refine g_iconst 1 35 (gd rfl) rfl rfl ?_
    refine g_isub 36 (gd rfl) rfl (fun z35 e35 => ?_)
    refine g_iastore 37 (gd rfl) rfl (n := 33) rfl (in_ix (in_c 0 rfl) rfl) ?_
    have hI36 := inv_sI (q := 140) (j := (Int32.ofInt 0).toNatClampNeg) hI1 rfl (in_w (-2147483648) 2147483647 (i_rng z35) rfl)
    refine g_aload_n 38 (gd rfl) rfl rfl ?_
    refine g_getA (q2 := 139) 41 (gd rfl) rfl rfl rfl rfl ?_
    refine g_iconst 0 42 (gd rfl) rfl rfl ?_
    refine g_iconst 0 43 (gd rfl) rfl rfl ?_
    refine g_iastore 44 (gd rfl) rfl (n := 33) rfl (in_ix (in_c 0 rfl) rfl) ?_
    have hI43 := inv_sI (q := 139) (j := (Int32.ofInt 0).toNatClampNeg) hI36 rfl (in_w (-2147483648) 2147483647 (in_c 0 rfl) rfl)
    have n44 : ∀ d : Nat, (d : Int) ≤ ((Int32.ofInt 0)).toInt → cb ((sI (sI s1 140 (Int32.ofInt 0).toNatClampNeg z35) 139 (Int32.ofInt 0).toNatClampNeg (Int32.ofInt 0)).1 140 d) + d ≤ 32 := by first | exact fun d hd => g44_0 d (by have a0 := i21; unfold In at a0; have a1 := (in_c 0 rfl); unfold In at a1; omega) | (have hS : ((sI (sI s1 140 (Int32.ofInt 0).toNatClampNeg z35) 139 (Int32.ofInt 0).toNatClampNeg (Int32.ofInt 0))).1 140 = upd (upd (sc44.1 140) y44_3.toNatClampNeg z116) z124.toNatClampNeg z138 := (by simp [sI]); rw [hS]; exact (fc_push (w := z159) i92 g44_0 e67 (t_add e124 i92 (in_c 1 rfl) rfl) (t_add e159 i92 (in_c 1 rfl) rfl) (cb_clr e113 e115 e116 i98 hb98) (cb_and_le e138)).1) | (intro d hd; have h0 : (Int32.ofInt 0).toInt = 0 := rfl; have hc := cb_le ((sI (sI s1 140 (Int32.ofInt 0).toNatClampNeg z35) 139 (Int32.ofInt 0).toNatClampNeg (Int32.ofInt 0)).1 140 d); omega)
    have m44 : sW ((sI (sI s1 140 (Int32.ofInt 0).toNatClampNeg z35) 139 (Int32.ofInt 0).toNatClampNeg (Int32.ofInt 0)).1 140) (((Int32.ofInt 0)).toInt + 1).toNat < 1099511627776 := by exact sW_one _ rfl
    exact gg_w (by omega) (gg_f (gf_cons rfl (gf_cons rfl (gf_cons rfl (gf_cons rfl gf_nil)))) (ct44 (1099511627776) (sI (sI s1 140 (Int32.ofInt 0).toNatClampNeg z35) 139 (Int32.ofInt 0).toNatClampNeg (Int32.ofInt 0)) (Int32.ofInt 0) (Int32.ofInt 0) (Int32.ofInt 0) hI43 (fr_sI rfl (fr_sI rfl (fr_tr rfl fr_rf hF1))) (in_w 0 32 (in_c 0 rfl) rfl) (in_w (-1) 32 (in_c 0 rfl) rfl) n44 m44))
  · skip
    have i21 := r_eq1 32 32 c21 ro_109_20 (in_c 32 rfl) rfl
    refine g_iconst (-1) 25 (gd rfl) rfl rfl ?_
    refine g_goto 36 (gd rfl) rfl ?_
    refine g_iastore 37 (gd rfl) rfl (n := 33) rfl (in_ix (in_c 0 rfl) rfl) ?_
    have hI36 := inv_sI (q := 140) (j := (Int32.ofInt 0).toNatClampNeg) hI1 rfl (in_w (-2147483648) 2147483647 (in_c (-1) rfl) rfl)
    refine g_aload_n 38 (gd rfl) rfl rfl ?_
    refine g_getA (q2 := 139) 41 (gd rfl) rfl rfl rfl rfl ?_
    refine g_iconst 0 42 (gd rfl) rfl rfl ?_
    refine g_iconst 0 43 (gd rfl) rfl rfl ?_
    refine g_iastore 44 (gd rfl) rfl (n := 33) rfl (in_ix (in_c 0 rfl) rfl) ?_
    have hI43 := inv_sI (q := 139) (j := (Int32.ofInt 0).toNatClampNeg) hI36 rfl (in_w (-2147483648) 2147483647 (in_c 0 rfl) rfl)
    have n44 : ∀ d : Nat, (d : Int) ≤ ((Int32.ofInt 0)).toInt → cb ((sI (sI s1 140 (Int32.ofInt 0).toNatClampNeg (Int32.ofInt (-1))) 139 (Int32.ofInt 0).toNatClampNeg (Int32.ofInt 0)).1 140 d) + d ≤ 32 := by first | exact fun d hd => g44_0 d (by have a0 := i21; unfold In at a0; have a1 := (in_c 0 rfl); unfold In at a1; omega) | (have hS : ((sI (sI s1 140 (Int32.ofInt 0).toNatClampNeg (Int32.ofInt (-1))) 139 (Int32.ofInt 0).toNatClampNeg (Int32.ofInt 0))).1 140 = upd (upd (sc44.1 140) y44_3.toNatClampNeg z116) z124.toNatClampNeg z138 := (by simp [sI]); rw [hS]; exact (fc_push (w := z159) i92 g44_0 e67 (t_add e124 i92 (in_c 1 rfl) rfl) (t_add e159 i92 (in_c 1 rfl) rfl) (cb_clr e113 e115 e116 i98 hb98) (cb_and_le e138)).1) | (intro d hd; have h0 : (Int32.ofInt 0).toInt = 0 := rfl; have hc := cb_le ((sI (sI s1 140 (Int32.ofInt 0).toNatClampNeg (Int32.ofInt (-1))) 139 (Int32.ofInt 0).toNatClampNeg (Int32.ofInt 0)).1 140 d); omega)
    have m44 : sW ((sI (sI s1 140 (Int32.ofInt 0).toNatClampNeg (Int32.ofInt (-1))) 139 (Int32.ofInt 0).toNatClampNeg (Int32.ofInt 0)).1 140) (((Int32.ofInt 0)).toInt + 1).toNat < 1099511627776 := by exact sW_one _ rfl
    exact gg_w (by omega) (gg_f (gf_cons rfl (gf_cons rfl (gf_cons rfl (gf_cons rfl gf_nil)))) (ct44 (1099511627776) (sI (sI s1 140 (Int32.ofInt 0).toNatClampNeg (Int32.ofInt (-1))) 139 (Int32.ofInt 0).toNatClampNeg (Int32.ofInt 0)) (Int32.ofInt 0) (Int32.ofInt 0) (Int32.ofInt 0) hI43 (fr_sI rfl (fr_sI rfl (fr_tr rfl fr_rf hF1))) (in_w 0 32 (in_c 0 rfl) rfl) (in_w (-1) 32 (in_c 0 rfl) rfl) n44 m44))

def fm_338 : FM := ([138, 139, 140], [], [(109, 0)], [])
/-- GraphHouseModel.clique -/
theorem k_338 {Z : AmZ} {A : Nat → Nat} {s : GS} {ex : va_W} {d : Nat} {X : AmX} {x1 : Int32} (hd : 5 ≤ d) (hI : Inv s)  : GC Z d 338 [.ref (A 109), .int x1] (WW Z A s ++ ex) 0 0 (fun v u => ∃ t : GS, Inv t ∧ Fr fm_338 s t ∧ ∃ z : Int32, v = some (.int z) ∧ u = WW Z A t ++ ex ∧ In z (-1) 31) X := by
  intro post xp hP hX
  obtain ⟨u_109_20, e_109_20⟩ : ∃ w, w = s.2.2.1 109 20 := ⟨_, rfl⟩
  have ro_109_20 := inv_F hI 0 32 rfl e_109_20
  have ct28 : ∀ (k28 : Nat) (sc28 : GS) (y28_2 : Int32) (y28_3 : Int32) (y28_4 : Int32), Inv sc28 → Fr fm_338 s sc28 → (In x1 0 2147483647) → (In y28_3 0 32) → (In y28_4 0 32) → ((y28_3).toInt ≤ (y28_4).toInt + 0) → 32 - (y28_4).toInt < (k28 : Int) → GG Z (d - 1) 338 post (gx xp) (1 + k28 * 900) 28 (fun j => xlook j [(0, .ref (A 109)), (1, .int x1), (2, .int y28_2), (3, .int y28_3), (4, .int y28_4)]) [] (WW Z A sc28 ++ ex) 0 0 := by
    intro k28
    induction k28 with
    | zero => intro sc28 y28_2 y28_3 y28_4 hIc28 hFc28 j28_1 j28_3 j28_4 l28_3 mm28; exact m_no mm28 j28_4 rfl
    | succ k28 ih28 =>
      intro sc28 y28_2 y28_3 y28_4 hIc28 hFc28 j28_1 j28_3 j28_4 l28_3 mm28
      refine gg_w (M := 1 + k28 * 900 + 900) (by omega) ?_
      refine g_iload 30 (gd rfl) rfl rfl ?_
      refine g_aload_n 31 (gd rfl) rfl rfl ?_
      refine g_getI 34 (gd rfl) rfl rfl rfl (fun z31 e31 => ?_)
      have q31 : u_109_20 = z31 := (fr_F e_109_20 hFc28 rfl).trans e31.symm
      subst q31
      refine g_cmp_ge 37 63 (gd rfl) rfl rfl (fun c34 => ?_) (fun c34 => ?_)
      · skip
        refine g_iconst (-1) 64 (gd rfl) rfl rfl ?_
        exact g_ireturn (gd rfl) rfl rfl (hP _ _ ⟨sc28, hIc28, hFc28, (Int32.ofInt (-1)), rfl, rfl, in_w (-1) 31 (in_c (-1) rfl) rfl⟩)
      · skip
        have i34 := r_lt1 0 31 c34 j28_4 ro_109_20 rfl
        have i34a := r_lt2 1 32 c34 j28_4 ro_109_20 rfl
        refine g_iload_n 38 (gd rfl) rfl rfl ?_
        refine g_iload 40 (gd rfl) rfl rfl ?_
        refine g_calls (As := [.int y28_2, .int y28_4]) (r := []) 43 (gd rfl) rfl rfl rfl rfl rfl (Nat.le_of_ble_eq_true rfl) (mc := 0) (ms := 0) (Nat.zero_le _) (Nat.zero_le _) (P := fun v u => _) ?_ (fun v u h => h)
        intro po40 xx40 hp40 hx40
        refine g_enter2 (k := 311) (N := 300) (by omega) rfl (Nat.le_of_ble_eq_true rfl) ?_
        refine g_iload_n 1 (gd rfl) rfl rfl ?_
        refine g_iload_n 2 (gd rfl) rfl rfl ?_
        refine g_ishr 3 (gd rfl) rfl (fun z40x2 e40x2 => ?_)
        refine g_iconst 1 4 (gd rfl) rfl rfl ?_
        refine g_iand 5 (gd rfl) rfl (fun z40x4 e40x4 => ?_)
        have i40x4 := in_and2 e40x4 (in_c 1 rfl) rfl
        refine g_iconst 1 6 (gd rfl) rfl rfl ?_
        refine g_cmp_ne 9 13 (gd rfl) rfl rfl (fun c40x6 => ?_) (fun c40x6 => ?_)
        · skip
          have i40x6 := r_ne1 0 0 c40x6 i40x4 (in_c 1 rfl) rfl
          refine g_iconst 0 14 (gd rfl) rfl rfl ?_
          refine g_ireturn (gd rfl) rfl (nb01 (in_w 0 1 (in_c 0 rfl) rfl)) (hp40 _ _ ?_)
          show GG _ _ _ _ _ _ _ _ [.int (Int32.ofInt 0)] _ _ _
          refine g_if_eq 46 57 (gd rfl) rfl rfl (fun c43 => ?_) (fun c43 => ?_)
          · skip
            refine g_iinc 60 (gd rfl) rfl rfl (Nat.le_of_ble_eq_true rfl) (fun z57 e57 => ?_)
            have i57 := in_add 1 32 e57 i34 (in_c 1 rfl) rfl rfl
            refine g_goto 28 (gd rfl) rfl ?_
            have l28 := rl_0 l28_3 (t_add e57 i34 (in_c 1 rfl) rfl) (in_w 0 1 (in_c 1 rfl) rfl)
            exact gg_w (by omega) (gg_f (gf_cons rfl (gf_cons rfl (gf_cons rfl (gf_cons rfl (gf_cons rfl gf_nil))))) (ih28 sc28 y28_2 y28_3 z57 hIc28 hFc28 (in_w 0 2147483647 j28_1 rfl) (rl_w 0 32 l28 j28_3 (in_w 0 32 i57 rfl) rfl) (in_w 0 32 i57 rfl) l28 (m_up mm28 (t_add e57 i34 (in_c 1 rfl) rfl) (in_w 1 1 (in_c 1 rfl) rfl))))
          · skip
            exact zn_ne c43 (in_c 0 rfl) rfl
        · skip
          have i40x6 := r_eq1 1 1 c40x6 i40x4 (in_c 1 rfl) rfl
          refine g_iconst 1 10 (gd rfl) rfl rfl ?_
          refine g_goto 14 (gd rfl) rfl ?_
          refine g_ireturn (gd rfl) rfl (nb01 (in_w 0 1 (in_c 1 rfl) rfl)) (hp40 _ _ ?_)
          show GG _ _ _ _ _ _ _ _ [.int (Int32.ofInt 1)] _ _ _
          refine g_if_eq 46 57 (gd rfl) rfl rfl (fun c43 => ?_) (fun c43 => ?_)
          · skip
            exact zn_eq c43 (in_c 1 rfl) rfl
          · skip
            refine g_iload_n 47 (gd rfl) rfl rfl ?_
            refine g_iload_n 48 (gd rfl) rfl rfl ?_
            refine g_cmp_ne 51 54 (gd rfl) rfl rfl (fun c48 => ?_) (fun c48 => ?_)
            · skip
              refine g_iinc 57 (gd rfl) rfl rfl (Nat.le_of_ble_eq_true rfl) (fun z54 e54 => ?_)
              have i54 := in_add 1 33 e54 j28_3 (in_c 1 rfl) rfl rfl
              refine g_iinc 60 (gd rfl) rfl rfl (Nat.le_of_ble_eq_true rfl) (fun z57 e57 => ?_)
              have i57 := in_add 1 32 e57 i34 (in_c 1 rfl) rfl rfl
              refine g_goto 28 (gd rfl) rfl ?_
              have l28 := rl_1 l28_3 (t_add e54 j28_3 (in_c 1 rfl) rfl) (in_c 1 rfl) (t_add e57 i34 (in_c 1 rfl) rfl) (in_c 1 rfl) rfl
              exact gg_w (by omega) (gg_f (gf_cons rfl (gf_cons rfl (gf_cons rfl (gf_cons rfl (gf_cons rfl gf_nil))))) (ih28 sc28 y28_2 z54 z57 hIc28 hFc28 (in_w 0 2147483647 j28_1 rfl) (rl_w 0 32 l28 i54 (in_w 0 32 i57 rfl) rfl) (in_w 0 32 i57 rfl) l28 (m_up mm28 (t_add e57 i34 (in_c 1 rfl) rfl) (in_w 1 1 (in_c 1 rfl) rfl))))
            · skip
              have i48 := r_eq2 0 32 c48 j28_3 j28_1 rfl
              refine g_iload 53 (gd rfl) rfl rfl ?_
              exact g_ireturn (gd rfl) rfl rfl (hP _ _ ⟨sc28, hIc28, hFc28, y28_4, rfl, rfl, in_w (-1) 31 i34 rfl⟩)
  refine g_enter2 (k := 338) (N := 30601) (by omega) rfl (Nat.le_of_ble_eq_true rfl) ?_
  refine g_aload_n 1 (gd rfl) rfl rfl ?_
  refine g_iload_n 2 (gd rfl) rfl rfl ?_
  refine g_if_lt 5 9 (gd rfl) rfl rfl (fun c2 => ?_) (fun c2 => ?_)
  · skip
    have i2 := z_lt (-2147483648) (-1) c2 (i_rng x1) rfl
    refine g_iconst 0 10 (gd rfl) rfl rfl ?_
    refine g_callv (X := _) (As := [.int (Int32.ofInt 0)]) (r := []) (b := A 109) (q := 109) 13 (gd rfl) rfl rfl rfl rfl rfl (ww_o rfl) (Nat.le_of_ble_eq_true rfl) (mc := 0) (ms := 0) (Nat.zero_le _) (Nat.zero_le _) (P := fun v u => _) ?_ (fun e u h => h) (fun v u h => h)
    intro po10 xx10 hp10 hx10
    refine g_enter2 (k := 271) (N := 300) (by omega) rfl (Nat.le_of_ble_eq_true rfl) ?_
    refine g_aload_n 1 (gd rfl) rfl rfl ?_
    refine g_iload_n 2 (gd rfl) rfl rfl ?_
    refine g_iconst 1 3 (gd rfl) rfl rfl ?_
    refine g_callv (X := _) (As := [.int (Int32.ofInt 0), .int (Int32.ofInt 1)]) (r := []) (b := A 109) (q := 109) 6 (gd rfl) rfl rfl rfl rfl rfl (ww_o rfl) (Nat.le_of_ble_eq_true rfl) (mc := 0) (ms := 0) (Nat.zero_le _) (Nat.zero_le _) (P := fun v u => _) ?_ (fun e u h => h) (fun v u h => h)
    intro po10x3 xx10x3 hp10x3 hx10x3
    refine g_enter2 (k := 270) (N := 300) (by omega) rfl (Nat.le_of_ble_eq_true rfl) ?_
    refine g_aload_n 1 (gd rfl) rfl rfl ?_
    refine g_iload_n 2 (gd rfl) rfl rfl ?_
    refine g_if_ne 5 9 (gd rfl) rfl rfl (fun c10x3x2 => ?_) (fun c10x3x2 => ?_)
    · skip
      exact zn_ne c10x3x2 (in_c 0 rfl) rfl
    · skip
      refine g_iconst 1 6 (gd rfl) rfl rfl ?_
      refine g_goto 18 (gd rfl) rfl ?_
      refine g_putI 21 (gd rfl) rfl rfl rfl rfl ?_
      have hI10x3x18 := inv_sF (q := 109) (j := 0) hI rfl (in_w 0 2 (in_c 1 rfl) rfl)
      refine g_aload_n 22 (gd rfl) rfl rfl ?_
      refine g_getI 25 (gd rfl) rfl rfl rfl (fun z10x3x22 e10x3x22 => ?_)
      have q10x3x22 : (Int32.ofInt 1) = z10x3x22 := (sF_get).trans e10x3x22.symm
      subst q10x3x22
      refine g_if_le 28 32 (gd rfl) rfl rfl (fun c10x3x25 => ?_) (fun c10x3x25 => ?_)
      · skip
        exact zn_le c10x3x25 (in_c 1 rfl) rfl
      · skip
        refine g_iconst 1 29 (gd rfl) rfl rfl ?_
        refine g_goto 33 (gd rfl) rfl ?_
        refine g_ireturn (gd rfl) rfl (nb01 (in_w 0 1 (in_c 1 rfl) rfl)) (hp10x3 _ _ ?_)
        show GG _ _ _ _ _ _ _ _ [.int (Int32.ofInt 1)] _ _ _
        refine g_ireturn (gd rfl) rfl (nb01 (in_w 0 1 (in_c 1 rfl) rfl)) (hp10 _ _ ?_)
        show GG _ _ _ _ _ _ _ _ [.int (Int32.ofInt 1)] _ _ _
        refine g_if_eq 16 18 (gd rfl) rfl rfl (fun c13 => ?_) (fun c13 => ?_)
        · skip
          exact zn_eq c13 (in_c 1 rfl) rfl
        · skip
          refine g_iconst 0 17 (gd rfl) rfl rfl ?_
          exact g_ireturn (gd rfl) rfl rfl (hP _ _ ⟨(sF s 109 0 (Int32.ofInt 1)), hI10x3x18, (fr_sF rfl fr_rf), (Int32.ofInt 0), rfl, rfl, in_w (-1) 31 (in_c 0 rfl) rfl⟩)
  · skip
    have i2 := z_ge 0 2147483647 c2 (i_rng x1) rfl
    refine g_iconst 1 6 (gd rfl) rfl rfl ?_
    refine g_goto 10 (gd rfl) rfl ?_
    refine g_callv (X := _) (As := [.int (Int32.ofInt 1)]) (r := []) (b := A 109) (q := 109) 13 (gd rfl) rfl rfl rfl rfl rfl (ww_o rfl) (Nat.le_of_ble_eq_true rfl) (mc := 0) (ms := 0) (Nat.zero_le _) (Nat.zero_le _) (P := fun v u => _) ?_ (fun e u h => h) (fun v u h => h)
    intro po10 xx10 hp10 hx10
    refine g_enter2 (k := 271) (N := 300) (by omega) rfl (Nat.le_of_ble_eq_true rfl) ?_
    refine g_aload_n 1 (gd rfl) rfl rfl ?_
    refine g_iload_n 2 (gd rfl) rfl rfl ?_
    refine g_iconst 1 3 (gd rfl) rfl rfl ?_
    refine g_callv (X := _) (As := [.int (Int32.ofInt 1), .int (Int32.ofInt 1)]) (r := []) (b := A 109) (q := 109) 6 (gd rfl) rfl rfl rfl rfl rfl (ww_o rfl) (Nat.le_of_ble_eq_true rfl) (mc := 0) (ms := 0) (Nat.zero_le _) (Nat.zero_le _) (P := fun v u => _) ?_ (fun e u h => h) (fun v u h => h)
    intro po10x3 xx10x3 hp10x3 hx10x3
    refine g_enter2 (k := 270) (N := 300) (by omega) rfl (Nat.le_of_ble_eq_true rfl) ?_
    refine g_aload_n 1 (gd rfl) rfl rfl ?_
    refine g_iload_n 2 (gd rfl) rfl rfl ?_
    refine g_if_ne 5 9 (gd rfl) rfl rfl (fun c10x3x2 => ?_) (fun c10x3x2 => ?_)
    · skip
      refine g_iload_n 10 (gd rfl) rfl rfl ?_
      refine g_if_ne 13 17 (gd rfl) rfl rfl (fun c10x3x10 => ?_) (fun c10x3x10 => ?_)
      · skip
        refine g_iconst 0 18 (gd rfl) rfl rfl ?_
        refine g_putI 21 (gd rfl) rfl rfl rfl rfl ?_
        have hI10x3x18 := inv_sF (q := 109) (j := 0) hI rfl (in_w 0 2 (in_c 0 rfl) rfl)
        refine g_aload_n 22 (gd rfl) rfl rfl ?_
        refine g_getI 25 (gd rfl) rfl rfl rfl (fun z10x3x22 e10x3x22 => ?_)
        have q10x3x22 : (Int32.ofInt 0) = z10x3x22 := (sF_get).trans e10x3x22.symm
        subst q10x3x22
        refine g_if_le 28 32 (gd rfl) rfl rfl (fun c10x3x25 => ?_) (fun c10x3x25 => ?_)
        · skip
          refine g_iconst 0 33 (gd rfl) rfl rfl ?_
          refine g_ireturn (gd rfl) rfl (nb01 (in_w 0 1 (in_c 0 rfl) rfl)) (hp10x3 _ _ ?_)
          show GG _ _ _ _ _ _ _ _ [.int (Int32.ofInt 0)] _ _ _
          refine g_ireturn (gd rfl) rfl (nb01 (in_w 0 1 (in_c 0 rfl) rfl)) (hp10 _ _ ?_)
          show GG _ _ _ _ _ _ _ _ [.int (Int32.ofInt 0)] _ _ _
          refine g_if_eq 16 18 (gd rfl) rfl rfl (fun c13 => ?_) (fun c13 => ?_)
          · skip
            refine g_aload_n 19 (gd rfl) rfl rfl ?_
            refine g_callv (X := _) (As := []) (r := []) (b := A 109) (q := 109) 22 (gd rfl) rfl rfl rfl rfl rfl (ww_o rfl) (Nat.le_of_ble_eq_true rfl) (Nat.zero_le _) (Nat.zero_le _) (k_337 (by omega) hI10x3x18 ) (fun e u h => h) (fun v u h => ?_)
            obtain ⟨s19, hI19, hF19, z19, rfl, rfl, i19⟩ := h
            show GG _ _ _ _ _ _ _ _ [.int z19] _ _ _
            refine g_istore_n 23 (gd rfl) rfl (Nat.le_of_ble_eq_true rfl) ?_
            refine g_iconst 0 24 (gd rfl) rfl rfl ?_
            refine g_istore_n 25 (gd rfl) rfl (Nat.le_of_ble_eq_true rfl) ?_
            refine g_iconst 0 26 (gd rfl) rfl rfl ?_
            refine g_istore 28 (gd rfl) rfl (Nat.le_of_ble_eq_true rfl) ?_
            have l28 := rl_in 0 (in_c 0 rfl) (in_c 0 rfl) rfl
            exact gg_w (by omega) (gg_f (gf_cons rfl (gf_cons rfl (gf_cons rfl (gf_cons rfl (gf_cons rfl gf_nil))))) (ct28 33 s19 z19 (Int32.ofInt 0) (Int32.ofInt 0) hI19 (fr_tr rfl (fr_sF rfl fr_rf) hF19) (in_w 0 2147483647 i2 rfl) (rl_w 0 32 l28 (in_c 0 rfl) (in_w 0 32 (in_c 0 rfl) rfl) rfl) (in_w 0 32 (in_c 0 rfl) rfl) l28 (m_in 33 (in_w 0 32 (in_c 0 rfl) rfl) rfl)))
          · skip
            exact zn_ne c13 (in_c 0 rfl) rfl
        · skip
          exact zn_gt c10x3x25 (in_c 0 rfl) rfl
      · skip
        exact zn_eq c10x3x10 (in_c 1 rfl) rfl
    · skip
      exact zn_eq c10x3x2 (in_c 1 rfl) rfl

/-- GraphHouseModel.barsOf -/
theorem k_339 {Z : AmZ} {A : Nat → Nat} {s : GS} {ex : va_W} {d : Nat} {X : AmX} {x1 : Int32} (hd : 3 ≤ d) (hI : Inv s) (h1 : In x1 0 31) : GC Z d 339 [.ref (A 109), .int x1] (WW Z A s ++ ex) 0 0 (fun v u => ∃ z : Int32, v = some (.int z) ∧ u = WW Z A s ++ ex ∧ In z (-2147483648) 2147483647 ∧ (BAR s (x1).toNatClampNeg (s.2.2.1 109 20).toInt (z))) X := by
  intro post xp hP hX
  obtain ⟨u_109_20, e_109_20⟩ : ∃ w, w = s.2.2.1 109 20 := ⟨_, rfl⟩
  have ro_109_20 := inv_F hI 0 32 rfl e_109_20
  have ct4 : ∀ (k4 : Nat) (y4_2 : Int32) (y4_3 : Int32), (In y4_3 0 32) → ((y4_3).toInt ≤ (u_109_20).toInt) → (BAR s (x1).toNatClampNeg (y4_3).toInt (y4_2)) → 32 - (y4_3).toInt < (k4 : Int) → GG Z (d - 1) 339 post (gx xp) (1 + k4 * 900) 4 (fun j => xlook j [(0, .ref (A 109)), (1, .int x1), (2, .int y4_2), (3, .int y4_3)]) [] (WW Z A s ++ ex) 0 0 := by
    intro k4
    induction k4 with
    | zero => intro y4_2 y4_3 j4_3 n4_0 g4_0 mm4; exact m_no mm4 j4_3 rfl
    | succ k4 ih4 =>
      intro y4_2 y4_3 j4_3 n4_0 g4_0 mm4
      refine gg_w (M := 1 + k4 * 900 + 900) (by omega) ?_
      refine g_iload_n 5 (gd rfl) rfl rfl ?_
      refine g_aload_n 6 (gd rfl) rfl rfl ?_
      refine g_getI 9 (gd rfl) rfl rfl rfl (fun z6 e6 => ?_)
      have q6 : u_109_20 = z6 := (e_109_20).trans e6.symm
      subst q6
      refine g_cmp_ge 12 55 (gd rfl) rfl rfl (fun c9 => ?_) (fun c9 => ?_)
      · skip
        refine g_iload_n 56 (gd rfl) rfl rfl ?_
        have n56 : BAR s (x1).toNatClampNeg (s.2.2.1 109 20).toInt (y4_2) := by have h := g4_0; rw [show y4_3.toInt = (s.2.2.1 109 20).toInt from (by rw [← e_109_20]; have a0 := h1; unfold In at a0; have a1 := ro_109_20; unfold In at a1; have a2 := j4_3; unfold In at a2; omega)] at h; exact h
        exact g_ireturn (gd rfl) rfl rfl (hP _ _ ⟨y4_2, rfl, rfl, in_w (-2147483648) 2147483647 (i_rng y4_2) rfl, n56⟩)
      · skip
        have i9 := r_lt1 0 31 c9 j4_3 ro_109_20 rfl
        have i9a := r_lt2 1 32 c9 j4_3 ro_109_20 rfl
        refine g_iload_n 13 (gd rfl) rfl rfl ?_
        refine g_aload_n 14 (gd rfl) rfl rfl ?_
        refine g_getA (q2 := 138) 17 (gd rfl) rfl rfl rfl rfl ?_
        refine g_iload_n 18 (gd rfl) rfl rfl ?_
        refine g_iaload 19 (gd rfl) rfl (n := 32) rfl (in_ix h1 rfl) (fun z18 e18 => ?_)
        refine g_iload_n 20 (gd rfl) rfl rfl ?_
        refine g_calls (As := [.int z18, .int y4_3]) (r := [.int y4_2]) 23 (gd rfl) rfl rfl rfl rfl rfl (Nat.le_of_ble_eq_true rfl) (mc := 0) (ms := 0) (Nat.zero_le _) (Nat.zero_le _) (P := fun v u => _) ?_ (fun v u h => h)
        intro po20 xx20 hp20 hx20
        refine g_enter2 (k := 311) (N := 300) (by omega) rfl (Nat.le_of_ble_eq_true rfl) ?_
        refine g_iload_n 1 (gd rfl) rfl rfl ?_
        refine g_iload_n 2 (gd rfl) rfl rfl ?_
        refine g_ishr 3 (gd rfl) rfl (fun z20x2 e20x2 => ?_)
        refine g_iconst 1 4 (gd rfl) rfl rfl ?_
        refine g_iand 5 (gd rfl) rfl (fun z20x4 e20x4 => ?_)
        have i20x4 := in_and2 e20x4 (in_c 1 rfl) rfl
        refine g_iconst 1 6 (gd rfl) rfl rfl ?_
        refine g_cmp_ne 9 13 (gd rfl) rfl rfl (fun c20x6 => ?_) (fun c20x6 => ?_)
        · skip
          have i20x6 := r_ne1 0 0 c20x6 i20x4 (in_c 1 rfl) rfl
          refine g_iconst 0 14 (gd rfl) rfl rfl ?_
          refine g_ireturn (gd rfl) rfl (nb01 (in_w 0 1 (in_c 0 rfl) rfl)) (hp20 _ _ ?_)
          show GG _ _ _ _ _ _ _ _ [.int (Int32.ofInt 0), .int y4_2] _ _ _
          refine g_if_eq 26 46 (gd rfl) rfl rfl (fun c23 => ?_) (fun c23 => ?_)
          · skip
            refine g_iconst 0 47 (gd rfl) rfl rfl ?_
            refine g_ior 48 (gd rfl) rfl (fun z47 e47 => ?_)
            refine g_istore_n 49 (gd rfl) rfl (Nat.le_of_ble_eq_true rfl) ?_
            refine g_iinc 52 (gd rfl) rfl rfl (Nat.le_of_ble_eq_true rfl) (fun z49 e49 => ?_)
            have i49 := in_add 1 32 e49 i9 (in_c 1 rfl) rfl rfl
            refine g_goto 4 (gd rfl) rfl ?_
            have n4 : (z49).toInt ≤ (u_109_20).toInt := by have a0 := h1; unfold In at a0; have a1 := i9a; unfold In at a1; have a2 := i9; unfold In at a2; have a3 := i49; unfold In at a3; have a4 := t_add e49 i9 (in_c 1 rfl) rfl; have a5 := (in_c 1 rfl); unfold In at a5; omega
            have n4a : BAR s (x1).toNatClampNeg (z49).toInt (z47) := by exact bar_no g4_0 (by have a0 := h1; unfold In at a0; have a1 := i9a; unfold In at a1; have a2 := i9; unfold In at a2; have a3 := i49; unfold In at a3; have a4 := t_add e49 i9 (in_c 1 rfl) rfl; have a5 := (in_c 1 rfl); unfold In at a5; omega) (by have a0 := h1; unfold In at a0; have a1 := i9a; unfold In at a1; have a2 := i9; unfold In at a2; have a3 := i49; unfold In at a3; have a4 := t_add e49 i9 (in_c 1 rfl) rfl; have a5 := (in_c 1 rfl); unfold In at a5; omega) (fun h _ => by have hb := bt_no e20x2 e20x4 i9 c20x6; rw [e18, h] at hb; cases hb) e47
            exact gg_w (by omega) (gg_f (gf_cons rfl (gf_cons rfl (gf_cons rfl (gf_cons rfl gf_nil)))) (ih4  z47 z49  (in_w 0 32 i49 rfl) n4 n4a (m_up mm4 (t_add e49 i9 (in_c 1 rfl) rfl) (in_w 1 1 (in_c 1 rfl) rfl))))
          · skip
            exact zn_ne c23 (in_c 0 rfl) rfl
        · skip
          have i20x6 := r_eq1 1 1 c20x6 i20x4 (in_c 1 rfl) rfl
          refine g_iconst 1 10 (gd rfl) rfl rfl ?_
          refine g_goto 14 (gd rfl) rfl ?_
          refine g_ireturn (gd rfl) rfl (nb01 (in_w 0 1 (in_c 1 rfl) rfl)) (hp20 _ _ ?_)
          show GG _ _ _ _ _ _ _ _ [.int (Int32.ofInt 1), .int y4_2] _ _ _
          refine g_if_eq 26 46 (gd rfl) rfl rfl (fun c23 => ?_) (fun c23 => ?_)
          · skip
            exact zn_eq c23 (in_c 1 rfl) rfl
          · skip
            refine g_aload_n 27 (gd rfl) rfl rfl ?_
            refine g_getA (q2 := 142) 30 (gd rfl) rfl rfl rfl rfl ?_
            refine g_iload_n 31 (gd rfl) rfl rfl ?_
            refine g_iaload 32 (gd rfl) rfl (n := 32) rfl (in_ix i9 rfl) (fun z31 e31 => ?_)
            have i31 := inv_I hI (n := 32) (t := 0) (-2147483648) 31 rfl (in_ix i9 rfl) rfl e31
            refine g_if_lt 35 46 (gd rfl) rfl rfl (fun c32 => ?_) (fun c32 => ?_)
            · skip
              have i32 := z_lt (-2147483648) (-1) c32 i31 rfl
              refine g_iconst 0 47 (gd rfl) rfl rfl ?_
              refine g_ior 48 (gd rfl) rfl (fun z47 e47 => ?_)
              refine g_istore_n 49 (gd rfl) rfl (Nat.le_of_ble_eq_true rfl) ?_
              refine g_iinc 52 (gd rfl) rfl rfl (Nat.le_of_ble_eq_true rfl) (fun z49 e49 => ?_)
              have i49 := in_add 1 32 e49 i9 (in_c 1 rfl) rfl rfl
              refine g_goto 4 (gd rfl) rfl ?_
              have n4 : (z49).toInt ≤ (u_109_20).toInt := by have a0 := h1; unfold In at a0; have a1 := i9a; unfold In at a1; have a2 := i9; unfold In at a2; have a3 := i49; unfold In at a3; have a4 := t_add e49 i9 (in_c 1 rfl) rfl; have a5 := (in_c 1 rfl); unfold In at a5; omega
              have n4a : BAR s (x1).toNatClampNeg (z49).toInt (z47) := by exact bar_no g4_0 (by have a0 := h1; unfold In at a0; have a1 := i9a; unfold In at a1; have a2 := i9; unfold In at a2; have a3 := i49; unfold In at a3; have a4 := t_add e49 i9 (in_c 1 rfl) rfl; have a5 := (in_c 1 rfl); unfold In at a5; omega) (by have a0 := h1; unfold In at a0; have a1 := i9a; unfold In at a1; have a2 := i9; unfold In at a2; have a3 := i49; unfold In at a3; have a4 := t_add e49 i9 (in_c 1 rfl) rfl; have a5 := (in_c 1 rfl); unfold In at a5; omega) (fun _ h => by rw [← e31] at h; have hc := c32; omega) e47
              exact gg_w (by omega) (gg_f (gf_cons rfl (gf_cons rfl (gf_cons rfl (gf_cons rfl gf_nil)))) (ih4  z47 z49  (in_w 0 32 i49 rfl) n4 n4a (m_up mm4 (t_add e49 i9 (in_c 1 rfl) rfl) (in_w 1 1 (in_c 1 rfl) rfl))))
            · skip
              have i32 := z_ge 0 31 c32 i31 rfl
              refine g_iconst 1 36 (gd rfl) rfl rfl ?_
              refine g_aload_n 37 (gd rfl) rfl rfl ?_
              refine g_getA (q2 := 142) 40 (gd rfl) rfl rfl rfl rfl ?_
              refine g_iload_n 41 (gd rfl) rfl rfl ?_
              refine g_iaload 42 (gd rfl) rfl (n := 32) rfl (in_ix i9 rfl) (fun z41 e41 => ?_)
              have q41 : z31 = z41 := (e31).trans e41.symm
              subst q41
              refine g_ishl 43 (gd rfl) rfl (fun z42 e42 => ?_)
              refine g_goto 47 (gd rfl) rfl ?_
              refine g_ior 48 (gd rfl) rfl (fun z47 e47 => ?_)
              refine g_istore_n 49 (gd rfl) rfl (Nat.le_of_ble_eq_true rfl) ?_
              refine g_iinc 52 (gd rfl) rfl rfl (Nat.le_of_ble_eq_true rfl) (fun z49 e49 => ?_)
              have i49 := in_add 1 32 e49 i9 (in_c 1 rfl) rfl rfl
              refine g_goto 4 (gd rfl) rfl ?_
              have n4 : (z49).toInt ≤ (u_109_20).toInt := by have a0 := h1; unfold In at a0; have a1 := i9a; unfold In at a1; have a2 := i9; unfold In at a2; have a3 := i49; unfold In at a3; have a4 := t_add e49 i9 (in_c 1 rfl) rfl; have a5 := (in_c 1 rfl); unfold In at a5; omega
              have n4a : BAR s (x1).toNatClampNeg (z49).toInt (z47) := by exact bar_yes g4_0 (by have a0 := h1; unfold In at a0; have a1 := i9a; unfold In at a1; have a2 := i9; unfold In at a2; have a3 := i49; unfold In at a3; have a4 := t_add e49 i9 (in_c 1 rfl) rfl; have a5 := (in_c 1 rfl); unfold In at a5; omega) (by have a0 := h1; unfold In at a0; have a1 := i9a; unfold In at a1; have a2 := i9; unfold In at a2; have a3 := i49; unfold In at a3; have a4 := t_add e49 i9 (in_c 1 rfl) rfl; have a5 := (in_c 1 rfl); unfold In at a5; omega) (by rw [← e18]; exact bt_yes e20x2 e20x4 i9 c20x6) e31 i32 e42 e47
              exact gg_w (by omega) (gg_f (gf_cons rfl (gf_cons rfl (gf_cons rfl (gf_cons rfl gf_nil)))) (ih4  z47 z49  (in_w 0 32 i49 rfl) n4 n4a (m_up mm4 (t_add e49 i9 (in_c 1 rfl) rfl) (in_w 1 1 (in_c 1 rfl) rfl))))
  refine g_enter2 (k := 339) (N := 30601) (by omega) rfl (Nat.le_of_ble_eq_true rfl) ?_
  refine g_iconst 0 1 (gd rfl) rfl rfl ?_
  refine g_istore_n 2 (gd rfl) rfl (Nat.le_of_ble_eq_true rfl) ?_
  refine g_iconst 0 3 (gd rfl) rfl rfl ?_
  refine g_istore_n 4 (gd rfl) rfl (Nat.le_of_ble_eq_true rfl) ?_
  have n4 : ((Int32.ofInt 0)).toInt ≤ (u_109_20).toInt := by have a0 := ro_109_20; unfold In at a0; have a1 := h1; unfold In at a1; have a2 := (in_c 0 rfl); unfold In at a2; omega
  have n4a : BAR s (x1).toNatClampNeg ((Int32.ofInt 0)).toInt ((Int32.ofInt 0)) := by exact bar_0
  exact gg_w (by omega) (gg_f (gf_cons rfl (gf_cons rfl (gf_cons rfl (gf_cons rfl gf_nil)))) (ct4 33  (Int32.ofInt 0) (Int32.ofInt 0)  (in_w 0 32 (in_c 0 rfl) rfl) n4 n4a (m_in 33 (in_w 0 32 (in_c 0 rfl) rfl) rfl)))

/-- GraphHouseModel.tightest -/
theorem k_340 {Z : AmZ} {A : Nat → Nat} {s : GS} {ex : va_W} {d : Nat} {X : AmX} {x1 : Int32} (hd : 4 ≤ d) (hI : Inv s) (h1 : In x1 0 200) : GC Z d 340 [.ref (A 109), .int x1] (WW Z A s ++ ex) 0 0 (fun v u => ∃ z : Int32, v = some (.int z) ∧ u = WW Z A s ++ ex ∧ In z (-1) 31 ∧ (TGT s (s.2.2.1 109 20).toInt (z))) X := by
  intro post xp hP hX
  obtain ⟨u_109_20, e_109_20⟩ : ∃ w, w = s.2.2.1 109 20 := ⟨_, rfl⟩
  have ro_109_20 := inv_F hI 0 32 rfl e_109_20
  obtain ⟨u_109_53, e_109_53⟩ : ∃ w, w = s.2.2.1 109 53 := ⟨_, rfl⟩
  have ct10 : ∀ (k10 : Nat) (y10_2 : Int32) (y10_3 : Int32) (y10_4 : Int32) (y10_5 : Int32), (In y10_2 (-1) 31) → (In y10_3 (-32) 200) → (In y10_4 0 32) → (In y10_5 0 32) → ((y10_5).toInt ≤ (u_109_20).toInt) → (TGT s (y10_5).toInt (y10_2)) → 32 - (y10_5).toInt < (k10 : Int) → GG Z (d - 1) 340 post (gx xp) (1 + k10 * 900) 10 (fun j => xlook j [(0, .ref (A 109)), (1, .int x1), (2, .int y10_2), (3, .int y10_3), (4, .int y10_4), (5, .int y10_5)]) [] (WW Z A s ++ ex) 0 0 := by
    intro k10
    induction k10 with
    | zero => intro y10_2 y10_3 y10_4 y10_5 j10_2 j10_3 j10_4 j10_5 n10_0 g10_0 mm10; exact m_no mm10 j10_5 rfl
    | succ k10 ih10 =>
      intro y10_2 y10_3 y10_4 y10_5 j10_2 j10_3 j10_4 j10_5 n10_0 g10_0 mm10
      refine gg_w (M := 1 + k10 * 900 + 900) (by omega) ?_
      refine g_iload 12 (gd rfl) rfl rfl ?_
      refine g_aload_n 13 (gd rfl) rfl rfl ?_
      refine g_getI 16 (gd rfl) rfl rfl rfl (fun z13 e13 => ?_)
      have q13 : u_109_20 = z13 := (e_109_20).trans e13.symm
      subst q13
      refine g_cmp_ge 19 105 (gd rfl) rfl rfl (fun c16 => ?_) (fun c16 => ?_)
      · skip
        refine g_iload_n 106 (gd rfl) rfl rfl ?_
        have n106 : TGT s (s.2.2.1 109 20).toInt (y10_2) := by have h := g10_0; rw [show y10_5.toInt = (s.2.2.1 109 20).toInt from (by rw [← e_109_20]; have a0 := h1; unfold In at a0; have a1 := ro_109_20; unfold In at a1; have a2 := j10_5; unfold In at a2; have a3 := j10_4; unfold In at a3; have a4 := j10_3; unfold In at a4; have a5 := j10_2; unfold In at a5; omega)] at h; exact h
        exact g_ireturn (gd rfl) rfl rfl (hP _ _ ⟨y10_2, rfl, rfl, in_w (-1) 31 j10_2 rfl, n106⟩)
      · skip
        have i16 := r_lt1 0 31 c16 j10_5 ro_109_20 rfl
        have i16a := r_lt2 1 32 c16 j10_5 ro_109_20 rfl
        refine g_aload_n 20 (gd rfl) rfl rfl ?_
        refine g_getI 23 (gd rfl) rfl rfl rfl (fun z20 e20 => ?_)
        have q20 : u_109_53 = z20 := (e_109_53).trans e20.symm
        subst q20
        refine g_iload 25 (gd rfl) rfl rfl ?_
        refine g_calls (As := [.int u_109_53, .int y10_5]) (r := []) 28 (gd rfl) rfl rfl rfl rfl rfl (Nat.le_of_ble_eq_true rfl) (mc := 0) (ms := 0) (Nat.zero_le _) (Nat.zero_le _) (P := fun v u => _) ?_ (fun v u h => h)
        intro po25 xx25 hp25 hx25
        refine g_enter2 (k := 311) (N := 300) (by omega) rfl (Nat.le_of_ble_eq_true rfl) ?_
        refine g_iload_n 1 (gd rfl) rfl rfl ?_
        refine g_iload_n 2 (gd rfl) rfl rfl ?_
        refine g_ishr 3 (gd rfl) rfl (fun z25x2 e25x2 => ?_)
        refine g_iconst 1 4 (gd rfl) rfl rfl ?_
        refine g_iand 5 (gd rfl) rfl (fun z25x4 e25x4 => ?_)
        have i25x4 := in_and2 e25x4 (in_c 1 rfl) rfl
        refine g_iconst 1 6 (gd rfl) rfl rfl ?_
        refine g_cmp_ne 9 13 (gd rfl) rfl rfl (fun c25x6 => ?_) (fun c25x6 => ?_)
        · skip
          have i25x6 := r_ne1 0 0 c25x6 i25x4 (in_c 1 rfl) rfl
          refine g_iconst 0 14 (gd rfl) rfl rfl ?_
          refine g_ireturn (gd rfl) rfl (nb01 (in_w 0 1 (in_c 0 rfl) rfl)) (hp25 _ _ ?_)
          show GG _ _ _ _ _ _ _ _ [.int (Int32.ofInt 0)] _ _ _
          refine g_if_eq 31 99 (gd rfl) rfl rfl (fun c28 => ?_) (fun c28 => ?_)
          · skip
            refine g_iinc 102 (gd rfl) rfl rfl (Nat.le_of_ble_eq_true rfl) (fun z99 e99 => ?_)
            have i99 := in_add 1 32 e99 i16 (in_c 1 rfl) rfl rfl
            refine g_goto 10 (gd rfl) rfl ?_
            have n10 : (z99).toInt ≤ (u_109_20).toInt := by have a0 := h1; unfold In at a0; have a1 := i16a; unfold In at a1; have a2 := i16; unfold In at a2; have a3 := j10_4; unfold In at a3; have a4 := j10_3; unfold In at a4; have a5 := j10_2; unfold In at a5; have a6 := i99; unfold In at a6; have a7 := t_add e99 i16 (in_c 1 rfl) rfl; have a8 := (in_c 1 rfl); unfold In at a8; omega
            have n10a : TGT s (z99).toInt (y10_2) := by exact tgt_no g10_0 (by have a0 := h1; unfold In at a0; have a1 := i16a; unfold In at a1; have a2 := i16; unfold In at a2; have a3 := j10_4; unfold In at a3; have a4 := j10_3; unfold In at a4; have a5 := j10_2; unfold In at a5; have a6 := i99; unfold In at a6; have a7 := t_add e99 i16 (in_c 1 rfl) rfl; have a8 := (in_c 1 rfl); unfold In at a8; omega) (by have a0 := h1; unfold In at a0; have a1 := i16a; unfold In at a1; have a2 := i16; unfold In at a2; have a3 := j10_4; unfold In at a3; have a4 := j10_3; unfold In at a4; have a5 := j10_2; unfold In at a5; have a6 := i99; unfold In at a6; have a7 := t_add e99 i16 (in_c 1 rfl) rfl; have a8 := (in_c 1 rfl); unfold In at a8; omega) (fun h => by have hb := bt_no e25x2 e25x4 i16 c25x6; rw [← e_109_53, hb] at h; cases h)
            exact gg_w (by omega) (gg_f (gf_cons rfl (gf_cons rfl (gf_cons rfl (gf_cons rfl (gf_cons rfl (gf_cons rfl gf_nil)))))) (ih10  y10_2 y10_3 y10_4 z99  (in_w (-1) 31 j10_2 rfl) (in_w (-32) 200 j10_3 rfl) (in_w 0 32 j10_4 rfl) (in_w 0 32 i99 rfl) n10 n10a (m_up mm10 (t_add e99 i16 (in_c 1 rfl) rfl) (in_w 1 1 (in_c 1 rfl) rfl))))
          · skip
            exact zn_ne c28 (in_c 0 rfl) rfl
        · skip
          have i25x6 := r_eq1 1 1 c25x6 i25x4 (in_c 1 rfl) rfl
          refine g_iconst 1 10 (gd rfl) rfl rfl ?_
          refine g_goto 14 (gd rfl) rfl ?_
          refine g_ireturn (gd rfl) rfl (nb01 (in_w 0 1 (in_c 1 rfl) rfl)) (hp25 _ _ ?_)
          show GG _ _ _ _ _ _ _ _ [.int (Int32.ofInt 1)] _ _ _
          refine g_if_eq 31 99 (gd rfl) rfl rfl (fun c28 => ?_) (fun c28 => ?_)
          · skip
            exact zn_eq c28 (in_c 1 rfl) rfl
          · skip
            refine g_aload_n 32 (gd rfl) rfl rfl ?_
            refine g_getA (q2 := 142) 35 (gd rfl) rfl rfl rfl rfl ?_
            refine g_iload 37 (gd rfl) rfl rfl ?_
            refine g_iaload 38 (gd rfl) rfl (n := 32) rfl (in_ix i16 rfl) (fun z37 e37 => ?_)
            have i37 := inv_I hI (n := 32) (t := 0) (-2147483648) 31 rfl (in_ix i16 rfl) rfl e37
            refine g_if_ge 41 99 (gd rfl) rfl rfl (fun c38 => ?_) (fun c38 => ?_)
            · skip
              have i38 := z_ge 0 31 c38 i37 rfl
              refine g_iinc 102 (gd rfl) rfl rfl (Nat.le_of_ble_eq_true rfl) (fun z99 e99 => ?_)
              have i99 := in_add 1 32 e99 i16 (in_c 1 rfl) rfl rfl
              refine g_goto 10 (gd rfl) rfl ?_
              have n10 : (z99).toInt ≤ (u_109_20).toInt := by have a0 := h1; unfold In at a0; have a1 := i16a; unfold In at a1; have a2 := i16; unfold In at a2; have a3 := j10_4; unfold In at a3; have a4 := j10_3; unfold In at a4; have a5 := j10_2; unfold In at a5; have a6 := i99; unfold In at a6; have a7 := t_add e99 i16 (in_c 1 rfl) rfl; have a8 := (in_c 1 rfl); unfold In at a8; omega
              have n10a : TGT s (z99).toInt (y10_2) := by exact tgt_no g10_0 (by have a0 := h1; unfold In at a0; have a1 := i16a; unfold In at a1; have a2 := i16; unfold In at a2; have a3 := j10_4; unfold In at a3; have a4 := j10_3; unfold In at a4; have a5 := j10_2; unfold In at a5; have a6 := i99; unfold In at a6; have a7 := t_add e99 i16 (in_c 1 rfl) rfl; have a8 := (in_c 1 rfl); unfold In at a8; omega) (by have a0 := h1; unfold In at a0; have a1 := i16a; unfold In at a1; have a2 := i16; unfold In at a2; have a3 := j10_4; unfold In at a3; have a4 := j10_3; unfold In at a4; have a5 := j10_2; unfold In at a5; have a6 := i99; unfold In at a6; have a7 := t_add e99 i16 (in_c 1 rfl) rfl; have a8 := (in_c 1 rfl); unfold In at a8; omega) (fun _ => by rw [← e37]; have hc := c38; omega)
              exact gg_w (by omega) (gg_f (gf_cons rfl (gf_cons rfl (gf_cons rfl (gf_cons rfl (gf_cons rfl (gf_cons rfl gf_nil)))))) (ih10  y10_2 y10_3 y10_4 z99  (in_w (-1) 31 j10_2 rfl) (in_w (-32) 200 j10_3 rfl) (in_w 0 32 j10_4 rfl) (in_w 0 32 i99 rfl) n10 n10a (m_up mm10 (t_add e99 i16 (in_c 1 rfl) rfl) (in_w 1 1 (in_c 1 rfl) rfl))))
            · skip
              have i38 := z_lt (-2147483648) (-1) c38 i37 rfl
              refine g_iload_n 42 (gd rfl) rfl rfl ?_
              refine g_aload_n 43 (gd rfl) rfl rfl ?_
              refine g_iload 45 (gd rfl) rfl rfl ?_
              refine g_callv (X := _) (As := [.int y10_5]) (r := [.int x1]) (b := A 109) (q := 109) 48 (gd rfl) rfl rfl rfl rfl rfl (ww_o rfl) (Nat.le_of_ble_eq_true rfl) (Nat.zero_le _) (Nat.zero_le _) (k_339 (by omega) hI (in_w 0 31 i16 rfl)) (fun e u h => h) (fun v u h => ?_)
              obtain ⟨z45, rfl, rfl, i45, p45⟩ := h
              show GG _ _ _ _ _ _ _ _ [.int z45, .int x1] _ _ _
              refine g_calls (As := [.int z45]) (r := [.int x1]) 51 (gd rfl) rfl rfl rfl rfl rfl (Nat.le_of_ble_eq_true rfl) (Nat.zero_le _) (Nat.zero_le _) (k_336 (by omega) hI ) (fun v u h => ?_)
              obtain ⟨z48, rfl, rfl, i48, p48⟩ := h
              show GG _ _ _ _ _ _ _ _ [.int z48, .int x1] _ _ _
              refine g_isub 52 (gd rfl) rfl (fun z51 e51 => ?_)
              have i51 := in_sub (-32) 200 e51 h1 i48 rfl rfl
              refine g_istore 54 (gd rfl) rfl (Nat.le_of_ble_eq_true rfl) ?_
              refine g_aload_n 55 (gd rfl) rfl rfl ?_
              refine g_getA (q2 := 138) 58 (gd rfl) rfl rfl rfl rfl ?_
              refine g_iload 60 (gd rfl) rfl rfl ?_
              refine g_iaload 61 (gd rfl) rfl (n := 32) rfl (in_ix i16 rfl) (fun z60 e60 => ?_)
              refine g_calls (As := [.int z60]) (r := []) 64 (gd rfl) rfl rfl rfl rfl rfl (Nat.le_of_ble_eq_true rfl) (Nat.zero_le _) (Nat.zero_le _) (k_336 (by omega) hI ) (fun v u h => ?_)
              obtain ⟨z61, rfl, rfl, i61, p61⟩ := h
              show GG _ _ _ _ _ _ _ _ [.int z61] _ _ _
              refine g_istore 66 (gd rfl) rfl (Nat.le_of_ble_eq_true rfl) ?_
              refine g_iload_n 67 (gd rfl) rfl rfl ?_
              refine g_if_lt 70 89 (gd rfl) rfl rfl (fun c67 => ?_) (fun c67 => ?_)
              · skip
                have i67 := z_lt (-1) (-1) c67 j10_2 rfl
                refine g_iload 91 (gd rfl) rfl rfl ?_
                refine g_istore_n 92 (gd rfl) rfl (Nat.le_of_ble_eq_true rfl) ?_
                refine g_iload 94 (gd rfl) rfl rfl ?_
                refine g_istore_n 95 (gd rfl) rfl (Nat.le_of_ble_eq_true rfl) ?_
                refine g_iload 97 (gd rfl) rfl rfl ?_
                refine g_istore 99 (gd rfl) rfl (Nat.le_of_ble_eq_true rfl) ?_
                refine g_iinc 102 (gd rfl) rfl rfl (Nat.le_of_ble_eq_true rfl) (fun z99 e99 => ?_)
                have i99 := in_add 1 32 e99 i16 (in_c 1 rfl) rfl rfl
                refine g_goto 10 (gd rfl) rfl ?_
                have n10 : (z99).toInt ≤ (u_109_20).toInt := by have a0 := h1; unfold In at a0; have a1 := i16a; unfold In at a1; have a2 := i16; unfold In at a2; have a3 := j10_4; unfold In at a3; have a4 := j10_3; unfold In at a4; have a5 := i67; unfold In at a5; have a6 := i61; unfold In at a6; have a7 := i51; unfold In at a7; have a8 := t_sub e51 h1 i48 rfl; have a9 := i48; unfold In at a9; have a10 := i99; unfold In at a10; have a11 := t_add e99 i16 (in_c 1 rfl) rfl; have a12 := (in_c 1 rfl); unfold In at a12; omega
                have n10a : TGT s (z99).toInt (y10_5) := by first | exact tgt_k g10_0 (by have a0 := h1; unfold In at a0; have a1 := i16a; unfold In at a1; have a2 := i16; unfold In at a2; have a3 := j10_4; unfold In at a3; have a4 := j10_3; unfold In at a4; have a5 := i67; unfold In at a5; have a6 := i61; unfold In at a6; have a7 := i51; unfold In at a7; have a8 := t_sub e51 h1 i48 rfl; have a9 := i48; unfold In at a9; have a10 := i99; unfold In at a10; have a11 := t_add e99 i16 (in_c 1 rfl) rfl; have a12 := (in_c 1 rfl); unfold In at a12; omega) (by have a0 := h1; unfold In at a0; have a1 := i16a; unfold In at a1; have a2 := i16; unfold In at a2; have a3 := j10_4; unfold In at a3; have a4 := j10_3; unfold In at a4; have a5 := i67; unfold In at a5; have a6 := i61; unfold In at a6; have a7 := i51; unfold In at a7; have a8 := t_sub e51 h1 i48 rfl; have a9 := i48; unfold In at a9; have a10 := i99; unfold In at a10; have a11 := t_add e99 i16 (in_c 1 rfl) rfl; have a12 := (in_c 1 rfl); unfold In at a12; omega) | exact tgt_c (by have a0 := h1; unfold In at a0; have a1 := i16a; unfold In at a1; have a2 := i16; unfold In at a2; have a3 := j10_4; unfold In at a3; have a4 := j10_3; unfold In at a4; have a5 := i67; unfold In at a5; have a6 := i61; unfold In at a6; have a7 := i51; unfold In at a7; have a8 := t_sub e51 h1 i48 rfl; have a9 := i48; unfold In at a9; have a10 := i99; unfold In at a10; have a11 := t_add e99 i16 (in_c 1 rfl) rfl; have a12 := (in_c 1 rfl); unfold In at a12; omega) (by have a0 := h1; unfold In at a0; have a1 := i16a; unfold In at a1; have a2 := i16; unfold In at a2; have a3 := j10_4; unfold In at a3; have a4 := j10_3; unfold In at a4; have a5 := i67; unfold In at a5; have a6 := i61; unfold In at a6; have a7 := i51; unfold In at a7; have a8 := t_sub e51 h1 i48 rfl; have a9 := i48; unfold In at a9; have a10 := i99; unfold In at a10; have a11 := t_add e99 i16 (in_c 1 rfl) rfl; have a12 := (in_c 1 rfl); unfold In at a12; omega) (by rw [← e_109_53]; exact bt_yes e25x2 e25x4 i16 c25x6) (by rw [← e37]; exact c38)
                exact gg_w (by omega) (gg_f (gf_cons rfl (gf_cons rfl (gf_cons rfl (gf_cons rfl (gf_cons rfl (gf_cons rfl gf_nil)))))) (ih10  y10_5 z51 z61 z99  (in_w (-1) 31 i16 rfl) (in_w (-32) 200 i51 rfl) (in_w 0 32 i61 rfl) (in_w 0 32 i99 rfl) n10 n10a (m_up mm10 (t_add e99 i16 (in_c 1 rfl) rfl) (in_w 1 1 (in_c 1 rfl) rfl))))
              · skip
                have i67 := z_ge 0 31 c67 j10_2 rfl
                refine g_iload 72 (gd rfl) rfl rfl ?_
                refine g_iload_n 73 (gd rfl) rfl rfl ?_
                refine g_cmp_lt 76 89 (gd rfl) rfl rfl (fun c73 => ?_) (fun c73 => ?_)
                · skip
                  have i73 := r_lt1 (-32) 199 c73 i51 j10_3 rfl
                  have i73a := r_lt2 (-31) 200 c73 i51 j10_3 rfl
                  refine g_iload 91 (gd rfl) rfl rfl ?_
                  refine g_istore_n 92 (gd rfl) rfl (Nat.le_of_ble_eq_true rfl) ?_
                  refine g_iload 94 (gd rfl) rfl rfl ?_
                  refine g_istore_n 95 (gd rfl) rfl (Nat.le_of_ble_eq_true rfl) ?_
                  refine g_iload 97 (gd rfl) rfl rfl ?_
                  refine g_istore 99 (gd rfl) rfl (Nat.le_of_ble_eq_true rfl) ?_
                  refine g_iinc 102 (gd rfl) rfl rfl (Nat.le_of_ble_eq_true rfl) (fun z99 e99 => ?_)
                  have i99 := in_add 1 32 e99 i16 (in_c 1 rfl) rfl rfl
                  refine g_goto 10 (gd rfl) rfl ?_
                  have n10 : (z99).toInt ≤ (u_109_20).toInt := by have a0 := h1; unfold In at a0; have a1 := i16a; unfold In at a1; have a2 := i16; unfold In at a2; have a3 := j10_4; unfold In at a3; have a4 := i73a; unfold In at a4; have a5 := i67; unfold In at a5; have a6 := i61; unfold In at a6; have a7 := i73; unfold In at a7; have a8 := t_sub e51 h1 i48 rfl; have a9 := i48; unfold In at a9; have a10 := i99; unfold In at a10; have a11 := t_add e99 i16 (in_c 1 rfl) rfl; have a12 := (in_c 1 rfl); unfold In at a12; omega
                  have n10a : TGT s (z99).toInt (y10_5) := by first | exact tgt_k g10_0 (by have a0 := h1; unfold In at a0; have a1 := i16a; unfold In at a1; have a2 := i16; unfold In at a2; have a3 := j10_4; unfold In at a3; have a4 := i73a; unfold In at a4; have a5 := i67; unfold In at a5; have a6 := i61; unfold In at a6; have a7 := i73; unfold In at a7; have a8 := t_sub e51 h1 i48 rfl; have a9 := i48; unfold In at a9; have a10 := i99; unfold In at a10; have a11 := t_add e99 i16 (in_c 1 rfl) rfl; have a12 := (in_c 1 rfl); unfold In at a12; omega) (by have a0 := h1; unfold In at a0; have a1 := i16a; unfold In at a1; have a2 := i16; unfold In at a2; have a3 := j10_4; unfold In at a3; have a4 := i73a; unfold In at a4; have a5 := i67; unfold In at a5; have a6 := i61; unfold In at a6; have a7 := i73; unfold In at a7; have a8 := t_sub e51 h1 i48 rfl; have a9 := i48; unfold In at a9; have a10 := i99; unfold In at a10; have a11 := t_add e99 i16 (in_c 1 rfl) rfl; have a12 := (in_c 1 rfl); unfold In at a12; omega) | exact tgt_c (by have a0 := h1; unfold In at a0; have a1 := i16a; unfold In at a1; have a2 := i16; unfold In at a2; have a3 := j10_4; unfold In at a3; have a4 := i73a; unfold In at a4; have a5 := i67; unfold In at a5; have a6 := i61; unfold In at a6; have a7 := i73; unfold In at a7; have a8 := t_sub e51 h1 i48 rfl; have a9 := i48; unfold In at a9; have a10 := i99; unfold In at a10; have a11 := t_add e99 i16 (in_c 1 rfl) rfl; have a12 := (in_c 1 rfl); unfold In at a12; omega) (by have a0 := h1; unfold In at a0; have a1 := i16a; unfold In at a1; have a2 := i16; unfold In at a2; have a3 := j10_4; unfold In at a3; have a4 := i73a; unfold In at a4; have a5 := i67; unfold In at a5; have a6 := i61; unfold In at a6; have a7 := i73; unfold In at a7; have a8 := t_sub e51 h1 i48 rfl; have a9 := i48; unfold In at a9; have a10 := i99; unfold In at a10; have a11 := t_add e99 i16 (in_c 1 rfl) rfl; have a12 := (in_c 1 rfl); unfold In at a12; omega) (by rw [← e_109_53]; exact bt_yes e25x2 e25x4 i16 c25x6) (by rw [← e37]; exact c38)
                  exact gg_w (by omega) (gg_f (gf_cons rfl (gf_cons rfl (gf_cons rfl (gf_cons rfl (gf_cons rfl (gf_cons rfl gf_nil)))))) (ih10  y10_5 z51 z61 z99  (in_w (-1) 31 i16 rfl) (in_w (-32) 200 i73 rfl) (in_w 0 32 i61 rfl) (in_w 0 32 i99 rfl) n10 n10a (m_up mm10 (t_add e99 i16 (in_c 1 rfl) rfl) (in_w 1 1 (in_c 1 rfl) rfl))))
                · skip
                  refine g_iload 78 (gd rfl) rfl rfl ?_
                  refine g_iload_n 79 (gd rfl) rfl rfl ?_
                  refine g_cmp_ne 82 99 (gd rfl) rfl rfl (fun c79 => ?_) (fun c79 => ?_)
                  · skip
                    refine g_iinc 102 (gd rfl) rfl rfl (Nat.le_of_ble_eq_true rfl) (fun z99 e99 => ?_)
                    have i99 := in_add 1 32 e99 i16 (in_c 1 rfl) rfl rfl
                    refine g_goto 10 (gd rfl) rfl ?_
                    have n10 : (z99).toInt ≤ (u_109_20).toInt := by have a0 := h1; unfold In at a0; have a1 := i16a; unfold In at a1; have a2 := i16; unfold In at a2; have a3 := j10_4; unfold In at a3; have a4 := j10_3; unfold In at a4; have a5 := i67; unfold In at a5; have a6 := i61; unfold In at a6; have a7 := i51; unfold In at a7; have a8 := t_sub e51 h1 i48 rfl; have a9 := i48; unfold In at a9; have a10 := i99; unfold In at a10; have a11 := t_add e99 i16 (in_c 1 rfl) rfl; have a12 := (in_c 1 rfl); unfold In at a12; omega
                    have n10a : TGT s (z99).toInt (y10_2) := by first | exact tgt_k g10_0 (by have a0 := h1; unfold In at a0; have a1 := i16a; unfold In at a1; have a2 := i16; unfold In at a2; have a3 := j10_4; unfold In at a3; have a4 := j10_3; unfold In at a4; have a5 := i67; unfold In at a5; have a6 := i61; unfold In at a6; have a7 := i51; unfold In at a7; have a8 := t_sub e51 h1 i48 rfl; have a9 := i48; unfold In at a9; have a10 := i99; unfold In at a10; have a11 := t_add e99 i16 (in_c 1 rfl) rfl; have a12 := (in_c 1 rfl); unfold In at a12; omega) (by have a0 := h1; unfold In at a0; have a1 := i16a; unfold In at a1; have a2 := i16; unfold In at a2; have a3 := j10_4; unfold In at a3; have a4 := j10_3; unfold In at a4; have a5 := i67; unfold In at a5; have a6 := i61; unfold In at a6; have a7 := i51; unfold In at a7; have a8 := t_sub e51 h1 i48 rfl; have a9 := i48; unfold In at a9; have a10 := i99; unfold In at a10; have a11 := t_add e99 i16 (in_c 1 rfl) rfl; have a12 := (in_c 1 rfl); unfold In at a12; omega) | exact tgt_c (by have a0 := h1; unfold In at a0; have a1 := i16a; unfold In at a1; have a2 := i16; unfold In at a2; have a3 := j10_4; unfold In at a3; have a4 := j10_3; unfold In at a4; have a5 := i67; unfold In at a5; have a6 := i61; unfold In at a6; have a7 := i51; unfold In at a7; have a8 := t_sub e51 h1 i48 rfl; have a9 := i48; unfold In at a9; have a10 := i99; unfold In at a10; have a11 := t_add e99 i16 (in_c 1 rfl) rfl; have a12 := (in_c 1 rfl); unfold In at a12; omega) (by have a0 := h1; unfold In at a0; have a1 := i16a; unfold In at a1; have a2 := i16; unfold In at a2; have a3 := j10_4; unfold In at a3; have a4 := j10_3; unfold In at a4; have a5 := i67; unfold In at a5; have a6 := i61; unfold In at a6; have a7 := i51; unfold In at a7; have a8 := t_sub e51 h1 i48 rfl; have a9 := i48; unfold In at a9; have a10 := i99; unfold In at a10; have a11 := t_add e99 i16 (in_c 1 rfl) rfl; have a12 := (in_c 1 rfl); unfold In at a12; omega) (by rw [← e_109_53]; exact bt_yes e25x2 e25x4 i16 c25x6) (by rw [← e37]; exact c38)
                    exact gg_w (by omega) (gg_f (gf_cons rfl (gf_cons rfl (gf_cons rfl (gf_cons rfl (gf_cons rfl (gf_cons rfl gf_nil)))))) (ih10  y10_2 y10_3 y10_4 z99  (in_w (-1) 31 i67 rfl) (in_w (-32) 200 j10_3 rfl) (in_w 0 32 j10_4 rfl) (in_w 0 32 i99 rfl) n10 n10a (m_up mm10 (t_add e99 i16 (in_c 1 rfl) rfl) (in_w 1 1 (in_c 1 rfl) rfl))))
                  · skip
                    refine g_iload 84 (gd rfl) rfl rfl ?_
                    refine g_iload 86 (gd rfl) rfl rfl ?_
                    refine g_cmp_le 89 99 (gd rfl) rfl rfl (fun c86 => ?_) (fun c86 => ?_)
                    · skip
                      refine g_iinc 102 (gd rfl) rfl rfl (Nat.le_of_ble_eq_true rfl) (fun z99 e99 => ?_)
                      have i99 := in_add 1 32 e99 i16 (in_c 1 rfl) rfl rfl
                      refine g_goto 10 (gd rfl) rfl ?_
                      have n10 : (z99).toInt ≤ (u_109_20).toInt := by have a0 := h1; unfold In at a0; have a1 := i16a; unfold In at a1; have a2 := i16; unfold In at a2; have a3 := j10_4; unfold In at a3; have a4 := j10_3; unfold In at a4; have a5 := i67; unfold In at a5; have a6 := i61; unfold In at a6; have a7 := i51; unfold In at a7; have a8 := t_sub e51 h1 i48 rfl; have a9 := i48; unfold In at a9; have a10 := i99; unfold In at a10; have a11 := t_add e99 i16 (in_c 1 rfl) rfl; have a12 := (in_c 1 rfl); unfold In at a12; omega
                      have n10a : TGT s (z99).toInt (y10_2) := by first | exact tgt_k g10_0 (by have a0 := h1; unfold In at a0; have a1 := i16a; unfold In at a1; have a2 := i16; unfold In at a2; have a3 := j10_4; unfold In at a3; have a4 := j10_3; unfold In at a4; have a5 := i67; unfold In at a5; have a6 := i61; unfold In at a6; have a7 := i51; unfold In at a7; have a8 := t_sub e51 h1 i48 rfl; have a9 := i48; unfold In at a9; have a10 := i99; unfold In at a10; have a11 := t_add e99 i16 (in_c 1 rfl) rfl; have a12 := (in_c 1 rfl); unfold In at a12; omega) (by have a0 := h1; unfold In at a0; have a1 := i16a; unfold In at a1; have a2 := i16; unfold In at a2; have a3 := j10_4; unfold In at a3; have a4 := j10_3; unfold In at a4; have a5 := i67; unfold In at a5; have a6 := i61; unfold In at a6; have a7 := i51; unfold In at a7; have a8 := t_sub e51 h1 i48 rfl; have a9 := i48; unfold In at a9; have a10 := i99; unfold In at a10; have a11 := t_add e99 i16 (in_c 1 rfl) rfl; have a12 := (in_c 1 rfl); unfold In at a12; omega) | exact tgt_c (by have a0 := h1; unfold In at a0; have a1 := i16a; unfold In at a1; have a2 := i16; unfold In at a2; have a3 := j10_4; unfold In at a3; have a4 := j10_3; unfold In at a4; have a5 := i67; unfold In at a5; have a6 := i61; unfold In at a6; have a7 := i51; unfold In at a7; have a8 := t_sub e51 h1 i48 rfl; have a9 := i48; unfold In at a9; have a10 := i99; unfold In at a10; have a11 := t_add e99 i16 (in_c 1 rfl) rfl; have a12 := (in_c 1 rfl); unfold In at a12; omega) (by have a0 := h1; unfold In at a0; have a1 := i16a; unfold In at a1; have a2 := i16; unfold In at a2; have a3 := j10_4; unfold In at a3; have a4 := j10_3; unfold In at a4; have a5 := i67; unfold In at a5; have a6 := i61; unfold In at a6; have a7 := i51; unfold In at a7; have a8 := t_sub e51 h1 i48 rfl; have a9 := i48; unfold In at a9; have a10 := i99; unfold In at a10; have a11 := t_add e99 i16 (in_c 1 rfl) rfl; have a12 := (in_c 1 rfl); unfold In at a12; omega) (by rw [← e_109_53]; exact bt_yes e25x2 e25x4 i16 c25x6) (by rw [← e37]; exact c38)
                      exact gg_w (by omega) (gg_f (gf_cons rfl (gf_cons rfl (gf_cons rfl (gf_cons rfl (gf_cons rfl (gf_cons rfl gf_nil)))))) (ih10  y10_2 y10_3 y10_4 z99  (in_w (-1) 31 i67 rfl) (in_w (-32) 200 j10_3 rfl) (in_w 0 32 j10_4 rfl) (in_w 0 32 i99 rfl) n10 n10a (m_up mm10 (t_add e99 i16 (in_c 1 rfl) rfl) (in_w 1 1 (in_c 1 rfl) rfl))))
                    · skip
                      have i86 := r_lt1 0 31 c86 j10_4 i61 rfl
                      have i86a := r_lt2 1 32 c86 j10_4 i61 rfl
                      refine g_iload 91 (gd rfl) rfl rfl ?_
                      refine g_istore_n 92 (gd rfl) rfl (Nat.le_of_ble_eq_true rfl) ?_
                      refine g_iload 94 (gd rfl) rfl rfl ?_
                      refine g_istore_n 95 (gd rfl) rfl (Nat.le_of_ble_eq_true rfl) ?_
                      refine g_iload 97 (gd rfl) rfl rfl ?_
                      refine g_istore 99 (gd rfl) rfl (Nat.le_of_ble_eq_true rfl) ?_
                      refine g_iinc 102 (gd rfl) rfl rfl (Nat.le_of_ble_eq_true rfl) (fun z99 e99 => ?_)
                      have i99 := in_add 1 32 e99 i16 (in_c 1 rfl) rfl rfl
                      refine g_goto 10 (gd rfl) rfl ?_
                      have n10 : (z99).toInt ≤ (u_109_20).toInt := by have a0 := h1; unfold In at a0; have a1 := i16a; unfold In at a1; have a2 := i16; unfold In at a2; have a3 := i86; unfold In at a3; have a4 := j10_3; unfold In at a4; have a5 := i67; unfold In at a5; have a6 := i86a; unfold In at a6; have a7 := i51; unfold In at a7; have a8 := t_sub e51 h1 i48 rfl; have a9 := i48; unfold In at a9; have a10 := i99; unfold In at a10; have a11 := t_add e99 i16 (in_c 1 rfl) rfl; have a12 := (in_c 1 rfl); unfold In at a12; omega
                      have n10a : TGT s (z99).toInt (y10_5) := by first | exact tgt_k g10_0 (by have a0 := h1; unfold In at a0; have a1 := i16a; unfold In at a1; have a2 := i16; unfold In at a2; have a3 := i86; unfold In at a3; have a4 := j10_3; unfold In at a4; have a5 := i67; unfold In at a5; have a6 := i86a; unfold In at a6; have a7 := i51; unfold In at a7; have a8 := t_sub e51 h1 i48 rfl; have a9 := i48; unfold In at a9; have a10 := i99; unfold In at a10; have a11 := t_add e99 i16 (in_c 1 rfl) rfl; have a12 := (in_c 1 rfl); unfold In at a12; omega) (by have a0 := h1; unfold In at a0; have a1 := i16a; unfold In at a1; have a2 := i16; unfold In at a2; have a3 := i86; unfold In at a3; have a4 := j10_3; unfold In at a4; have a5 := i67; unfold In at a5; have a6 := i86a; unfold In at a6; have a7 := i51; unfold In at a7; have a8 := t_sub e51 h1 i48 rfl; have a9 := i48; unfold In at a9; have a10 := i99; unfold In at a10; have a11 := t_add e99 i16 (in_c 1 rfl) rfl; have a12 := (in_c 1 rfl); unfold In at a12; omega) | exact tgt_c (by have a0 := h1; unfold In at a0; have a1 := i16a; unfold In at a1; have a2 := i16; unfold In at a2; have a3 := i86; unfold In at a3; have a4 := j10_3; unfold In at a4; have a5 := i67; unfold In at a5; have a6 := i86a; unfold In at a6; have a7 := i51; unfold In at a7; have a8 := t_sub e51 h1 i48 rfl; have a9 := i48; unfold In at a9; have a10 := i99; unfold In at a10; have a11 := t_add e99 i16 (in_c 1 rfl) rfl; have a12 := (in_c 1 rfl); unfold In at a12; omega) (by have a0 := h1; unfold In at a0; have a1 := i16a; unfold In at a1; have a2 := i16; unfold In at a2; have a3 := i86; unfold In at a3; have a4 := j10_3; unfold In at a4; have a5 := i67; unfold In at a5; have a6 := i86a; unfold In at a6; have a7 := i51; unfold In at a7; have a8 := t_sub e51 h1 i48 rfl; have a9 := i48; unfold In at a9; have a10 := i99; unfold In at a10; have a11 := t_add e99 i16 (in_c 1 rfl) rfl; have a12 := (in_c 1 rfl); unfold In at a12; omega) (by rw [← e_109_53]; exact bt_yes e25x2 e25x4 i16 c25x6) (by rw [← e37]; exact c38)
                      exact gg_w (by omega) (gg_f (gf_cons rfl (gf_cons rfl (gf_cons rfl (gf_cons rfl (gf_cons rfl (gf_cons rfl gf_nil)))))) (ih10  y10_5 z51 z61 z99  (in_w (-1) 31 i16 rfl) (in_w (-32) 200 i51 rfl) (in_w 0 32 i86a rfl) (in_w 0 32 i99 rfl) n10 n10a (m_up mm10 (t_add e99 i16 (in_c 1 rfl) rfl) (in_w 1 1 (in_c 1 rfl) rfl))))
  refine g_enter2 (k := 340) (N := 30601) (by omega) rfl (Nat.le_of_ble_eq_true rfl) ?_
  refine g_iconst (-1) 1 (gd rfl) rfl rfl ?_
  refine g_istore_n 2 (gd rfl) rfl (Nat.le_of_ble_eq_true rfl) ?_
  refine g_iconst 0 3 (gd rfl) rfl rfl ?_
  refine g_istore_n 4 (gd rfl) rfl (Nat.le_of_ble_eq_true rfl) ?_
  refine g_iconst 0 5 (gd rfl) rfl rfl ?_
  refine g_istore 7 (gd rfl) rfl (Nat.le_of_ble_eq_true rfl) ?_
  refine g_iconst 0 8 (gd rfl) rfl rfl ?_
  refine g_istore 10 (gd rfl) rfl (Nat.le_of_ble_eq_true rfl) ?_
  have n10 : ((Int32.ofInt 0)).toInt ≤ (u_109_20).toInt := by have a0 := ro_109_20; unfold In at a0; have a1 := h1; unfold In at a1; have a2 := (in_c 0 rfl); unfold In at a2; have a3 := (in_c (-1) rfl); unfold In at a3; omega
  have n10a : TGT s ((Int32.ofInt 0)).toInt ((Int32.ofInt (-1))) := by exact tgt_0 (by decide)
  exact gg_w (by omega) (gg_f (gf_cons rfl (gf_cons rfl (gf_cons rfl (gf_cons rfl (gf_cons rfl (gf_cons rfl gf_nil)))))) (ct10 33  (Int32.ofInt (-1)) (Int32.ofInt 0) (Int32.ofInt 0) (Int32.ofInt 0)  (in_w (-1) 31 (in_c (-1) rfl) rfl) (in_w (-32) 200 (in_c 0 rfl) rfl) (in_w 0 32 (in_c 0 rfl) rfl) (in_w 0 32 (in_c 0 rfl) rfl) n10 n10a (m_in 33 (in_w 0 32 (in_c 0 rfl) rfl) rfl)))
