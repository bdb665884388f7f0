/-! methods, by vc.py -/
def fm_275 : FM := ([110, 111, 112, 113, 114, 115, 116, 117], [], [], [])
def fm_276 : FM := ([], [], [(109, 18), (109, 19), (109, 20)], [])
/-- GraphHouseModel.freePlace -/
theorem k_280 {Z : AmZ} {A : Nat → Nat} {s : GS} {ex : va_W} {d : Nat} {X : AmX} {x1 : Int32} (hd : 1 ≤ d) (hI : Inv s) (h1 : In x1 0 2) : GC Z d 280 [.ref (A 109), .int x1] (WW Z A s ++ ex) 0 0 (fun v u => ∃ z : Int32, v = some (.int z) ∧ u = WW Z A s ++ ex ∧ In z 0 160 ∧ ((z).toNatClampNeg = fpl (thg s (160 * (x1).toNatClampNeg)))) X := by
  intro post xp hP hX
  have ct2 : ∀ (k2 : Nat) (y2_2 : Int32), (In y2_2 0 160) → (∀ i : Nat, (i : Int) < (y2_2).toInt → (s.1 112 (160 * (x1).toNatClampNeg + i)).toInt ≠ 0) → 160 - (y2_2).toInt < (k2 : Int) → GG Z (d - 1) 280 post (gx xp) (1 + k2 * 900) 2 (fun j => xlook j [(0, .ref (A 109)), (1, .int x1), (2, .int y2_2)]) [] (WW Z A s ++ ex) 0 0 := by
    intro k2
    induction k2 with
    | zero => intro y2_2 j2_2 g2_0 mm2; exact m_no mm2 j2_2 rfl
    | succ k2 ih2 =>
      intro y2_2 j2_2 g2_0 mm2
      refine gg_w (M := 1 + k2 * 900 + 900) (by omega) ?_
      refine g_iload_n 3 (gd rfl) rfl rfl ?_
      refine g_sipush 160 6 (gd rfl) rfl rfl ?_
      refine g_cmp_ge 9 30 (gd rfl) rfl rfl (fun c6 => ?_) (fun c6 => ?_)
      · skip
        have i6 := r_le2 160 160 c6 (in_c 160 rfl) j2_2 rfl
        refine g_iload_n 31 (gd rfl) rfl rfl ?_
        have n31 : (y2_2).toNatClampNeg = fpl (thg s (160 * (x1).toNatClampNeg)) := by exact (fpl_eq (r := y2_2.toNatClampNeg) (by show y2_2.toInt.toNat ≤ 160; have a0 := h1; unfold In at a0; have a1 := i6; unfold In at a1; omega) (fun i hi => decide_eq_true (g2_0 i (by have e2 : y2_2.toNatClampNeg = y2_2.toInt.toNat := rfl; have a0 := h1; unfold In at a0; have a1 := i6; unfold In at a1; omega))) (fun hlt => by first | (exfalso; have e2 : y2_2.toNatClampNeg = y2_2.toInt.toNat := rfl; have a0 := h1; unfold In at a0; have a1 := i6; unfold In at a1; omega) | (refine decide_eq_false (fun z => z ?_); rw [show 160 * x1.toNatClampNeg + y2_2.toNatClampNeg = z19.toNatClampNeg from (by show 160 * x1.toInt.toNat + y2_2.toInt.toNat = z19.toInt.toNat; have a0 := h1; unfold In at a0; have a1 := i6; unfold In at a1; omega), ← e20]; exact c21))).symm
        exact g_ireturn (gd rfl) rfl rfl (hP _ _ ⟨y2_2, rfl, rfl, in_w 0 160 i6 rfl, n31⟩)
      · skip
        have i6 := r_lt1 0 159 c6 j2_2 (in_c 160 rfl) rfl
        refine g_aload_n 10 (gd rfl) rfl rfl ?_
        refine g_getA (q2 := 112) 13 (gd rfl) rfl rfl rfl rfl ?_
        refine g_sipush 160 16 (gd rfl) rfl rfl ?_
        refine g_iload_n 17 (gd rfl) rfl rfl ?_
        refine g_imul 18 (gd rfl) rfl (fun z17 e17 => ?_)
        have i17 := in_mulc 160 0 320 (Or.inl e17) h1 rfl rfl
        refine g_iload_n 19 (gd rfl) rfl rfl ?_
        refine g_iadd 20 (gd rfl) rfl (fun z19 e19 => ?_)
        have i19 := in_add 0 479 e19 i17 i6 rfl rfl
        refine g_baload 21 (gd rfl) rfl (n := 480) rfl (in_ix i19 rfl) (fun z20 e20 => ?_)
        have i20 := inv_I hI (n := 480) (t := 3) 0 1 rfl (in_ix i19 rfl) rfl e20
        refine g_if_eq 24 30 (gd rfl) rfl rfl (fun c21 => ?_) (fun c21 => ?_)
        · skip
          have i21 := z_eq 0 0 c21 i20 rfl
          refine g_iload_n 31 (gd rfl) rfl rfl ?_
          have n31 : (y2_2).toNatClampNeg = fpl (thg s (160 * (x1).toNatClampNeg)) := by exact (fpl_eq (r := y2_2.toNatClampNeg) (by show y2_2.toInt.toNat ≤ 160; have a0 := h1; unfold In at a0; have a1 := i6; unfold In at a1; have a2 := i19; unfold In at a2; have a3 := t_add e19 i17 i6 rfl; have a4 := i17; unfold In at a4; have a5 := (t_mulc 160 (Or.inl e17) h1 rfl).1; omega) (fun i hi => decide_eq_true (g2_0 i (by have e2 : y2_2.toNatClampNeg = y2_2.toInt.toNat := rfl; have a0 := h1; unfold In at a0; have a1 := i6; unfold In at a1; have a2 := i19; unfold In at a2; have a3 := t_add e19 i17 i6 rfl; have a4 := i17; unfold In at a4; have a5 := (t_mulc 160 (Or.inl e17) h1 rfl).1; omega))) (fun hlt => by first | (exfalso; have e2 : y2_2.toNatClampNeg = y2_2.toInt.toNat := rfl; have a0 := h1; unfold In at a0; have a1 := i6; unfold In at a1; have a2 := i19; unfold In at a2; have a3 := t_add e19 i17 i6 rfl; have a4 := i17; unfold In at a4; have a5 := (t_mulc 160 (Or.inl e17) h1 rfl).1; omega) | (refine decide_eq_false (fun z => z ?_); rw [show 160 * x1.toNatClampNeg + y2_2.toNatClampNeg = z19.toNatClampNeg from (by show 160 * x1.toInt.toNat + y2_2.toInt.toNat = z19.toInt.toNat; have a0 := h1; unfold In at a0; have a1 := i6; unfold In at a1; have a2 := i19; unfold In at a2; have a3 := t_add e19 i17 i6 rfl; have a4 := i17; unfold In at a4; have a5 := (t_mulc 160 (Or.inl e17) h1 rfl).1; omega), ← e20]; exact c21))).symm
          exact g_ireturn (gd rfl) rfl rfl (hP _ _ ⟨y2_2, rfl, rfl, in_w 0 160 i6 rfl, n31⟩)
        · skip
          have i21 := z_ne 1 1 c21 i20 rfl
          refine g_iinc 27 (gd rfl) rfl rfl (Nat.le_of_ble_eq_true rfl) (fun z24 e24 => ?_)
          have i24 := in_add 1 160 e24 i6 (in_c 1 rfl) rfl rfl
          refine g_goto 2 (gd rfl) rfl ?_
          have n2 : ∀ i : Nat, (i : Int) < (z24).toInt → (s.1 112 (160 * (x1).toNatClampNeg + i)).toInt ≠ 0 := by (intro i hi; have e2 : y2_2.toNatClampNeg = y2_2.toInt.toNat := rfl; by_cases c : i = y2_2.toNatClampNeg; (rw [c, show 160 * x1.toNatClampNeg + y2_2.toNatClampNeg = z19.toNatClampNeg from (by show 160 * x1.toInt.toNat + y2_2.toInt.toNat = z19.toInt.toNat; have a0 := h1; unfold In at a0; have a1 := i6; unfold In at a1; have a2 := i24; unfold In at a2; have a3 := t_add e24 i6 (in_c 1 rfl) rfl; have a4 := (in_c 1 rfl); unfold In at a4; have a5 := i19; unfold In at a5; have a6 := t_add e19 i17 i6 rfl; have a7 := i17; unfold In at a7; have a8 := (t_mulc 160 (Or.inl e17) h1 rfl).1; omega), ← e20]; exact c21); exact g2_0 i (by have a0 := h1; unfold In at a0; have a1 := i6; unfold In at a1; have a2 := i24; unfold In at a2; have a3 := t_add e24 i6 (in_c 1 rfl) rfl; have a4 := (in_c 1 rfl); unfold In at a4; have a5 := i19; unfold In at a5; have a6 := t_add e19 i17 i6 rfl; have a7 := i17; unfold In at a7; have a8 := (t_mulc 160 (Or.inl e17) h1 rfl).1; omega))
          exact gg_w (by omega) (gg_f (gf_cons rfl (gf_cons rfl (gf_cons rfl gf_nil))) (ih2  z24  (in_w 0 160 i24 rfl) n2 (m_up mm2 (t_add e24 i6 (in_c 1 rfl) rfl) (in_w 1 1 (in_c 1 rfl) rfl))))
  refine g_enter2 (k := 280) (N := 145801) (by omega) rfl (Nat.le_of_ble_eq_true rfl) ?_
  refine g_iconst 0 1 (gd rfl) rfl rfl ?_
  refine g_istore_n 2 (gd rfl) rfl (Nat.le_of_ble_eq_true rfl) ?_
  have n2 : ∀ i : Nat, (i : Int) < ((Int32.ofInt 0)).toInt → (s.1 112 (160 * (x1).toNatClampNeg + i)).toInt ≠ 0 := by (intro i hi; exfalso; have h0 : (Int32.ofInt 0).toInt = 0 := rfl; omega)
  exact gg_w (by omega) (gg_f (gf_cons rfl (gf_cons rfl (gf_cons rfl gf_nil))) (ct2 161  (Int32.ofInt 0)  (in_w 0 160 (in_c 0 rfl) rfl) n2 (m_in 161 (in_w 0 160 (in_c 0 rfl) rfl) rfl)))

def fm_286 : FM := ([110, 111, 112, 113, 114, 115, 116, 117], [], [(109, 0), (109, 17), (109, 18), (109, 19), (109, 20)], [])
def fm_287 : FM := ([], [], [(109, 0)], [])
def fm_289 : FM := ([], [], [(109, 0)], [])
/-- GraphHouseModel.size -/
theorem k_289 {Z : AmZ} {A : Nat → Nat} {s : GS} {ex : va_W} {d : Nat} {X : AmX} {x1 : Int32} (hd : 4 ≤ d) (hI : Inv s)  : GC Z d 289 [.ref (A 109), .int x1] (WW Z A s ++ ex) 0 0 (fun v u => ∃ t : GS, Inv t ∧ Fr fm_289 s t ∧ ∃ z : Int32, v = some (.int z) ∧ u = WW Z A t ++ ex ∧ In z (-1) 160) X := by
  intro post xp hP hX
  obtain ⟨u_109_19, e_109_19⟩ : ∃ w, w = s.2.2.1 109 19 := ⟨_, rfl⟩
  have ro_109_19 := inv_F hI 0 160 rfl e_109_19
  obtain ⟨u_109_20, e_109_20⟩ : ∃ w, w = s.2.2.1 109 20 := ⟨_, rfl⟩
  have ro_109_20 := inv_F hI 0 32 rfl e_109_20
  have ct28 : ∀ (k28 : Nat) (sc28 : GS) (y28_2 : Int32) (y28_3 : Int32) (y28_4 : Int32) (y28_5 : Int32), Inv sc28 → Fr fm_289 s sc28 → (In x1 0 3) → (In y28_2 0 160) → (In y28_3 0 160) → (In y28_4 (-1) 159) → (In y28_5 0 160) → ((y28_2).toInt ≤ (y28_5).toInt + 0) → ((y28_3).toInt ≤ (y28_5).toInt + 0) → 160 - (y28_5).toInt < (k28 : Int) → GG Z (d - 1) 289 post (gx xp) (1 + k28 * 900) 28 (fun j => xlook j [(0, .ref (A 109)), (1, .int x1), (2, .int y28_2), (3, .int y28_3), (4, .int y28_4), (5, .int y28_5)]) [] (WW Z A sc28 ++ ex) 0 0 := by
    intro k28
    induction k28 with
    | zero => intro sc28 y28_2 y28_3 y28_4 y28_5 hIc28 hFc28 j28_1 j28_2 j28_3 j28_4 j28_5 l28_2 l28_3 mm28; exact m_no mm28 j28_5 rfl
    | succ k28 ih28 =>
      intro sc28 y28_2 y28_3 y28_4 y28_5 hIc28 hFc28 j28_1 j28_2 j28_3 j28_4 j28_5 l28_2 l28_3 mm28
      refine gg_w (M := 1 + k28 * 900 + 900) (by omega) ?_
      refine g_iload 30 (gd rfl) rfl rfl ?_
      refine g_sipush 160 33 (gd rfl) rfl rfl ?_
      refine g_cmp_ge 36 106 (gd rfl) rfl rfl (fun c33 => ?_) (fun c33 => ?_)
      · skip
        have i33 := r_le2 160 160 c33 (in_c 160 rfl) j28_5 rfl
        refine g_iload_n 107 (gd rfl) rfl rfl ?_
        refine g_if_ne 110 117 (gd rfl) rfl rfl (fun c107 => ?_) (fun c107 => ?_)
        · skip
          have i107 := z_ne 1 3 c107 j28_1 rfl
          refine g_iload_n 118 (gd rfl) rfl rfl ?_
          refine g_iconst 1 119 (gd rfl) rfl rfl ?_
          refine g_cmp_ne 122 126 (gd rfl) rfl rfl (fun c119 => ?_) (fun c119 => ?_)
          · skip
            have i119 := r_ne1 2 3 c119 i107 (in_c 1 rfl) rfl
            refine g_iload_n 127 (gd rfl) rfl rfl ?_
            refine g_iconst 2 128 (gd rfl) rfl rfl ?_
            refine g_cmp_ne 131 135 (gd rfl) rfl rfl (fun c128 => ?_) (fun c128 => ?_)
            · skip
              have i128 := r_ne1 3 3 c128 i119 (in_c 2 rfl) rfl
              refine g_iload 137 (gd rfl) rfl rfl ?_
              exact g_ireturn (gd rfl) rfl rfl (hP _ _ ⟨sc28, hIc28, hFc28, y28_4, rfl, rfl, in_w (-1) 160 j28_4 rfl⟩)
            · skip
              have i128 := r_eq1 2 2 c128 i119 (in_c 2 rfl) rfl
              refine g_iload_n 132 (gd rfl) rfl rfl ?_
              refine g_goto 137 (gd rfl) rfl ?_
              exact g_ireturn (gd rfl) rfl rfl (hP _ _ ⟨sc28, hIc28, hFc28, y28_3, rfl, rfl, in_w (-1) 160 j28_3 rfl⟩)
          · skip
            have i119 := r_eq1 1 1 c119 i107 (in_c 1 rfl) rfl
            refine g_iload_n 123 (gd rfl) rfl rfl ?_
            refine g_goto 137 (gd rfl) rfl ?_
            exact g_ireturn (gd rfl) rfl rfl (hP _ _ ⟨sc28, hIc28, hFc28, y28_2, rfl, rfl, in_w (-1) 160 j28_2 rfl⟩)
        · skip
          have i107 := z_eq 0 0 c107 j28_1 rfl
          refine g_aload_n 111 (gd rfl) rfl rfl ?_
          refine g_getI 114 (gd rfl) rfl rfl rfl (fun z111 e111 => ?_)
          have q111 : u_109_20 = z111 := (fr_F e_109_20 hFc28 rfl).trans e111.symm
          subst q111
          refine g_goto 137 (gd rfl) rfl ?_
          exact g_ireturn (gd rfl) rfl rfl (hP _ _ ⟨sc28, hIc28, hFc28, u_109_20, rfl, rfl, in_w (-1) 160 ro_109_20 rfl⟩)
      · skip
        have i33 := r_lt1 0 159 c33 j28_5 (in_c 160 rfl) rfl
        refine g_iload_n 37 (gd rfl) rfl rfl ?_
        refine g_aload_n 38 (gd rfl) rfl rfl ?_
        refine g_getA (q2 := 112) 41 (gd rfl) rfl rfl rfl rfl ?_
        refine g_aload_n 42 (gd rfl) rfl rfl ?_
        refine g_getI 45 (gd rfl) rfl rfl rfl (fun z42 e42 => ?_)
        have q42 : u_109_19 = z42 := (fr_F e_109_19 hFc28 rfl).trans e42.symm
        subst q42
        refine g_iload 47 (gd rfl) rfl rfl ?_
        refine g_iadd 48 (gd rfl) rfl (fun z47 e47 => ?_)
        have i47 := in_add 0 319 e47 ro_109_19 i33 rfl rfl
        refine g_baload 49 (gd rfl) rfl (n := 480) rfl (in_ix i47 rfl) (fun z48 e48 => ?_)
        have i48 := inv_I hIc28 (n := 480) (t := 3) 0 1 rfl (in_ix i47 rfl) rfl e48
        refine g_if_eq 52 56 (gd rfl) rfl rfl (fun c49 => ?_) (fun c49 => ?_)
        · skip
          have i49 := z_eq 0 0 c49 i48 rfl
          refine g_iconst 0 57 (gd rfl) rfl rfl ?_
          refine g_iadd 58 (gd rfl) rfl (fun z57 e57 => ?_)
          have i57 := in_add 0 160 e57 j28_2 (in_c 0 rfl) rfl rfl
          refine g_istore_n 59 (gd rfl) rfl (Nat.le_of_ble_eq_true rfl) ?_
          refine g_iload_n 60 (gd rfl) rfl rfl ?_
          refine g_aload_n 61 (gd rfl) rfl rfl ?_
          refine g_iload 63 (gd rfl) rfl rfl ?_
          refine g_callv (X := _) (As := [.int y28_5]) (r := [.int y28_3]) (b := A 109) (q := 109) 66 (gd rfl) rfl rfl rfl rfl rfl (ww_o rfl) (Nat.le_of_ble_eq_true rfl) (mc := 0) (ms := 0) (Nat.zero_le _) (Nat.zero_le _) (P := fun v u => _) ?_ (fun e u h => h) (fun v u h => h)
          intro po63 xx63 hp63 hx63
          refine g_enter2 (k := 288) (N := 300) (by omega) rfl (Nat.le_of_ble_eq_true rfl) ?_
          refine g_aload_n 1 (gd rfl) rfl rfl ?_
          refine g_getA (q2 := 112) 4 (gd rfl) rfl rfl rfl rfl ?_
          refine g_aload_n 5 (gd rfl) rfl rfl ?_
          refine g_getI 8 (gd rfl) rfl rfl rfl (fun z63x5 e63x5 => ?_)
          have q63x5 : u_109_19 = z63x5 := (fr_F e_109_19 hFc28 rfl).trans e63x5.symm
          subst q63x5
          refine g_iload_n 9 (gd rfl) rfl rfl ?_
          refine g_iadd 10 (gd rfl) rfl (fun z63x9 e63x9 => ?_)
          have i63x9 := in_add 0 319 e63x9 ro_109_19 i33 rfl rfl
          refine g_baload 11 (gd rfl) rfl (n := 480) rfl (in_ix i63x9 rfl) (fun z63x10 e63x10 => ?_)
          have i63x10 := inv_I hIc28 (n := 480) (t := 3) 0 1 rfl (in_ix i63x9 rfl) rfl e63x10
          refine g_if_eq 14 43 (gd rfl) rfl rfl (fun c63x11 => ?_) (fun c63x11 => ?_)
          · skip
            have i63x11 := z_eq 0 0 c63x11 i63x10 rfl
            refine g_iconst 0 44 (gd rfl) rfl rfl ?_
            refine g_ireturn (gd rfl) rfl (nb01 (in_w 0 1 (in_c 0 rfl) rfl)) (hp63 _ _ ?_)
            show GG _ _ _ _ _ _ _ _ [.int (Int32.ofInt 0), .int y28_3] _ _ _
            refine g_if_eq 69 73 (gd rfl) rfl rfl (fun c66 => ?_) (fun c66 => ?_)
            · skip
              refine g_iconst 0 74 (gd rfl) rfl rfl ?_
              refine g_iadd 75 (gd rfl) rfl (fun z74 e74 => ?_)
              have i74 := in_add 0 160 e74 j28_3 (in_c 0 rfl) rfl rfl
              refine g_istore_n 76 (gd rfl) rfl (Nat.le_of_ble_eq_true rfl) ?_
              refine g_aload_n 77 (gd rfl) rfl rfl ?_
              refine g_getA (q2 := 112) 80 (gd rfl) rfl rfl rfl rfl ?_
              refine g_aload_n 81 (gd rfl) rfl rfl ?_
              refine g_getI 84 (gd rfl) rfl rfl rfl (fun z81 e81 => ?_)
              have q81 : u_109_19 = z81 := (fr_F e_109_19 hFc28 rfl).trans e81.symm
              subst q81
              refine g_iload 86 (gd rfl) rfl rfl ?_
              refine g_iadd 87 (gd rfl) rfl (fun z86 e86 => ?_)
              have i86 := in_add 0 319 e86 ro_109_19 i33 rfl rfl
              refine g_baload 88 (gd rfl) rfl (n := 480) rfl (in_ix i86 rfl) (fun z87 e87 => ?_)
              have i87 := inv_I hIc28 (n := 480) (t := 3) 0 1 rfl (in_ix i86 rfl) rfl e87
              refine g_if_eq 91 96 (gd rfl) rfl rfl (fun c88 => ?_) (fun c88 => ?_)
              · skip
                have i88 := z_eq 0 0 c88 i87 rfl
                refine g_iload 98 (gd rfl) rfl rfl ?_
                refine g_istore 100 (gd rfl) rfl (Nat.le_of_ble_eq_true rfl) ?_
                refine g_iinc 103 (gd rfl) rfl rfl (Nat.le_of_ble_eq_true rfl) (fun z100 e100 => ?_)
                have i100 := in_add 1 160 e100 i33 (in_c 1 rfl) rfl rfl
                refine g_goto 28 (gd rfl) rfl ?_
                have l28 := rl_1 l28_2 (t_add e57 j28_2 (in_c 0 rfl) rfl) (in_c 0 rfl) (t_add e100 i33 (in_c 1 rfl) rfl) (in_c 1 rfl) rfl
                have l28a := rl_1 l28_3 (t_add e74 j28_3 (in_c 0 rfl) rfl) (in_c 0 rfl) (t_add e100 i33 (in_c 1 rfl) rfl) (in_c 1 rfl) rfl
                exact gg_w (by omega) (gg_f (gf_cons rfl (gf_cons rfl (gf_cons rfl (gf_cons rfl (gf_cons rfl (gf_cons rfl gf_nil)))))) (ih28 sc28 z57 z74 y28_4 z100 hIc28 hFc28 (in_w 0 3 j28_1 rfl) (rl_w 0 160 l28 i57 (in_w 0 160 i100 rfl) rfl) (rl_w 0 160 l28a i74 (in_w 0 160 i100 rfl) rfl) (in_w (-1) 159 j28_4 rfl) (in_w 0 160 i100 rfl) l28 l28a (m_up mm28 (t_add e100 i33 (in_c 1 rfl) rfl) (in_w 1 1 (in_c 1 rfl) rfl))))
              · skip
                have i88 := z_ne 1 1 c88 i87 rfl
                refine g_iload 93 (gd rfl) rfl rfl ?_
                refine g_goto 98 (gd rfl) rfl ?_
                refine g_istore 100 (gd rfl) rfl (Nat.le_of_ble_eq_true rfl) ?_
                refine g_iinc 103 (gd rfl) rfl rfl (Nat.le_of_ble_eq_true rfl) (fun z100 e100 => ?_)
                have i100 := in_add 1 160 e100 i33 (in_c 1 rfl) rfl rfl
                refine g_goto 28 (gd rfl) rfl ?_
                have l28 := rl_1 l28_2 (t_add e57 j28_2 (in_c 0 rfl) rfl) (in_c 0 rfl) (t_add e100 i33 (in_c 1 rfl) rfl) (in_c 1 rfl) rfl
                have l28a := rl_1 l28_3 (t_add e74 j28_3 (in_c 0 rfl) rfl) (in_c 0 rfl) (t_add e100 i33 (in_c 1 rfl) rfl) (in_c 1 rfl) rfl
                exact gg_w (by omega) (gg_f (gf_cons rfl (gf_cons rfl (gf_cons rfl (gf_cons rfl (gf_cons rfl (gf_cons rfl gf_nil)))))) (ih28 sc28 z57 z74 y28_5 z100 hIc28 hFc28 (in_w 0 3 j28_1 rfl) (rl_w 0 160 l28 i57 (in_w 0 160 i100 rfl) rfl) (rl_w 0 160 l28a i74 (in_w 0 160 i100 rfl) rfl) (in_w (-1) 159 i33 rfl) (in_w 0 160 i100 rfl) l28 l28a (m_up mm28 (t_add e100 i33 (in_c 1 rfl) rfl) (in_w 1 1 (in_c 1 rfl) rfl))))
            · skip
              exact zn_ne c66 (in_c 0 rfl) rfl
          · skip
            have i63x11 := z_ne 1 1 c63x11 i63x10 rfl
            refine g_aload_n 15 (gd rfl) rfl rfl ?_
            refine g_getA (q2 := 113) 18 (gd rfl) rfl rfl rfl rfl ?_
            refine g_aload_n 19 (gd rfl) rfl rfl ?_
            refine g_getI 22 (gd rfl) rfl rfl rfl (fun z63x19 e63x19 => ?_)
            have q63x19 : u_109_19 = z63x19 := (fr_F e_109_19 hFc28 rfl).trans e63x19.symm
            subst q63x19
            refine g_iload_n 23 (gd rfl) rfl rfl ?_
            refine g_iadd 24 (gd rfl) rfl (fun z63x23 e63x23 => ?_)
            have i63x23 := in_add 0 319 e63x23 ro_109_19 i33 rfl rfl
            refine g_iaload 25 (gd rfl) rfl (n := 480) rfl (in_ix i63x23 rfl) (fun z63x24 e63x24 => ?_)
            have i63x24 := inv_I hIc28 (n := 480) (t := 0) 0 31 rfl (in_ix i63x23 rfl) rfl e63x24
            refine g_aload_n 26 (gd rfl) rfl rfl ?_
            refine g_getA (q2 := 114) 29 (gd rfl) rfl rfl rfl rfl ?_
            refine g_aload_n 30 (gd rfl) rfl rfl ?_
            refine g_getI 33 (gd rfl) rfl rfl rfl (fun z63x30 e63x30 => ?_)
            have q63x30 : u_109_19 = z63x30 := (fr_F e_109_19 hFc28 rfl).trans e63x30.symm
            subst q63x30
            refine g_iload_n 34 (gd rfl) rfl rfl ?_
            refine g_iadd 35 (gd rfl) rfl (fun z63x34 e63x34 => ?_)
            have i63x34 := in_add 0 319 e63x34 ro_109_19 i33 rfl rfl
            refine g_iaload 36 (gd rfl) rfl (n := 480) rfl (in_ix i63x34 rfl) (fun z63x35 e63x35 => ?_)
            have i63x35 := inv_I hIc28 (n := 480) (t := 0) 0 31 rfl (in_ix i63x34 rfl) rfl e63x35
            refine g_cmp_eq 39 43 (gd rfl) rfl rfl (fun c63x36 => ?_) (fun c63x36 => ?_)
            · skip
              refine g_iconst 0 44 (gd rfl) rfl rfl ?_
              refine g_ireturn (gd rfl) rfl (nb01 (in_w 0 1 (in_c 0 rfl) rfl)) (hp63 _ _ ?_)
              show GG _ _ _ _ _ _ _ _ [.int (Int32.ofInt 0), .int y28_3] _ _ _
              refine g_if_eq 69 73 (gd rfl) rfl rfl (fun c66 => ?_) (fun c66 => ?_)
              · skip
                refine g_iconst 0 74 (gd rfl) rfl rfl ?_
                refine g_iadd 75 (gd rfl) rfl (fun z74 e74 => ?_)
                have i74 := in_add 0 160 e74 j28_3 (in_c 0 rfl) rfl rfl
                refine g_istore_n 76 (gd rfl) rfl (Nat.le_of_ble_eq_true rfl) ?_
                refine g_aload_n 77 (gd rfl) rfl rfl ?_
                refine g_getA (q2 := 112) 80 (gd rfl) rfl rfl rfl rfl ?_
                refine g_aload_n 81 (gd rfl) rfl rfl ?_
                refine g_getI 84 (gd rfl) rfl rfl rfl (fun z81 e81 => ?_)
                have q81 : u_109_19 = z81 := (fr_F e_109_19 hFc28 rfl).trans e81.symm
                subst q81
                refine g_iload 86 (gd rfl) rfl rfl ?_
                refine g_iadd 87 (gd rfl) rfl (fun z86 e86 => ?_)
                have i86 := in_add 0 319 e86 ro_109_19 i33 rfl rfl
                refine g_baload 88 (gd rfl) rfl (n := 480) rfl (in_ix i86 rfl) (fun z87 e87 => ?_)
                have i87 := inv_I hIc28 (n := 480) (t := 3) 0 1 rfl (in_ix i86 rfl) rfl e87
                refine g_if_eq 91 96 (gd rfl) rfl rfl (fun c88 => ?_) (fun c88 => ?_)
                · skip
                  have i88 := z_eq 0 0 c88 i87 rfl
                  refine g_iload 98 (gd rfl) rfl rfl ?_
                  refine g_istore 100 (gd rfl) rfl (Nat.le_of_ble_eq_true rfl) ?_
                  refine g_iinc 103 (gd rfl) rfl rfl (Nat.le_of_ble_eq_true rfl) (fun z100 e100 => ?_)
                  have i100 := in_add 1 160 e100 i33 (in_c 1 rfl) rfl rfl
                  refine g_goto 28 (gd rfl) rfl ?_
                  have l28 := rl_1 l28_2 (t_add e57 j28_2 (in_c 0 rfl) rfl) (in_c 0 rfl) (t_add e100 i33 (in_c 1 rfl) rfl) (in_c 1 rfl) rfl
                  have l28a := rl_1 l28_3 (t_add e74 j28_3 (in_c 0 rfl) rfl) (in_c 0 rfl) (t_add e100 i33 (in_c 1 rfl) rfl) (in_c 1 rfl) rfl
                  exact gg_w (by omega) (gg_f (gf_cons rfl (gf_cons rfl (gf_cons rfl (gf_cons rfl (gf_cons rfl (gf_cons rfl gf_nil)))))) (ih28 sc28 z57 z74 y28_4 z100 hIc28 hFc28 (in_w 0 3 j28_1 rfl) (rl_w 0 160 l28 i57 (in_w 0 160 i100 rfl) rfl) (rl_w 0 160 l28a i74 (in_w 0 160 i100 rfl) rfl) (in_w (-1) 159 j28_4 rfl) (in_w 0 160 i100 rfl) l28 l28a (m_up mm28 (t_add e100 i33 (in_c 1 rfl) rfl) (in_w 1 1 (in_c 1 rfl) rfl))))
                · skip
                  have i88 := z_ne 1 1 c88 i87 rfl
                  refine g_iload 93 (gd rfl) rfl rfl ?_
                  refine g_goto 98 (gd rfl) rfl ?_
                  refine g_istore 100 (gd rfl) rfl (Nat.le_of_ble_eq_true rfl) ?_
                  refine g_iinc 103 (gd rfl) rfl rfl (Nat.le_of_ble_eq_true rfl) (fun z100 e100 => ?_)
                  have i100 := in_add 1 160 e100 i33 (in_c 1 rfl) rfl rfl
                  refine g_goto 28 (gd rfl) rfl ?_
                  have l28 := rl_1 l28_2 (t_add e57 j28_2 (in_c 0 rfl) rfl) (in_c 0 rfl) (t_add e100 i33 (in_c 1 rfl) rfl) (in_c 1 rfl) rfl
                  have l28a := rl_1 l28_3 (t_add e74 j28_3 (in_c 0 rfl) rfl) (in_c 0 rfl) (t_add e100 i33 (in_c 1 rfl) rfl) (in_c 1 rfl) rfl
                  exact gg_w (by omega) (gg_f (gf_cons rfl (gf_cons rfl (gf_cons rfl (gf_cons rfl (gf_cons rfl (gf_cons rfl gf_nil)))))) (ih28 sc28 z57 z74 y28_5 z100 hIc28 hFc28 (in_w 0 3 j28_1 rfl) (rl_w 0 160 l28 i57 (in_w 0 160 i100 rfl) rfl) (rl_w 0 160 l28a i74 (in_w 0 160 i100 rfl) rfl) (in_w (-1) 159 i33 rfl) (in_w 0 160 i100 rfl) l28 l28a (m_up mm28 (t_add e100 i33 (in_c 1 rfl) rfl) (in_w 1 1 (in_c 1 rfl) rfl))))
              · skip
                exact zn_ne c66 (in_c 0 rfl) rfl
            · skip
              refine g_iconst 1 40 (gd rfl) rfl rfl ?_
              refine g_goto 44 (gd rfl) rfl ?_
              refine g_ireturn (gd rfl) rfl (nb01 (in_w 0 1 (in_c 1 rfl) rfl)) (hp63 _ _ ?_)
              show GG _ _ _ _ _ _ _ _ [.int (Int32.ofInt 1), .int y28_3] _ _ _
              refine g_if_eq 69 73 (gd rfl) rfl rfl (fun c66 => ?_) (fun c66 => ?_)
              · skip
                exact zn_eq c66 (in_c 1 rfl) rfl
              · skip
                refine g_iconst 1 70 (gd rfl) rfl rfl ?_
                refine g_goto 74 (gd rfl) rfl ?_
                refine g_iadd 75 (gd rfl) rfl (fun z74 e74 => ?_)
                have i74 := in_add 1 161 e74 j28_3 (in_c 1 rfl) rfl rfl
                refine g_istore_n 76 (gd rfl) rfl (Nat.le_of_ble_eq_true rfl) ?_
                refine g_aload_n 77 (gd rfl) rfl rfl ?_
                refine g_getA (q2 := 112) 80 (gd rfl) rfl rfl rfl rfl ?_
                refine g_aload_n 81 (gd rfl) rfl rfl ?_
                refine g_getI 84 (gd rfl) rfl rfl rfl (fun z81 e81 => ?_)
                have q81 : u_109_19 = z81 := (fr_F e_109_19 hFc28 rfl).trans e81.symm
                subst q81
                refine g_iload 86 (gd rfl) rfl rfl ?_
                refine g_iadd 87 (gd rfl) rfl (fun z86 e86 => ?_)
                have i86 := in_add 0 319 e86 ro_109_19 i33 rfl rfl
                refine g_baload 88 (gd rfl) rfl (n := 480) rfl (in_ix i86 rfl) (fun z87 e87 => ?_)
                have i87 := inv_I hIc28 (n := 480) (t := 3) 0 1 rfl (in_ix i86 rfl) rfl e87
                refine g_if_eq 91 96 (gd rfl) rfl rfl (fun c88 => ?_) (fun c88 => ?_)
                · skip
                  have i88 := z_eq 0 0 c88 i87 rfl
                  refine g_iload 98 (gd rfl) rfl rfl ?_
                  refine g_istore 100 (gd rfl) rfl (Nat.le_of_ble_eq_true rfl) ?_
                  refine g_iinc 103 (gd rfl) rfl rfl (Nat.le_of_ble_eq_true rfl) (fun z100 e100 => ?_)
                  have i100 := in_add 1 160 e100 i33 (in_c 1 rfl) rfl rfl
                  refine g_goto 28 (gd rfl) rfl ?_
                  have l28 := rl_1 l28_2 (t_add e57 j28_2 (in_c 0 rfl) rfl) (in_c 0 rfl) (t_add e100 i33 (in_c 1 rfl) rfl) (in_c 1 rfl) rfl
                  have l28a := rl_1 l28_3 (t_add e74 j28_3 (in_c 1 rfl) rfl) (in_c 1 rfl) (t_add e100 i33 (in_c 1 rfl) rfl) (in_c 1 rfl) rfl
                  exact gg_w (by omega) (gg_f (gf_cons rfl (gf_cons rfl (gf_cons rfl (gf_cons rfl (gf_cons rfl (gf_cons rfl gf_nil)))))) (ih28 sc28 z57 z74 y28_4 z100 hIc28 hFc28 (in_w 0 3 j28_1 rfl) (rl_w 0 160 l28 i57 (in_w 0 160 i100 rfl) rfl) (rl_w 0 160 l28a i74 (in_w 0 160 i100 rfl) rfl) (in_w (-1) 159 j28_4 rfl) (in_w 0 160 i100 rfl) l28 l28a (m_up mm28 (t_add e100 i33 (in_c 1 rfl) rfl) (in_w 1 1 (in_c 1 rfl) rfl))))
                · skip
                  have i88 := z_ne 1 1 c88 i87 rfl
                  refine g_iload 93 (gd rfl) rfl rfl ?_
                  refine g_goto 98 (gd rfl) rfl ?_
                  refine g_istore 100 (gd rfl) rfl (Nat.le_of_ble_eq_true rfl) ?_
                  refine g_iinc 103 (gd rfl) rfl rfl (Nat.le_of_ble_eq_true rfl) (fun z100 e100 => ?_)
                  have i100 := in_add 1 160 e100 i33 (in_c 1 rfl) rfl rfl
                  refine g_goto 28 (gd rfl) rfl ?_
                  have l28 := rl_1 l28_2 (t_add e57 j28_2 (in_c 0 rfl) rfl) (in_c 0 rfl) (t_add e100 i33 (in_c 1 rfl) rfl) (in_c 1 rfl) rfl
                  have l28a := rl_1 l28_3 (t_add e74 j28_3 (in_c 1 rfl) rfl) (in_c 1 rfl) (t_add e100 i33 (in_c 1 rfl) rfl) (in_c 1 rfl) rfl
                  exact gg_w (by omega) (gg_f (gf_cons rfl (gf_cons rfl (gf_cons rfl (gf_cons rfl (gf_cons rfl (gf_cons rfl gf_nil)))))) (ih28 sc28 z57 z74 y28_5 z100 hIc28 hFc28 (in_w 0 3 j28_1 rfl) (rl_w 0 160 l28 i57 (in_w 0 160 i100 rfl) rfl) (rl_w 0 160 l28a i74 (in_w 0 160 i100 rfl) rfl) (in_w (-1) 159 i33 rfl) (in_w 0 160 i100 rfl) l28 l28a (m_up mm28 (t_add e100 i33 (in_c 1 rfl) rfl) (in_w 1 1 (in_c 1 rfl) rfl))))
        · skip
          have i49 := z_ne 1 1 c49 i48 rfl
          refine g_iconst 1 53 (gd rfl) rfl rfl ?_
          refine g_goto 57 (gd rfl) rfl ?_
          refine g_iadd 58 (gd rfl) rfl (fun z57 e57 => ?_)
          have i57 := in_add 1 161 e57 j28_2 (in_c 1 rfl) rfl rfl
          refine g_istore_n 59 (gd rfl) rfl (Nat.le_of_ble_eq_true rfl) ?_
          refine g_iload_n 60 (gd rfl) rfl rfl ?_
          refine g_aload_n 61 (gd rfl) rfl rfl ?_
          refine g_iload 63 (gd rfl) rfl rfl ?_
          refine g_callv (X := _) (As := [.int y28_5]) (r := [.int y28_3]) (b := A 109) (q := 109) 66 (gd rfl) rfl rfl rfl rfl rfl (ww_o rfl) (Nat.le_of_ble_eq_true rfl) (mc := 0) (ms := 0) (Nat.zero_le _) (Nat.zero_le _) (P := fun v u => _) ?_ (fun e u h => h) (fun v u h => h)
          intro po63 xx63 hp63 hx63
          refine g_enter2 (k := 288) (N := 300) (by omega) rfl (Nat.le_of_ble_eq_true rfl) ?_
          refine g_aload_n 1 (gd rfl) rfl rfl ?_
          refine g_getA (q2 := 112) 4 (gd rfl) rfl rfl rfl rfl ?_
          refine g_aload_n 5 (gd rfl) rfl rfl ?_
          refine g_getI 8 (gd rfl) rfl rfl rfl (fun z63x5 e63x5 => ?_)
          have q63x5 : u_109_19 = z63x5 := (fr_F e_109_19 hFc28 rfl).trans e63x5.symm
          subst q63x5
          refine g_iload_n 9 (gd rfl) rfl rfl ?_
          refine g_iadd 10 (gd rfl) rfl (fun z63x9 e63x9 => ?_)
          have i63x9 := in_add 0 319 e63x9 ro_109_19 i33 rfl rfl
          refine g_baload 11 (gd rfl) rfl (n := 480) rfl (in_ix i63x9 rfl) (fun z63x10 e63x10 => ?_)
          have i63x10 := inv_I hIc28 (n := 480) (t := 3) 0 1 rfl (in_ix i63x9 rfl) rfl e63x10
          refine g_if_eq 14 43 (gd rfl) rfl rfl (fun c63x11 => ?_) (fun c63x11 => ?_)
          · skip
            have i63x11 := z_eq 0 0 c63x11 i63x10 rfl
            refine g_iconst 0 44 (gd rfl) rfl rfl ?_
            refine g_ireturn (gd rfl) rfl (nb01 (in_w 0 1 (in_c 0 rfl) rfl)) (hp63 _ _ ?_)
            show GG _ _ _ _ _ _ _ _ [.int (Int32.ofInt 0), .int y28_3] _ _ _
            refine g_if_eq 69 73 (gd rfl) rfl rfl (fun c66 => ?_) (fun c66 => ?_)
            · skip
              refine g_iconst 0 74 (gd rfl) rfl rfl ?_
              refine g_iadd 75 (gd rfl) rfl (fun z74 e74 => ?_)
              have i74 := in_add 0 160 e74 j28_3 (in_c 0 rfl) rfl rfl
              refine g_istore_n 76 (gd rfl) rfl (Nat.le_of_ble_eq_true rfl) ?_
              refine g_aload_n 77 (gd rfl) rfl rfl ?_
              refine g_getA (q2 := 112) 80 (gd rfl) rfl rfl rfl rfl ?_
              refine g_aload_n 81 (gd rfl) rfl rfl ?_
              refine g_getI 84 (gd rfl) rfl rfl rfl (fun z81 e81 => ?_)
              have q81 : u_109_19 = z81 := (fr_F e_109_19 hFc28 rfl).trans e81.symm
              subst q81
              refine g_iload 86 (gd rfl) rfl rfl ?_
              refine g_iadd 87 (gd rfl) rfl (fun z86 e86 => ?_)
              have i86 := in_add 0 319 e86 ro_109_19 i33 rfl rfl
              refine g_baload 88 (gd rfl) rfl (n := 480) rfl (in_ix i86 rfl) (fun z87 e87 => ?_)
              have i87 := inv_I hIc28 (n := 480) (t := 3) 0 1 rfl (in_ix i86 rfl) rfl e87
              refine g_if_eq 91 96 (gd rfl) rfl rfl (fun c88 => ?_) (fun c88 => ?_)
              · skip
                have i88 := z_eq 0 0 c88 i87 rfl
                refine g_iload 98 (gd rfl) rfl rfl ?_
                refine g_istore 100 (gd rfl) rfl (Nat.le_of_ble_eq_true rfl) ?_
                refine g_iinc 103 (gd rfl) rfl rfl (Nat.le_of_ble_eq_true rfl) (fun z100 e100 => ?_)
                have i100 := in_add 1 160 e100 i33 (in_c 1 rfl) rfl rfl
                refine g_goto 28 (gd rfl) rfl ?_
                have l28 := rl_1 l28_2 (t_add e57 j28_2 (in_c 1 rfl) rfl) (in_c 1 rfl) (t_add e100 i33 (in_c 1 rfl) rfl) (in_c 1 rfl) rfl
                have l28a := rl_1 l28_3 (t_add e74 j28_3 (in_c 0 rfl) rfl) (in_c 0 rfl) (t_add e100 i33 (in_c 1 rfl) rfl) (in_c 1 rfl) rfl
                exact gg_w (by omega) (gg_f (gf_cons rfl (gf_cons rfl (gf_cons rfl (gf_cons rfl (gf_cons rfl (gf_cons rfl gf_nil)))))) (ih28 sc28 z57 z74 y28_4 z100 hIc28 hFc28 (in_w 0 3 j28_1 rfl) (rl_w 0 160 l28 i57 (in_w 0 160 i100 rfl) rfl) (rl_w 0 160 l28a i74 (in_w 0 160 i100 rfl) rfl) (in_w (-1) 159 j28_4 rfl) (in_w 0 160 i100 rfl) l28 l28a (m_up mm28 (t_add e100 i33 (in_c 1 rfl) rfl) (in_w 1 1 (in_c 1 rfl) rfl))))
              · skip
                have i88 := z_ne 1 1 c88 i87 rfl
                refine g_iload 93 (gd rfl) rfl rfl ?_
                refine g_goto 98 (gd rfl) rfl ?_
                refine g_istore 100 (gd rfl) rfl (Nat.le_of_ble_eq_true rfl) ?_
                refine g_iinc 103 (gd rfl) rfl rfl (Nat.le_of_ble_eq_true rfl) (fun z100 e100 => ?_)
                have i100 := in_add 1 160 e100 i33 (in_c 1 rfl) rfl rfl
                refine g_goto 28 (gd rfl) rfl ?_
                have l28 := rl_1 l28_2 (t_add e57 j28_2 (in_c 1 rfl) rfl) (in_c 1 rfl) (t_add e100 i33 (in_c 1 rfl) rfl) (in_c 1 rfl) rfl
                have l28a := rl_1 l28_3 (t_add e74 j28_3 (in_c 0 rfl) rfl) (in_c 0 rfl) (t_add e100 i33 (in_c 1 rfl) rfl) (in_c 1 rfl) rfl
                exact gg_w (by omega) (gg_f (gf_cons rfl (gf_cons rfl (gf_cons rfl (gf_cons rfl (gf_cons rfl (gf_cons rfl gf_nil)))))) (ih28 sc28 z57 z74 y28_5 z100 hIc28 hFc28 (in_w 0 3 j28_1 rfl) (rl_w 0 160 l28 i57 (in_w 0 160 i100 rfl) rfl) (rl_w 0 160 l28a i74 (in_w 0 160 i100 rfl) rfl) (in_w (-1) 159 i33 rfl) (in_w 0 160 i100 rfl) l28 l28a (m_up mm28 (t_add e100 i33 (in_c 1 rfl) rfl) (in_w 1 1 (in_c 1 rfl) rfl))))
            · skip
              exact zn_ne c66 (in_c 0 rfl) rfl
          · skip
            have i63x11 := z_ne 1 1 c63x11 i63x10 rfl
            refine g_aload_n 15 (gd rfl) rfl rfl ?_
            refine g_getA (q2 := 113) 18 (gd rfl) rfl rfl rfl rfl ?_
            refine g_aload_n 19 (gd rfl) rfl rfl ?_
            refine g_getI 22 (gd rfl) rfl rfl rfl (fun z63x19 e63x19 => ?_)
            have q63x19 : u_109_19 = z63x19 := (fr_F e_109_19 hFc28 rfl).trans e63x19.symm
            subst q63x19
            refine g_iload_n 23 (gd rfl) rfl rfl ?_
            refine g_iadd 24 (gd rfl) rfl (fun z63x23 e63x23 => ?_)
            have i63x23 := in_add 0 319 e63x23 ro_109_19 i33 rfl rfl
            refine g_iaload 25 (gd rfl) rfl (n := 480) rfl (in_ix i63x23 rfl) (fun z63x24 e63x24 => ?_)
            have i63x24 := inv_I hIc28 (n := 480) (t := 0) 0 31 rfl (in_ix i63x23 rfl) rfl e63x24
            refine g_aload_n 26 (gd rfl) rfl rfl ?_
            refine g_getA (q2 := 114) 29 (gd rfl) rfl rfl rfl rfl ?_
            refine g_aload_n 30 (gd rfl) rfl rfl ?_
            refine g_getI 33 (gd rfl) rfl rfl rfl (fun z63x30 e63x30 => ?_)
            have q63x30 : u_109_19 = z63x30 := (fr_F e_109_19 hFc28 rfl).trans e63x30.symm
            subst q63x30
            refine g_iload_n 34 (gd rfl) rfl rfl ?_
            refine g_iadd 35 (gd rfl) rfl (fun z63x34 e63x34 => ?_)
            have i63x34 := in_add 0 319 e63x34 ro_109_19 i33 rfl rfl
            refine g_iaload 36 (gd rfl) rfl (n := 480) rfl (in_ix i63x34 rfl) (fun z63x35 e63x35 => ?_)
            have i63x35 := inv_I hIc28 (n := 480) (t := 0) 0 31 rfl (in_ix i63x34 rfl) rfl e63x35
            refine g_cmp_eq 39 43 (gd rfl) rfl rfl (fun c63x36 => ?_) (fun c63x36 => ?_)
            · skip
              refine g_iconst 0 44 (gd rfl) rfl rfl ?_
              refine g_ireturn (gd rfl) rfl (nb01 (in_w 0 1 (in_c 0 rfl) rfl)) (hp63 _ _ ?_)
              show GG _ _ _ _ _ _ _ _ [.int (Int32.ofInt 0), .int y28_3] _ _ _
              refine g_if_eq 69 73 (gd rfl) rfl rfl (fun c66 => ?_) (fun c66 => ?_)
              · skip
                refine g_iconst 0 74 (gd rfl) rfl rfl ?_
                refine g_iadd 75 (gd rfl) rfl (fun z74 e74 => ?_)
                have i74 := in_add 0 160 e74 j28_3 (in_c 0 rfl) rfl rfl
                refine g_istore_n 76 (gd rfl) rfl (Nat.le_of_ble_eq_true rfl) ?_
                refine g_aload_n 77 (gd rfl) rfl rfl ?_
                refine g_getA (q2 := 112) 80 (gd rfl) rfl rfl rfl rfl ?_
                refine g_aload_n 81 (gd rfl) rfl rfl ?_
                refine g_getI 84 (gd rfl) rfl rfl rfl (fun z81 e81 => ?_)
                have q81 : u_109_19 = z81 := (fr_F e_109_19 hFc28 rfl).trans e81.symm
                subst q81
                refine g_iload 86 (gd rfl) rfl rfl ?_
                refine g_iadd 87 (gd rfl) rfl (fun z86 e86 => ?_)
                have i86 := in_add 0 319 e86 ro_109_19 i33 rfl rfl
                refine g_baload 88 (gd rfl) rfl (n := 480) rfl (in_ix i86 rfl) (fun z87 e87 => ?_)
                have i87 := inv_I hIc28 (n := 480) (t := 3) 0 1 rfl (in_ix i86 rfl) rfl e87
                refine g_if_eq 91 96 (gd rfl) rfl rfl (fun c88 => ?_) (fun c88 => ?_)
                · skip
                  have i88 := z_eq 0 0 c88 i87 rfl
                  refine g_iload 98 (gd rfl) rfl rfl ?_
                  refine g_istore 100 (gd rfl) rfl (Nat.le_of_ble_eq_true rfl) ?_
                  refine g_iinc 103 (gd rfl) rfl rfl (Nat.le_of_ble_eq_true rfl) (fun z100 e100 => ?_)
                  have i100 := in_add 1 160 e100 i33 (in_c 1 rfl) rfl rfl
                  refine g_goto 28 (gd rfl) rfl ?_
                  have l28 := rl_1 l28_2 (t_add e57 j28_2 (in_c 1 rfl) rfl) (in_c 1 rfl) (t_add e100 i33 (in_c 1 rfl) rfl) (in_c 1 rfl) rfl
                  have l28a := rl_1 l28_3 (t_add e74 j28_3 (in_c 0 rfl) rfl) (in_c 0 rfl) (t_add e100 i33 (in_c 1 rfl) rfl) (in_c 1 rfl) rfl
                  exact gg_w (by omega) (gg_f (gf_cons rfl (gf_cons rfl (gf_cons rfl (gf_cons rfl (gf_cons rfl (gf_cons rfl gf_nil)))))) (ih28 sc28 z57 z74 y28_4 z100 hIc28 hFc28 (in_w 0 3 j28_1 rfl) (rl_w 0 160 l28 i57 (in_w 0 160 i100 rfl) rfl) (rl_w 0 160 l28a i74 (in_w 0 160 i100 rfl) rfl) (in_w (-1) 159 j28_4 rfl) (in_w 0 160 i100 rfl) l28 l28a (m_up mm28 (t_add e100 i33 (in_c 1 rfl) rfl) (in_w 1 1 (in_c 1 rfl) rfl))))
                · skip
                  have i88 := z_ne 1 1 c88 i87 rfl
                  refine g_iload 93 (gd rfl) rfl rfl ?_
                  refine g_goto 98 (gd rfl) rfl ?_
                  refine g_istore 100 (gd rfl) rfl (Nat.le_of_ble_eq_true rfl) ?_
                  refine g_iinc 103 (gd rfl) rfl rfl (Nat.le_of_ble_eq_true rfl) (fun z100 e100 => ?_)
                  have i100 := in_add 1 160 e100 i33 (in_c 1 rfl) rfl rfl
                  refine g_goto 28 (gd rfl) rfl ?_
                  have l28 := rl_1 l28_2 (t_add e57 j28_2 (in_c 1 rfl) rfl) (in_c 1 rfl) (t_add e100 i33 (in_c 1 rfl) rfl) (in_c 1 rfl) rfl
                  have l28a := rl_1 l28_3 (t_add e74 j28_3 (in_c 0 rfl) rfl) (in_c 0 rfl) (t_add e100 i33 (in_c 1 rfl) rfl) (in_c 1 rfl) rfl
                  exact gg_w (by omega) (gg_f (gf_cons rfl (gf_cons rfl (gf_cons rfl (gf_cons rfl (gf_cons rfl (gf_cons rfl gf_nil)))))) (ih28 sc28 z57 z74 y28_5 z100 hIc28 hFc28 (in_w 0 3 j28_1 rfl) (rl_w 0 160 l28 i57 (in_w 0 160 i100 rfl) rfl) (rl_w 0 160 l28a i74 (in_w 0 160 i100 rfl) rfl) (in_w (-1) 159 i33 rfl) (in_w 0 160 i100 rfl) l28 l28a (m_up mm28 (t_add e100 i33 (in_c 1 rfl) rfl) (in_w 1 1 (in_c 1 rfl) rfl))))
              · skip
                exact zn_ne c66 (in_c 0 rfl) rfl
            · skip
              refine g_iconst 1 40 (gd rfl) rfl rfl ?_
              refine g_goto 44 (gd rfl) rfl ?_
              refine g_ireturn (gd rfl) rfl (nb01 (in_w 0 1 (in_c 1 rfl) rfl)) (hp63 _ _ ?_)
              show GG _ _ _ _ _ _ _ _ [.int (Int32.ofInt 1), .int y28_3] _ _ _
              refine g_if_eq 69 73 (gd rfl) rfl rfl (fun c66 => ?_) (fun c66 => ?_)
              · skip
                exact zn_eq c66 (in_c 1 rfl) rfl
              · skip
                refine g_iconst 1 70 (gd rfl) rfl rfl ?_
                refine g_goto 74 (gd rfl) rfl ?_
                refine g_iadd 75 (gd rfl) rfl (fun z74 e74 => ?_)
                have i74 := in_add 1 161 e74 j28_3 (in_c 1 rfl) rfl rfl
                refine g_istore_n 76 (gd rfl) rfl (Nat.le_of_ble_eq_true rfl) ?_
                refine g_aload_n 77 (gd rfl) rfl rfl ?_
                refine g_getA (q2 := 112) 80 (gd rfl) rfl rfl rfl rfl ?_
                refine g_aload_n 81 (gd rfl) rfl rfl ?_
                refine g_getI 84 (gd rfl) rfl rfl rfl (fun z81 e81 => ?_)
                have q81 : u_109_19 = z81 := (fr_F e_109_19 hFc28 rfl).trans e81.symm
                subst q81
                refine g_iload 86 (gd rfl) rfl rfl ?_
                refine g_iadd 87 (gd rfl) rfl (fun z86 e86 => ?_)
                have i86 := in_add 0 319 e86 ro_109_19 i33 rfl rfl
                refine g_baload 88 (gd rfl) rfl (n := 480) rfl (in_ix i86 rfl) (fun z87 e87 => ?_)
                have i87 := inv_I hIc28 (n := 480) (t := 3) 0 1 rfl (in_ix i86 rfl) rfl e87
                refine g_if_eq 91 96 (gd rfl) rfl rfl (fun c88 => ?_) (fun c88 => ?_)
                · skip
                  have i88 := z_eq 0 0 c88 i87 rfl
                  refine g_iload 98 (gd rfl) rfl rfl ?_
                  refine g_istore 100 (gd rfl) rfl (Nat.le_of_ble_eq_true rfl) ?_
                  refine g_iinc 103 (gd rfl) rfl rfl (Nat.le_of_ble_eq_true rfl) (fun z100 e100 => ?_)
                  have i100 := in_add 1 160 e100 i33 (in_c 1 rfl) rfl rfl
                  refine g_goto 28 (gd rfl) rfl ?_
                  have l28 := rl_1 l28_2 (t_add e57 j28_2 (in_c 1 rfl) rfl) (in_c 1 rfl) (t_add e100 i33 (in_c 1 rfl) rfl) (in_c 1 rfl) rfl
                  have l28a := rl_1 l28_3 (t_add e74 j28_3 (in_c 1 rfl) rfl) (in_c 1 rfl) (t_add e100 i33 (in_c 1 rfl) rfl) (in_c 1 rfl) rfl
                  exact gg_w (by omega) (gg_f (gf_cons rfl (gf_cons rfl (gf_cons rfl (gf_cons rfl (gf_cons rfl (gf_cons rfl gf_nil)))))) (ih28 sc28 z57 z74 y28_4 z100 hIc28 hFc28 (in_w 0 3 j28_1 rfl) (rl_w 0 160 l28 i57 (in_w 0 160 i100 rfl) rfl) (rl_w 0 160 l28a i74 (in_w 0 160 i100 rfl) rfl) (in_w (-1) 159 j28_4 rfl) (in_w 0 160 i100 rfl) l28 l28a (m_up mm28 (t_add e100 i33 (in_c 1 rfl) rfl) (in_w 1 1 (in_c 1 rfl) rfl))))
                · skip
                  have i88 := z_ne 1 1 c88 i87 rfl
                  refine g_iload 93 (gd rfl) rfl rfl ?_
                  refine g_goto 98 (gd rfl) rfl ?_
                  refine g_istore 100 (gd rfl) rfl (Nat.le_of_ble_eq_true rfl) ?_
                  refine g_iinc 103 (gd rfl) rfl rfl (Nat.le_of_ble_eq_true rfl) (fun z100 e100 => ?_)
                  have i100 := in_add 1 160 e100 i33 (in_c 1 rfl) rfl rfl
                  refine g_goto 28 (gd rfl) rfl ?_
                  have l28 := rl_1 l28_2 (t_add e57 j28_2 (in_c 1 rfl) rfl) (in_c 1 rfl) (t_add e100 i33 (in_c 1 rfl) rfl) (in_c 1 rfl) rfl
                  have l28a := rl_1 l28_3 (t_add e74 j28_3 (in_c 1 rfl) rfl) (in_c 1 rfl) (t_add e100 i33 (in_c 1 rfl) rfl) (in_c 1 rfl) rfl
                  exact gg_w (by omega) (gg_f (gf_cons rfl (gf_cons rfl (gf_cons rfl (gf_cons rfl (gf_cons rfl (gf_cons rfl gf_nil)))))) (ih28 sc28 z57 z74 y28_5 z100 hIc28 hFc28 (in_w 0 3 j28_1 rfl) (rl_w 0 160 l28 i57 (in_w 0 160 i100 rfl) rfl) (rl_w 0 160 l28a i74 (in_w 0 160 i100 rfl) rfl) (in_w (-1) 159 i33 rfl) (in_w 0 160 i100 rfl) l28 l28a (m_up mm28 (t_add e100 i33 (in_c 1 rfl) rfl) (in_w 1 1 (in_c 1 rfl) rfl))))
  refine g_enter2 (k := 289) (N := 145801) (by omega) rfl (Nat.le_of_ble_eq_true rfl) ?_
  refine g_aload_n 1 (gd rfl) rfl rfl ?_
  refine g_iload_n 2 (gd rfl) rfl rfl ?_
  refine g_i2l 3 (gd rfl) rfl (fun z2 e2 => ?_)
  have i2 := l_i e2 (i_rng x1)
  refine g_lconst 0 4 (gd rfl) rfl rfl ?_
  refine g_ldc2_w 3 7 (gd rfl) rfl rfl ?_
  refine g_calls (As := [.long z2, .long (Int64.ofInt 0), .long (Int64.ofInt 3)]) (r := [.ref (A 109)]) 10 (gd rfl) rfl rfl rfl rfl rfl (Nat.le_of_ble_eq_true rfl) (mc := 0) (ms := 0) (Nat.zero_le _) (Nat.zero_le _) (P := fun v u => _) ?_ (fun v u h => h)
  intro po7 xx7 hp7 hx7
  refine g_enter2 (k := 269) (N := 300) (by omega) rfl (Nat.le_of_ble_eq_true rfl) ?_
  refine g_lload_n 1 (gd rfl) rfl rfl ?_
  refine g_lload_n 2 (gd rfl) rfl rfl ?_
  refine g_lcmp 3 (gd rfl) rfl (fun z7x2 e7x2 => ?_)
  have i7x2 := lc_in e7x2
  refine g_if_lt 6 17 (gd rfl) rfl rfl (fun c7x3 => ?_) (fun c7x3 => ?_)
  · skip
    have i7x3 := z_lt (-1) (-1) c7x3 i7x2 rfl
    have c7x3a := lc_lt e7x2 c7x3
    have i7x3a := lr_lt1 (-2147483648) (-1) c7x3a i2 (l_c 0 rfl) rfl
    have i7x3b := l_b e2 i7x3a
    refine g_iconst 0 18 (gd rfl) rfl rfl ?_
    refine g_ireturn (gd rfl) rfl (nb01 (in_w 0 1 (in_c 0 rfl) rfl)) (hp7 _ _ ?_)
    show GG _ _ _ _ _ _ _ _ [.int (Int32.ofInt 0), .ref (A 109)] _ _ _
    refine g_callv (X := _) (As := [.int (Int32.ofInt 0)]) (r := []) (b := A 109) (q := 109) 13 (gd rfl) rfl rfl rfl rfl rfl (ww_o rfl) (Nat.le_of_ble_eq_true rfl) (mc := 0) (ms := 0) (Nat.zero_le _) (Nat.zero_le _) (P := fun v u => _) ?_ (fun e u h => h) (fun v u h => h)
    intro po10 xx10 hp10 hx10
    refine g_enter2 (k := 271) (N := 300) (by omega) rfl (Nat.le_of_ble_eq_true rfl) ?_
    refine g_aload_n 1 (gd rfl) rfl rfl ?_
    refine g_iload_n 2 (gd rfl) rfl rfl ?_
    refine g_iconst 1 3 (gd rfl) rfl rfl ?_
    refine g_callv (X := _) (As := [.int (Int32.ofInt 0), .int (Int32.ofInt 1)]) (r := []) (b := A 109) (q := 109) 6 (gd rfl) rfl rfl rfl rfl rfl (ww_o rfl) (Nat.le_of_ble_eq_true rfl) (mc := 0) (ms := 0) (Nat.zero_le _) (Nat.zero_le _) (P := fun v u => _) ?_ (fun e u h => h) (fun v u h => h)
    intro po10x3 xx10x3 hp10x3 hx10x3
    refine g_enter2 (k := 270) (N := 300) (by omega) rfl (Nat.le_of_ble_eq_true rfl) ?_
    refine g_aload_n 1 (gd rfl) rfl rfl ?_
    refine g_iload_n 2 (gd rfl) rfl rfl ?_
    refine g_if_ne 5 9 (gd rfl) rfl rfl (fun c10x3x2 => ?_) (fun c10x3x2 => ?_)
    · skip
      exact zn_ne c10x3x2 (in_c 0 rfl) rfl
    · skip
      refine g_iconst 1 6 (gd rfl) rfl rfl ?_
      refine g_goto 18 (gd rfl) rfl ?_
      refine g_putI 21 (gd rfl) rfl rfl rfl rfl ?_
      have hI10x3x18 := inv_sF (q := 109) (j := 0) hI rfl (in_w 0 2 (in_c 1 rfl) rfl)
      refine g_aload_n 22 (gd rfl) rfl rfl ?_
      refine g_getI 25 (gd rfl) rfl rfl rfl (fun z10x3x22 e10x3x22 => ?_)
      have q10x3x22 : (Int32.ofInt 1) = z10x3x22 := (sF_get).trans e10x3x22.symm
      subst q10x3x22
      refine g_if_le 28 32 (gd rfl) rfl rfl (fun c10x3x25 => ?_) (fun c10x3x25 => ?_)
      · skip
        exact zn_le c10x3x25 (in_c 1 rfl) rfl
      · skip
        refine g_iconst 1 29 (gd rfl) rfl rfl ?_
        refine g_goto 33 (gd rfl) rfl ?_
        refine g_ireturn (gd rfl) rfl (nb01 (in_w 0 1 (in_c 1 rfl) rfl)) (hp10x3 _ _ ?_)
        show GG _ _ _ _ _ _ _ _ [.int (Int32.ofInt 1)] _ _ _
        refine g_ireturn (gd rfl) rfl (nb01 (in_w 0 1 (in_c 1 rfl) rfl)) (hp10 _ _ ?_)
        show GG _ _ _ _ _ _ _ _ [.int (Int32.ofInt 1)] _ _ _
        refine g_if_eq 16 18 (gd rfl) rfl rfl (fun c13 => ?_) (fun c13 => ?_)
        · skip
          exact zn_eq c13 (in_c 1 rfl) rfl
        · skip
          refine g_iconst 0 17 (gd rfl) rfl rfl ?_
          exact g_ireturn (gd rfl) rfl rfl (hP _ _ ⟨(sF s 109 0 (Int32.ofInt 1)), hI10x3x18, (fr_sF rfl fr_rf), (Int32.ofInt 0), rfl, rfl, in_w (-1) 160 (in_c 0 rfl) rfl⟩)
  · skip
    have i7x3 := z_ge 0 1 c7x3 i7x2 rfl
    have c7x3a := lc_ge e7x2 c7x3
    have i7x3a := lr_le2 0 2147483647 c7x3a (l_c 0 rfl) i2 rfl
    have i7x3b := l_b e2 i7x3a
    refine g_lload_n 7 (gd rfl) rfl rfl ?_
    refine g_lload 9 (gd rfl) rfl rfl ?_
    refine g_lcmp 10 (gd rfl) rfl (fun z7x9 e7x9 => ?_)
    have i7x9 := lc_in e7x9
    refine g_if_gt 13 17 (gd rfl) rfl rfl (fun c7x10 => ?_) (fun c7x10 => ?_)
    · skip
      have i7x10 := z_gt 1 1 c7x10 i7x9 rfl
      have c7x10a := lc_gt e7x9 c7x10
      have i7x10a := lr_lt2 4 2147483647 c7x10a (l_c 3 rfl) i7x3a rfl
      have i7x10b := l_b e2 i7x10a
      refine g_iconst 0 18 (gd rfl) rfl rfl ?_
      refine g_ireturn (gd rfl) rfl (nb01 (in_w 0 1 (in_c 0 rfl) rfl)) (hp7 _ _ ?_)
      show GG _ _ _ _ _ _ _ _ [.int (Int32.ofInt 0), .ref (A 109)] _ _ _
      refine g_callv (X := _) (As := [.int (Int32.ofInt 0)]) (r := []) (b := A 109) (q := 109) 13 (gd rfl) rfl rfl rfl rfl rfl (ww_o rfl) (Nat.le_of_ble_eq_true rfl) (mc := 0) (ms := 0) (Nat.zero_le _) (Nat.zero_le _) (P := fun v u => _) ?_ (fun e u h => h) (fun v u h => h)
      intro po10 xx10 hp10 hx10
      refine g_enter2 (k := 271) (N := 300) (by omega) rfl (Nat.le_of_ble_eq_true rfl) ?_
      refine g_aload_n 1 (gd rfl) rfl rfl ?_
      refine g_iload_n 2 (gd rfl) rfl rfl ?_
      refine g_iconst 1 3 (gd rfl) rfl rfl ?_
      refine g_callv (X := _) (As := [.int (Int32.ofInt 0), .int (Int32.ofInt 1)]) (r := []) (b := A 109) (q := 109) 6 (gd rfl) rfl rfl rfl rfl rfl (ww_o rfl) (Nat.le_of_ble_eq_true rfl) (mc := 0) (ms := 0) (Nat.zero_le _) (Nat.zero_le _) (P := fun v u => _) ?_ (fun e u h => h) (fun v u h => h)
      intro po10x3 xx10x3 hp10x3 hx10x3
      refine g_enter2 (k := 270) (N := 300) (by omega) rfl (Nat.le_of_ble_eq_true rfl) ?_
      refine g_aload_n 1 (gd rfl) rfl rfl ?_
      refine g_iload_n 2 (gd rfl) rfl rfl ?_
      refine g_if_ne 5 9 (gd rfl) rfl rfl (fun c10x3x2 => ?_) (fun c10x3x2 => ?_)
      · skip
        exact zn_ne c10x3x2 (in_c 0 rfl) rfl
      · skip
        refine g_iconst 1 6 (gd rfl) rfl rfl ?_
        refine g_goto 18 (gd rfl) rfl ?_
        refine g_putI 21 (gd rfl) rfl rfl rfl rfl ?_
        have hI10x3x18 := inv_sF (q := 109) (j := 0) hI rfl (in_w 0 2 (in_c 1 rfl) rfl)
        refine g_aload_n 22 (gd rfl) rfl rfl ?_
        refine g_getI 25 (gd rfl) rfl rfl rfl (fun z10x3x22 e10x3x22 => ?_)
        have q10x3x22 : (Int32.ofInt 1) = z10x3x22 := (sF_get).trans e10x3x22.symm
        subst q10x3x22
        refine g_if_le 28 32 (gd rfl) rfl rfl (fun c10x3x25 => ?_) (fun c10x3x25 => ?_)
        · skip
          exact zn_le c10x3x25 (in_c 1 rfl) rfl
        · skip
          refine g_iconst 1 29 (gd rfl) rfl rfl ?_
          refine g_goto 33 (gd rfl) rfl ?_
          refine g_ireturn (gd rfl) rfl (nb01 (in_w 0 1 (in_c 1 rfl) rfl)) (hp10x3 _ _ ?_)
          show GG _ _ _ _ _ _ _ _ [.int (Int32.ofInt 1)] _ _ _
          refine g_ireturn (gd rfl) rfl (nb01 (in_w 0 1 (in_c 1 rfl) rfl)) (hp10 _ _ ?_)
          show GG _ _ _ _ _ _ _ _ [.int (Int32.ofInt 1)] _ _ _
          refine g_if_eq 16 18 (gd rfl) rfl rfl (fun c13 => ?_) (fun c13 => ?_)
          · skip
            exact zn_eq c13 (in_c 1 rfl) rfl
          · skip
            refine g_iconst 0 17 (gd rfl) rfl rfl ?_
            exact g_ireturn (gd rfl) rfl rfl (hP _ _ ⟨(sF s 109 0 (Int32.ofInt 1)), hI10x3x18, (fr_sF rfl fr_rf), (Int32.ofInt 0), rfl, rfl, in_w (-1) 160 (in_c 0 rfl) rfl⟩)
    · skip
      have i7x10 := z_le (-1) 0 c7x10 i7x9 rfl
      have c7x10a := lc_le e7x9 c7x10
      have i7x10a := lr_le1 0 3 c7x10a i7x3a (l_c 3 rfl) rfl
      have i7x10b := l_b e2 i7x10a
      refine g_iconst 1 14 (gd rfl) rfl rfl ?_
      refine g_goto 18 (gd rfl) rfl ?_
      refine g_ireturn (gd rfl) rfl (nb01 (in_w 0 1 (in_c 1 rfl) rfl)) (hp7 _ _ ?_)
      show GG _ _ _ _ _ _ _ _ [.int (Int32.ofInt 1), .ref (A 109)] _ _ _
      refine g_callv (X := _) (As := [.int (Int32.ofInt 1)]) (r := []) (b := A 109) (q := 109) 13 (gd rfl) rfl rfl rfl rfl rfl (ww_o rfl) (Nat.le_of_ble_eq_true rfl) (mc := 0) (ms := 0) (Nat.zero_le _) (Nat.zero_le _) (P := fun v u => _) ?_ (fun e u h => h) (fun v u h => h)
      intro po10 xx10 hp10 hx10
      refine g_enter2 (k := 271) (N := 300) (by omega) rfl (Nat.le_of_ble_eq_true rfl) ?_
      refine g_aload_n 1 (gd rfl) rfl rfl ?_
      refine g_iload_n 2 (gd rfl) rfl rfl ?_
      refine g_iconst 1 3 (gd rfl) rfl rfl ?_
      refine g_callv (X := _) (As := [.int (Int32.ofInt 1), .int (Int32.ofInt 1)]) (r := []) (b := A 109) (q := 109) 6 (gd rfl) rfl rfl rfl rfl rfl (ww_o rfl) (Nat.le_of_ble_eq_true rfl) (mc := 0) (ms := 0) (Nat.zero_le _) (Nat.zero_le _) (P := fun v u => _) ?_ (fun e u h => h) (fun v u h => h)
      intro po10x3 xx10x3 hp10x3 hx10x3
      refine g_enter2 (k := 270) (N := 300) (by omega) rfl (Nat.le_of_ble_eq_true rfl) ?_
      refine g_aload_n 1 (gd rfl) rfl rfl ?_
      refine g_iload_n 2 (gd rfl) rfl rfl ?_
      refine g_if_ne 5 9 (gd rfl) rfl rfl (fun c10x3x2 => ?_) (fun c10x3x2 => ?_)
      · skip
        refine g_iload_n 10 (gd rfl) rfl rfl ?_
        refine g_if_ne 13 17 (gd rfl) rfl rfl (fun c10x3x10 => ?_) (fun c10x3x10 => ?_)
        · skip
          refine g_iconst 0 18 (gd rfl) rfl rfl ?_
          refine g_putI 21 (gd rfl) rfl rfl rfl rfl ?_
          have hI10x3x18 := inv_sF (q := 109) (j := 0) hI rfl (in_w 0 2 (in_c 0 rfl) rfl)
          refine g_aload_n 22 (gd rfl) rfl rfl ?_
          refine g_getI 25 (gd rfl) rfl rfl rfl (fun z10x3x22 e10x3x22 => ?_)
          have q10x3x22 : (Int32.ofInt 0) = z10x3x22 := (sF_get).trans e10x3x22.symm
          subst q10x3x22
          refine g_if_le 28 32 (gd rfl) rfl rfl (fun c10x3x25 => ?_) (fun c10x3x25 => ?_)
          · skip
            refine g_iconst 0 33 (gd rfl) rfl rfl ?_
            refine g_ireturn (gd rfl) rfl (nb01 (in_w 0 1 (in_c 0 rfl) rfl)) (hp10x3 _ _ ?_)
            show GG _ _ _ _ _ _ _ _ [.int (Int32.ofInt 0)] _ _ _
            refine g_ireturn (gd rfl) rfl (nb01 (in_w 0 1 (in_c 0 rfl) rfl)) (hp10 _ _ ?_)
            show GG _ _ _ _ _ _ _ _ [.int (Int32.ofInt 0)] _ _ _
            refine g_if_eq 16 18 (gd rfl) rfl rfl (fun c13 => ?_) (fun c13 => ?_)
            · skip
              refine g_iconst 0 19 (gd rfl) rfl rfl ?_
              refine g_istore_n 20 (gd rfl) rfl (Nat.le_of_ble_eq_true rfl) ?_
              refine g_iconst 0 21 (gd rfl) rfl rfl ?_
              refine g_istore_n 22 (gd rfl) rfl (Nat.le_of_ble_eq_true rfl) ?_
              refine g_iconst (-1) 23 (gd rfl) rfl rfl ?_
              refine g_istore 25 (gd rfl) rfl (Nat.le_of_ble_eq_true rfl) ?_
              refine g_iconst 0 26 (gd rfl) rfl rfl ?_
              refine g_istore 28 (gd rfl) rfl (Nat.le_of_ble_eq_true rfl) ?_
              have l28 := rl_in 0 (in_c 0 rfl) (in_c 0 rfl) rfl
              have l28a := rl_in 0 (in_c 0 rfl) (in_c 0 rfl) rfl
              exact gg_w (by omega) (gg_f (gf_cons rfl (gf_cons rfl (gf_cons rfl (gf_cons rfl (gf_cons rfl (gf_cons rfl gf_nil)))))) (ct28 161 (sF s 109 0 (Int32.ofInt 0)) (Int32.ofInt 0) (Int32.ofInt 0) (Int32.ofInt (-1)) (Int32.ofInt 0) hI10x3x18 (fr_sF rfl fr_rf) (in_w 0 3 i7x10b rfl) (rl_w 0 160 l28 (in_c 0 rfl) (in_w 0 160 (in_c 0 rfl) rfl) rfl) (rl_w 0 160 l28a (in_c 0 rfl) (in_w 0 160 (in_c 0 rfl) rfl) rfl) (in_w (-1) 159 (in_c (-1) rfl) rfl) (in_w 0 160 (in_c 0 rfl) rfl) l28 l28a (m_in 161 (in_w 0 160 (in_c 0 rfl) rfl) rfl)))
            · skip
              exact zn_ne c13 (in_c 0 rfl) rfl
          · skip
            exact zn_gt c10x3x25 (in_c 0 rfl) rfl
        · skip
          exact zn_eq c10x3x10 (in_c 1 rfl) rfl
      · skip
        exact zn_eq c10x3x2 (in_c 1 rfl) rfl

def fm_290 : FM := ([], [], [(109, 0)], [])
/-- GraphHouseModel.told -/
theorem k_290 {Z : AmZ} {A : Nat → Nat} {s : GS} {ex : va_W} {d : Nat} {X : AmX} {x1 : Int32} {x2 : Int32} (hd : 4 ≤ d) (hI : Inv s)  : GC Z d 290 [.ref (A 109), .int x1, .int x2] (WW Z A s ++ ex) 0 0 (fun v u => ∃ t : GS, Inv t ∧ Fr fm_290 s t ∧ ∃ z : Int64, v = some (.long z) ∧ u = WW Z A t ++ ex) X := by
  intro post xp hP hX
  obtain ⟨u_109_19, e_109_19⟩ : ∃ w, w = s.2.2.1 109 19 := ⟨_, rfl⟩
  have ro_109_19 := inv_F hI 0 160 rfl e_109_19
  refine g_enter2 (k := 290) (N := 900) (by omega) rfl (Nat.le_of_ble_eq_true rfl) ?_
  refine g_aload_n 1 (gd rfl) rfl rfl ?_
  refine g_iload_n 2 (gd rfl) rfl rfl ?_
  refine g_i2l 3 (gd rfl) rfl (fun z2 e2 => ?_)
  have i2 := l_i e2 (i_rng x1)
  refine g_lconst 0 4 (gd rfl) rfl rfl ?_
  refine g_ldc2_w 159 7 (gd rfl) rfl rfl ?_
  refine g_calls (As := [.long z2, .long (Int64.ofInt 0), .long (Int64.ofInt 159)]) (r := [.ref (A 109)]) 10 (gd rfl) rfl rfl rfl rfl rfl (Nat.le_of_ble_eq_true rfl) (mc := 0) (ms := 0) (Nat.zero_le _) (Nat.zero_le _) (P := fun v u => _) ?_ (fun v u h => h)
  intro po7 xx7 hp7 hx7
  refine g_enter2 (k := 269) (N := 300) (by omega) rfl (Nat.le_of_ble_eq_true rfl) ?_
  refine g_lload_n 1 (gd rfl) rfl rfl ?_
  refine g_lload_n 2 (gd rfl) rfl rfl ?_
  refine g_lcmp 3 (gd rfl) rfl (fun z7x2 e7x2 => ?_)
  have i7x2 := lc_in e7x2
  refine g_if_lt 6 17 (gd rfl) rfl rfl (fun c7x3 => ?_) (fun c7x3 => ?_)
  · skip
    have i7x3 := z_lt (-1) (-1) c7x3 i7x2 rfl
    have c7x3a := lc_lt e7x2 c7x3
    have i7x3a := lr_lt1 (-2147483648) (-1) c7x3a i2 (l_c 0 rfl) rfl
    have i7x3b := l_b e2 i7x3a
    refine g_iconst 0 18 (gd rfl) rfl rfl ?_
    refine g_ireturn (gd rfl) rfl (nb01 (in_w 0 1 (in_c 0 rfl) rfl)) (hp7 _ _ ?_)
    show GG _ _ _ _ _ _ _ _ [.int (Int32.ofInt 0), .ref (A 109)] _ _ _
    refine g_if_eq 13 29 (gd rfl) rfl rfl (fun c10 => ?_) (fun c10 => ?_)
    · skip
      refine g_iconst 0 30 (gd rfl) rfl rfl ?_
      refine g_callv (X := _) (As := [.int (Int32.ofInt 0)]) (r := []) (b := A 109) (q := 109) 33 (gd rfl) rfl rfl rfl rfl rfl (ww_o rfl) (Nat.le_of_ble_eq_true rfl) (mc := 0) (ms := 0) (Nat.zero_le _) (Nat.zero_le _) (P := fun v u => _) ?_ (fun e u h => h) (fun v u h => h)
      intro po30 xx30 hp30 hx30
      refine g_enter2 (k := 271) (N := 300) (by omega) rfl (Nat.le_of_ble_eq_true rfl) ?_
      refine g_aload_n 1 (gd rfl) rfl rfl ?_
      refine g_iload_n 2 (gd rfl) rfl rfl ?_
      refine g_iconst 1 3 (gd rfl) rfl rfl ?_
      refine g_callv (X := _) (As := [.int (Int32.ofInt 0), .int (Int32.ofInt 1)]) (r := []) (b := A 109) (q := 109) 6 (gd rfl) rfl rfl rfl rfl rfl (ww_o rfl) (Nat.le_of_ble_eq_true rfl) (mc := 0) (ms := 0) (Nat.zero_le _) (Nat.zero_le _) (P := fun v u => _) ?_ (fun e u h => h) (fun v u h => h)
      intro po30x3 xx30x3 hp30x3 hx30x3
      refine g_enter2 (k := 270) (N := 300) (by omega) rfl (Nat.le_of_ble_eq_true rfl) ?_
      refine g_aload_n 1 (gd rfl) rfl rfl ?_
      refine g_iload_n 2 (gd rfl) rfl rfl ?_
      refine g_if_ne 5 9 (gd rfl) rfl rfl (fun c30x3x2 => ?_) (fun c30x3x2 => ?_)
      · skip
        exact zn_ne c30x3x2 (in_c 0 rfl) rfl
      · skip
        refine g_iconst 1 6 (gd rfl) rfl rfl ?_
        refine g_goto 18 (gd rfl) rfl ?_
        refine g_putI 21 (gd rfl) rfl rfl rfl rfl ?_
        have hI30x3x18 := inv_sF (q := 109) (j := 0) hI rfl (in_w 0 2 (in_c 1 rfl) rfl)
        refine g_aload_n 22 (gd rfl) rfl rfl ?_
        refine g_getI 25 (gd rfl) rfl rfl rfl (fun z30x3x22 e30x3x22 => ?_)
        have q30x3x22 : (Int32.ofInt 1) = z30x3x22 := (sF_get).trans e30x3x22.symm
        subst q30x3x22
        refine g_if_le 28 32 (gd rfl) rfl rfl (fun c30x3x25 => ?_) (fun c30x3x25 => ?_)
        · skip
          exact zn_le c30x3x25 (in_c 1 rfl) rfl
        · skip
          refine g_iconst 1 29 (gd rfl) rfl rfl ?_
          refine g_goto 33 (gd rfl) rfl ?_
          refine g_ireturn (gd rfl) rfl (nb01 (in_w 0 1 (in_c 1 rfl) rfl)) (hp30x3 _ _ ?_)
          show GG _ _ _ _ _ _ _ _ [.int (Int32.ofInt 1)] _ _ _
          refine g_ireturn (gd rfl) rfl (nb01 (in_w 0 1 (in_c 1 rfl) rfl)) (hp30 _ _ ?_)
          show GG _ _ _ _ _ _ _ _ [.int (Int32.ofInt 1)] _ _ _
          refine g_if_eq 36 38 (gd rfl) rfl rfl (fun c33 => ?_) (fun c33 => ?_)
          · skip
            exact zn_eq c33 (in_c 1 rfl) rfl
          · skip
            refine g_lconst 0 37 (gd rfl) rfl rfl ?_
            exact g_lreturn (gd rfl) rfl (hP _ _ ⟨(sF s 109 0 (Int32.ofInt 1)), hI30x3x18, (fr_sF rfl fr_rf), (Int64.ofInt 0), rfl, rfl⟩)
    · skip
      exact zn_ne c10 (in_c 0 rfl) rfl
  · skip
    have i7x3 := z_ge 0 1 c7x3 i7x2 rfl
    have c7x3a := lc_ge e7x2 c7x3
    have i7x3a := lr_le2 0 2147483647 c7x3a (l_c 0 rfl) i2 rfl
    have i7x3b := l_b e2 i7x3a
    refine g_lload_n 7 (gd rfl) rfl rfl ?_
    refine g_lload 9 (gd rfl) rfl rfl ?_
    refine g_lcmp 10 (gd rfl) rfl (fun z7x9 e7x9 => ?_)
    have i7x9 := lc_in e7x9
    refine g_if_gt 13 17 (gd rfl) rfl rfl (fun c7x10 => ?_) (fun c7x10 => ?_)
    · skip
      have i7x10 := z_gt 1 1 c7x10 i7x9 rfl
      have c7x10a := lc_gt e7x9 c7x10
      have i7x10a := lr_lt2 160 2147483647 c7x10a (l_c 159 rfl) i7x3a rfl
      have i7x10b := l_b e2 i7x10a
      refine g_iconst 0 18 (gd rfl) rfl rfl ?_
      refine g_ireturn (gd rfl) rfl (nb01 (in_w 0 1 (in_c 0 rfl) rfl)) (hp7 _ _ ?_)
      show GG _ _ _ _ _ _ _ _ [.int (Int32.ofInt 0), .ref (A 109)] _ _ _
      refine g_if_eq 13 29 (gd rfl) rfl rfl (fun c10 => ?_) (fun c10 => ?_)
      · skip
        refine g_iconst 0 30 (gd rfl) rfl rfl ?_
        refine g_callv (X := _) (As := [.int (Int32.ofInt 0)]) (r := []) (b := A 109) (q := 109) 33 (gd rfl) rfl rfl rfl rfl rfl (ww_o rfl) (Nat.le_of_ble_eq_true rfl) (mc := 0) (ms := 0) (Nat.zero_le _) (Nat.zero_le _) (P := fun v u => _) ?_ (fun e u h => h) (fun v u h => h)
        intro po30 xx30 hp30 hx30
        refine g_enter2 (k := 271) (N := 300) (by omega) rfl (Nat.le_of_ble_eq_true rfl) ?_
        refine g_aload_n 1 (gd rfl) rfl rfl ?_
        refine g_iload_n 2 (gd rfl) rfl rfl ?_
        refine g_iconst 1 3 (gd rfl) rfl rfl ?_
        refine g_callv (X := _) (As := [.int (Int32.ofInt 0), .int (Int32.ofInt 1)]) (r := []) (b := A 109) (q := 109) 6 (gd rfl) rfl rfl rfl rfl rfl (ww_o rfl) (Nat.le_of_ble_eq_true rfl) (mc := 0) (ms := 0) (Nat.zero_le _) (Nat.zero_le _) (P := fun v u => _) ?_ (fun e u h => h) (fun v u h => h)
        intro po30x3 xx30x3 hp30x3 hx30x3
        refine g_enter2 (k := 270) (N := 300) (by omega) rfl (Nat.le_of_ble_eq_true rfl) ?_
        refine g_aload_n 1 (gd rfl) rfl rfl ?_
        refine g_iload_n 2 (gd rfl) rfl rfl ?_
        refine g_if_ne 5 9 (gd rfl) rfl rfl (fun c30x3x2 => ?_) (fun c30x3x2 => ?_)
        · skip
          exact zn_ne c30x3x2 (in_c 0 rfl) rfl
        · skip
          refine g_iconst 1 6 (gd rfl) rfl rfl ?_
          refine g_goto 18 (gd rfl) rfl ?_
          refine g_putI 21 (gd rfl) rfl rfl rfl rfl ?_
          have hI30x3x18 := inv_sF (q := 109) (j := 0) hI rfl (in_w 0 2 (in_c 1 rfl) rfl)
          refine g_aload_n 22 (gd rfl) rfl rfl ?_
          refine g_getI 25 (gd rfl) rfl rfl rfl (fun z30x3x22 e30x3x22 => ?_)
          have q30x3x22 : (Int32.ofInt 1) = z30x3x22 := (sF_get).trans e30x3x22.symm
          subst q30x3x22
          refine g_if_le 28 32 (gd rfl) rfl rfl (fun c30x3x25 => ?_) (fun c30x3x25 => ?_)
          · skip
            exact zn_le c30x3x25 (in_c 1 rfl) rfl
          · skip
            refine g_iconst 1 29 (gd rfl) rfl rfl ?_
            refine g_goto 33 (gd rfl) rfl ?_
            refine g_ireturn (gd rfl) rfl (nb01 (in_w 0 1 (in_c 1 rfl) rfl)) (hp30x3 _ _ ?_)
            show GG _ _ _ _ _ _ _ _ [.int (Int32.ofInt 1)] _ _ _
            refine g_ireturn (gd rfl) rfl (nb01 (in_w 0 1 (in_c 1 rfl) rfl)) (hp30 _ _ ?_)
            show GG _ _ _ _ _ _ _ _ [.int (Int32.ofInt 1)] _ _ _
            refine g_if_eq 36 38 (gd rfl) rfl rfl (fun c33 => ?_) (fun c33 => ?_)
            · skip
              exact zn_eq c33 (in_c 1 rfl) rfl
            · skip
              refine g_lconst 0 37 (gd rfl) rfl rfl ?_
              exact g_lreturn (gd rfl) rfl (hP _ _ ⟨(sF s 109 0 (Int32.ofInt 1)), hI30x3x18, (fr_sF rfl fr_rf), (Int64.ofInt 0), rfl, rfl⟩)
      · skip
        exact zn_ne c10 (in_c 0 rfl) rfl
    · skip
      have i7x10 := z_le (-1) 0 c7x10 i7x9 rfl
      have c7x10a := lc_le e7x9 c7x10
      have i7x10a := lr_le1 0 159 c7x10a i7x3a (l_c 159 rfl) rfl
      have i7x10b := l_b e2 i7x10a
      refine g_iconst 1 14 (gd rfl) rfl rfl ?_
      refine g_goto 18 (gd rfl) rfl ?_
      refine g_ireturn (gd rfl) rfl (nb01 (in_w 0 1 (in_c 1 rfl) rfl)) (hp7 _ _ ?_)
      show GG _ _ _ _ _ _ _ _ [.int (Int32.ofInt 1), .ref (A 109)] _ _ _
      refine g_if_eq 13 29 (gd rfl) rfl rfl (fun c10 => ?_) (fun c10 => ?_)
      · skip
        exact zn_eq c10 (in_c 1 rfl) rfl
      · skip
        refine g_iload_n 14 (gd rfl) rfl rfl ?_
        refine g_i2l 15 (gd rfl) rfl (fun z14 e14 => ?_)
        have i14 := l_i e14 (i_rng x2)
        refine g_lconst 0 16 (gd rfl) rfl rfl ?_
        refine g_ldc2_w 4 19 (gd rfl) rfl rfl ?_
        refine g_calls (As := [.long z14, .long (Int64.ofInt 0), .long (Int64.ofInt 4)]) (r := [.ref (A 109)]) 22 (gd rfl) rfl rfl rfl rfl rfl (Nat.le_of_ble_eq_true rfl) (mc := 0) (ms := 0) (Nat.zero_le _) (Nat.zero_le _) (P := fun v u => _) ?_ (fun v u h => h)
        intro po19 xx19 hp19 hx19
        refine g_enter2 (k := 269) (N := 300) (by omega) rfl (Nat.le_of_ble_eq_true rfl) ?_
        refine g_lload_n 1 (gd rfl) rfl rfl ?_
        refine g_lload_n 2 (gd rfl) rfl rfl ?_
        refine g_lcmp 3 (gd rfl) rfl (fun z19x2 e19x2 => ?_)
        have i19x2 := lc_in e19x2
        refine g_if_lt 6 17 (gd rfl) rfl rfl (fun c19x3 => ?_) (fun c19x3 => ?_)
        · skip
          have i19x3 := z_lt (-1) (-1) c19x3 i19x2 rfl
          have c19x3a := lc_lt e19x2 c19x3
          have i19x3a := lr_lt1 (-2147483648) (-1) c19x3a i14 (l_c 0 rfl) rfl
          have i19x3b := l_b e14 i19x3a
          refine g_iconst 0 18 (gd rfl) rfl rfl ?_
          refine g_ireturn (gd rfl) rfl (nb01 (in_w 0 1 (in_c 0 rfl) rfl)) (hp19 _ _ ?_)
          show GG _ _ _ _ _ _ _ _ [.int (Int32.ofInt 0), .ref (A 109)] _ _ _
          refine g_if_eq 25 29 (gd rfl) rfl rfl (fun c22 => ?_) (fun c22 => ?_)
          · skip
            refine g_iconst 0 30 (gd rfl) rfl rfl ?_
            refine g_callv (X := _) (As := [.int (Int32.ofInt 0)]) (r := []) (b := A 109) (q := 109) 33 (gd rfl) rfl rfl rfl rfl rfl (ww_o rfl) (Nat.le_of_ble_eq_true rfl) (mc := 0) (ms := 0) (Nat.zero_le _) (Nat.zero_le _) (P := fun v u => _) ?_ (fun e u h => h) (fun v u h => h)
            intro po30 xx30 hp30 hx30
            refine g_enter2 (k := 271) (N := 300) (by omega) rfl (Nat.le_of_ble_eq_true rfl) ?_
            refine g_aload_n 1 (gd rfl) rfl rfl ?_
            refine g_iload_n 2 (gd rfl) rfl rfl ?_
            refine g_iconst 1 3 (gd rfl) rfl rfl ?_
            refine g_callv (X := _) (As := [.int (Int32.ofInt 0), .int (Int32.ofInt 1)]) (r := []) (b := A 109) (q := 109) 6 (gd rfl) rfl rfl rfl rfl rfl (ww_o rfl) (Nat.le_of_ble_eq_true rfl) (mc := 0) (ms := 0) (Nat.zero_le _) (Nat.zero_le _) (P := fun v u => _) ?_ (fun e u h => h) (fun v u h => h)
            intro po30x3 xx30x3 hp30x3 hx30x3
            refine g_enter2 (k := 270) (N := 300) (by omega) rfl (Nat.le_of_ble_eq_true rfl) ?_
            refine g_aload_n 1 (gd rfl) rfl rfl ?_
            refine g_iload_n 2 (gd rfl) rfl rfl ?_
            refine g_if_ne 5 9 (gd rfl) rfl rfl (fun c30x3x2 => ?_) (fun c30x3x2 => ?_)
            · skip
              exact zn_ne c30x3x2 (in_c 0 rfl) rfl
            · skip
              refine g_iconst 1 6 (gd rfl) rfl rfl ?_
              refine g_goto 18 (gd rfl) rfl ?_
              refine g_putI 21 (gd rfl) rfl rfl rfl rfl ?_
              have hI30x3x18 := inv_sF (q := 109) (j := 0) hI rfl (in_w 0 2 (in_c 1 rfl) rfl)
              refine g_aload_n 22 (gd rfl) rfl rfl ?_
              refine g_getI 25 (gd rfl) rfl rfl rfl (fun z30x3x22 e30x3x22 => ?_)
              have q30x3x22 : (Int32.ofInt 1) = z30x3x22 := (sF_get).trans e30x3x22.symm
              subst q30x3x22
              refine g_if_le 28 32 (gd rfl) rfl rfl (fun c30x3x25 => ?_) (fun c30x3x25 => ?_)
              · skip
                exact zn_le c30x3x25 (in_c 1 rfl) rfl
              · skip
                refine g_iconst 1 29 (gd rfl) rfl rfl ?_
                refine g_goto 33 (gd rfl) rfl ?_
                refine g_ireturn (gd rfl) rfl (nb01 (in_w 0 1 (in_c 1 rfl) rfl)) (hp30x3 _ _ ?_)
                show GG _ _ _ _ _ _ _ _ [.int (Int32.ofInt 1)] _ _ _
                refine g_ireturn (gd rfl) rfl (nb01 (in_w 0 1 (in_c 1 rfl) rfl)) (hp30 _ _ ?_)
                show GG _ _ _ _ _ _ _ _ [.int (Int32.ofInt 1)] _ _ _
                refine g_if_eq 36 38 (gd rfl) rfl rfl (fun c33 => ?_) (fun c33 => ?_)
                · skip
                  exact zn_eq c33 (in_c 1 rfl) rfl
                · skip
                  refine g_lconst 0 37 (gd rfl) rfl rfl ?_
                  exact g_lreturn (gd rfl) rfl (hP _ _ ⟨(sF s 109 0 (Int32.ofInt 1)), hI30x3x18, (fr_sF rfl fr_rf), (Int64.ofInt 0), rfl, rfl⟩)
          · skip
            exact zn_ne c22 (in_c 0 rfl) rfl
        · skip
          have i19x3 := z_ge 0 1 c19x3 i19x2 rfl
          have c19x3a := lc_ge e19x2 c19x3
          have i19x3a := lr_le2 0 2147483647 c19x3a (l_c 0 rfl) i14 rfl
          have i19x3b := l_b e14 i19x3a
          refine g_lload_n 7 (gd rfl) rfl rfl ?_
          refine g_lload 9 (gd rfl) rfl rfl ?_
          refine g_lcmp 10 (gd rfl) rfl (fun z19x9 e19x9 => ?_)
          have i19x9 := lc_in e19x9
          refine g_if_gt 13 17 (gd rfl) rfl rfl (fun c19x10 => ?_) (fun c19x10 => ?_)
          · skip
            have i19x10 := z_gt 1 1 c19x10 i19x9 rfl
            have c19x10a := lc_gt e19x9 c19x10
            have i19x10a := lr_lt2 5 2147483647 c19x10a (l_c 4 rfl) i19x3a rfl
            have i19x10b := l_b e14 i19x10a
            refine g_iconst 0 18 (gd rfl) rfl rfl ?_
            refine g_ireturn (gd rfl) rfl (nb01 (in_w 0 1 (in_c 0 rfl) rfl)) (hp19 _ _ ?_)
            show GG _ _ _ _ _ _ _ _ [.int (Int32.ofInt 0), .ref (A 109)] _ _ _
            refine g_if_eq 25 29 (gd rfl) rfl rfl (fun c22 => ?_) (fun c22 => ?_)
            · skip
              refine g_iconst 0 30 (gd rfl) rfl rfl ?_
              refine g_callv (X := _) (As := [.int (Int32.ofInt 0)]) (r := []) (b := A 109) (q := 109) 33 (gd rfl) rfl rfl rfl rfl rfl (ww_o rfl) (Nat.le_of_ble_eq_true rfl) (mc := 0) (ms := 0) (Nat.zero_le _) (Nat.zero_le _) (P := fun v u => _) ?_ (fun e u h => h) (fun v u h => h)
              intro po30 xx30 hp30 hx30
              refine g_enter2 (k := 271) (N := 300) (by omega) rfl (Nat.le_of_ble_eq_true rfl) ?_
              refine g_aload_n 1 (gd rfl) rfl rfl ?_
              refine g_iload_n 2 (gd rfl) rfl rfl ?_
              refine g_iconst 1 3 (gd rfl) rfl rfl ?_
              refine g_callv (X := _) (As := [.int (Int32.ofInt 0), .int (Int32.ofInt 1)]) (r := []) (b := A 109) (q := 109) 6 (gd rfl) rfl rfl rfl rfl rfl (ww_o rfl) (Nat.le_of_ble_eq_true rfl) (mc := 0) (ms := 0) (Nat.zero_le _) (Nat.zero_le _) (P := fun v u => _) ?_ (fun e u h => h) (fun v u h => h)
              intro po30x3 xx30x3 hp30x3 hx30x3
              refine g_enter2 (k := 270) (N := 300) (by omega) rfl (Nat.le_of_ble_eq_true rfl) ?_
              refine g_aload_n 1 (gd rfl) rfl rfl ?_
              refine g_iload_n 2 (gd rfl) rfl rfl ?_
              refine g_if_ne 5 9 (gd rfl) rfl rfl (fun c30x3x2 => ?_) (fun c30x3x2 => ?_)
              · skip
                exact zn_ne c30x3x2 (in_c 0 rfl) rfl
              · skip
                refine g_iconst 1 6 (gd rfl) rfl rfl ?_
                refine g_goto 18 (gd rfl) rfl ?_
                refine g_putI 21 (gd rfl) rfl rfl rfl rfl ?_
                have hI30x3x18 := inv_sF (q := 109) (j := 0) hI rfl (in_w 0 2 (in_c 1 rfl) rfl)
                refine g_aload_n 22 (gd rfl) rfl rfl ?_
                refine g_getI 25 (gd rfl) rfl rfl rfl (fun z30x3x22 e30x3x22 => ?_)
                have q30x3x22 : (Int32.ofInt 1) = z30x3x22 := (sF_get).trans e30x3x22.symm
                subst q30x3x22
                refine g_if_le 28 32 (gd rfl) rfl rfl (fun c30x3x25 => ?_) (fun c30x3x25 => ?_)
                · skip
                  exact zn_le c30x3x25 (in_c 1 rfl) rfl
                · skip
                  refine g_iconst 1 29 (gd rfl) rfl rfl ?_
                  refine g_goto 33 (gd rfl) rfl ?_
                  refine g_ireturn (gd rfl) rfl (nb01 (in_w 0 1 (in_c 1 rfl) rfl)) (hp30x3 _ _ ?_)
                  show GG _ _ _ _ _ _ _ _ [.int (Int32.ofInt 1)] _ _ _
                  refine g_ireturn (gd rfl) rfl (nb01 (in_w 0 1 (in_c 1 rfl) rfl)) (hp30 _ _ ?_)
                  show GG _ _ _ _ _ _ _ _ [.int (Int32.ofInt 1)] _ _ _
                  refine g_if_eq 36 38 (gd rfl) rfl rfl (fun c33 => ?_) (fun c33 => ?_)
                  · skip
                    exact zn_eq c33 (in_c 1 rfl) rfl
                  · skip
                    refine g_lconst 0 37 (gd rfl) rfl rfl ?_
                    exact g_lreturn (gd rfl) rfl (hP _ _ ⟨(sF s 109 0 (Int32.ofInt 1)), hI30x3x18, (fr_sF rfl fr_rf), (Int64.ofInt 0), rfl, rfl⟩)
            · skip
              exact zn_ne c22 (in_c 0 rfl) rfl
          · skip
            have i19x10 := z_le (-1) 0 c19x10 i19x9 rfl
            have c19x10a := lc_le e19x9 c19x10
            have i19x10a := lr_le1 0 4 c19x10a i19x3a (l_c 4 rfl) rfl
            have i19x10b := l_b e14 i19x10a
            refine g_iconst 1 14 (gd rfl) rfl rfl ?_
            refine g_goto 18 (gd rfl) rfl ?_
            refine g_ireturn (gd rfl) rfl (nb01 (in_w 0 1 (in_c 1 rfl) rfl)) (hp19 _ _ ?_)
            show GG _ _ _ _ _ _ _ _ [.int (Int32.ofInt 1), .ref (A 109)] _ _ _
            refine g_if_eq 25 29 (gd rfl) rfl rfl (fun c22 => ?_) (fun c22 => ?_)
            · skip
              exact zn_eq c22 (in_c 1 rfl) rfl
            · skip
              refine g_iconst 1 26 (gd rfl) rfl rfl ?_
              refine g_goto 30 (gd rfl) rfl ?_
              refine g_callv (X := _) (As := [.int (Int32.ofInt 1)]) (r := []) (b := A 109) (q := 109) 33 (gd rfl) rfl rfl rfl rfl rfl (ww_o rfl) (Nat.le_of_ble_eq_true rfl) (mc := 0) (ms := 0) (Nat.zero_le _) (Nat.zero_le _) (P := fun v u => _) ?_ (fun e u h => h) (fun v u h => h)
              intro po30 xx30 hp30 hx30
              refine g_enter2 (k := 271) (N := 300) (by omega) rfl (Nat.le_of_ble_eq_true rfl) ?_
              refine g_aload_n 1 (gd rfl) rfl rfl ?_
              refine g_iload_n 2 (gd rfl) rfl rfl ?_
              refine g_iconst 1 3 (gd rfl) rfl rfl ?_
              refine g_callv (X := _) (As := [.int (Int32.ofInt 1), .int (Int32.ofInt 1)]) (r := []) (b := A 109) (q := 109) 6 (gd rfl) rfl rfl rfl rfl rfl (ww_o rfl) (Nat.le_of_ble_eq_true rfl) (mc := 0) (ms := 0) (Nat.zero_le _) (Nat.zero_le _) (P := fun v u => _) ?_ (fun e u h => h) (fun v u h => h)
              intro po30x3 xx30x3 hp30x3 hx30x3
              refine g_enter2 (k := 270) (N := 300) (by omega) rfl (Nat.le_of_ble_eq_true rfl) ?_
              refine g_aload_n 1 (gd rfl) rfl rfl ?_
              refine g_iload_n 2 (gd rfl) rfl rfl ?_
              refine g_if_ne 5 9 (gd rfl) rfl rfl (fun c30x3x2 => ?_) (fun c30x3x2 => ?_)
              · skip
                refine g_iload_n 10 (gd rfl) rfl rfl ?_
                refine g_if_ne 13 17 (gd rfl) rfl rfl (fun c30x3x10 => ?_) (fun c30x3x10 => ?_)
                · skip
                  refine g_iconst 0 18 (gd rfl) rfl rfl ?_
                  refine g_putI 21 (gd rfl) rfl rfl rfl rfl ?_
                  have hI30x3x18 := inv_sF (q := 109) (j := 0) hI rfl (in_w 0 2 (in_c 0 rfl) rfl)
                  refine g_aload_n 22 (gd rfl) rfl rfl ?_
                  refine g_getI 25 (gd rfl) rfl rfl rfl (fun z30x3x22 e30x3x22 => ?_)
                  have q30x3x22 : (Int32.ofInt 0) = z30x3x22 := (sF_get).trans e30x3x22.symm
                  subst q30x3x22
                  refine g_if_le 28 32 (gd rfl) rfl rfl (fun c30x3x25 => ?_) (fun c30x3x25 => ?_)
                  · skip
                    refine g_iconst 0 33 (gd rfl) rfl rfl ?_
                    refine g_ireturn (gd rfl) rfl (nb01 (in_w 0 1 (in_c 0 rfl) rfl)) (hp30x3 _ _ ?_)
                    show GG _ _ _ _ _ _ _ _ [.int (Int32.ofInt 0)] _ _ _
                    refine g_ireturn (gd rfl) rfl (nb01 (in_w 0 1 (in_c 0 rfl) rfl)) (hp30 _ _ ?_)
                    show GG _ _ _ _ _ _ _ _ [.int (Int32.ofInt 0)] _ _ _
                    refine g_if_eq 36 38 (gd rfl) rfl rfl (fun c33 => ?_) (fun c33 => ?_)
                    · skip
                      refine g_aload_n 39 (gd rfl) rfl rfl ?_
                      refine g_getI 42 (gd rfl) rfl rfl rfl (fun z39 e39 => ?_)
                      have q39 : u_109_19 = z39 := (sF_ne rfl (e_109_19)).trans e39.symm
                      subst q39
                      refine g_iload_n 43 (gd rfl) rfl rfl ?_
                      refine g_iadd 44 (gd rfl) rfl (fun z43 e43 => ?_)
                      have i43 := in_add 0 319 e43 ro_109_19 i7x10b rfl rfl
                      refine g_istore_n 45 (gd rfl) rfl (Nat.le_of_ble_eq_true rfl) ?_
                      refine g_aload_n 46 (gd rfl) rfl rfl ?_
                      refine g_getA (q2 := 112) 49 (gd rfl) rfl rfl rfl rfl ?_
                      refine g_iload_n 50 (gd rfl) rfl rfl ?_
                      refine g_baload 51 (gd rfl) rfl (n := 480) rfl (in_ix i43 rfl) (fun z50 e50 => ?_)
                      have i50 := inv_I hI30x3x18 (n := 480) (t := 3) 0 1 rfl (in_ix i43 rfl) rfl e50
                      refine g_if_ne 54 58 (gd rfl) rfl rfl (fun c51 => ?_) (fun c51 => ?_)
                      · skip
                        have i51 := z_ne 1 1 c51 i50 rfl
                        refine g_iload_n 59 (gd rfl) rfl rfl ?_
                        refine g_if_ne 62 72 (gd rfl) rfl rfl (fun c59 => ?_) (fun c59 => ?_)
                        · skip
                          have i59 := z_ne 1 4 c59 i19x10b rfl
                          refine g_iload_n 73 (gd rfl) rfl rfl ?_
                          refine g_iconst 1 74 (gd rfl) rfl rfl ?_
                          refine g_cmp_ne 77 87 (gd rfl) rfl rfl (fun c74 => ?_) (fun c74 => ?_)
                          · skip
                            have i74 := r_ne1 2 4 c74 i59 (in_c 1 rfl) rfl
                            refine g_iload_n 88 (gd rfl) rfl rfl ?_
                            refine g_iconst 2 89 (gd rfl) rfl rfl ?_
                            refine g_cmp_ne 92 102 (gd rfl) rfl rfl (fun c89 => ?_) (fun c89 => ?_)
                            · skip
                              have i89 := r_ne1 3 4 c89 i74 (in_c 2 rfl) rfl
                              refine g_iload_n 103 (gd rfl) rfl rfl ?_
                              refine g_iconst 3 104 (gd rfl) rfl rfl ?_
                              refine g_cmp_ne 107 117 (gd rfl) rfl rfl (fun c104 => ?_) (fun c104 => ?_)
                              · skip
                                have i104 := r_ne1 4 4 c104 i89 (in_c 3 rfl) rfl
                                refine g_aload_n 118 (gd rfl) rfl rfl ?_
                                refine g_getA (q2 := 117) 121 (gd rfl) rfl rfl rfl rfl ?_
                                refine g_iload_n 122 (gd rfl) rfl rfl ?_
                                refine g_iaload 123 (gd rfl) rfl (n := 480) rfl (in_ix i43 rfl) (fun z122 e122 => ?_)
                                have i122 := inv_I hI30x3x18 (n := 480) (t := 0) 0 25 rfl (in_ix i43 rfl) rfl e122
                                refine g_i2l 124 (gd rfl) rfl (fun z123 e123 => ?_)
                                have i123 := l_i e123 i122
                                exact g_lreturn (gd rfl) rfl (hP _ _ ⟨(sF s 109 0 (Int32.ofInt 0)), hI30x3x18, (fr_sF rfl fr_rf), z123, rfl, rfl⟩)
                              · skip
                                have i104 := r_eq1 3 3 c104 i89 (in_c 3 rfl) rfl
                                refine g_aload_n 108 (gd rfl) rfl rfl ?_
                                refine g_getA (q2 := 116) 111 (gd rfl) rfl rfl rfl rfl ?_
                                refine g_iload_n 112 (gd rfl) rfl rfl ?_
                                refine g_iaload 113 (gd rfl) rfl (n := 480) rfl (in_ix i43 rfl) (fun z112 e112 => ?_)
                                have i112 := inv_I hI30x3x18 (n := 480) (t := 0) 0 1000000 rfl (in_ix i43 rfl) rfl e112
                                refine g_i2l 114 (gd rfl) rfl (fun z113 e113 => ?_)
                                have i113 := l_i e113 i112
                                refine g_goto 124 (gd rfl) rfl ?_
                                exact g_lreturn (gd rfl) rfl (hP _ _ ⟨(sF s 109 0 (Int32.ofInt 0)), hI30x3x18, (fr_sF rfl fr_rf), z113, rfl, rfl⟩)
                            · skip
                              have i89 := r_eq1 2 2 c89 i74 (in_c 2 rfl) rfl
                              refine g_aload_n 93 (gd rfl) rfl rfl ?_
                              refine g_getA (q2 := 115) 96 (gd rfl) rfl rfl rfl rfl ?_
                              refine g_iload_n 97 (gd rfl) rfl rfl ?_
                              refine g_iaload 98 (gd rfl) rfl (n := 480) rfl (in_ix i43 rfl) (fun z97 e97 => ?_)
                              have i97 := inv_I hI30x3x18 (n := 480) (t := 0) (-1000000) 1000000 rfl (in_ix i43 rfl) rfl e97
                              refine g_i2l 99 (gd rfl) rfl (fun z98 e98 => ?_)
                              have i98 := l_i e98 i97
                              refine g_goto 124 (gd rfl) rfl ?_
                              exact g_lreturn (gd rfl) rfl (hP _ _ ⟨(sF s 109 0 (Int32.ofInt 0)), hI30x3x18, (fr_sF rfl fr_rf), z98, rfl, rfl⟩)
                          · skip
                            have i74 := r_eq1 1 1 c74 i59 (in_c 1 rfl) rfl
                            refine g_aload_n 78 (gd rfl) rfl rfl ?_
                            refine g_getA (q2 := 114) 81 (gd rfl) rfl rfl rfl rfl ?_
                            refine g_iload_n 82 (gd rfl) rfl rfl ?_
                            refine g_iaload 83 (gd rfl) rfl (n := 480) rfl (in_ix i43 rfl) (fun z82 e82 => ?_)
                            have i82 := inv_I hI30x3x18 (n := 480) (t := 0) 0 31 rfl (in_ix i43 rfl) rfl e82
                            refine g_i2l 84 (gd rfl) rfl (fun z83 e83 => ?_)
                            have i83 := l_i e83 i82
                            refine g_goto 124 (gd rfl) rfl ?_
                            exact g_lreturn (gd rfl) rfl (hP _ _ ⟨(sF s 109 0 (Int32.ofInt 0)), hI30x3x18, (fr_sF rfl fr_rf), z83, rfl, rfl⟩)
                        · skip
                          have i59 := z_eq 0 0 c59 i19x10b rfl
                          refine g_aload_n 63 (gd rfl) rfl rfl ?_
                          refine g_getA (q2 := 113) 66 (gd rfl) rfl rfl rfl rfl ?_
                          refine g_iload_n 67 (gd rfl) rfl rfl ?_
                          refine g_iaload 68 (gd rfl) rfl (n := 480) rfl (in_ix i43 rfl) (fun z67 e67 => ?_)
                          have i67 := inv_I hI30x3x18 (n := 480) (t := 0) 0 31 rfl (in_ix i43 rfl) rfl e67
                          refine g_i2l 69 (gd rfl) rfl (fun z68 e68 => ?_)
                          have i68 := l_i e68 i67
                          refine g_goto 124 (gd rfl) rfl ?_
                          exact g_lreturn (gd rfl) rfl (hP _ _ ⟨(sF s 109 0 (Int32.ofInt 0)), hI30x3x18, (fr_sF rfl fr_rf), z68, rfl, rfl⟩)
                      · skip
                        have i51 := z_eq 0 0 c51 i50 rfl
                        refine g_ldc2_w 9000000000000000 57 (gd rfl) rfl rfl ?_
                        exact g_lreturn (gd rfl) rfl (hP _ _ ⟨(sF s 109 0 (Int32.ofInt 0)), hI30x3x18, (fr_sF rfl fr_rf), (Int64.ofInt 9000000000000000), rfl, rfl⟩)
                    · skip
                      exact zn_ne c33 (in_c 0 rfl) rfl
                  · skip
                    exact zn_gt c30x3x25 (in_c 0 rfl) rfl
                · skip
                  exact zn_eq c30x3x10 (in_c 1 rfl) rfl
              · skip
                exact zn_eq c30x3x2 (in_c 1 rfl) rfl

def fm_291 : FM := ([], [], [(109, 0)], [])
/-- GraphHouseModel.labelOf -/
theorem k_291 {Z : AmZ} {A : Nat → Nat} {s : GS} {ex : va_W} {d : Nat} {X : AmX} {x1 : Int32} (hd : 4 ≤ d) (hI : Inv s)  : GC Z d 291 [.ref (A 109), .int x1] (WW Z A s ++ ex) 0 0 (fun v u => ∃ t : GS, Inv t ∧ Fr fm_291 s t ∧ ∃ z : Int32, v = some (.int z) ∧ u = WW Z A t ++ ex ∧ In z 0 25) X := by
  intro post xp hP hX
  obtain ⟨u_109_18, e_109_18⟩ : ∃ w, w = s.2.2.1 109 18 := ⟨_, rfl⟩
  have ro_109_18 := inv_F hI 0 1 rfl e_109_18
  obtain ⟨u_109_20, e_109_20⟩ : ∃ w, w = s.2.2.1 109 20 := ⟨_, rfl⟩
  have ro_109_20 := inv_F hI 0 32 rfl e_109_20
  refine g_enter2 (k := 291) (N := 900) (by omega) rfl (Nat.le_of_ble_eq_true rfl) ?_
  refine g_aload_n 1 (gd rfl) rfl rfl ?_
  refine g_aload_n 2 (gd rfl) rfl rfl ?_
  refine g_iload_n 3 (gd rfl) rfl rfl ?_
  refine g_callv (X := _) (As := [.int x1]) (r := [.ref (A 109)]) (b := A 109) (q := 109) 6 (gd rfl) rfl rfl rfl rfl rfl (ww_o rfl) (Nat.le_of_ble_eq_true rfl) (mc := 0) (ms := 0) (Nat.zero_le _) (Nat.zero_le _) (P := fun v u => _) ?_ (fun e u h => h) (fun v u h => h)
  intro po3 xx3 hp3 hx3
  refine g_enter2 (k := 272) (N := 300) (by omega) rfl (Nat.le_of_ble_eq_true rfl) ?_
  refine g_iload_n 1 (gd rfl) rfl rfl ?_
  refine g_if_lt 4 16 (gd rfl) rfl rfl (fun c3x1 => ?_) (fun c3x1 => ?_)
  · skip
    have i3x1 := z_lt (-2147483648) (-1) c3x1 (i_rng x1) rfl
    refine g_iconst 0 17 (gd rfl) rfl rfl ?_
    refine g_ireturn (gd rfl) rfl (nb01 (in_w 0 1 (in_c 0 rfl) rfl)) (hp3 _ _ ?_)
    show GG _ _ _ _ _ _ _ _ [.int (Int32.ofInt 0), .ref (A 109)] _ _ _
    refine g_callv (X := _) (As := [.int (Int32.ofInt 0)]) (r := []) (b := A 109) (q := 109) 9 (gd rfl) rfl rfl rfl rfl rfl (ww_o rfl) (Nat.le_of_ble_eq_true rfl) (mc := 0) (ms := 0) (Nat.zero_le _) (Nat.zero_le _) (P := fun v u => _) ?_ (fun e u h => h) (fun v u h => h)
    intro po6 xx6 hp6 hx6
    refine g_enter2 (k := 271) (N := 300) (by omega) rfl (Nat.le_of_ble_eq_true rfl) ?_
    refine g_aload_n 1 (gd rfl) rfl rfl ?_
    refine g_iload_n 2 (gd rfl) rfl rfl ?_
    refine g_iconst 1 3 (gd rfl) rfl rfl ?_
    refine g_callv (X := _) (As := [.int (Int32.ofInt 0), .int (Int32.ofInt 1)]) (r := []) (b := A 109) (q := 109) 6 (gd rfl) rfl rfl rfl rfl rfl (ww_o rfl) (Nat.le_of_ble_eq_true rfl) (mc := 0) (ms := 0) (Nat.zero_le _) (Nat.zero_le _) (P := fun v u => _) ?_ (fun e u h => h) (fun v u h => h)
    intro po6x3 xx6x3 hp6x3 hx6x3
    refine g_enter2 (k := 270) (N := 300) (by omega) rfl (Nat.le_of_ble_eq_true rfl) ?_
    refine g_aload_n 1 (gd rfl) rfl rfl ?_
    refine g_iload_n 2 (gd rfl) rfl rfl ?_
    refine g_if_ne 5 9 (gd rfl) rfl rfl (fun c6x3x2 => ?_) (fun c6x3x2 => ?_)
    · skip
      exact zn_ne c6x3x2 (in_c 0 rfl) rfl
    · skip
      refine g_iconst 1 6 (gd rfl) rfl rfl ?_
      refine g_goto 18 (gd rfl) rfl ?_
      refine g_putI 21 (gd rfl) rfl rfl rfl rfl ?_
      have hI6x3x18 := inv_sF (q := 109) (j := 0) hI rfl (in_w 0 2 (in_c 1 rfl) rfl)
      refine g_aload_n 22 (gd rfl) rfl rfl ?_
      refine g_getI 25 (gd rfl) rfl rfl rfl (fun z6x3x22 e6x3x22 => ?_)
      have q6x3x22 : (Int32.ofInt 1) = z6x3x22 := (sF_get).trans e6x3x22.symm
      subst q6x3x22
      refine g_if_le 28 32 (gd rfl) rfl rfl (fun c6x3x25 => ?_) (fun c6x3x25 => ?_)
      · skip
        exact zn_le c6x3x25 (in_c 1 rfl) rfl
      · skip
        refine g_iconst 1 29 (gd rfl) rfl rfl ?_
        refine g_goto 33 (gd rfl) rfl ?_
        refine g_ireturn (gd rfl) rfl (nb01 (in_w 0 1 (in_c 1 rfl) rfl)) (hp6x3 _ _ ?_)
        show GG _ _ _ _ _ _ _ _ [.int (Int32.ofInt 1)] _ _ _
        refine g_ireturn (gd rfl) rfl (nb01 (in_w 0 1 (in_c 1 rfl) rfl)) (hp6 _ _ ?_)
        show GG _ _ _ _ _ _ _ _ [.int (Int32.ofInt 1)] _ _ _
        refine g_if_eq 12 16 (gd rfl) rfl rfl (fun c9 => ?_) (fun c9 => ?_)
        · skip
          exact zn_eq c9 (in_c 1 rfl) rfl
        · skip
          refine g_iconst 0 13 (gd rfl) rfl rfl ?_
          refine g_goto 30 (gd rfl) rfl ?_
          exact g_ireturn (gd rfl) rfl rfl (hP _ _ ⟨(sF s 109 0 (Int32.ofInt 1)), hI6x3x18, (fr_sF rfl fr_rf), (Int32.ofInt 0), rfl, rfl, in_w 0 25 (in_c 0 rfl) rfl⟩)
  · skip
    have i3x1 := z_ge 0 2147483647 c3x1 (i_rng x1) rfl
    refine g_iload_n 5 (gd rfl) rfl rfl ?_
    refine g_aload_n 6 (gd rfl) rfl rfl ?_
    refine g_getI 9 (gd rfl) rfl rfl rfl (fun z3x6 e3x6 => ?_)
    have q3x6 : u_109_20 = z3x6 := (e_109_20).trans e3x6.symm
    subst q3x6
    refine g_cmp_ge 12 16 (gd rfl) rfl rfl (fun c3x9 => ?_) (fun c3x9 => ?_)
    · skip
      refine g_iconst 0 17 (gd rfl) rfl rfl ?_
      refine g_ireturn (gd rfl) rfl (nb01 (in_w 0 1 (in_c 0 rfl) rfl)) (hp3 _ _ ?_)
      show GG _ _ _ _ _ _ _ _ [.int (Int32.ofInt 0), .ref (A 109)] _ _ _
      refine g_callv (X := _) (As := [.int (Int32.ofInt 0)]) (r := []) (b := A 109) (q := 109) 9 (gd rfl) rfl rfl rfl rfl rfl (ww_o rfl) (Nat.le_of_ble_eq_true rfl) (mc := 0) (ms := 0) (Nat.zero_le _) (Nat.zero_le _) (P := fun v u => _) ?_ (fun e u h => h) (fun v u h => h)
      intro po6 xx6 hp6 hx6
      refine g_enter2 (k := 271) (N := 300) (by omega) rfl (Nat.le_of_ble_eq_true rfl) ?_
      refine g_aload_n 1 (gd rfl) rfl rfl ?_
      refine g_iload_n 2 (gd rfl) rfl rfl ?_
      refine g_iconst 1 3 (gd rfl) rfl rfl ?_
      refine g_callv (X := _) (As := [.int (Int32.ofInt 0), .int (Int32.ofInt 1)]) (r := []) (b := A 109) (q := 109) 6 (gd rfl) rfl rfl rfl rfl rfl (ww_o rfl) (Nat.le_of_ble_eq_true rfl) (mc := 0) (ms := 0) (Nat.zero_le _) (Nat.zero_le _) (P := fun v u => _) ?_ (fun e u h => h) (fun v u h => h)
      intro po6x3 xx6x3 hp6x3 hx6x3
      refine g_enter2 (k := 270) (N := 300) (by omega) rfl (Nat.le_of_ble_eq_true rfl) ?_
      refine g_aload_n 1 (gd rfl) rfl rfl ?_
      refine g_iload_n 2 (gd rfl) rfl rfl ?_
      refine g_if_ne 5 9 (gd rfl) rfl rfl (fun c6x3x2 => ?_) (fun c6x3x2 => ?_)
      · skip
        exact zn_ne c6x3x2 (in_c 0 rfl) rfl
      · skip
        refine g_iconst 1 6 (gd rfl) rfl rfl ?_
        refine g_goto 18 (gd rfl) rfl ?_
        refine g_putI 21 (gd rfl) rfl rfl rfl rfl ?_
        have hI6x3x18 := inv_sF (q := 109) (j := 0) hI rfl (in_w 0 2 (in_c 1 rfl) rfl)
        refine g_aload_n 22 (gd rfl) rfl rfl ?_
        refine g_getI 25 (gd rfl) rfl rfl rfl (fun z6x3x22 e6x3x22 => ?_)
        have q6x3x22 : (Int32.ofInt 1) = z6x3x22 := (sF_get).trans e6x3x22.symm
        subst q6x3x22
        refine g_if_le 28 32 (gd rfl) rfl rfl (fun c6x3x25 => ?_) (fun c6x3x25 => ?_)
        · skip
          exact zn_le c6x3x25 (in_c 1 rfl) rfl
        · skip
          refine g_iconst 1 29 (gd rfl) rfl rfl ?_
          refine g_goto 33 (gd rfl) rfl ?_
          refine g_ireturn (gd rfl) rfl (nb01 (in_w 0 1 (in_c 1 rfl) rfl)) (hp6x3 _ _ ?_)
          show GG _ _ _ _ _ _ _ _ [.int (Int32.ofInt 1)] _ _ _
          refine g_ireturn (gd rfl) rfl (nb01 (in_w 0 1 (in_c 1 rfl) rfl)) (hp6 _ _ ?_)
          show GG _ _ _ _ _ _ _ _ [.int (Int32.ofInt 1)] _ _ _
          refine g_if_eq 12 16 (gd rfl) rfl rfl (fun c9 => ?_) (fun c9 => ?_)
          · skip
            exact zn_eq c9 (in_c 1 rfl) rfl
          · skip
            refine g_iconst 0 13 (gd rfl) rfl rfl ?_
            refine g_goto 30 (gd rfl) rfl ?_
            exact g_ireturn (gd rfl) rfl rfl (hP _ _ ⟨(sF s 109 0 (Int32.ofInt 1)), hI6x3x18, (fr_sF rfl fr_rf), (Int32.ofInt 0), rfl, rfl, in_w 0 25 (in_c 0 rfl) rfl⟩)
    · skip
      have i3x9 := r_lt1 0 31 c3x9 i3x1 ro_109_20 rfl
      have i3x9a := r_lt2 1 32 c3x9 i3x1 ro_109_20 rfl
      refine g_iconst 1 13 (gd rfl) rfl rfl ?_
      refine g_goto 17 (gd rfl) rfl ?_
      refine g_ireturn (gd rfl) rfl (nb01 (in_w 0 1 (in_c 1 rfl) rfl)) (hp3 _ _ ?_)
      show GG _ _ _ _ _ _ _ _ [.int (Int32.ofInt 1), .ref (A 109)] _ _ _
      refine g_callv (X := _) (As := [.int (Int32.ofInt 1)]) (r := []) (b := A 109) (q := 109) 9 (gd rfl) rfl rfl rfl rfl rfl (ww_o rfl) (Nat.le_of_ble_eq_true rfl) (mc := 0) (ms := 0) (Nat.zero_le _) (Nat.zero_le _) (P := fun v u => _) ?_ (fun e u h => h) (fun v u h => h)
      intro po6 xx6 hp6 hx6
      refine g_enter2 (k := 271) (N := 300) (by omega) rfl (Nat.le_of_ble_eq_true rfl) ?_
      refine g_aload_n 1 (gd rfl) rfl rfl ?_
      refine g_iload_n 2 (gd rfl) rfl rfl ?_
      refine g_iconst 1 3 (gd rfl) rfl rfl ?_
      refine g_callv (X := _) (As := [.int (Int32.ofInt 1), .int (Int32.ofInt 1)]) (r := []) (b := A 109) (q := 109) 6 (gd rfl) rfl rfl rfl rfl rfl (ww_o rfl) (Nat.le_of_ble_eq_true rfl) (mc := 0) (ms := 0) (Nat.zero_le _) (Nat.zero_le _) (P := fun v u => _) ?_ (fun e u h => h) (fun v u h => h)
      intro po6x3 xx6x3 hp6x3 hx6x3
      refine g_enter2 (k := 270) (N := 300) (by omega) rfl (Nat.le_of_ble_eq_true rfl) ?_
      refine g_aload_n 1 (gd rfl) rfl rfl ?_
      refine g_iload_n 2 (gd rfl) rfl rfl ?_
      refine g_if_ne 5 9 (gd rfl) rfl rfl (fun c6x3x2 => ?_) (fun c6x3x2 => ?_)
      · skip
        refine g_iload_n 10 (gd rfl) rfl rfl ?_
        refine g_if_ne 13 17 (gd rfl) rfl rfl (fun c6x3x10 => ?_) (fun c6x3x10 => ?_)
        · skip
          refine g_iconst 0 18 (gd rfl) rfl rfl ?_
          refine g_putI 21 (gd rfl) rfl rfl rfl rfl ?_
          have hI6x3x18 := inv_sF (q := 109) (j := 0) hI rfl (in_w 0 2 (in_c 0 rfl) rfl)
          refine g_aload_n 22 (gd rfl) rfl rfl ?_
          refine g_getI 25 (gd rfl) rfl rfl rfl (fun z6x3x22 e6x3x22 => ?_)
          have q6x3x22 : (Int32.ofInt 0) = z6x3x22 := (sF_get).trans e6x3x22.symm
          subst q6x3x22
          refine g_if_le 28 32 (gd rfl) rfl rfl (fun c6x3x25 => ?_) (fun c6x3x25 => ?_)
          · skip
            refine g_iconst 0 33 (gd rfl) rfl rfl ?_
            refine g_ireturn (gd rfl) rfl (nb01 (in_w 0 1 (in_c 0 rfl) rfl)) (hp6x3 _ _ ?_)
            show GG _ _ _ _ _ _ _ _ [.int (Int32.ofInt 0)] _ _ _
            refine g_ireturn (gd rfl) rfl (nb01 (in_w 0 1 (in_c 0 rfl) rfl)) (hp6 _ _ ?_)
            show GG _ _ _ _ _ _ _ _ [.int (Int32.ofInt 0)] _ _ _
            refine g_if_eq 12 16 (gd rfl) rfl rfl (fun c9 => ?_) (fun c9 => ?_)
            · skip
              refine g_aload_n 17 (gd rfl) rfl rfl ?_
              refine g_getA (q2 := 111) 20 (gd rfl) rfl rfl rfl rfl ?_
              refine g_bipush 32 22 (gd rfl) rfl rfl ?_
              refine g_aload_n 23 (gd rfl) rfl rfl ?_
              refine g_getI 26 (gd rfl) rfl rfl rfl (fun z23 e23 => ?_)
              have q23 : u_109_18 = z23 := (sF_ne rfl (e_109_18)).trans e23.symm
              subst q23
              refine g_imul 27 (gd rfl) rfl (fun z26 e26 => ?_)
              have i26 := in_mulc 32 0 32 (Or.inl e26) ro_109_18 rfl rfl
              refine g_iload_n 28 (gd rfl) rfl rfl ?_
              refine g_iadd 29 (gd rfl) rfl (fun z28 e28 => ?_)
              have i28 := in_add 0 63 e28 i26 i3x9 rfl rfl
              refine g_iaload 30 (gd rfl) rfl (n := 96) rfl (in_ix i28 rfl) (fun z29 e29 => ?_)
              have i29 := inv_I hI6x3x18 (n := 96) (t := 0) 0 25 rfl (in_ix i28 rfl) rfl e29
              exact g_ireturn (gd rfl) rfl rfl (hP _ _ ⟨(sF s 109 0 (Int32.ofInt 0)), hI6x3x18, (fr_sF rfl fr_rf), z29, rfl, rfl, in_w 0 25 i29 rfl⟩)
            · skip
              exact zn_ne c9 (in_c 0 rfl) rfl
          · skip
            exact zn_gt c6x3x25 (in_c 0 rfl) rfl
        · skip
          exact zn_eq c6x3x10 (in_c 1 rfl) rfl
      · skip
        exact zn_eq c6x3x2 (in_c 1 rfl) rfl

def fm_292 : FM := ([], [], [(109, 0)], [])
/-- GraphHouseModel.arcAt -/
theorem k_292 {Z : AmZ} {A : Nat → Nat} {s : GS} {ex : va_W} {d : Nat} {X : AmX} {x1 : Int32} {x2 : Int32} {x3 : Int32} (hd : 4 ≤ d) (hI : Inv s)  : GC Z d 292 [.ref (A 109), .int x1, .int x2, .int x3] (WW Z A s ++ ex) 0 0 (fun v u => ∃ t : GS, Inv t ∧ Fr fm_292 s t ∧ ∃ z : Int32, v = some (.int z) ∧ u = WW Z A t ++ ex ∧ In z (-1) 159) X := by
  intro post xp hP hX
  obtain ⟨u_109_19, e_109_19⟩ : ∃ w, w = s.2.2.1 109 19 := ⟨_, rfl⟩
  have ro_109_19 := inv_F hI 0 160 rfl e_109_19
  obtain ⟨u_109_20, e_109_20⟩ : ∃ w, w = s.2.2.1 109 20 := ⟨_, rfl⟩
  have ro_109_20 := inv_F hI 0 32 rfl e_109_20
  have ct42 : ∀ (k42 : Nat) (sc42 : GS) (y42_4 : Int32) (y42_5 : Int32), Inv sc42 → Fr fm_292 s sc42 → (In x1 0 31) → (In x2 0 1) → (In x3 0 2147483647) → (In y42_5 0 160) → 160 - (y42_5).toInt < (k42 : Int) → GG Z (d - 1) 292 post (gx xp) (1 + k42 * 1801) 42 (fun j => xlook j [(0, .ref (A 109)), (1, .int x1), (2, .int x2), (3, .int x3), (4, .int y42_4), (5, .int y42_5)]) [] (WW Z A sc42 ++ ex) 0 0 := by
    intro k42
    induction k42 with
    | zero => intro sc42 y42_4 y42_5 hIc42 hFc42 j42_1 j42_2 j42_3 j42_5 mm42; exact m_no mm42 j42_5 rfl
    | succ k42 ih42 =>
      intro sc42 y42_4 y42_5 hIc42 hFc42 j42_1 j42_2 j42_3 j42_5 mm42
      refine gg_w (M := 1 + k42 * 1801 + 1801) (by omega) ?_
      have ct112 : ∀ (sc112 : GS) (y112_4 : Int32), Inv sc112 → Fr fm_292 s sc112 → (In y42_5 0 159) → GG Z (d - 1) 292 post (gx xp) (1 + k42 * 1801 + 901) 112 (fun j => xlook j [(0, .ref (A 109)), (1, .int x1), (2, .int x2), (3, .int x3), (4, .int y112_4), (5, .int y42_5)]) [] (WW Z A sc112 ++ ex) 0 0 := by
        intro sc112 y112_4 hIc112 hFc112 j112_5
        refine g_iinc 115 (gd rfl) rfl rfl (Nat.le_of_ble_eq_true rfl) (fun z112 e112 => ?_)
        have i112 := in_add 1 160 e112 j112_5 (in_c 1 rfl) rfl rfl
        refine g_goto 42 (gd rfl) rfl ?_
        exact gg_w (by omega) (gg_f (gf_cons rfl (gf_cons rfl (gf_cons rfl (gf_cons rfl (gf_cons rfl (gf_cons rfl gf_nil)))))) (ih42 sc112 y112_4 z112 hIc112 hFc112 (in_w 0 31 j42_1 rfl) (in_w 0 1 j42_2 rfl) (in_w 0 2147483647 j42_3 rfl) (in_w 0 160 i112 rfl) (m_up mm42 (t_add e112 j112_5 (in_c 1 rfl) rfl) (in_w 1 1 (in_c 1 rfl) rfl))))
      refine g_iload 44 (gd rfl) rfl rfl ?_
      refine g_sipush 160 47 (gd rfl) rfl rfl ?_
      refine g_cmp_ge 50 118 (gd rfl) rfl rfl (fun c47 => ?_) (fun c47 => ?_)
      · skip
        have i47 := r_le2 160 160 c47 (in_c 160 rfl) j42_5 rfl
        refine g_iconst (-1) 119 (gd rfl) rfl rfl ?_
        exact g_ireturn (gd rfl) rfl rfl (hP _ _ ⟨sc42, hIc42, hFc42, (Int32.ofInt (-1)), rfl, rfl, in_w (-1) 159 (in_c (-1) rfl) rfl⟩)
      · skip
        have i47 := r_lt1 0 159 c47 j42_5 (in_c 160 rfl) rfl
        refine g_aload_n 51 (gd rfl) rfl rfl ?_
        refine g_getA (q2 := 112) 54 (gd rfl) rfl rfl rfl rfl ?_
        refine g_aload_n 55 (gd rfl) rfl rfl ?_
        refine g_getI 58 (gd rfl) rfl rfl rfl (fun z55 e55 => ?_)
        have q55 : u_109_19 = z55 := (fr_F e_109_19 hFc42 rfl).trans e55.symm
        subst q55
        refine g_iload 60 (gd rfl) rfl rfl ?_
        refine g_iadd 61 (gd rfl) rfl (fun z60 e60 => ?_)
        have i60 := in_add 0 319 e60 ro_109_19 i47 rfl rfl
        refine g_baload 62 (gd rfl) rfl (n := 480) rfl (in_ix i60 rfl) (fun z61 e61 => ?_)
        have i61 := inv_I hIc42 (n := 480) (t := 3) 0 1 rfl (in_ix i60 rfl) rfl e61
        refine g_if_eq 65 112 (gd rfl) rfl rfl (fun c62 => ?_) (fun c62 => ?_)
        · skip
          have i62 := z_eq 0 0 c62 i61 rfl
          exact gg_w (by omega) (gg_f (gf_cons rfl (gf_cons rfl (gf_cons rfl (gf_cons rfl (gf_cons rfl (gf_cons rfl gf_nil)))))) (ct112 sc42 y42_4 hIc42 hFc42 (in_w 0 159 i47 rfl)))
        · skip
          have i62 := z_ne 1 1 c62 i61 rfl
          refine g_iload_n 66 (gd rfl) rfl rfl ?_
          refine g_if_ne 69 84 (gd rfl) rfl rfl (fun c66 => ?_) (fun c66 => ?_)
          · skip
            have i66 := z_ne 1 1 c66 j42_2 rfl
            refine g_aload_n 85 (gd rfl) rfl rfl ?_
            refine g_getA (q2 := 114) 88 (gd rfl) rfl rfl rfl rfl ?_
            refine g_aload_n 89 (gd rfl) rfl rfl ?_
            refine g_getI 92 (gd rfl) rfl rfl rfl (fun z89 e89 => ?_)
            have q89 : u_109_19 = z89 := (fr_F e_109_19 hFc42 rfl).trans e89.symm
            subst q89
            refine g_iload 94 (gd rfl) rfl rfl ?_
            refine g_iadd 95 (gd rfl) rfl (fun z94 e94 => ?_)
            have i94 := in_add 0 319 e94 ro_109_19 i47 rfl rfl
            refine g_iaload 96 (gd rfl) rfl (n := 480) rfl (in_ix i94 rfl) (fun z95 e95 => ?_)
            have i95 := inv_I hIc42 (n := 480) (t := 0) 0 31 rfl (in_ix i94 rfl) rfl e95
            refine g_iload_n 97 (gd rfl) rfl rfl ?_
            refine g_cmp_ne 100 112 (gd rfl) rfl rfl (fun c97 => ?_) (fun c97 => ?_)
            · skip
              exact gg_w (by omega) (gg_f (gf_cons rfl (gf_cons rfl (gf_cons rfl (gf_cons rfl (gf_cons rfl (gf_cons rfl gf_nil)))))) (ct112 sc42 y42_4 hIc42 hFc42 (in_w 0 159 i47 rfl)))
            · skip
              refine g_iload 102 (gd rfl) rfl rfl ?_
              refine g_iload_n 103 (gd rfl) rfl rfl ?_
              refine g_cmp_ne 106 109 (gd rfl) rfl rfl (fun c103 => ?_) (fun c103 => ?_)
              · skip
                refine g_iinc 112 (gd rfl) rfl rfl (Nat.le_of_ble_eq_true rfl) (fun z109 e109 => ?_)
                exact gg_w (by omega) (gg_f (gf_cons rfl (gf_cons rfl (gf_cons rfl (gf_cons rfl (gf_cons rfl (gf_cons rfl gf_nil)))))) (ct112 sc42 z109 hIc42 hFc42 (in_w 0 159 i47 rfl)))
              · skip
                have i103 := r_eq1 0 2147483647 c103 (i_rng y42_4) j42_3 rfl
                refine g_iload 108 (gd rfl) rfl rfl ?_
                exact g_ireturn (gd rfl) rfl rfl (hP _ _ ⟨sc42, hIc42, hFc42, y42_5, rfl, rfl, in_w (-1) 159 i47 rfl⟩)
          · skip
            have i66 := z_eq 0 0 c66 j42_2 rfl
            refine g_aload_n 70 (gd rfl) rfl rfl ?_
            refine g_getA (q2 := 113) 73 (gd rfl) rfl rfl rfl rfl ?_
            refine g_aload_n 74 (gd rfl) rfl rfl ?_
            refine g_getI 77 (gd rfl) rfl rfl rfl (fun z74 e74 => ?_)
            have q74 : u_109_19 = z74 := (fr_F e_109_19 hFc42 rfl).trans e74.symm
            subst q74
            refine g_iload 79 (gd rfl) rfl rfl ?_
            refine g_iadd 80 (gd rfl) rfl (fun z79 e79 => ?_)
            have i79 := in_add 0 319 e79 ro_109_19 i47 rfl rfl
            refine g_iaload 81 (gd rfl) rfl (n := 480) rfl (in_ix i79 rfl) (fun z80 e80 => ?_)
            have i80 := inv_I hIc42 (n := 480) (t := 0) 0 31 rfl (in_ix i79 rfl) rfl e80
            refine g_goto 96 (gd rfl) rfl ?_
            refine g_iload_n 97 (gd rfl) rfl rfl ?_
            refine g_cmp_ne 100 112 (gd rfl) rfl rfl (fun c97 => ?_) (fun c97 => ?_)
            · skip
              exact gg_w (by omega) (gg_f (gf_cons rfl (gf_cons rfl (gf_cons rfl (gf_cons rfl (gf_cons rfl (gf_cons rfl gf_nil)))))) (ct112 sc42 y42_4 hIc42 hFc42 (in_w 0 159 i47 rfl)))
            · skip
              refine g_iload 102 (gd rfl) rfl rfl ?_
              refine g_iload_n 103 (gd rfl) rfl rfl ?_
              refine g_cmp_ne 106 109 (gd rfl) rfl rfl (fun c103 => ?_) (fun c103 => ?_)
              · skip
                refine g_iinc 112 (gd rfl) rfl rfl (Nat.le_of_ble_eq_true rfl) (fun z109 e109 => ?_)
                exact gg_w (by omega) (gg_f (gf_cons rfl (gf_cons rfl (gf_cons rfl (gf_cons rfl (gf_cons rfl (gf_cons rfl gf_nil)))))) (ct112 sc42 z109 hIc42 hFc42 (in_w 0 159 i47 rfl)))
              · skip
                have i103 := r_eq1 0 2147483647 c103 (i_rng y42_4) j42_3 rfl
                refine g_iload 108 (gd rfl) rfl rfl ?_
                exact g_ireturn (gd rfl) rfl rfl (hP _ _ ⟨sc42, hIc42, hFc42, y42_5, rfl, rfl, in_w (-1) 159 i47 rfl⟩)
  refine g_enter2 (k := 292) (N := 290862) (by omega) rfl (Nat.le_of_ble_eq_true rfl) ?_
  refine g_aload_n 1 (gd rfl) rfl rfl ?_
  refine g_aload_n 2 (gd rfl) rfl rfl ?_
  refine g_iload_n 3 (gd rfl) rfl rfl ?_
  refine g_callv (X := _) (As := [.int x1]) (r := [.ref (A 109)]) (b := A 109) (q := 109) 6 (gd rfl) rfl rfl rfl rfl rfl (ww_o rfl) (Nat.le_of_ble_eq_true rfl) (mc := 0) (ms := 0) (Nat.zero_le _) (Nat.zero_le _) (P := fun v u => _) ?_ (fun e u h => h) (fun v u h => h)
  intro po3 xx3 hp3 hx3
  refine g_enter2 (k := 272) (N := 300) (by omega) rfl (Nat.le_of_ble_eq_true rfl) ?_
  refine g_iload_n 1 (gd rfl) rfl rfl ?_
  refine g_if_lt 4 16 (gd rfl) rfl rfl (fun c3x1 => ?_) (fun c3x1 => ?_)
  · skip
    have i3x1 := z_lt (-2147483648) (-1) c3x1 (i_rng x1) rfl
    refine g_iconst 0 17 (gd rfl) rfl rfl ?_
    refine g_ireturn (gd rfl) rfl (nb01 (in_w 0 1 (in_c 0 rfl) rfl)) (hp3 _ _ ?_)
    show GG _ _ _ _ _ _ _ _ [.int (Int32.ofInt 0), .ref (A 109)] _ _ _
    refine g_if_eq 9 27 (gd rfl) rfl rfl (fun c6 => ?_) (fun c6 => ?_)
    · skip
      refine g_iconst 0 28 (gd rfl) rfl rfl ?_
      refine g_callv (X := _) (As := [.int (Int32.ofInt 0)]) (r := []) (b := A 109) (q := 109) 31 (gd rfl) rfl rfl rfl rfl rfl (ww_o rfl) (Nat.le_of_ble_eq_true rfl) (mc := 0) (ms := 0) (Nat.zero_le _) (Nat.zero_le _) (P := fun v u => _) ?_ (fun e u h => h) (fun v u h => h)
      intro po28 xx28 hp28 hx28
      refine g_enter2 (k := 271) (N := 300) (by omega) rfl (Nat.le_of_ble_eq_true rfl) ?_
      refine g_aload_n 1 (gd rfl) rfl rfl ?_
      refine g_iload_n 2 (gd rfl) rfl rfl ?_
      refine g_iconst 1 3 (gd rfl) rfl rfl ?_
      refine g_callv (X := _) (As := [.int (Int32.ofInt 0), .int (Int32.ofInt 1)]) (r := []) (b := A 109) (q := 109) 6 (gd rfl) rfl rfl rfl rfl rfl (ww_o rfl) (Nat.le_of_ble_eq_true rfl) (mc := 0) (ms := 0) (Nat.zero_le _) (Nat.zero_le _) (P := fun v u => _) ?_ (fun e u h => h) (fun v u h => h)
      intro po28x3 xx28x3 hp28x3 hx28x3
      refine g_enter2 (k := 270) (N := 300) (by omega) rfl (Nat.le_of_ble_eq_true rfl) ?_
      refine g_aload_n 1 (gd rfl) rfl rfl ?_
      refine g_iload_n 2 (gd rfl) rfl rfl ?_
      refine g_if_ne 5 9 (gd rfl) rfl rfl (fun c28x3x2 => ?_) (fun c28x3x2 => ?_)
      · skip
        exact zn_ne c28x3x2 (in_c 0 rfl) rfl
      · skip
        refine g_iconst 1 6 (gd rfl) rfl rfl ?_
        refine g_goto 18 (gd rfl) rfl ?_
        refine g_putI 21 (gd rfl) rfl rfl rfl rfl ?_
        have hI28x3x18 := inv_sF (q := 109) (j := 0) hI rfl (in_w 0 2 (in_c 1 rfl) rfl)
        refine g_aload_n 22 (gd rfl) rfl rfl ?_
        refine g_getI 25 (gd rfl) rfl rfl rfl (fun z28x3x22 e28x3x22 => ?_)
        have q28x3x22 : (Int32.ofInt 1) = z28x3x22 := (sF_get).trans e28x3x22.symm
        subst q28x3x22
        refine g_if_le 28 32 (gd rfl) rfl rfl (fun c28x3x25 => ?_) (fun c28x3x25 => ?_)
        · skip
          exact zn_le c28x3x25 (in_c 1 rfl) rfl
        · skip
          refine g_iconst 1 29 (gd rfl) rfl rfl ?_
          refine g_goto 33 (gd rfl) rfl ?_
          refine g_ireturn (gd rfl) rfl (nb01 (in_w 0 1 (in_c 1 rfl) rfl)) (hp28x3 _ _ ?_)
          show GG _ _ _ _ _ _ _ _ [.int (Int32.ofInt 1)] _ _ _
          refine g_ireturn (gd rfl) rfl (nb01 (in_w 0 1 (in_c 1 rfl) rfl)) (hp28 _ _ ?_)
          show GG _ _ _ _ _ _ _ _ [.int (Int32.ofInt 1)] _ _ _
          refine g_if_eq 34 36 (gd rfl) rfl rfl (fun c31 => ?_) (fun c31 => ?_)
          · skip
            exact zn_eq c31 (in_c 1 rfl) rfl
          · skip
            refine g_iconst 0 35 (gd rfl) rfl rfl ?_
            exact g_ireturn (gd rfl) rfl rfl (hP _ _ ⟨(sF s 109 0 (Int32.ofInt 1)), hI28x3x18, (fr_sF rfl fr_rf), (Int32.ofInt 0), rfl, rfl, in_w (-1) 159 (in_c 0 rfl) rfl⟩)
    · skip
      exact zn_ne c6 (in_c 0 rfl) rfl
  · skip
    have i3x1 := z_ge 0 2147483647 c3x1 (i_rng x1) rfl
    refine g_iload_n 5 (gd rfl) rfl rfl ?_
    refine g_aload_n 6 (gd rfl) rfl rfl ?_
    refine g_getI 9 (gd rfl) rfl rfl rfl (fun z3x6 e3x6 => ?_)
    have q3x6 : u_109_20 = z3x6 := (e_109_20).trans e3x6.symm
    subst q3x6
    refine g_cmp_ge 12 16 (gd rfl) rfl rfl (fun c3x9 => ?_) (fun c3x9 => ?_)
    · skip
      refine g_iconst 0 17 (gd rfl) rfl rfl ?_
      refine g_ireturn (gd rfl) rfl (nb01 (in_w 0 1 (in_c 0 rfl) rfl)) (hp3 _ _ ?_)
      show GG _ _ _ _ _ _ _ _ [.int (Int32.ofInt 0), .ref (A 109)] _ _ _
      refine g_if_eq 9 27 (gd rfl) rfl rfl (fun c6 => ?_) (fun c6 => ?_)
      · skip
        refine g_iconst 0 28 (gd rfl) rfl rfl ?_
        refine g_callv (X := _) (As := [.int (Int32.ofInt 0)]) (r := []) (b := A 109) (q := 109) 31 (gd rfl) rfl rfl rfl rfl rfl (ww_o rfl) (Nat.le_of_ble_eq_true rfl) (mc := 0) (ms := 0) (Nat.zero_le _) (Nat.zero_le _) (P := fun v u => _) ?_ (fun e u h => h) (fun v u h => h)
        intro po28 xx28 hp28 hx28
        refine g_enter2 (k := 271) (N := 300) (by omega) rfl (Nat.le_of_ble_eq_true rfl) ?_
        refine g_aload_n 1 (gd rfl) rfl rfl ?_
        refine g_iload_n 2 (gd rfl) rfl rfl ?_
        refine g_iconst 1 3 (gd rfl) rfl rfl ?_
        refine g_callv (X := _) (As := [.int (Int32.ofInt 0), .int (Int32.ofInt 1)]) (r := []) (b := A 109) (q := 109) 6 (gd rfl) rfl rfl rfl rfl rfl (ww_o rfl) (Nat.le_of_ble_eq_true rfl) (mc := 0) (ms := 0) (Nat.zero_le _) (Nat.zero_le _) (P := fun v u => _) ?_ (fun e u h => h) (fun v u h => h)
        intro po28x3 xx28x3 hp28x3 hx28x3
        refine g_enter2 (k := 270) (N := 300) (by omega) rfl (Nat.le_of_ble_eq_true rfl) ?_
        refine g_aload_n 1 (gd rfl) rfl rfl ?_
        refine g_iload_n 2 (gd rfl) rfl rfl ?_
        refine g_if_ne 5 9 (gd rfl) rfl rfl (fun c28x3x2 => ?_) (fun c28x3x2 => ?_)
        · skip
          exact zn_ne c28x3x2 (in_c 0 rfl) rfl
        · skip
          refine g_iconst 1 6 (gd rfl) rfl rfl ?_
          refine g_goto 18 (gd rfl) rfl ?_
          refine g_putI 21 (gd rfl) rfl rfl rfl rfl ?_
          have hI28x3x18 := inv_sF (q := 109) (j := 0) hI rfl (in_w 0 2 (in_c 1 rfl) rfl)
          refine g_aload_n 22 (gd rfl) rfl rfl ?_
          refine g_getI 25 (gd rfl) rfl rfl rfl (fun z28x3x22 e28x3x22 => ?_)
          have q28x3x22 : (Int32.ofInt 1) = z28x3x22 := (sF_get).trans e28x3x22.symm
          subst q28x3x22
          refine g_if_le 28 32 (gd rfl) rfl rfl (fun c28x3x25 => ?_) (fun c28x3x25 => ?_)
          · skip
            exact zn_le c28x3x25 (in_c 1 rfl) rfl
          · skip
            refine g_iconst 1 29 (gd rfl) rfl rfl ?_
            refine g_goto 33 (gd rfl) rfl ?_
            refine g_ireturn (gd rfl) rfl (nb01 (in_w 0 1 (in_c 1 rfl) rfl)) (hp28x3 _ _ ?_)
            show GG _ _ _ _ _ _ _ _ [.int (Int32.ofInt 1)] _ _ _
            refine g_ireturn (gd rfl) rfl (nb01 (in_w 0 1 (in_c 1 rfl) rfl)) (hp28 _ _ ?_)
            show GG _ _ _ _ _ _ _ _ [.int (Int32.ofInt 1)] _ _ _
            refine g_if_eq 34 36 (gd rfl) rfl rfl (fun c31 => ?_) (fun c31 => ?_)
            · skip
              exact zn_eq c31 (in_c 1 rfl) rfl
            · skip
              refine g_iconst 0 35 (gd rfl) rfl rfl ?_
              exact g_ireturn (gd rfl) rfl rfl (hP _ _ ⟨(sF s 109 0 (Int32.ofInt 1)), hI28x3x18, (fr_sF rfl fr_rf), (Int32.ofInt 0), rfl, rfl, in_w (-1) 159 (in_c 0 rfl) rfl⟩)
      · skip
        exact zn_ne c6 (in_c 0 rfl) rfl
    · skip
      have i3x9 := r_lt1 0 31 c3x9 i3x1 ro_109_20 rfl
      have i3x9a := r_lt2 1 32 c3x9 i3x1 ro_109_20 rfl
      refine g_iconst 1 13 (gd rfl) rfl rfl ?_
      refine g_goto 17 (gd rfl) rfl ?_
      refine g_ireturn (gd rfl) rfl (nb01 (in_w 0 1 (in_c 1 rfl) rfl)) (hp3 _ _ ?_)
      show GG _ _ _ _ _ _ _ _ [.int (Int32.ofInt 1), .ref (A 109)] _ _ _
      refine g_if_eq 9 27 (gd rfl) rfl rfl (fun c6 => ?_) (fun c6 => ?_)
      · skip
        exact zn_eq c6 (in_c 1 rfl) rfl
      · skip
        refine g_iload_n 10 (gd rfl) rfl rfl ?_
        refine g_i2l 11 (gd rfl) rfl (fun z10 e10 => ?_)
        have i10 := l_i e10 (i_rng x2)
        refine g_lconst 0 12 (gd rfl) rfl rfl ?_
        refine g_lconst 1 13 (gd rfl) rfl rfl ?_
        refine g_calls (As := [.long z10, .long (Int64.ofInt 0), .long (Int64.ofInt 1)]) (r := [.ref (A 109)]) 16 (gd rfl) rfl rfl rfl rfl rfl (Nat.le_of_ble_eq_true rfl) (mc := 0) (ms := 0) (Nat.zero_le _) (Nat.zero_le _) (P := fun v u => _) ?_ (fun v u h => h)
        intro po13 xx13 hp13 hx13
        refine g_enter2 (k := 269) (N := 300) (by omega) rfl (Nat.le_of_ble_eq_true rfl) ?_
        refine g_lload_n 1 (gd rfl) rfl rfl ?_
        refine g_lload_n 2 (gd rfl) rfl rfl ?_
        refine g_lcmp 3 (gd rfl) rfl (fun z13x2 e13x2 => ?_)
        have i13x2 := lc_in e13x2
        refine g_if_lt 6 17 (gd rfl) rfl rfl (fun c13x3 => ?_) (fun c13x3 => ?_)
        · skip
          have i13x3 := z_lt (-1) (-1) c13x3 i13x2 rfl
          have c13x3a := lc_lt e13x2 c13x3
          have i13x3a := lr_lt1 (-2147483648) (-1) c13x3a i10 (l_c 0 rfl) rfl
          have i13x3b := l_b e10 i13x3a
          refine g_iconst 0 18 (gd rfl) rfl rfl ?_
          refine g_ireturn (gd rfl) rfl (nb01 (in_w 0 1 (in_c 0 rfl) rfl)) (hp13 _ _ ?_)
          show GG _ _ _ _ _ _ _ _ [.int (Int32.ofInt 0), .ref (A 109)] _ _ _
          refine g_if_eq 19 27 (gd rfl) rfl rfl (fun c16 => ?_) (fun c16 => ?_)
          · skip
            refine g_iconst 0 28 (gd rfl) rfl rfl ?_
            refine g_callv (X := _) (As := [.int (Int32.ofInt 0)]) (r := []) (b := A 109) (q := 109) 31 (gd rfl) rfl rfl rfl rfl rfl (ww_o rfl) (Nat.le_of_ble_eq_true rfl) (mc := 0) (ms := 0) (Nat.zero_le _) (Nat.zero_le _) (P := fun v u => _) ?_ (fun e u h => h) (fun v u h => h)
            intro po28 xx28 hp28 hx28
            refine g_enter2 (k := 271) (N := 300) (by omega) rfl (Nat.le_of_ble_eq_true rfl) ?_
            refine g_aload_n 1 (gd rfl) rfl rfl ?_
            refine g_iload_n 2 (gd rfl) rfl rfl ?_
            refine g_iconst 1 3 (gd rfl) rfl rfl ?_
            refine g_callv (X := _) (As := [.int (Int32.ofInt 0), .int (Int32.ofInt 1)]) (r := []) (b := A 109) (q := 109) 6 (gd rfl) rfl rfl rfl rfl rfl (ww_o rfl) (Nat.le_of_ble_eq_true rfl) (mc := 0) (ms := 0) (Nat.zero_le _) (Nat.zero_le _) (P := fun v u => _) ?_ (fun e u h => h) (fun v u h => h)
            intro po28x3 xx28x3 hp28x3 hx28x3
            refine g_enter2 (k := 270) (N := 300) (by omega) rfl (Nat.le_of_ble_eq_true rfl) ?_
            refine g_aload_n 1 (gd rfl) rfl rfl ?_
            refine g_iload_n 2 (gd rfl) rfl rfl ?_
            refine g_if_ne 5 9 (gd rfl) rfl rfl (fun c28x3x2 => ?_) (fun c28x3x2 => ?_)
            · skip
              exact zn_ne c28x3x2 (in_c 0 rfl) rfl
            · skip
              refine g_iconst 1 6 (gd rfl) rfl rfl ?_
              refine g_goto 18 (gd rfl) rfl ?_
              refine g_putI 21 (gd rfl) rfl rfl rfl rfl ?_
              have hI28x3x18 := inv_sF (q := 109) (j := 0) hI rfl (in_w 0 2 (in_c 1 rfl) rfl)
              refine g_aload_n 22 (gd rfl) rfl rfl ?_
              refine g_getI 25 (gd rfl) rfl rfl rfl (fun z28x3x22 e28x3x22 => ?_)
              have q28x3x22 : (Int32.ofInt 1) = z28x3x22 := (sF_get).trans e28x3x22.symm
              subst q28x3x22
              refine g_if_le 28 32 (gd rfl) rfl rfl (fun c28x3x25 => ?_) (fun c28x3x25 => ?_)
              · skip
                exact zn_le c28x3x25 (in_c 1 rfl) rfl
              · skip
                refine g_iconst 1 29 (gd rfl) rfl rfl ?_
                refine g_goto 33 (gd rfl) rfl ?_
                refine g_ireturn (gd rfl) rfl (nb01 (in_w 0 1 (in_c 1 rfl) rfl)) (hp28x3 _ _ ?_)
                show GG _ _ _ _ _ _ _ _ [.int (Int32.ofInt 1)] _ _ _
                refine g_ireturn (gd rfl) rfl (nb01 (in_w 0 1 (in_c 1 rfl) rfl)) (hp28 _ _ ?_)
                show GG _ _ _ _ _ _ _ _ [.int (Int32.ofInt 1)] _ _ _
                refine g_if_eq 34 36 (gd rfl) rfl rfl (fun c31 => ?_) (fun c31 => ?_)
                · skip
                  exact zn_eq c31 (in_c 1 rfl) rfl
                · skip
                  refine g_iconst 0 35 (gd rfl) rfl rfl ?_
                  exact g_ireturn (gd rfl) rfl rfl (hP _ _ ⟨(sF s 109 0 (Int32.ofInt 1)), hI28x3x18, (fr_sF rfl fr_rf), (Int32.ofInt 0), rfl, rfl, in_w (-1) 159 (in_c 0 rfl) rfl⟩)
          · skip
            exact zn_ne c16 (in_c 0 rfl) rfl
        · skip
          have i13x3 := z_ge 0 1 c13x3 i13x2 rfl
          have c13x3a := lc_ge e13x2 c13x3
          have i13x3a := lr_le2 0 2147483647 c13x3a (l_c 0 rfl) i10 rfl
          have i13x3b := l_b e10 i13x3a
          refine g_lload_n 7 (gd rfl) rfl rfl ?_
          refine g_lload 9 (gd rfl) rfl rfl ?_
          refine g_lcmp 10 (gd rfl) rfl (fun z13x9 e13x9 => ?_)
          have i13x9 := lc_in e13x9
          refine g_if_gt 13 17 (gd rfl) rfl rfl (fun c13x10 => ?_) (fun c13x10 => ?_)
          · skip
            have i13x10 := z_gt 1 1 c13x10 i13x9 rfl
            have c13x10a := lc_gt e13x9 c13x10
            have i13x10a := lr_lt2 2 2147483647 c13x10a (l_c 1 rfl) i13x3a rfl
            have i13x10b := l_b e10 i13x10a
            refine g_iconst 0 18 (gd rfl) rfl rfl ?_
            refine g_ireturn (gd rfl) rfl (nb01 (in_w 0 1 (in_c 0 rfl) rfl)) (hp13 _ _ ?_)
            show GG _ _ _ _ _ _ _ _ [.int (Int32.ofInt 0), .ref (A 109)] _ _ _
            refine g_if_eq 19 27 (gd rfl) rfl rfl (fun c16 => ?_) (fun c16 => ?_)
            · skip
              refine g_iconst 0 28 (gd rfl) rfl rfl ?_
              refine g_callv (X := _) (As := [.int (Int32.ofInt 0)]) (r := []) (b := A 109) (q := 109) 31 (gd rfl) rfl rfl rfl rfl rfl (ww_o rfl) (Nat.le_of_ble_eq_true rfl) (mc := 0) (ms := 0) (Nat.zero_le _) (Nat.zero_le _) (P := fun v u => _) ?_ (fun e u h => h) (fun v u h => h)
              intro po28 xx28 hp28 hx28
              refine g_enter2 (k := 271) (N := 300) (by omega) rfl (Nat.le_of_ble_eq_true rfl) ?_
              refine g_aload_n 1 (gd rfl) rfl rfl ?_
              refine g_iload_n 2 (gd rfl) rfl rfl ?_
              refine g_iconst 1 3 (gd rfl) rfl rfl ?_
              refine g_callv (X := _) (As := [.int (Int32.ofInt 0), .int (Int32.ofInt 1)]) (r := []) (b := A 109) (q := 109) 6 (gd rfl) rfl rfl rfl rfl rfl (ww_o rfl) (Nat.le_of_ble_eq_true rfl) (mc := 0) (ms := 0) (Nat.zero_le _) (Nat.zero_le _) (P := fun v u => _) ?_ (fun e u h => h) (fun v u h => h)
              intro po28x3 xx28x3 hp28x3 hx28x3
              refine g_enter2 (k := 270) (N := 300) (by omega) rfl (Nat.le_of_ble_eq_true rfl) ?_
              refine g_aload_n 1 (gd rfl) rfl rfl ?_
              refine g_iload_n 2 (gd rfl) rfl rfl ?_
              refine g_if_ne 5 9 (gd rfl) rfl rfl (fun c28x3x2 => ?_) (fun c28x3x2 => ?_)
              · skip
                exact zn_ne c28x3x2 (in_c 0 rfl) rfl
              · skip
                refine g_iconst 1 6 (gd rfl) rfl rfl ?_
                refine g_goto 18 (gd rfl) rfl ?_
                refine g_putI 21 (gd rfl) rfl rfl rfl rfl ?_
                have hI28x3x18 := inv_sF (q := 109) (j := 0) hI rfl (in_w 0 2 (in_c 1 rfl) rfl)
                refine g_aload_n 22 (gd rfl) rfl rfl ?_
                refine g_getI 25 (gd rfl) rfl rfl rfl (fun z28x3x22 e28x3x22 => ?_)
                have q28x3x22 : (Int32.ofInt 1) = z28x3x22 := (sF_get).trans e28x3x22.symm
                subst q28x3x22
                refine g_if_le 28 32 (gd rfl) rfl rfl (fun c28x3x25 => ?_) (fun c28x3x25 => ?_)
                · skip
                  exact zn_le c28x3x25 (in_c 1 rfl) rfl
                · skip
                  refine g_iconst 1 29 (gd rfl) rfl rfl ?_
                  refine g_goto 33 (gd rfl) rfl ?_
                  refine g_ireturn (gd rfl) rfl (nb01 (in_w 0 1 (in_c 1 rfl) rfl)) (hp28x3 _ _ ?_)
                  show GG _ _ _ _ _ _ _ _ [.int (Int32.ofInt 1)] _ _ _
                  refine g_ireturn (gd rfl) rfl (nb01 (in_w 0 1 (in_c 1 rfl) rfl)) (hp28 _ _ ?_)
                  show GG _ _ _ _ _ _ _ _ [.int (Int32.ofInt 1)] _ _ _
                  refine g_if_eq 34 36 (gd rfl) rfl rfl (fun c31 => ?_) (fun c31 => ?_)
                  · skip
                    exact zn_eq c31 (in_c 1 rfl) rfl
                  · skip
                    refine g_iconst 0 35 (gd rfl) rfl rfl ?_
                    exact g_ireturn (gd rfl) rfl rfl (hP _ _ ⟨(sF s 109 0 (Int32.ofInt 1)), hI28x3x18, (fr_sF rfl fr_rf), (Int32.ofInt 0), rfl, rfl, in_w (-1) 159 (in_c 0 rfl) rfl⟩)
            · skip
              exact zn_ne c16 (in_c 0 rfl) rfl
          · skip
            have i13x10 := z_le (-1) 0 c13x10 i13x9 rfl
            have c13x10a := lc_le e13x9 c13x10
            have i13x10a := lr_le1 0 1 c13x10a i13x3a (l_c 1 rfl) rfl
            have i13x10b := l_b e10 i13x10a
            refine g_iconst 1 14 (gd rfl) rfl rfl ?_
            refine g_goto 18 (gd rfl) rfl ?_
            refine g_ireturn (gd rfl) rfl (nb01 (in_w 0 1 (in_c 1 rfl) rfl)) (hp13 _ _ ?_)
            show GG _ _ _ _ _ _ _ _ [.int (Int32.ofInt 1), .ref (A 109)] _ _ _
            refine g_if_eq 19 27 (gd rfl) rfl rfl (fun c16 => ?_) (fun c16 => ?_)
            · skip
              exact zn_eq c16 (in_c 1 rfl) rfl
            · skip
              refine g_iload_n 20 (gd rfl) rfl rfl ?_
              refine g_if_lt 23 27 (gd rfl) rfl rfl (fun c20 => ?_) (fun c20 => ?_)
              · skip
                have i20 := z_lt (-2147483648) (-1) c20 (i_rng x3) rfl
                refine g_iconst 0 28 (gd rfl) rfl rfl ?_
                refine g_callv (X := _) (As := [.int (Int32.ofInt 0)]) (r := []) (b := A 109) (q := 109) 31 (gd rfl) rfl rfl rfl rfl rfl (ww_o rfl) (Nat.le_of_ble_eq_true rfl) (mc := 0) (ms := 0) (Nat.zero_le _) (Nat.zero_le _) (P := fun v u => _) ?_ (fun e u h => h) (fun v u h => h)
                intro po28 xx28 hp28 hx28
                refine g_enter2 (k := 271) (N := 300) (by omega) rfl (Nat.le_of_ble_eq_true rfl) ?_
                refine g_aload_n 1 (gd rfl) rfl rfl ?_
                refine g_iload_n 2 (gd rfl) rfl rfl ?_
                refine g_iconst 1 3 (gd rfl) rfl rfl ?_
                refine g_callv (X := _) (As := [.int (Int32.ofInt 0), .int (Int32.ofInt 1)]) (r := []) (b := A 109) (q := 109) 6 (gd rfl) rfl rfl rfl rfl rfl (ww_o rfl) (Nat.le_of_ble_eq_true rfl) (mc := 0) (ms := 0) (Nat.zero_le _) (Nat.zero_le _) (P := fun v u => _) ?_ (fun e u h => h) (fun v u h => h)
                intro po28x3 xx28x3 hp28x3 hx28x3
                refine g_enter2 (k := 270) (N := 300) (by omega) rfl (Nat.le_of_ble_eq_true rfl) ?_
                refine g_aload_n 1 (gd rfl) rfl rfl ?_
                refine g_iload_n 2 (gd rfl) rfl rfl ?_
                refine g_if_ne 5 9 (gd rfl) rfl rfl (fun c28x3x2 => ?_) (fun c28x3x2 => ?_)
                · skip
                  exact zn_ne c28x3x2 (in_c 0 rfl) rfl
                · skip
                  refine g_iconst 1 6 (gd rfl) rfl rfl ?_
                  refine g_goto 18 (gd rfl) rfl ?_
                  refine g_putI 21 (gd rfl) rfl rfl rfl rfl ?_
                  have hI28x3x18 := inv_sF (q := 109) (j := 0) hI rfl (in_w 0 2 (in_c 1 rfl) rfl)
                  refine g_aload_n 22 (gd rfl) rfl rfl ?_
                  refine g_getI 25 (gd rfl) rfl rfl rfl (fun z28x3x22 e28x3x22 => ?_)
                  have q28x3x22 : (Int32.ofInt 1) = z28x3x22 := (sF_get).trans e28x3x22.symm
                  subst q28x3x22
                  refine g_if_le 28 32 (gd rfl) rfl rfl (fun c28x3x25 => ?_) (fun c28x3x25 => ?_)
                  · skip
                    exact zn_le c28x3x25 (in_c 1 rfl) rfl
                  · skip
                    refine g_iconst 1 29 (gd rfl) rfl rfl ?_
                    refine g_goto 33 (gd rfl) rfl ?_
                    refine g_ireturn (gd rfl) rfl (nb01 (in_w 0 1 (in_c 1 rfl) rfl)) (hp28x3 _ _ ?_)
                    show GG _ _ _ _ _ _ _ _ [.int (Int32.ofInt 1)] _ _ _
                    refine g_ireturn (gd rfl) rfl (nb01 (in_w 0 1 (in_c 1 rfl) rfl)) (hp28 _ _ ?_)
                    show GG _ _ _ _ _ _ _ _ [.int (Int32.ofInt 1)] _ _ _
                    refine g_if_eq 34 36 (gd rfl) rfl rfl (fun c31 => ?_) (fun c31 => ?_)
                    · skip
                      exact zn_eq c31 (in_c 1 rfl) rfl
                    · skip
                      refine g_iconst 0 35 (gd rfl) rfl rfl ?_
                      exact g_ireturn (gd rfl) rfl rfl (hP _ _ ⟨(sF s 109 0 (Int32.ofInt 1)), hI28x3x18, (fr_sF rfl fr_rf), (Int32.ofInt 0), rfl, rfl, in_w (-1) 159 (in_c 0 rfl) rfl⟩)
              · skip
                have i20 := z_ge 0 2147483647 c20 (i_rng x3) rfl
                refine g_iconst 1 24 (gd rfl) rfl rfl ?_
                refine g_goto 28 (gd rfl) rfl ?_
                refine g_callv (X := _) (As := [.int (Int32.ofInt 1)]) (r := []) (b := A 109) (q := 109) 31 (gd rfl) rfl rfl rfl rfl rfl (ww_o rfl) (Nat.le_of_ble_eq_true rfl) (mc := 0) (ms := 0) (Nat.zero_le _) (Nat.zero_le _) (P := fun v u => _) ?_ (fun e u h => h) (fun v u h => h)
                intro po28 xx28 hp28 hx28
                refine g_enter2 (k := 271) (N := 300) (by omega) rfl (Nat.le_of_ble_eq_true rfl) ?_
                refine g_aload_n 1 (gd rfl) rfl rfl ?_
                refine g_iload_n 2 (gd rfl) rfl rfl ?_
                refine g_iconst 1 3 (gd rfl) rfl rfl ?_
                refine g_callv (X := _) (As := [.int (Int32.ofInt 1), .int (Int32.ofInt 1)]) (r := []) (b := A 109) (q := 109) 6 (gd rfl) rfl rfl rfl rfl rfl (ww_o rfl) (Nat.le_of_ble_eq_true rfl) (mc := 0) (ms := 0) (Nat.zero_le _) (Nat.zero_le _) (P := fun v u => _) ?_ (fun e u h => h) (fun v u h => h)
                intro po28x3 xx28x3 hp28x3 hx28x3
                refine g_enter2 (k := 270) (N := 300) (by omega) rfl (Nat.le_of_ble_eq_true rfl) ?_
                refine g_aload_n 1 (gd rfl) rfl rfl ?_
                refine g_iload_n 2 (gd rfl) rfl rfl ?_
                refine g_if_ne 5 9 (gd rfl) rfl rfl (fun c28x3x2 => ?_) (fun c28x3x2 => ?_)
                · skip
                  refine g_iload_n 10 (gd rfl) rfl rfl ?_
                  refine g_if_ne 13 17 (gd rfl) rfl rfl (fun c28x3x10 => ?_) (fun c28x3x10 => ?_)
                  · skip
                    refine g_iconst 0 18 (gd rfl) rfl rfl ?_
                    refine g_putI 21 (gd rfl) rfl rfl rfl rfl ?_
                    have hI28x3x18 := inv_sF (q := 109) (j := 0) hI rfl (in_w 0 2 (in_c 0 rfl) rfl)
                    refine g_aload_n 22 (gd rfl) rfl rfl ?_
                    refine g_getI 25 (gd rfl) rfl rfl rfl (fun z28x3x22 e28x3x22 => ?_)
                    have q28x3x22 : (Int32.ofInt 0) = z28x3x22 := (sF_get).trans e28x3x22.symm
                    subst q28x3x22
                    refine g_if_le 28 32 (gd rfl) rfl rfl (fun c28x3x25 => ?_) (fun c28x3x25 => ?_)
                    · skip
                      refine g_iconst 0 33 (gd rfl) rfl rfl ?_
                      refine g_ireturn (gd rfl) rfl (nb01 (in_w 0 1 (in_c 0 rfl) rfl)) (hp28x3 _ _ ?_)
                      show GG _ _ _ _ _ _ _ _ [.int (Int32.ofInt 0)] _ _ _
                      refine g_ireturn (gd rfl) rfl (nb01 (in_w 0 1 (in_c 0 rfl) rfl)) (hp28 _ _ ?_)
                      show GG _ _ _ _ _ _ _ _ [.int (Int32.ofInt 0)] _ _ _
                      refine g_if_eq 34 36 (gd rfl) rfl rfl (fun c31 => ?_) (fun c31 => ?_)
                      · skip
                        refine g_iconst 0 37 (gd rfl) rfl rfl ?_
                        refine g_istore 39 (gd rfl) rfl (Nat.le_of_ble_eq_true rfl) ?_
                        refine g_iconst 0 40 (gd rfl) rfl rfl ?_
                        refine g_istore 42 (gd rfl) rfl (Nat.le_of_ble_eq_true rfl) ?_
                        exact gg_w (by omega) (gg_f (gf_cons rfl (gf_cons rfl (gf_cons rfl (gf_cons rfl (gf_cons rfl (gf_cons rfl gf_nil)))))) (ct42 161 (sF s 109 0 (Int32.ofInt 0)) (Int32.ofInt 0) (Int32.ofInt 0) hI28x3x18 (fr_sF rfl fr_rf) (in_w 0 31 i3x9 rfl) (in_w 0 1 i13x10b rfl) (in_w 0 2147483647 i20 rfl) (in_w 0 160 (in_c 0 rfl) rfl) (m_in 161 (in_w 0 160 (in_c 0 rfl) rfl) rfl)))
                      · skip
                        exact zn_ne c31 (in_c 0 rfl) rfl
                    · skip
                      exact zn_gt c28x3x25 (in_c 0 rfl) rfl
                  · skip
                    exact zn_eq c28x3x10 (in_c 1 rfl) rfl
                · skip
                  exact zn_eq c28x3x2 (in_c 1 rfl) rfl

def fm_293 : FM := ([125], [], [(109, 0), (109, 22)], [])
def fm_294 : FM := ([], [], [(109, 0), (109, 22)], [])
def fm_295 : FM := ([], [], [(109, 0)], [])
/-- GraphHouseModel.fault -/
theorem k_295 {Z : AmZ} {A : Nat → Nat} {s : GS} {ex : va_W} {d : Nat} {X : AmX} {x1 : Int32} (hd : 4 ≤ d) (hI : Inv s)  : GC Z d 295 [.ref (A 109), .int x1] (WW Z A s ++ ex) 0 0 (fun v u => ∃ t : GS, Inv t ∧ Fr fm_295 s t ∧ ∃ z : Int32, v = some (.int z) ∧ u = WW Z A t ++ ex ∧ In z (-2147483648) 2147483647) X := by
  intro post xp hP hX
  obtain ⟨u_109_23, e_109_23⟩ : ∃ w, w = s.2.2.1 109 23 := ⟨_, rfl⟩
  have ro_109_23 := inv_F hI 0 9 rfl e_109_23
  obtain ⟨u_109_24, e_109_24⟩ : ∃ w, w = s.2.2.1 109 24 := ⟨_, rfl⟩
  refine g_enter2 (k := 295) (N := 900) (by omega) rfl (Nat.le_of_ble_eq_true rfl) ?_
  refine g_aload_n 1 (gd rfl) rfl rfl ?_
  refine g_iload_n 2 (gd rfl) rfl rfl ?_
  refine g_i2l 3 (gd rfl) rfl (fun z2 e2 => ?_)
  have i2 := l_i e2 (i_rng x1)
  refine g_lconst 0 4 (gd rfl) rfl rfl ?_
  refine g_lconst 1 5 (gd rfl) rfl rfl ?_
  refine g_calls (As := [.long z2, .long (Int64.ofInt 0), .long (Int64.ofInt 1)]) (r := [.ref (A 109)]) 8 (gd rfl) rfl rfl rfl rfl rfl (Nat.le_of_ble_eq_true rfl) (mc := 0) (ms := 0) (Nat.zero_le _) (Nat.zero_le _) (P := fun v u => _) ?_ (fun v u h => h)
  intro po5 xx5 hp5 hx5
  refine g_enter2 (k := 269) (N := 300) (by omega) rfl (Nat.le_of_ble_eq_true rfl) ?_
  refine g_lload_n 1 (gd rfl) rfl rfl ?_
  refine g_lload_n 2 (gd rfl) rfl rfl ?_
  refine g_lcmp 3 (gd rfl) rfl (fun z5x2 e5x2 => ?_)
  have i5x2 := lc_in e5x2
  refine g_if_lt 6 17 (gd rfl) rfl rfl (fun c5x3 => ?_) (fun c5x3 => ?_)
  · skip
    have i5x3 := z_lt (-1) (-1) c5x3 i5x2 rfl
    have c5x3a := lc_lt e5x2 c5x3
    have i5x3a := lr_lt1 (-2147483648) (-1) c5x3a i2 (l_c 0 rfl) rfl
    have i5x3b := l_b e2 i5x3a
    refine g_iconst 0 18 (gd rfl) rfl rfl ?_
    refine g_ireturn (gd rfl) rfl (nb01 (in_w 0 1 (in_c 0 rfl) rfl)) (hp5 _ _ ?_)
    show GG _ _ _ _ _ _ _ _ [.int (Int32.ofInt 0), .ref (A 109)] _ _ _
    refine g_callv (X := _) (As := [.int (Int32.ofInt 0)]) (r := []) (b := A 109) (q := 109) 11 (gd rfl) rfl rfl rfl rfl rfl (ww_o rfl) (Nat.le_of_ble_eq_true rfl) (mc := 0) (ms := 0) (Nat.zero_le _) (Nat.zero_le _) (P := fun v u => _) ?_ (fun e u h => h) (fun v u h => h)
    intro po8 xx8 hp8 hx8
    refine g_enter2 (k := 271) (N := 300) (by omega) rfl (Nat.le_of_ble_eq_true rfl) ?_
    refine g_aload_n 1 (gd rfl) rfl rfl ?_
    refine g_iload_n 2 (gd rfl) rfl rfl ?_
    refine g_iconst 1 3 (gd rfl) rfl rfl ?_
    refine g_callv (X := _) (As := [.int (Int32.ofInt 0), .int (Int32.ofInt 1)]) (r := []) (b := A 109) (q := 109) 6 (gd rfl) rfl rfl rfl rfl rfl (ww_o rfl) (Nat.le_of_ble_eq_true rfl) (mc := 0) (ms := 0) (Nat.zero_le _) (Nat.zero_le _) (P := fun v u => _) ?_ (fun e u h => h) (fun v u h => h)
    intro po8x3 xx8x3 hp8x3 hx8x3
    refine g_enter2 (k := 270) (N := 300) (by omega) rfl (Nat.le_of_ble_eq_true rfl) ?_
    refine g_aload_n 1 (gd rfl) rfl rfl ?_
    refine g_iload_n 2 (gd rfl) rfl rfl ?_
    refine g_if_ne 5 9 (gd rfl) rfl rfl (fun c8x3x2 => ?_) (fun c8x3x2 => ?_)
    · skip
      exact zn_ne c8x3x2 (in_c 0 rfl) rfl
    · skip
      refine g_iconst 1 6 (gd rfl) rfl rfl ?_
      refine g_goto 18 (gd rfl) rfl ?_
      refine g_putI 21 (gd rfl) rfl rfl rfl rfl ?_
      have hI8x3x18 := inv_sF (q := 109) (j := 0) hI rfl (in_w 0 2 (in_c 1 rfl) rfl)
      refine g_aload_n 22 (gd rfl) rfl rfl ?_
      refine g_getI 25 (gd rfl) rfl rfl rfl (fun z8x3x22 e8x3x22 => ?_)
      have q8x3x22 : (Int32.ofInt 1) = z8x3x22 := (sF_get).trans e8x3x22.symm
      subst q8x3x22
      refine g_if_le 28 32 (gd rfl) rfl rfl (fun c8x3x25 => ?_) (fun c8x3x25 => ?_)
      · skip
        exact zn_le c8x3x25 (in_c 1 rfl) rfl
      · skip
        refine g_iconst 1 29 (gd rfl) rfl rfl ?_
        refine g_goto 33 (gd rfl) rfl ?_
        refine g_ireturn (gd rfl) rfl (nb01 (in_w 0 1 (in_c 1 rfl) rfl)) (hp8x3 _ _ ?_)
        show GG _ _ _ _ _ _ _ _ [.int (Int32.ofInt 1)] _ _ _
        refine g_ireturn (gd rfl) rfl (nb01 (in_w 0 1 (in_c 1 rfl) rfl)) (hp8 _ _ ?_)
        show GG _ _ _ _ _ _ _ _ [.int (Int32.ofInt 1)] _ _ _
        refine g_if_eq 14 16 (gd rfl) rfl rfl (fun c11 => ?_) (fun c11 => ?_)
        · skip
          exact zn_eq c11 (in_c 1 rfl) rfl
        · skip
          refine g_iconst 0 15 (gd rfl) rfl rfl ?_
          exact g_ireturn (gd rfl) rfl rfl (hP _ _ ⟨(sF s 109 0 (Int32.ofInt 1)), hI8x3x18, (fr_sF rfl fr_rf), (Int32.ofInt 0), rfl, rfl, in_w (-2147483648) 2147483647 (in_c 0 rfl) rfl⟩)
  · skip
    have i5x3 := z_ge 0 1 c5x3 i5x2 rfl
    have c5x3a := lc_ge e5x2 c5x3
    have i5x3a := lr_le2 0 2147483647 c5x3a (l_c 0 rfl) i2 rfl
    have i5x3b := l_b e2 i5x3a
    refine g_lload_n 7 (gd rfl) rfl rfl ?_
    refine g_lload 9 (gd rfl) rfl rfl ?_
    refine g_lcmp 10 (gd rfl) rfl (fun z5x9 e5x9 => ?_)
    have i5x9 := lc_in e5x9
    refine g_if_gt 13 17 (gd rfl) rfl rfl (fun c5x10 => ?_) (fun c5x10 => ?_)
    · skip
      have i5x10 := z_gt 1 1 c5x10 i5x9 rfl
      have c5x10a := lc_gt e5x9 c5x10
      have i5x10a := lr_lt2 2 2147483647 c5x10a (l_c 1 rfl) i5x3a rfl
      have i5x10b := l_b e2 i5x10a
      refine g_iconst 0 18 (gd rfl) rfl rfl ?_
      refine g_ireturn (gd rfl) rfl (nb01 (in_w 0 1 (in_c 0 rfl) rfl)) (hp5 _ _ ?_)
      show GG _ _ _ _ _ _ _ _ [.int (Int32.ofInt 0), .ref (A 109)] _ _ _
      refine g_callv (X := _) (As := [.int (Int32.ofInt 0)]) (r := []) (b := A 109) (q := 109) 11 (gd rfl) rfl rfl rfl rfl rfl (ww_o rfl) (Nat.le_of_ble_eq_true rfl) (mc := 0) (ms := 0) (Nat.zero_le _) (Nat.zero_le _) (P := fun v u => _) ?_ (fun e u h => h) (fun v u h => h)
      intro po8 xx8 hp8 hx8
      refine g_enter2 (k := 271) (N := 300) (by omega) rfl (Nat.le_of_ble_eq_true rfl) ?_
      refine g_aload_n 1 (gd rfl) rfl rfl ?_
      refine g_iload_n 2 (gd rfl) rfl rfl ?_
      refine g_iconst 1 3 (gd rfl) rfl rfl ?_
      refine g_callv (X := _) (As := [.int (Int32.ofInt 0), .int (Int32.ofInt 1)]) (r := []) (b := A 109) (q := 109) 6 (gd rfl) rfl rfl rfl rfl rfl (ww_o rfl) (Nat.le_of_ble_eq_true rfl) (mc := 0) (ms := 0) (Nat.zero_le _) (Nat.zero_le _) (P := fun v u => _) ?_ (fun e u h => h) (fun v u h => h)
      intro po8x3 xx8x3 hp8x3 hx8x3
      refine g_enter2 (k := 270) (N := 300) (by omega) rfl (Nat.le_of_ble_eq_true rfl) ?_
      refine g_aload_n 1 (gd rfl) rfl rfl ?_
      refine g_iload_n 2 (gd rfl) rfl rfl ?_
      refine g_if_ne 5 9 (gd rfl) rfl rfl (fun c8x3x2 => ?_) (fun c8x3x2 => ?_)
      · skip
        exact zn_ne c8x3x2 (in_c 0 rfl) rfl
      · skip
        refine g_iconst 1 6 (gd rfl) rfl rfl ?_
        refine g_goto 18 (gd rfl) rfl ?_
        refine g_putI 21 (gd rfl) rfl rfl rfl rfl ?_
        have hI8x3x18 := inv_sF (q := 109) (j := 0) hI rfl (in_w 0 2 (in_c 1 rfl) rfl)
        refine g_aload_n 22 (gd rfl) rfl rfl ?_
        refine g_getI 25 (gd rfl) rfl rfl rfl (fun z8x3x22 e8x3x22 => ?_)
        have q8x3x22 : (Int32.ofInt 1) = z8x3x22 := (sF_get).trans e8x3x22.symm
        subst q8x3x22
        refine g_if_le 28 32 (gd rfl) rfl rfl (fun c8x3x25 => ?_) (fun c8x3x25 => ?_)
        · skip
          exact zn_le c8x3x25 (in_c 1 rfl) rfl
        · skip
          refine g_iconst 1 29 (gd rfl) rfl rfl ?_
          refine g_goto 33 (gd rfl) rfl ?_
          refine g_ireturn (gd rfl) rfl (nb01 (in_w 0 1 (in_c 1 rfl) rfl)) (hp8x3 _ _ ?_)
          show GG _ _ _ _ _ _ _ _ [.int (Int32.ofInt 1)] _ _ _
          refine g_ireturn (gd rfl) rfl (nb01 (in_w 0 1 (in_c 1 rfl) rfl)) (hp8 _ _ ?_)
          show GG _ _ _ _ _ _ _ _ [.int (Int32.ofInt 1)] _ _ _
          refine g_if_eq 14 16 (gd rfl) rfl rfl (fun c11 => ?_) (fun c11 => ?_)
          · skip
            exact zn_eq c11 (in_c 1 rfl) rfl
          · skip
            refine g_iconst 0 15 (gd rfl) rfl rfl ?_
            exact g_ireturn (gd rfl) rfl rfl (hP _ _ ⟨(sF s 109 0 (Int32.ofInt 1)), hI8x3x18, (fr_sF rfl fr_rf), (Int32.ofInt 0), rfl, rfl, in_w (-2147483648) 2147483647 (in_c 0 rfl) rfl⟩)
    · skip
      have i5x10 := z_le (-1) 0 c5x10 i5x9 rfl
      have c5x10a := lc_le e5x9 c5x10
      have i5x10a := lr_le1 0 1 c5x10a i5x3a (l_c 1 rfl) rfl
      have i5x10b := l_b e2 i5x10a
      refine g_iconst 1 14 (gd rfl) rfl rfl ?_
      refine g_goto 18 (gd rfl) rfl ?_
      refine g_ireturn (gd rfl) rfl (nb01 (in_w 0 1 (in_c 1 rfl) rfl)) (hp5 _ _ ?_)
      show GG _ _ _ _ _ _ _ _ [.int (Int32.ofInt 1), .ref (A 109)] _ _ _
      refine g_callv (X := _) (As := [.int (Int32.ofInt 1)]) (r := []) (b := A 109) (q := 109) 11 (gd rfl) rfl rfl rfl rfl rfl (ww_o rfl) (Nat.le_of_ble_eq_true rfl) (mc := 0) (ms := 0) (Nat.zero_le _) (Nat.zero_le _) (P := fun v u => _) ?_ (fun e u h => h) (fun v u h => h)
      intro po8 xx8 hp8 hx8
      refine g_enter2 (k := 271) (N := 300) (by omega) rfl (Nat.le_of_ble_eq_true rfl) ?_
      refine g_aload_n 1 (gd rfl) rfl rfl ?_
      refine g_iload_n 2 (gd rfl) rfl rfl ?_
      refine g_iconst 1 3 (gd rfl) rfl rfl ?_
      refine g_callv (X := _) (As := [.int (Int32.ofInt 1), .int (Int32.ofInt 1)]) (r := []) (b := A 109) (q := 109) 6 (gd rfl) rfl rfl rfl rfl rfl (ww_o rfl) (Nat.le_of_ble_eq_true rfl) (mc := 0) (ms := 0) (Nat.zero_le _) (Nat.zero_le _) (P := fun v u => _) ?_ (fun e u h => h) (fun v u h => h)
      intro po8x3 xx8x3 hp8x3 hx8x3
      refine g_enter2 (k := 270) (N := 300) (by omega) rfl (Nat.le_of_ble_eq_true rfl) ?_
      refine g_aload_n 1 (gd rfl) rfl rfl ?_
      refine g_iload_n 2 (gd rfl) rfl rfl ?_
      refine g_if_ne 5 9 (gd rfl) rfl rfl (fun c8x3x2 => ?_) (fun c8x3x2 => ?_)
      · skip
        refine g_iload_n 10 (gd rfl) rfl rfl ?_
        refine g_if_ne 13 17 (gd rfl) rfl rfl (fun c8x3x10 => ?_) (fun c8x3x10 => ?_)
        · skip
          refine g_iconst 0 18 (gd rfl) rfl rfl ?_
          refine g_putI 21 (gd rfl) rfl rfl rfl rfl ?_
          have hI8x3x18 := inv_sF (q := 109) (j := 0) hI rfl (in_w 0 2 (in_c 0 rfl) rfl)
          refine g_aload_n 22 (gd rfl) rfl rfl ?_
          refine g_getI 25 (gd rfl) rfl rfl rfl (fun z8x3x22 e8x3x22 => ?_)
          have q8x3x22 : (Int32.ofInt 0) = z8x3x22 := (sF_get).trans e8x3x22.symm
          subst q8x3x22
          refine g_if_le 28 32 (gd rfl) rfl rfl (fun c8x3x25 => ?_) (fun c8x3x25 => ?_)
          · skip
            refine g_iconst 0 33 (gd rfl) rfl rfl ?_
            refine g_ireturn (gd rfl) rfl (nb01 (in_w 0 1 (in_c 0 rfl) rfl)) (hp8x3 _ _ ?_)
            show GG _ _ _ _ _ _ _ _ [.int (Int32.ofInt 0)] _ _ _
            refine g_ireturn (gd rfl) rfl (nb01 (in_w 0 1 (in_c 0 rfl) rfl)) (hp8 _ _ ?_)
            show GG _ _ _ _ _ _ _ _ [.int (Int32.ofInt 0)] _ _ _
            refine g_if_eq 14 16 (gd rfl) rfl rfl (fun c11 => ?_) (fun c11 => ?_)
            · skip
              refine g_aload_n 17 (gd rfl) rfl rfl ?_
              refine g_getI 20 (gd rfl) rfl rfl rfl (fun z17 e17 => ?_)
              have q17 : u_109_23 = z17 := (sF_ne rfl (e_109_23)).trans e17.symm
              subst q17
              refine g_if_ne 23 27 (gd rfl) rfl rfl (fun c20 => ?_) (fun c20 => ?_)
              · skip
                have i20 := z_ne 1 9 c20 ro_109_23 rfl
                refine g_iload_n 28 (gd rfl) rfl rfl ?_
                refine g_if_ne 31 38 (gd rfl) rfl rfl (fun c28 => ?_) (fun c28 => ?_)
                · skip
                  have i28 := z_ne 1 1 c28 i5x10b rfl
                  refine g_aload_n 39 (gd rfl) rfl rfl ?_
                  refine g_getI 42 (gd rfl) rfl rfl rfl (fun z39 e39 => ?_)
                  have q39 : u_109_24 = z39 := (sF_ne rfl (e_109_24)).trans e39.symm
                  subst q39
                  exact g_ireturn (gd rfl) rfl rfl (hP _ _ ⟨(sF s 109 0 (Int32.ofInt 0)), hI8x3x18, (fr_sF rfl fr_rf), u_109_24, rfl, rfl, in_w (-2147483648) 2147483647 (i_rng u_109_24) rfl⟩)
                · skip
                  have i28 := z_eq 0 0 c28 i5x10b rfl
                  refine g_aload_n 32 (gd rfl) rfl rfl ?_
                  refine g_getI 35 (gd rfl) rfl rfl rfl (fun z32 e32 => ?_)
                  have q32 : u_109_23 = z32 := (sF_ne rfl (e_109_23)).trans e32.symm
                  subst q32
                  refine g_goto 42 (gd rfl) rfl ?_
                  exact g_ireturn (gd rfl) rfl rfl (hP _ _ ⟨(sF s 109 0 (Int32.ofInt 0)), hI8x3x18, (fr_sF rfl fr_rf), u_109_23, rfl, rfl, in_w (-2147483648) 2147483647 i20 rfl⟩)
              · skip
                have i20 := z_eq 0 0 c20 ro_109_23 rfl
                refine g_iconst (-1) 24 (gd rfl) rfl rfl ?_
                refine g_goto 42 (gd rfl) rfl ?_
                exact g_ireturn (gd rfl) rfl rfl (hP _ _ ⟨(sF s 109 0 (Int32.ofInt 0)), hI8x3x18, (fr_sF rfl fr_rf), (Int32.ofInt (-1)), rfl, rfl, in_w (-2147483648) 2147483647 (in_c (-1) rfl) rfl⟩)
            · skip
              exact zn_ne c11 (in_c 0 rfl) rfl
          · skip
            exact zn_gt c8x3x25 (in_c 0 rfl) rfl
        · skip
          exact zn_eq c8x3x10 (in_c 1 rfl) rfl
      · skip
        exact zn_eq c8x3x2 (in_c 1 rfl) rfl

def fm_303 : FM := ([110, 112], [], [], [])