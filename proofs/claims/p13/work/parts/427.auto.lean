/-! methods, by vc.py -/
def fm_44_60_32 : FM := ([39, 40, 41, 42, 43, 44, 45, 61, 62, 63, 64], [], [(32, 4), (60, 0), (60, 1), (60, 3), (60, 7)], [])
/-- GraphHouse$Colours.makeColours -/
theorem k_44_60_32 {Z : AmZ} {A : Nat → Nat} {s : GS} {ex : va_W} {d : Nat} {X : AmX}  (hd : 383 ≤ d) (hI : Inv s)  : GC Z d 44 [.ref (A 60), .ref (A 32)] (WW Z A s ++ ex) 0 0 (fun v u => ∃ t : GS, Inv t ∧ Fr fm_44_60_32 s t ∧ v = none ∧ u = WW Z A t ++ ex) X := by
  intro post xp hP hX
  obtain ⟨u_32_0, e_32_0⟩ : ∃ w, w = s.2.2.1 32 0 := ⟨_, rfl⟩
  have ro_32_0 := inv_F hI 0 4000 rfl e_32_0
  obtain ⟨u_32_1, e_32_1⟩ : ∃ w, w = s.2.2.1 32 1 := ⟨_, rfl⟩
  have ro_32_1 := inv_F hI 0 32 rfl e_32_1
  have ct75 : ∀ (k75 : Nat) (sc75 : GS) (y75_2 : Int32) (y75_3 : Int32), Inv sc75 → Fr fm_44_60_32 s sc75 → (In y75_2 0 32) → (In y75_3 0 32) → ((y75_2).toInt ≤ (y75_3).toInt) → (0 ≤ (y75_2).toInt) → 32 - (y75_3).toInt < (k75 : Int) → GG Z (d - 1) 44 post (gx xp) (1 + k75 * 900) 75 (fun j => xlook j [(0, .ref (A 60)), (1, .ref (A 32)), (2, .int y75_2), (3, .int y75_3)]) [] (WW Z A sc75 ++ ex) 0 0 := by
    intro k75
    induction k75 with
    | zero => intro sc75 y75_2 y75_3 hIc75 hFc75 j75_2 j75_3 n75_0 n75_1 mm75; exact m_no mm75 j75_3 rfl
    | succ k75 ih75 =>
      intro sc75 y75_2 y75_3 hIc75 hFc75 j75_2 j75_3 n75_0 n75_1 mm75
      refine gg_w (M := 1 + k75 * 900 + 900) (by omega) ?_
      refine g_iload_n 76 (gd rfl) rfl rfl ?_
      refine g_aload_n 77 (gd rfl) rfl rfl ?_
      refine g_getI 80 (gd rfl) rfl rfl rfl (fun z77 e77 => ?_)
      have q77 : u_32_1 = z77 := (fr_F e_32_1 hFc75 rfl).trans e77.symm
      subst q77
      refine g_cmp_ge 83 115 (gd rfl) rfl rfl (fun c80 => ?_) (fun c80 => ?_)
      · skip
        exact g_return (gd rfl) rfl (hP _ _ ⟨sc75, hIc75, hFc75, rfl, rfl⟩)
      · skip
        have i80 := r_lt1 0 31 c80 j75_3 ro_32_1 rfl
        have i80a := r_lt2 1 32 c80 j75_3 ro_32_1 rfl
        refine g_aload_n 84 (gd rfl) rfl rfl ?_
        refine g_getA (q2 := 64) 87 (gd rfl) rfl rfl rfl rfl ?_
        refine g_iload_n 88 (gd rfl) rfl rfl ?_
        have i88 : In y75_2 0 31 := by exact ⟨by have a0 := i80a; unfold In at a0; have a1 := ro_32_0; unfold In at a1; have a2 := i80; unfold In at a2; have a3 := j75_2; unfold In at a3; omega, by have a0 := i80a; unfold In at a0; have a1 := ro_32_0; unfold In at a1; have a2 := i80; unfold In at a2; have a3 := j75_2; unfold In at a3; omega⟩
        refine g_aload_n 89 (gd rfl) rfl rfl ?_
        refine g_aload_n 90 (gd rfl) rfl rfl ?_
        refine g_iload_n 91 (gd rfl) rfl rfl ?_
        refine g_iload_n 92 (gd rfl) rfl rfl ?_
        refine g_callv (X := _) (As := [.ref (A 32), .int y75_3, .int y75_2]) (r := [.int y75_3, .ref (A 64)]) (b := A 60) (q := 60) 95 (gd rfl) rfl rfl rfl rfl rfl (ww_o rfl) (Nat.le_of_ble_eq_true rfl) (Nat.zero_le _) (Nat.zero_le _) (k_53_60_32 (by omega) hIc75 (in_w 0 31 i80 rfl) (in_w 0 31 i88 rfl)) (fun e u h => h) (fun v u h => ?_)
        obtain ⟨s92, hI92, hF92, z92, rfl, rfl, i92, p92⟩ := h
        show GG _ _ _ _ _ _ _ _ [.int z92, .int y75_3, .ref (A 64)] _ _ _
        refine g_iastore 96 (gd rfl) rfl (n := 32) rfl (in_ix i80 rfl) ?_
        have hI95 := inv_sI (q := 64) (j := y75_3.toNatClampNeg) hI92 rfl (in_w 0 31 i92 rfl)
        refine g_iload_n 97 (gd rfl) rfl rfl ?_
        refine g_aload_n 98 (gd rfl) rfl rfl ?_
        refine g_getA (q2 := 64) 101 (gd rfl) rfl rfl rfl rfl ?_
        refine g_iload_n 102 (gd rfl) rfl rfl ?_
        refine g_iaload 103 (gd rfl) rfl (n := 32) rfl (in_ix i80 rfl) (fun z102 e102 => ?_)
        have q102 : z92 = z102 := (sI_get).trans e102.symm
        subst q102
        refine g_iconst 1 104 (gd rfl) rfl rfl ?_
        refine g_iadd 105 (gd rfl) rfl (fun z104 e104 => ?_)
        have i104 := in_add 1 32 e104 i92 (in_c 1 rfl) rfl rfl
        refine g_calls (As := [.int y75_2, .int z104]) (r := []) 108 (gd rfl) rfl rfl rfl rfl rfl (Nat.le_of_ble_eq_true rfl) (mc := 0) (ms := 0) (Nat.zero_le _) (Nat.zero_le _) (P := fun v u => _) ?_ (fun v u h => h)
        intro po105 xx105 hp105 hx105
        refine g_enter2 (k := 422) (N := 300) (by omega) rfl (Nat.le_of_ble_eq_true rfl) ?_
        refine g_iload_n 1 (gd rfl) rfl rfl ?_
        refine g_iload_n 2 (gd rfl) rfl rfl ?_
        refine g_cmp_lt 5 9 (gd rfl) rfl rfl (fun c105x2 => ?_) (fun c105x2 => ?_)
        · skip
          refine g_iload_n 10 (gd rfl) rfl rfl ?_
          refine g_ireturn (gd rfl) rfl rfl (hp105 _ _ ?_)
          show GG _ _ _ _ _ _ _ _ [.int z104] _ _ _
          refine g_istore_n 109 (gd rfl) rfl (Nat.le_of_ble_eq_true rfl) ?_
          refine g_iinc 112 (gd rfl) rfl rfl (Nat.le_of_ble_eq_true rfl) (fun z109 e109 => ?_)
          have i109 := in_add 1 32 e109 i80 (in_c 1 rfl) rfl rfl
          refine g_goto 75 (gd rfl) rfl ?_
          have n75 : (z104).toInt ≤ (z109).toInt := by have a0 := i80a; unfold In at a0; have a1 := ro_32_0; unfold In at a1; have a2 := i80; unfold In at a2; have a3 := i88; unfold In at a3; have a4 := i109; unfold In at a4; have a5 := t_add e109 i80 (in_c 1 rfl) rfl; have a6 := (in_c 1 rfl); unfold In at a6; have a7 := i104; unfold In at a7; have a8 := t_add e104 i92 (in_c 1 rfl) rfl; have a9 := i92; unfold In at a9; omega
          have n75a : 0 ≤ (z104).toInt := by have a0 := i80a; unfold In at a0; have a1 := ro_32_0; unfold In at a1; have a2 := i80; unfold In at a2; have a3 := i88; unfold In at a3; have a4 := i109; unfold In at a4; have a5 := t_add e109 i80 (in_c 1 rfl) rfl; have a6 := (in_c 1 rfl); unfold In at a6; have a7 := i104; unfold In at a7; have a8 := t_add e104 i92 (in_c 1 rfl) rfl; have a9 := i92; unfold In at a9; omega
          exact gg_w (by omega) (gg_f (gf_cons rfl (gf_cons rfl (gf_cons rfl (gf_cons rfl gf_nil)))) (ih75 (sI s92 64 y75_3.toNatClampNeg z92) z104 z109 hI95 (fr_sI rfl (fr_tr rfl hFc75 hF92)) (in_w 0 32 i104 rfl) (in_w 0 32 i109 rfl) n75 n75a (m_up mm75 (t_add e109 i80 (in_c 1 rfl) rfl) (in_w 1 1 (in_c 1 rfl) rfl))))
        · skip
          have i105x2 := r_le1 1 31 c105x2 i104 i88 rfl
          have i105x2a := r_le2 1 31 c105x2 i104 i88 rfl
          refine g_iload_n 6 (gd rfl) rfl rfl ?_
          refine g_goto 10 (gd rfl) rfl ?_
          refine g_ireturn (gd rfl) rfl rfl (hp105 _ _ ?_)
          show GG _ _ _ _ _ _ _ _ [.int y75_2] _ _ _
          refine g_istore_n 109 (gd rfl) rfl (Nat.le_of_ble_eq_true rfl) ?_
          refine g_iinc 112 (gd rfl) rfl rfl (Nat.le_of_ble_eq_true rfl) (fun z109 e109 => ?_)
          have i109 := in_add 1 32 e109 i80 (in_c 1 rfl) rfl rfl
          refine g_goto 75 (gd rfl) rfl ?_
          have n75 : (y75_2).toInt ≤ (z109).toInt := by have a0 := i80a; unfold In at a0; have a1 := ro_32_0; unfold In at a1; have a2 := i80; unfold In at a2; have a3 := i105x2a; unfold In at a3; have a4 := i109; unfold In at a4; have a5 := t_add e109 i80 (in_c 1 rfl) rfl; have a6 := (in_c 1 rfl); unfold In at a6; have a7 := i105x2; unfold In at a7; have a8 := t_add e104 i92 (in_c 1 rfl) rfl; have a9 := i92; unfold In at a9; omega
          have n75a : 0 ≤ (y75_2).toInt := by have a0 := i80a; unfold In at a0; have a1 := ro_32_0; unfold In at a1; have a2 := i80; unfold In at a2; have a3 := i105x2a; unfold In at a3; have a4 := i109; unfold In at a4; have a5 := t_add e109 i80 (in_c 1 rfl) rfl; have a6 := (in_c 1 rfl); unfold In at a6; have a7 := i105x2; unfold In at a7; have a8 := t_add e104 i92 (in_c 1 rfl) rfl; have a9 := i92; unfold In at a9; omega
          exact gg_w (by omega) (gg_f (gf_cons rfl (gf_cons rfl (gf_cons rfl (gf_cons rfl gf_nil)))) (ih75 (sI s92 64 y75_3.toNatClampNeg z92) y75_2 z109 hI95 (fr_sI rfl (fr_tr rfl hFc75 hF92)) (in_w 0 32 i105x2a rfl) (in_w 0 32 i109 rfl) n75 n75a (m_up mm75 (t_add e109 i80 (in_c 1 rfl) rfl) (in_w 1 1 (in_c 1 rfl) rfl))))
  have ct33 : ∀ (k33 : Nat) (sc33 : GS) (w33_60_3 : Int32), Inv sc33 → Fr fm_44_60_32 s sc33 → (w33_60_3 = sc33.2.2.1 60 3) → 33 - (w33_60_3).toInt < (k33 : Int) → GG Z (d - 1) 44 post (gx xp) (29702 + k33 * 900) 33 (fun j => xlook j [(0, .ref (A 60)), (1, .ref (A 32))]) [] (WW Z A sc33 ++ ex) 0 0 := by
    intro k33
    induction k33 with
    | zero => intro sc33 w33_60_3 hIc33 hFc33 v33_60_3 mm33; exfalso; have a0 := ro_32_1; unfold In at a0; have a1 := ro_32_0; unfold In at a1; have a2 := (inv_F hIc33 0 32 rfl v33_60_3); unfold In at a2; omega
    | succ k33 ih33 =>
      intro sc33 w33_60_3 hIc33 hFc33 v33_60_3 mm33
      refine gg_w (M := 29702 + k33 * 900 + 900) (by omega) ?_
      refine g_aload_n 34 (gd rfl) rfl rfl ?_
      refine g_getI 37 (gd rfl) rfl rfl rfl (fun z34 e34 => ?_)
      have q34 : w33_60_3 = z34 := (v33_60_3).trans e34.symm
      subst q34
      refine g_bipush 32 39 (gd rfl) rfl rfl ?_
      refine g_cmp_ge 42 71 (gd rfl) rfl rfl (fun c39 => ?_) (fun c39 => ?_)
      · skip
        have i39 := r_le2 32 32 c39 (in_c 32 rfl) (inv_F hIc33 0 32 rfl v33_60_3) rfl
        refine g_iconst 0 72 (gd rfl) rfl rfl ?_
        refine g_istore_n 73 (gd rfl) rfl (Nat.le_of_ble_eq_true rfl) ?_
        refine g_iconst 0 74 (gd rfl) rfl rfl ?_
        refine g_istore_n 75 (gd rfl) rfl (Nat.le_of_ble_eq_true rfl) ?_
        have n75 : ((Int32.ofInt 0)).toInt ≤ ((Int32.ofInt 0)).toInt := by have a0 := ro_32_1; unfold In at a0; have a1 := ro_32_0; unfold In at a1; have a2 := i39; unfold In at a2; have a3 := (in_c 0 rfl); unfold In at a3; omega
        have n75a : 0 ≤ ((Int32.ofInt 0)).toInt := by have a0 := ro_32_1; unfold In at a0; have a1 := ro_32_0; unfold In at a1; have a2 := i39; unfold In at a2; have a3 := (in_c 0 rfl); unfold In at a3; omega
        exact gg_w (by omega) (gg_f (gf_cons rfl (gf_cons rfl (gf_cons rfl (gf_cons rfl gf_nil)))) (ct75 33 sc33 (Int32.ofInt 0) (Int32.ofInt 0) hIc33 hFc33 (in_w 0 32 (in_c 0 rfl) rfl) (in_w 0 32 (in_c 0 rfl) rfl) n75 n75a (m_in 33 (in_w 0 32 (in_c 0 rfl) rfl) rfl)))
      · skip
        have i39 := r_lt1 0 31 c39 (inv_F hIc33 0 32 rfl v33_60_3) (in_c 32 rfl) rfl
        refine g_aload_n 43 (gd rfl) rfl rfl ?_
        refine g_aload_n 44 (gd rfl) rfl rfl ?_
        refine g_getA (q2 := 39) 47 (gd rfl) rfl rfl rfl rfl ?_
        refine g_aload_n 48 (gd rfl) rfl rfl ?_
        refine g_callv (X := _) (As := []) (r := [.ref (A 39), .ref (A 60)]) (b := A 32) (q := 32) 51 (gd rfl) rfl rfl rfl rfl rfl (ww_o rfl) (Nat.le_of_ble_eq_true rfl) (mc := 0) (ms := 0) (Nat.zero_le _) (Nat.zero_le _) (P := fun v u => _) ?_ (fun e u h => h) (fun v u h => h)
        intro po48 xx48 hp48 hx48
        refine g_enter2 (k := 102) (N := 300) (by omega) rfl (Nat.le_of_ble_eq_true rfl) ?_
        refine g_aload_n 1 (gd rfl) rfl rfl ?_
        refine g_getI 4 (gd rfl) rfl rfl rfl (fun z48x1 e48x1 => ?_)
        have q48x1 : u_32_1 = z48x1 := (fr_F e_32_1 hFc33 rfl).trans e48x1.symm
        subst q48x1
        refine g_bipush 32 6 (gd rfl) rfl rfl ?_
        refine g_cmp_lt 9 13 (gd rfl) rfl rfl (fun c48x6 => ?_) (fun c48x6 => ?_)
        · skip
          have i48x6 := r_lt1 0 31 c48x6 ro_32_1 (in_c 32 rfl) rfl
          refine g_iconst 1 14 (gd rfl) rfl rfl ?_
          refine g_aload_n 15 (gd rfl) rfl rfl ?_
          refine g_getI 18 (gd rfl) rfl rfl rfl (fun z48x15 e48x15 => ?_)
          have q48x15 : u_32_1 = z48x15 := (fr_F e_32_1 hFc33 rfl).trans e48x15.symm
          subst q48x15
          refine g_ishl 19 (gd rfl) rfl (fun z48x18 e48x18 => ?_)
          refine g_iconst 1 20 (gd rfl) rfl rfl ?_
          refine g_isub 21 (gd rfl) rfl (fun z48x20 e48x20 => ?_)
          refine g_ireturn (gd rfl) rfl rfl (hp48 _ _ ?_)
          show GG _ _ _ _ _ _ _ _ [.int z48x20, .ref (A 39), .ref (A 60)] _ _ _
          refine g_iconst 0 52 (gd rfl) rfl rfl ?_
          refine g_callv (X := _) (As := [.ref (A 39), .int z48x20, .int (Int32.ofInt 0)]) (r := []) (b := A 60) (q := 60) 55 (gd rfl) rfl rfl rfl rfl rfl (ww_o rfl) (Nat.le_of_ble_eq_true rfl) (Nat.zero_le _) (Nat.zero_le _) (k_46_60_39 (by omega) hIc33 (in_w 0 33 (in_c 0 rfl) rfl)) (fun e u h => h) (fun v u h => ?_)
          obtain ⟨s52, hI52, hF52, z52, rfl, rfl, i52⟩ := h
          show GG _ _ _ _ _ _ _ _ [.int z52] _ _ _
          refine g_if_ne 58 71 (gd rfl) rfl rfl (fun c55 => ?_) (fun c55 => ?_)
          · skip
            have i55 := z_ne 1 1 c55 i52 rfl
            refine g_iconst 0 72 (gd rfl) rfl rfl ?_
            refine g_istore_n 73 (gd rfl) rfl (Nat.le_of_ble_eq_true rfl) ?_
            refine g_iconst 0 74 (gd rfl) rfl rfl ?_
            refine g_istore_n 75 (gd rfl) rfl (Nat.le_of_ble_eq_true rfl) ?_
            have n75 : ((Int32.ofInt 0)).toInt ≤ ((Int32.ofInt 0)).toInt := by have a0 := i48x6; unfold In at a0; have a1 := ro_32_0; unfold In at a1; have a2 := i39; unfold In at a2; have a3 := (in_c 0 rfl); unfold In at a3; omega
            have n75a : 0 ≤ ((Int32.ofInt 0)).toInt := by have a0 := i48x6; unfold In at a0; have a1 := ro_32_0; unfold In at a1; have a2 := i39; unfold In at a2; have a3 := (in_c 0 rfl); unfold In at a3; omega
            exact gg_w (by omega) (gg_f (gf_cons rfl (gf_cons rfl (gf_cons rfl (gf_cons rfl gf_nil)))) (ct75 33 s52 (Int32.ofInt 0) (Int32.ofInt 0) hI52 (fr_tr rfl hFc33 hF52) (in_w 0 32 (in_c 0 rfl) rfl) (in_w 0 32 (in_c 0 rfl) rfl) n75 n75a (m_in 33 (in_w 0 32 (in_c 0 rfl) rfl) rfl)))
          · skip
            have i55 := z_eq 0 0 c55 i52 rfl
            refine g_aload_n 59 (gd rfl) rfl rfl ?_
            refine g_dup 60 (gd rfl) rfl rfl ?_
            refine g_getI 63 (gd rfl) rfl rfl rfl (fun z60 e60 => ?_)
            have q60 : w33_60_3 = z60 := (fr_F (v33_60_3) hF52 rfl).trans e60.symm
            subst q60
            refine g_iconst 1 64 (gd rfl) rfl rfl ?_
            refine g_iadd 65 (gd rfl) rfl (fun z64 e64 => ?_)
            have i64 := in_add 1 32 e64 i39 (in_c 1 rfl) rfl rfl
            refine g_putI 68 (gd rfl) rfl rfl rfl rfl ?_
            have hI65 := inv_sF (q := 60) (j := 3) hI52 rfl (in_w 0 32 i64 rfl)
            refine g_goto 33 (gd rfl) rfl ?_
            have v33 : z64 = (sF s52 60 3 z64).2.2.1 60 3 := sF_get
            have m33 : 33 - (z64).toInt < ((k33 : Nat) : Int) := by have a0 := i48x6; unfold In at a0; have a1 := ro_32_0; unfold In at a1; have a2 := i39; unfold In at a2; have a3 := i64; unfold In at a3; have a4 := t_add e64 i39 (in_c 1 rfl) rfl; have a5 := (in_c 1 rfl); unfold In at a5; omega
            exact gg_w (by omega) (gg_f (gf_cons rfl (gf_cons rfl gf_nil)) (ih33  (sF s52 60 3 z64) z64 hI65 (fr_sF rfl (fr_tr rfl hFc33 hF52)) v33 m33))
        · skip
          have i48x6 := r_le2 32 32 c48x6 (in_c 32 rfl) ro_32_1 rfl
          refine g_iconst (-1) 10 (gd rfl) rfl rfl ?_
          refine g_goto 21 (gd rfl) rfl ?_
          refine g_ireturn (gd rfl) rfl rfl (hp48 _ _ ?_)
          show GG _ _ _ _ _ _ _ _ [.int (Int32.ofInt (-1)), .ref (A 39), .ref (A 60)] _ _ _
          refine g_iconst 0 52 (gd rfl) rfl rfl ?_
          refine g_callv (X := _) (As := [.ref (A 39), .int (Int32.ofInt (-1)), .int (Int32.ofInt 0)]) (r := []) (b := A 60) (q := 60) 55 (gd rfl) rfl rfl rfl rfl rfl (ww_o rfl) (Nat.le_of_ble_eq_true rfl) (Nat.zero_le _) (Nat.zero_le _) (k_46_60_39 (by omega) hIc33 (in_w 0 33 (in_c 0 rfl) rfl)) (fun e u h => h) (fun v u h => ?_)
          obtain ⟨s52, hI52, hF52, z52, rfl, rfl, i52⟩ := h
          show GG _ _ _ _ _ _ _ _ [.int z52] _ _ _
          refine g_if_ne 58 71 (gd rfl) rfl rfl (fun c55 => ?_) (fun c55 => ?_)
          · skip
            have i55 := z_ne 1 1 c55 i52 rfl
            refine g_iconst 0 72 (gd rfl) rfl rfl ?_
            refine g_istore_n 73 (gd rfl) rfl (Nat.le_of_ble_eq_true rfl) ?_
            refine g_iconst 0 74 (gd rfl) rfl rfl ?_
            refine g_istore_n 75 (gd rfl) rfl (Nat.le_of_ble_eq_true rfl) ?_
            have n75 : ((Int32.ofInt 0)).toInt ≤ ((Int32.ofInt 0)).toInt := by have a0 := i48x6; unfold In at a0; have a1 := ro_32_0; unfold In at a1; have a2 := i39; unfold In at a2; have a3 := (in_c 0 rfl); unfold In at a3; omega
            have n75a : 0 ≤ ((Int32.ofInt 0)).toInt := by have a0 := i48x6; unfold In at a0; have a1 := ro_32_0; unfold In at a1; have a2 := i39; unfold In at a2; have a3 := (in_c 0 rfl); unfold In at a3; omega
            exact gg_w (by omega) (gg_f (gf_cons rfl (gf_cons rfl (gf_cons rfl (gf_cons rfl gf_nil)))) (ct75 33 s52 (Int32.ofInt 0) (Int32.ofInt 0) hI52 (fr_tr rfl hFc33 hF52) (in_w 0 32 (in_c 0 rfl) rfl) (in_w 0 32 (in_c 0 rfl) rfl) n75 n75a (m_in 33 (in_w 0 32 (in_c 0 rfl) rfl) rfl)))
          · skip
            have i55 := z_eq 0 0 c55 i52 rfl
            refine g_aload_n 59 (gd rfl) rfl rfl ?_
            refine g_dup 60 (gd rfl) rfl rfl ?_
            refine g_getI 63 (gd rfl) rfl rfl rfl (fun z60 e60 => ?_)
            have q60 : w33_60_3 = z60 := (fr_F (v33_60_3) hF52 rfl).trans e60.symm
            subst q60
            refine g_iconst 1 64 (gd rfl) rfl rfl ?_
            refine g_iadd 65 (gd rfl) rfl (fun z64 e64 => ?_)
            have i64 := in_add 1 32 e64 i39 (in_c 1 rfl) rfl rfl
            refine g_putI 68 (gd rfl) rfl rfl rfl rfl ?_
            have hI65 := inv_sF (q := 60) (j := 3) hI52 rfl (in_w 0 32 i64 rfl)
            refine g_goto 33 (gd rfl) rfl ?_
            have v33 : z64 = (sF s52 60 3 z64).2.2.1 60 3 := sF_get
            have m33 : 33 - (z64).toInt < ((k33 : Nat) : Int) := by have a0 := i48x6; unfold In at a0; have a1 := ro_32_0; unfold In at a1; have a2 := i39; unfold In at a2; have a3 := i64; unfold In at a3; have a4 := t_add e64 i39 (in_c 1 rfl) rfl; have a5 := (in_c 1 rfl); unfold In at a5; omega
            exact gg_w (by omega) (gg_f (gf_cons rfl (gf_cons rfl gf_nil)) (ih33  (sF s52 60 3 z64) z64 hI65 (fr_sF rfl (fr_tr rfl hFc33 hF52)) v33 m33))
  refine g_enter2 (k := 44) (N := 66602) (by omega) rfl (Nat.le_of_ble_eq_true rfl) ?_
  refine g_aload_n 1 (gd rfl) rfl rfl ?_
  refine g_callv (X := _) (As := []) (r := []) (b := A 32) (q := 32) 4 (gd rfl) rfl rfl rfl rfl rfl (ww_o rfl) (Nat.le_of_ble_eq_true rfl) (Nat.zero_le _) (Nat.zero_le _) (k_106_32 (by omega) hI ) (fun e u h => h) (fun v u h => ?_)
  obtain ⟨s1, hI1, hF1, n1, rfl, rfl⟩ := h
  obtain ⟨z1a, e1⟩ : ∃ w, w = s1.2.2.1 32 4 := ⟨_, rfl⟩
  have i1a := inv_F hI1 (-1) 4000 rfl e1
  rw [← (show z1a = s1.2.2.1 32 4 from e1)] at n1
  rw [← (show u_32_0 = s1.2.2.1 32 0 from fr_F (e_32_0) hF1 rfl)] at n1
  show GG _ _ _ _ _ _ _ _ [] _ _ _
  refine g_aload_n 5 (gd rfl) rfl rfl ?_
  refine g_iconst 1 6 (gd rfl) rfl rfl ?_
  refine g_aload_n 7 (gd rfl) rfl rfl ?_
  refine g_aload_n 8 (gd rfl) rfl rfl ?_
  refine g_callv (X := _) (As := [.ref (A 32)]) (r := [.int (Int32.ofInt 1), .ref (A 60)]) (b := A 60) (q := 60) 11 (gd rfl) rfl rfl rfl rfl rfl (ww_o rfl) (Nat.le_of_ble_eq_true rfl) (mc := 0) (ms := 0) (Nat.zero_le _) (Nat.zero_le _) (P := fun v u => _) ?_ (fun e u h => h) (fun v u h => h)
  intro po8 xx8 hp8 hx8
  refine g_enter2 (k := 41) (N := 300) (by omega) rfl (Nat.le_of_ble_eq_true rfl) ?_
  refine g_aload_n 1 (gd rfl) rfl rfl ?_
  refine g_getI 4 (gd rfl) rfl rfl rfl (fun z8x1 e8x1 => ?_)
  have i8x1 := inv_F hI1 (-1) 4000 rfl e8x1
  refine g_aload_n 5 (gd rfl) rfl rfl ?_
  refine g_getI 8 (gd rfl) rfl rfl rfl (fun z8x5 e8x5 => ?_)
  have q8x5 : u_32_0 = z8x5 := (fr_F (e_32_0) hF1 rfl).trans e8x5.symm
  subst q8x5
  refine g_cmp_eq 11 42 (gd rfl) rfl rfl (fun c8x8 => ?_) (fun c8x8 => ?_)
  · skip
    have i8x8 := r_eq1 0 4000 c8x8 i8x1 ro_32_0 rfl
    refine g_aload_n 43 (gd rfl) rfl rfl ?_
    refine g_getI 46 (gd rfl) rfl rfl rfl (fun z8x43 e8x43 => ?_)
    refine g_ireturn (gd rfl) rfl rfl (hp8 _ _ ?_)
    show GG _ _ _ _ _ _ _ _ [.int z8x43, .int (Int32.ofInt 1), .ref (A 60)] _ _ _
    refine g_calls (As := [.int z8x43]) (r := [.int (Int32.ofInt 1), .ref (A 60)]) 14 (gd rfl) rfl rfl rfl rfl rfl (Nat.le_of_ble_eq_true rfl) (Nat.zero_le _) (Nat.zero_le _) (k_414b (by omega) hI1 ) (fun v u h => ?_)
    obtain ⟨z11, rfl, rfl, i11⟩ := h
    show GG _ _ _ _ _ _ _ _ [.int z11, .int (Int32.ofInt 1), .ref (A 60)] _ _ _
    refine g_calls (As := [.int (Int32.ofInt 1), .int z11]) (r := [.ref (A 60)]) 17 (gd rfl) rfl rfl rfl rfl rfl (Nat.le_of_ble_eq_true rfl) (mc := 0) (ms := 0) (Nat.zero_le _) (Nat.zero_le _) (P := fun v u => _) ?_ (fun v u h => h)
    intro po14 xx14 hp14 hx14
    refine g_enter2 (k := 422) (N := 300) (by omega) rfl (Nat.le_of_ble_eq_true rfl) ?_
    refine g_iload_n 1 (gd rfl) rfl rfl ?_
    refine g_iload_n 2 (gd rfl) rfl rfl ?_
    refine g_cmp_lt 5 9 (gd rfl) rfl rfl (fun c14x2 => ?_) (fun c14x2 => ?_)
    · skip
      have i14x2 := r_lt2 2 32 c14x2 (in_c 1 rfl) i11 rfl
      refine g_iload_n 10 (gd rfl) rfl rfl ?_
      refine g_ireturn (gd rfl) rfl rfl (hp14 _ _ ?_)
      show GG _ _ _ _ _ _ _ _ [.int z11, .ref (A 60)] _ _ _
      refine g_putI 20 (gd rfl) rfl rfl rfl rfl ?_
      have hI17 := inv_sF (q := 60) (j := 3) hI1 rfl (in_w 0 32 i14x2 rfl)
      refine g_aload_n 21 (gd rfl) rfl rfl ?_
      refine g_iconst 0 22 (gd rfl) rfl rfl ?_
      refine g_putI 25 (gd rfl) rfl rfl rfl rfl ?_
      have hI22 := inv_sF (q := 60) (j := 7) hI17 rfl (in_w 0 32 (in_c 0 rfl) rfl)
      refine g_aload_n 26 (gd rfl) rfl rfl ?_
      refine g_getA (q2 := 61) 29 (gd rfl) rfl rfl rfl rfl ?_
      refine g_iconst 0 30 (gd rfl) rfl rfl ?_
      refine g_calls (As := [.ref (A 61), .int (Int32.ofInt 0)]) (r := []) 33 (gd rfl) rfl rfl rfl rfl rfl (Nat.le_of_ble_eq_true rfl) (Nat.zero_le _) (Nat.zero_le _) (k_fillI 61 (by omega) hI22 (in_c 0 rfl) (n := 32) rfl rfl rfl rfl) (fun v u h => ?_)
      obtain ⟨s30, hI30, hF30, rfl, rfl, fl30⟩ := h
      show GG _ _ _ _ _ _ _ _ [] _ _ _
      have v33 : z11 = s30.2.2.1 60 3 := fr_F (s := (sF (sF s1 60 3 z11) 60 7 (Int32.ofInt 0))) (sF_ne rfl (sF_get)) hF30 rfl
      have m33 : 33 - (z11).toInt < ((40 : Nat) : Int) := by have a0 := ro_32_1; unfold In at a0; have a1 := ro_32_0; unfold In at a1; have a2 := (in_c 0 rfl); unfold In at a2; have a3 := i14x2; unfold In at a3; have a4 := i8x8; unfold In at a4; have a5 := i1a; unfold In at a5; omega
      exact gg_w (by omega) (gg_f (gf_cons rfl (gf_cons rfl gf_nil)) (ct33 40 s30 z11 hI30 (fr_tr rfl (fr_sF rfl (fr_sF rfl (fr_tr rfl fr_rf hF1))) hF30) v33 m33))
    · skip
      have i14x2 := r_le1 0 1 c14x2 i11 (in_c 1 rfl) rfl
      refine g_iload_n 6 (gd rfl) rfl rfl ?_
      refine g_goto 10 (gd rfl) rfl ?_
      refine g_ireturn (gd rfl) rfl rfl (hp14 _ _ ?_)
      show GG _ _ _ _ _ _ _ _ [.int (Int32.ofInt 1), .ref (A 60)] _ _ _
      refine g_putI 20 (gd rfl) rfl rfl rfl rfl ?_
      have hI17 := inv_sF (q := 60) (j := 3) hI1 rfl (in_w 0 32 (in_c 1 rfl) rfl)
      refine g_aload_n 21 (gd rfl) rfl rfl ?_
      refine g_iconst 0 22 (gd rfl) rfl rfl ?_
      refine g_putI 25 (gd rfl) rfl rfl rfl rfl ?_
      have hI22 := inv_sF (q := 60) (j := 7) hI17 rfl (in_w 0 32 (in_c 0 rfl) rfl)
      refine g_aload_n 26 (gd rfl) rfl rfl ?_
      refine g_getA (q2 := 61) 29 (gd rfl) rfl rfl rfl rfl ?_
      refine g_iconst 0 30 (gd rfl) rfl rfl ?_
      refine g_calls (As := [.ref (A 61), .int (Int32.ofInt 0)]) (r := []) 33 (gd rfl) rfl rfl rfl rfl rfl (Nat.le_of_ble_eq_true rfl) (Nat.zero_le _) (Nat.zero_le _) (k_fillI 61 (by omega) hI22 (in_c 0 rfl) (n := 32) rfl rfl rfl rfl) (fun v u h => ?_)
      obtain ⟨s30, hI30, hF30, rfl, rfl, fl30⟩ := h
      show GG _ _ _ _ _ _ _ _ [] _ _ _
      have v33 : (Int32.ofInt 1) = s30.2.2.1 60 3 := fr_F (s := (sF (sF s1 60 3 (Int32.ofInt 1)) 60 7 (Int32.ofInt 0))) (sF_ne rfl (sF_get)) hF30 rfl
      have m33 : 33 - ((Int32.ofInt 1)).toInt < ((40 : Nat) : Int) := by have a0 := ro_32_1; unfold In at a0; have a1 := ro_32_0; unfold In at a1; have a2 := (in_c 0 rfl); unfold In at a2; have a3 := (in_c 1 rfl); unfold In at a3; have a4 := i8x8; unfold In at a4; have a5 := i1a; unfold In at a5; omega
      exact gg_w (by omega) (gg_f (gf_cons rfl (gf_cons rfl gf_nil)) (ct33 40 s30 (Int32.ofInt 1) hI30 (fr_tr rfl (fr_sF rfl (fr_sF rfl (fr_tr rfl fr_rf hF1))) hF30) v33 m33))
  · skip
    refine g_aload_n 12 (gd rfl) rfl rfl ?_
    refine g_aload_n 13 (gd rfl) rfl rfl ?_
    refine g_getI 16 (gd rfl) rfl rfl rfl (fun z8x13 e8x13 => ?_)
    have q8x13 : u_32_0 = z8x13 := (fr_F (e_32_0) hF1 rfl).trans e8x13.symm
    subst q8x13
    refine g_putI 19 (gd rfl) rfl rfl rfl rfl ?_
    have hI8x16 := inv_sF (q := 60) (j := 0) hI1 rfl (in_w (-1) 4000 ro_32_0 rfl)
    refine g_aload_n 20 (gd rfl) rfl rfl ?_
    refine g_callv (X := _) (As := []) (r := []) (b := A 32) (q := 32) 23 (gd rfl) rfl rfl rfl rfl rfl (ww_o rfl) (Nat.le_of_ble_eq_true rfl) (Nat.zero_le _) (Nat.zero_le _) (k_106_32 (by omega) hI8x16 ) (fun e u h => h) (fun v u h => ?_)
    obtain ⟨s8x20, hI8x20, hF8x20, n8x20, rfl, rfl⟩ := h
    obtain ⟨z8x20a, e8x20⟩ : ∃ w, w = s8x20.2.2.1 32 4 := ⟨_, rfl⟩
    have i8x20a := inv_F hI8x20 (-1) 4000 rfl e8x20
    rw [← (show z8x20a = s8x20.2.2.1 32 4 from e8x20)] at n8x20
    rw [← (show u_32_0 = s8x20.2.2.1 32 0 from fr_F (s := (sF s1 60 0 u_32_0)) (sF_ne rfl (fr_F (e_32_0) hF1 rfl)) hF8x20 rfl)] at n8x20
    show GG _ _ _ _ _ _ _ _ [] _ _ _
    refine g_aload_n 24 (gd rfl) rfl rfl ?_
    refine g_iconst 0 25 (gd rfl) rfl rfl ?_
    refine g_putI 28 (gd rfl) rfl rfl rfl rfl ?_
    have hI8x25 := inv_sF (q := 60) (j := 1) hI8x20 rfl (in_w (-2147483648) 2147483647 (in_c 0 rfl) rfl)
    refine g_aload_n 29 (gd rfl) rfl rfl ?_
    refine g_aload_n 30 (gd rfl) rfl rfl ?_
    refine g_getA (q2 := 39) 33 (gd rfl) rfl rfl rfl rfl ?_
    refine g_iconst 0 34 (gd rfl) rfl rfl ?_
    refine g_aload_n 35 (gd rfl) rfl rfl ?_
    refine g_callv (X := _) (As := []) (r := [.int (Int32.ofInt 0), .ref (A 39), .ref (A 60)]) (b := A 32) (q := 32) 38 (gd rfl) rfl rfl rfl rfl rfl (ww_o rfl) (Nat.le_of_ble_eq_true rfl) (mc := 0) (ms := 0) (Nat.zero_le _) (Nat.zero_le _) (P := fun v u => _) ?_ (fun e u h => h) (fun v u h => h)
    intro po8x35 xx8x35 hp8x35 hx8x35
    refine g_enter2 (k := 102) (N := 300) (by omega) rfl (Nat.le_of_ble_eq_true rfl) ?_
    refine g_aload_n 1 (gd rfl) rfl rfl ?_
    refine g_getI 4 (gd rfl) rfl rfl rfl (fun z8x35x1 e8x35x1 => ?_)
    have q8x35x1 : u_32_1 = z8x35x1 := (sF_ne rfl (fr_F (s := (sF s1 60 0 u_32_0)) (sF_ne rfl (fr_F (e_32_1) hF1 rfl)) hF8x20 rfl)).trans e8x35x1.symm
    subst q8x35x1
    refine g_bipush 32 6 (gd rfl) rfl rfl ?_
    refine g_cmp_lt 9 13 (gd rfl) rfl rfl (fun c8x35x6 => ?_) (fun c8x35x6 => ?_)
    · skip
      have i8x35x6 := r_lt1 0 31 c8x35x6 ro_32_1 (in_c 32 rfl) rfl
      refine g_iconst 1 14 (gd rfl) rfl rfl ?_
      refine g_aload_n 15 (gd rfl) rfl rfl ?_
      refine g_getI 18 (gd rfl) rfl rfl rfl (fun z8x35x15 e8x35x15 => ?_)
      have q8x35x15 : u_32_1 = z8x35x15 := (sF_ne rfl (fr_F (s := (sF s1 60 0 u_32_0)) (sF_ne rfl (fr_F (e_32_1) hF1 rfl)) hF8x20 rfl)).trans e8x35x15.symm
      subst q8x35x15
      refine g_ishl 19 (gd rfl) rfl (fun z8x35x18 e8x35x18 => ?_)
      refine g_iconst 1 20 (gd rfl) rfl rfl ?_
      refine g_isub 21 (gd rfl) rfl (fun z8x35x20 e8x35x20 => ?_)
      refine g_ireturn (gd rfl) rfl rfl (hp8x35 _ _ ?_)
      show GG _ _ _ _ _ _ _ _ [.int z8x35x20, .int (Int32.ofInt 0), .ref (A 39), .ref (A 60)] _ _ _
      refine g_iconst 0 39 (gd rfl) rfl rfl ?_
      refine g_callv (X := _) (As := [.ref (A 39), .int (Int32.ofInt 0), .int z8x35x20, .int (Int32.ofInt 0)]) (r := []) (b := A 60) (q := 60) 42 (gd rfl) rfl rfl rfl rfl rfl (ww_o rfl) (Nat.le_of_ble_eq_true rfl) (Nat.zero_le _) (Nat.zero_le _) (k_42_60_39 (by omega) hI8x25 (in_w 0 32 (in_c 0 rfl) rfl)) (fun e u h => h) (fun v u h => ?_)
      obtain ⟨s8x39, hI8x39, hF8x39, rfl, rfl⟩ := h
      show GG _ _ _ _ _ _ _ _ [] _ _ _
      refine g_aload_n 43 (gd rfl) rfl rfl ?_
      refine g_getI 46 (gd rfl) rfl rfl rfl (fun z8x43 e8x43 => ?_)
      refine g_ireturn (gd rfl) rfl rfl (hp8 _ _ ?_)
      show GG _ _ _ _ _ _ _ _ [.int z8x43, .int (Int32.ofInt 1), .ref (A 60)] _ _ _
      refine g_calls (As := [.int z8x43]) (r := [.int (Int32.ofInt 1), .ref (A 60)]) 14 (gd rfl) rfl rfl rfl rfl rfl (Nat.le_of_ble_eq_true rfl) (Nat.zero_le _) (Nat.zero_le _) (k_414b (by omega) hI8x39 ) (fun v u h => ?_)
      obtain ⟨z11, rfl, rfl, i11⟩ := h
      show GG _ _ _ _ _ _ _ _ [.int z11, .int (Int32.ofInt 1), .ref (A 60)] _ _ _
      refine g_calls (As := [.int (Int32.ofInt 1), .int z11]) (r := [.ref (A 60)]) 17 (gd rfl) rfl rfl rfl rfl rfl (Nat.le_of_ble_eq_true rfl) (mc := 0) (ms := 0) (Nat.zero_le _) (Nat.zero_le _) (P := fun v u => _) ?_ (fun v u h => h)
      intro po14 xx14 hp14 hx14
      refine g_enter2 (k := 422) (N := 300) (by omega) rfl (Nat.le_of_ble_eq_true rfl) ?_
      refine g_iload_n 1 (gd rfl) rfl rfl ?_
      refine g_iload_n 2 (gd rfl) rfl rfl ?_
      refine g_cmp_lt 5 9 (gd rfl) rfl rfl (fun c14x2 => ?_) (fun c14x2 => ?_)
      · skip
        have i14x2 := r_lt2 2 32 c14x2 (in_c 1 rfl) i11 rfl
        refine g_iload_n 10 (gd rfl) rfl rfl ?_
        refine g_ireturn (gd rfl) rfl rfl (hp14 _ _ ?_)
        show GG _ _ _ _ _ _ _ _ [.int z11, .ref (A 60)] _ _ _
        refine g_putI 20 (gd rfl) rfl rfl rfl rfl ?_
        have hI17 := inv_sF (q := 60) (j := 3) hI8x39 rfl (in_w 0 32 i14x2 rfl)
        refine g_aload_n 21 (gd rfl) rfl rfl ?_
        refine g_iconst 0 22 (gd rfl) rfl rfl ?_
        refine g_putI 25 (gd rfl) rfl rfl rfl rfl ?_
        have hI22 := inv_sF (q := 60) (j := 7) hI17 rfl (in_w 0 32 (in_c 0 rfl) rfl)
        refine g_aload_n 26 (gd rfl) rfl rfl ?_
        refine g_getA (q2 := 61) 29 (gd rfl) rfl rfl rfl rfl ?_
        refine g_iconst 0 30 (gd rfl) rfl rfl ?_
        refine g_calls (As := [.ref (A 61), .int (Int32.ofInt 0)]) (r := []) 33 (gd rfl) rfl rfl rfl rfl rfl (Nat.le_of_ble_eq_true rfl) (Nat.zero_le _) (Nat.zero_le _) (k_fillI 61 (by omega) hI22 (in_c 0 rfl) (n := 32) rfl rfl rfl rfl) (fun v u h => ?_)
        obtain ⟨s30, hI30, hF30, rfl, rfl, fl30⟩ := h
        show GG _ _ _ _ _ _ _ _ [] _ _ _
        have v33 : z11 = s30.2.2.1 60 3 := fr_F (s := (sF (sF s8x39 60 3 z11) 60 7 (Int32.ofInt 0))) (sF_ne rfl (sF_get)) hF30 rfl
        have m33 : 33 - (z11).toInt < ((40 : Nat) : Int) := by have a0 := i8x35x6; unfold In at a0; have a1 := ro_32_0; unfold In at a1; have a2 := (in_c 0 rfl); unfold In at a2; have a3 := i14x2; unfold In at a3; have a4 := i8x20a; unfold In at a4; omega
        exact gg_w (by omega) (gg_f (gf_cons rfl (gf_cons rfl gf_nil)) (ct33 40 s30 z11 hI30 (fr_tr rfl (fr_sF rfl (fr_sF rfl (fr_tr rfl (fr_sF rfl (fr_tr rfl (fr_sF rfl (fr_tr rfl fr_rf hF1)) hF8x20)) hF8x39))) hF30) v33 m33))
      · skip
        have i14x2 := r_le1 0 1 c14x2 i11 (in_c 1 rfl) rfl
        refine g_iload_n 6 (gd rfl) rfl rfl ?_
        refine g_goto 10 (gd rfl) rfl ?_
        refine g_ireturn (gd rfl) rfl rfl (hp14 _ _ ?_)
        show GG _ _ _ _ _ _ _ _ [.int (Int32.ofInt 1), .ref (A 60)] _ _ _
        refine g_putI 20 (gd rfl) rfl rfl rfl rfl ?_
        have hI17 := inv_sF (q := 60) (j := 3) hI8x39 rfl (in_w 0 32 (in_c 1 rfl) rfl)
        refine g_aload_n 21 (gd rfl) rfl rfl ?_
        refine g_iconst 0 22 (gd rfl) rfl rfl ?_
        refine g_putI 25 (gd rfl) rfl rfl rfl rfl ?_
        have hI22 := inv_sF (q := 60) (j := 7) hI17 rfl (in_w 0 32 (in_c 0 rfl) rfl)
        refine g_aload_n 26 (gd rfl) rfl rfl ?_
        refine g_getA (q2 := 61) 29 (gd rfl) rfl rfl rfl rfl ?_
        refine g_iconst 0 30 (gd rfl) rfl rfl ?_
        refine g_calls (As := [.ref (A 61), .int (Int32.ofInt 0)]) (r := []) 33 (gd rfl) rfl rfl rfl rfl rfl (Nat.le_of_ble_eq_true rfl) (Nat.zero_le _) (Nat.zero_le _) (k_fillI 61 (by omega) hI22 (in_c 0 rfl) (n := 32) rfl rfl rfl rfl) (fun v u h => ?_)
        obtain ⟨s30, hI30, hF30, rfl, rfl, fl30⟩ := h
        show GG _ _ _ _ _ _ _ _ [] _ _ _
        have v33 : (Int32.ofInt 1) = s30.2.2.1 60 3 := fr_F (s := (sF (sF s8x39 60 3 (Int32.ofInt 1)) 60 7 (Int32.ofInt 0))) (sF_ne rfl (sF_get)) hF30 rfl
        have m33 : 33 - ((Int32.ofInt 1)).toInt < ((40 : Nat) : Int) := by have a0 := i8x35x6; unfold In at a0; have a1 := ro_32_0; unfold In at a1; have a2 := (in_c 0 rfl); unfold In at a2; have a3 := (in_c 1 rfl); unfold In at a3; have a4 := i8x20a; unfold In at a4; omega
        exact gg_w (by omega) (gg_f (gf_cons rfl (gf_cons rfl gf_nil)) (ct33 40 s30 (Int32.ofInt 1) hI30 (fr_tr rfl (fr_sF rfl (fr_sF rfl (fr_tr rfl (fr_sF rfl (fr_tr rfl (fr_sF rfl (fr_tr rfl fr_rf hF1)) hF8x20)) hF8x39))) hF30) v33 m33))
    · skip
      have i8x35x6 := r_le2 32 32 c8x35x6 (in_c 32 rfl) ro_32_1 rfl
      refine g_iconst (-1) 10 (gd rfl) rfl rfl ?_
      refine g_goto 21 (gd rfl) rfl ?_
      refine g_ireturn (gd rfl) rfl rfl (hp8x35 _ _ ?_)
      show GG _ _ _ _ _ _ _ _ [.int (Int32.ofInt (-1)), .int (Int32.ofInt 0), .ref (A 39), .ref (A 60)] _ _ _
      refine g_iconst 0 39 (gd rfl) rfl rfl ?_
      refine g_callv (X := _) (As := [.ref (A 39), .int (Int32.ofInt 0), .int (Int32.ofInt (-1)), .int (Int32.ofInt 0)]) (r := []) (b := A 60) (q := 60) 42 (gd rfl) rfl rfl rfl rfl rfl (ww_o rfl) (Nat.le_of_ble_eq_true rfl) (Nat.zero_le _) (Nat.zero_le _) (k_42_60_39 (by omega) hI8x25 (in_w 0 32 (in_c 0 rfl) rfl)) (fun e u h => h) (fun v u h => ?_)
      obtain ⟨s8x39, hI8x39, hF8x39, rfl, rfl⟩ := h
      show GG _ _ _ _ _ _ _ _ [] _ _ _
      refine g_aload_n 43 (gd rfl) rfl rfl ?_
      refine g_getI 46 (gd rfl) rfl rfl rfl (fun z8x43 e8x43 => ?_)
      refine g_ireturn (gd rfl) rfl rfl (hp8 _ _ ?_)
      show GG _ _ _ _ _ _ _ _ [.int z8x43, .int (Int32.ofInt 1), .ref (A 60)] _ _ _
      refine g_calls (As := [.int z8x43]) (r := [.int (Int32.ofInt 1), .ref (A 60)]) 14 (gd rfl) rfl rfl rfl rfl rfl (Nat.le_of_ble_eq_true rfl) (Nat.zero_le _) (Nat.zero_le _) (k_414b (by omega) hI8x39 ) (fun v u h => ?_)
      obtain ⟨z11, rfl, rfl, i11⟩ := h
      show GG _ _ _ _ _ _ _ _ [.int z11, .int (Int32.ofInt 1), .ref (A 60)] _ _ _
      refine g_calls (As := [.int (Int32.ofInt 1), .int z11]) (r := [.ref (A 60)]) 17 (gd rfl) rfl rfl rfl rfl rfl (Nat.le_of_ble_eq_true rfl) (mc := 0) (ms := 0) (Nat.zero_le _) (Nat.zero_le _) (P := fun v u => _) ?_ (fun v u h => h)
      intro po14 xx14 hp14 hx14
      refine g_enter2 (k := 422) (N := 300) (by omega) rfl (Nat.le_of_ble_eq_true rfl) ?_
      refine g_iload_n 1 (gd rfl) rfl rfl ?_
      refine g_iload_n 2 (gd rfl) rfl rfl ?_
      refine g_cmp_lt 5 9 (gd rfl) rfl rfl (fun c14x2 => ?_) (fun c14x2 => ?_)
      · skip
        have i14x2 := r_lt2 2 32 c14x2 (in_c 1 rfl) i11 rfl
        refine g_iload_n 10 (gd rfl) rfl rfl ?_
        refine g_ireturn (gd rfl) rfl rfl (hp14 _ _ ?_)
        show GG _ _ _ _ _ _ _ _ [.int z11, .ref (A 60)] _ _ _
        refine g_putI 20 (gd rfl) rfl rfl rfl rfl ?_
        have hI17 := inv_sF (q := 60) (j := 3) hI8x39 rfl (in_w 0 32 i14x2 rfl)
        refine g_aload_n 21 (gd rfl) rfl rfl ?_
        refine g_iconst 0 22 (gd rfl) rfl rfl ?_
        refine g_putI 25 (gd rfl) rfl rfl rfl rfl ?_
        have hI22 := inv_sF (q := 60) (j := 7) hI17 rfl (in_w 0 32 (in_c 0 rfl) rfl)
        refine g_aload_n 26 (gd rfl) rfl rfl ?_
        refine g_getA (q2 := 61) 29 (gd rfl) rfl rfl rfl rfl ?_
        refine g_iconst 0 30 (gd rfl) rfl rfl ?_
        refine g_calls (As := [.ref (A 61), .int (Int32.ofInt 0)]) (r := []) 33 (gd rfl) rfl rfl rfl rfl rfl (Nat.le_of_ble_eq_true rfl) (Nat.zero_le _) (Nat.zero_le _) (k_fillI 61 (by omega) hI22 (in_c 0 rfl) (n := 32) rfl rfl rfl rfl) (fun v u h => ?_)
        obtain ⟨s30, hI30, hF30, rfl, rfl, fl30⟩ := h
        show GG _ _ _ _ _ _ _ _ [] _ _ _
        have v33 : z11 = s30.2.2.1 60 3 := fr_F (s := (sF (sF s8x39 60 3 z11) 60 7 (Int32.ofInt 0))) (sF_ne rfl (sF_get)) hF30 rfl
        have m33 : 33 - (z11).toInt < ((40 : Nat) : Int) := by have a0 := i8x35x6; unfold In at a0; have a1 := ro_32_0; unfold In at a1; have a2 := (in_c 0 rfl); unfold In at a2; have a3 := i14x2; unfold In at a3; have a4 := i8x20a; unfold In at a4; omega
        exact gg_w (by omega) (gg_f (gf_cons rfl (gf_cons rfl gf_nil)) (ct33 40 s30 z11 hI30 (fr_tr rfl (fr_sF rfl (fr_sF rfl (fr_tr rfl (fr_sF rfl (fr_tr rfl (fr_sF rfl (fr_tr rfl fr_rf hF1)) hF8x20)) hF8x39))) hF30) v33 m33))
      · skip
        have i14x2 := r_le1 0 1 c14x2 i11 (in_c 1 rfl) rfl
        refine g_iload_n 6 (gd rfl) rfl rfl ?_
        refine g_goto 10 (gd rfl) rfl ?_
        refine g_ireturn (gd rfl) rfl rfl (hp14 _ _ ?_)
        show GG _ _ _ _ _ _ _ _ [.int (Int32.ofInt 1), .ref (A 60)] _ _ _
        refine g_putI 20 (gd rfl) rfl rfl rfl rfl ?_
        have hI17 := inv_sF (q := 60) (j := 3) hI8x39 rfl (in_w 0 32 (in_c 1 rfl) rfl)
        refine g_aload_n 21 (gd rfl) rfl rfl ?_
        refine g_iconst 0 22 (gd rfl) rfl rfl ?_
        refine g_putI 25 (gd rfl) rfl rfl rfl rfl ?_
        have hI22 := inv_sF (q := 60) (j := 7) hI17 rfl (in_w 0 32 (in_c 0 rfl) rfl)
        refine g_aload_n 26 (gd rfl) rfl rfl ?_
        refine g_getA (q2 := 61) 29 (gd rfl) rfl rfl rfl rfl ?_
        refine g_iconst 0 30 (gd rfl) rfl rfl ?_
        refine g_calls (As := [.ref (A 61), .int (Int32.ofInt 0)]) (r := []) 33 (gd rfl) rfl rfl rfl rfl rfl (Nat.le_of_ble_eq_true rfl) (Nat.zero_le _) (Nat.zero_le _) (k_fillI 61 (by omega) hI22 (in_c 0 rfl) (n := 32) rfl rfl rfl rfl) (fun v u h => ?_)
        obtain ⟨s30, hI30, hF30, rfl, rfl, fl30⟩ := h
        show GG _ _ _ _ _ _ _ _ [] _ _ _
        have v33 : (Int32.ofInt 1) = s30.2.2.1 60 3 := fr_F (s := (sF (sF s8x39 60 3 (Int32.ofInt 1)) 60 7 (Int32.ofInt 0))) (sF_ne rfl (sF_get)) hF30 rfl
        have m33 : 33 - ((Int32.ofInt 1)).toInt < ((40 : Nat) : Int) := by have a0 := i8x35x6; unfold In at a0; have a1 := ro_32_0; unfold In at a1; have a2 := (in_c 0 rfl); unfold In at a2; have a3 := (in_c 1 rfl); unfold In at a3; have a4 := i8x20a; unfold In at a4; omega
        exact gg_w (by omega) (gg_f (gf_cons rfl (gf_cons rfl gf_nil)) (ct33 40 s30 (Int32.ofInt 1) hI30 (fr_tr rfl (fr_sF rfl (fr_sF rfl (fr_tr rfl (fr_sF rfl (fr_tr rfl (fr_sF rfl (fr_tr rfl fr_rf hF1)) hF8x20)) hF8x39))) hF30) v33 m33))

def fm_240_0 : FM := ([9, 10, 11, 12, 13, 14, 15, 39, 40, 41, 42, 43, 44, 45, 61, 62, 63, 64], [], [(2, 4), (32, 4), (60, 0), (60, 1), (60, 2), (60, 3), (60, 7)], [])
/-- GraphHouse.colour -/
theorem k_240_0 {Z : AmZ} {A : Nat → Nat} {s : GS} {ex : va_W} {d : Nat} {x1 : Int32} (hd : 385 ≤ d) (hI : Inv s)  : GC Z d 240 [.ref (A 0), .int x1] (WW Z A s ++ ex) 3 18 (fun v u => ∃ t : GS, Inv t ∧ Fr fm_240_0 s t ∧ ∃ z : Int32, v = some (.int z) ∧ u = WW Z A t ++ ex ∧ In z 0 31) (gE1 Z A ex fm_240_0 s) := by
  intro post xp hP hX
  obtain ⟨u_0_2, e_0_2⟩ : ∃ w, w = s.2.2.1 0 2 := ⟨_, rfl⟩
  have ro_0_2 := inv_F hI (-1) 4000 rfl e_0_2
  obtain ⟨u_2_0, e_2_0⟩ : ∃ w, w = s.2.2.1 2 0 := ⟨_, rfl⟩
  have ro_2_0 := inv_F hI 0 4000 rfl e_2_0
  obtain ⟨u_2_1, e_2_1⟩ : ∃ w, w = s.2.2.1 2 1 := ⟨_, rfl⟩
  have ro_2_1 := inv_F hI 0 32 rfl e_2_1
  obtain ⟨u_32_0, e_32_0⟩ : ∃ w, w = s.2.2.1 32 0 := ⟨_, rfl⟩
  have ro_32_0 := inv_F hI 0 4000 rfl e_32_0
  obtain ⟨u_32_1, e_32_1⟩ : ∃ w, w = s.2.2.1 32 1 := ⟨_, rfl⟩
  have ro_32_1 := inv_F hI 0 32 rfl e_32_1
  refine g_enter2 (k := 240) (N := 900) (by omega) rfl (Nat.le_of_ble_eq_true rfl) ?_
  refine g_aload_n 1 (gd rfl) rfl rfl ?_
  refine g_callv (X := _) (As := []) (r := []) (b := A 0) (q := 0) 4 (gd rfl) rfl rfl rfl rfl rfl (ww_o rfl) (Nat.le_of_ble_eq_true rfl) (mc := 0) (ms := 0) (Nat.zero_le _) (Nat.zero_le _) (P := fun v u => _) ?_ (fun e u h => h) (fun v u h => h)
  intro po1 xx1 hp1 hx1
  refine g_enter2 (k := 259) (N := 300) (by omega) rfl (Nat.le_of_ble_eq_true rfl) ?_
  refine g_aload_n 1 (gd rfl) rfl rfl ?_
  refine g_getI 4 (gd rfl) rfl rfl rfl (fun z1x1 e1x1 => ?_)
  have q1x1 : u_0_2 = z1x1 := (e_0_2).trans e1x1.symm
  subst q1x1
  refine g_iconst (-1) 5 (gd rfl) rfl rfl ?_
  refine g_cmp_ne 8 18 (gd rfl) rfl rfl (fun c1x5 => ?_) (fun c1x5 => ?_)
  · skip
    have i1x5 := r_ne1 0 4000 c1x5 ro_0_2 (in_c (-1) rfl) rfl
    refine g_aload_n 19 (gd rfl) rfl rfl ?_
    refine g_getA (q2 := 32) 22 (gd rfl) rfl rfl rfl rfl ?_
    refine g_areturn (gd rfl) rfl (hp1 _ _ ?_)
    show GG _ _ _ _ _ _ _ _ [.ref (A 32)] _ _ _
    refine g_astore_n 5 (gd rfl) rfl (Nat.le_of_ble_eq_true rfl) ?_
    refine g_aload_n 6 (gd rfl) rfl rfl ?_
    refine g_iload_n 7 (gd rfl) rfl rfl ?_
    refine g_callv (X := _) (As := [.int x1]) (r := []) (b := A 32) (q := 32) 10 (gd rfl) rfl rfl rfl rfl rfl (ww_o rfl) (Nat.le_of_ble_eq_true rfl) (mc := 0) (ms := 0) (Nat.zero_le _) (Nat.zero_le _) (P := fun v u => _) ?_ (fun e u h => h) (fun v u h => h)
    intro po7 xx7 hp7 hx7
    refine g_enter2 (k := 94) (N := 300) (by omega) rfl (Nat.le_of_ble_eq_true rfl) ?_
    refine g_iload_n 1 (gd rfl) rfl rfl ?_
    refine g_if_lt 4 16 (gd rfl) rfl rfl (fun c7x1 => ?_) (fun c7x1 => ?_)
    · skip
      have i7x1 := z_lt (-2147483648) (-1) c7x1 (i_rng x1) rfl
      refine g_iconst 0 17 (gd rfl) rfl rfl ?_
      refine g_ireturn (gd rfl) rfl (nb01 (in_w 0 1 (in_c 0 rfl) rfl)) (hp7 _ _ ?_)
      show GG _ _ _ _ _ _ _ _ [.int (Int32.ofInt 0)] _ _ _
      refine g_thr (E := am_IA) (y := yX11_allow) 13 (gd rfl) rfl rfl (Or.inl ⟨rfl, rfl, rfl⟩) (by omega) (Nat.le_of_ble_eq_true rfl) (Nat.le_of_ble_eq_true rfl) (Nat.le_of_ble_eq_true rfl) (fun c10 => ?_) (fun c10 => ?_)
      · skip
        exact zn_ne c10 (in_c 0 rfl) rfl
      · skip
        exact (hX _ _ ⟨rfl, s, hI, fr_rf, rfl⟩)
    · skip
      have i7x1 := z_ge 0 2147483647 c7x1 (i_rng x1) rfl
      refine g_iload_n 5 (gd rfl) rfl rfl ?_
      refine g_aload_n 6 (gd rfl) rfl rfl ?_
      refine g_getI 9 (gd rfl) rfl rfl rfl (fun z7x6 e7x6 => ?_)
      have q7x6 : u_32_1 = z7x6 := (e_32_1).trans e7x6.symm
      subst q7x6
      refine g_cmp_ge 12 16 (gd rfl) rfl rfl (fun c7x9 => ?_) (fun c7x9 => ?_)
      · skip
        refine g_iconst 0 17 (gd rfl) rfl rfl ?_
        refine g_ireturn (gd rfl) rfl (nb01 (in_w 0 1 (in_c 0 rfl) rfl)) (hp7 _ _ ?_)
        show GG _ _ _ _ _ _ _ _ [.int (Int32.ofInt 0)] _ _ _
        refine g_thr (E := am_IA) (y := yX11_allow) 13 (gd rfl) rfl rfl (Or.inl ⟨rfl, rfl, rfl⟩) (by omega) (Nat.le_of_ble_eq_true rfl) (Nat.le_of_ble_eq_true rfl) (Nat.le_of_ble_eq_true rfl) (fun c10 => ?_) (fun c10 => ?_)
        · skip
          exact zn_ne c10 (in_c 0 rfl) rfl
        · skip
          exact (hX _ _ ⟨rfl, s, hI, fr_rf, rfl⟩)
      · skip
        have i7x9 := r_lt1 0 31 c7x9 i7x1 ro_32_1 rfl
        have i7x9a := r_lt2 1 32 c7x9 i7x1 ro_32_1 rfl
        refine g_iconst 1 13 (gd rfl) rfl rfl ?_
        refine g_goto 17 (gd rfl) rfl ?_
        refine g_ireturn (gd rfl) rfl (nb01 (in_w 0 1 (in_c 1 rfl) rfl)) (hp7 _ _ ?_)
        show GG _ _ _ _ _ _ _ _ [.int (Int32.ofInt 1)] _ _ _
        refine g_thr (E := am_IA) (y := yX11_allow) 13 (gd rfl) rfl rfl (Or.inl ⟨rfl, rfl, rfl⟩) (by omega) (Nat.le_of_ble_eq_true rfl) (Nat.le_of_ble_eq_true rfl) (Nat.le_of_ble_eq_true rfl) (fun c10 => ?_) (fun c10 => ?_)
        · skip
          refine g_aload_n 14 (gd rfl) rfl rfl ?_
          refine g_getA (q2 := 60) 17 (gd rfl) rfl rfl rfl rfl ?_
          refine g_aload_n 18 (gd rfl) rfl rfl ?_
          refine g_iload_n 19 (gd rfl) rfl rfl ?_
          refine g_callv (X := _) (As := [.ref (A 32), .int x1]) (r := []) (b := A 60) (q := 60) 22 (gd rfl) rfl rfl rfl rfl rfl (ww_o rfl) (Nat.le_of_ble_eq_true rfl) (mc := 0) (ms := 0) (Nat.zero_le _) (Nat.zero_le _) (P := fun v u => _) ?_ (fun e u h => h) (fun v u h => h)
          intro po19 xx19 hp19 hx19
          refine g_enter2 (k := 43) (N := 300) (by omega) rfl (Nat.le_of_ble_eq_true rfl) ?_
          refine g_aload_n 1 (gd rfl) rfl rfl ?_
          refine g_getI 4 (gd rfl) rfl rfl rfl (fun z19x1 e19x1 => ?_)
          have i19x1 := inv_F hI (-1) 4000 rfl e19x1
          refine g_aload_n 5 (gd rfl) rfl rfl ?_
          refine g_getI 8 (gd rfl) rfl rfl rfl (fun z19x5 e19x5 => ?_)
          have q19x5 : u_32_0 = z19x5 := (e_32_0).trans e19x5.symm
          subst q19x5
          refine g_cmp_eq 11 24 (gd rfl) rfl rfl (fun c19x8 => ?_) (fun c19x8 => ?_)
          · skip
            have i19x8 := r_eq1 0 4000 c19x8 i19x1 ro_32_0 rfl
            refine g_aload_n 25 (gd rfl) rfl rfl ?_
            refine g_getA (q2 := 64) 28 (gd rfl) rfl rfl rfl rfl ?_
            refine g_iload_n 29 (gd rfl) rfl rfl ?_
            refine g_iaload 30 (gd rfl) rfl (n := 32) rfl (in_ix i7x9 rfl) (fun z19x29 e19x29 => ?_)
            have i19x29 := inv_I hI (n := 32) (t := 0) 0 31 rfl (in_ix i7x9 rfl) rfl e19x29
            refine g_ireturn (gd rfl) rfl rfl (hp19 _ _ ?_)
            show GG _ _ _ _ _ _ _ _ [.int z19x29] _ _ _
            exact g_ireturn (gd rfl) rfl rfl (hP _ _ ⟨s, hI, fr_rf, z19x29, rfl, rfl, in_w 0 31 i19x29 rfl⟩)
          · skip
            refine g_aload_n 12 (gd rfl) rfl rfl ?_
            refine g_aload_n 13 (gd rfl) rfl rfl ?_
            refine g_getI 16 (gd rfl) rfl rfl rfl (fun z19x13 e19x13 => ?_)
            have q19x13 : u_32_0 = z19x13 := (e_32_0).trans e19x13.symm
            subst q19x13
            refine g_putI 19 (gd rfl) rfl rfl rfl rfl ?_
            have hI19x16 := inv_sF (q := 60) (j := 2) hI rfl (in_w (-1) 4000 ro_32_0 rfl)
            refine g_aload_n 20 (gd rfl) rfl rfl ?_
            refine g_aload_n 21 (gd rfl) rfl rfl ?_
            refine g_callv (X := _) (As := [.ref (A 32)]) (r := []) (b := A 60) (q := 60) 24 (gd rfl) rfl rfl rfl rfl rfl (ww_o rfl) (Nat.le_of_ble_eq_true rfl) (Nat.zero_le _) (Nat.zero_le _) (k_44_60_32 (by omega) hI19x16 ) (fun e u h => h) (fun v u h => ?_)
            obtain ⟨s19x21, hI19x21, hF19x21, rfl, rfl⟩ := h
            show GG _ _ _ _ _ _ _ _ [] _ _ _
            refine g_aload_n 25 (gd rfl) rfl rfl ?_
            refine g_getA (q2 := 64) 28 (gd rfl) rfl rfl rfl rfl ?_
            refine g_iload_n 29 (gd rfl) rfl rfl ?_
            refine g_iaload 30 (gd rfl) rfl (n := 32) rfl (in_ix i7x9 rfl) (fun z19x29 e19x29 => ?_)
            have i19x29 := inv_I hI19x21 (n := 32) (t := 0) 0 31 rfl (in_ix i7x9 rfl) rfl e19x29
            refine g_ireturn (gd rfl) rfl rfl (hp19 _ _ ?_)
            show GG _ _ _ _ _ _ _ _ [.int z19x29] _ _ _
            exact g_ireturn (gd rfl) rfl rfl (hP _ _ ⟨s19x21, hI19x21, (fr_tr rfl (fr_sF rfl fr_rf) hF19x21), z19x29, rfl, rfl, in_w 0 31 i19x29 rfl⟩)
        · skip
          exact zn_eq c10 (in_c 1 rfl) rfl
  · skip
    have i1x5 := r_eq1 (-1) (-1) c1x5 ro_0_2 (in_c (-1) rfl) rfl
    refine g_aload_n 9 (gd rfl) rfl rfl ?_
    refine g_getA (q2 := 1) 12 (gd rfl) rfl rfl rfl rfl ?_
    refine g_getA (q2 := 2) 15 (gd rfl) rfl rfl rfl rfl ?_
    refine g_goto 22 (gd rfl) rfl ?_
    refine g_areturn (gd rfl) rfl (hp1 _ _ ?_)
    show GG _ _ _ _ _ _ _ _ [.ref (A 2)] _ _ _
    refine g_astore_n 5 (gd rfl) rfl (Nat.le_of_ble_eq_true rfl) ?_
    refine g_aload_n 6 (gd rfl) rfl rfl ?_
    refine g_iload_n 7 (gd rfl) rfl rfl ?_
    refine g_callv (X := _) (As := [.int x1]) (r := []) (b := A 2) (q := 2) 10 (gd rfl) rfl rfl rfl rfl rfl (ww_o rfl) (Nat.le_of_ble_eq_true rfl) (mc := 0) (ms := 0) (Nat.zero_le _) (Nat.zero_le _) (P := fun v u => _) ?_ (fun e u h => h) (fun v u h => h)
    intro po7 xx7 hp7 hx7
    refine g_enter2 (k := 94) (N := 300) (by omega) rfl (Nat.le_of_ble_eq_true rfl) ?_
    refine g_iload_n 1 (gd rfl) rfl rfl ?_
    refine g_if_lt 4 16 (gd rfl) rfl rfl (fun c7x1 => ?_) (fun c7x1 => ?_)
    · skip
      have i7x1 := z_lt (-2147483648) (-1) c7x1 (i_rng x1) rfl
      refine g_iconst 0 17 (gd rfl) rfl rfl ?_
      refine g_ireturn (gd rfl) rfl (nb01 (in_w 0 1 (in_c 0 rfl) rfl)) (hp7 _ _ ?_)
      show GG _ _ _ _ _ _ _ _ [.int (Int32.ofInt 0)] _ _ _
      refine g_thr (E := am_IA) (y := yX11_allow) 13 (gd rfl) rfl rfl (Or.inl ⟨rfl, rfl, rfl⟩) (by omega) (Nat.le_of_ble_eq_true rfl) (Nat.le_of_ble_eq_true rfl) (Nat.le_of_ble_eq_true rfl) (fun c10 => ?_) (fun c10 => ?_)
      · skip
        exact zn_ne c10 (in_c 0 rfl) rfl
      · skip
        exact (hX _ _ ⟨rfl, s, hI, fr_rf, rfl⟩)
    · skip
      have i7x1 := z_ge 0 2147483647 c7x1 (i_rng x1) rfl
      refine g_iload_n 5 (gd rfl) rfl rfl ?_
      refine g_aload_n 6 (gd rfl) rfl rfl ?_
      refine g_getI 9 (gd rfl) rfl rfl rfl (fun z7x6 e7x6 => ?_)
      have q7x6 : u_2_1 = z7x6 := (e_2_1).trans e7x6.symm
      subst q7x6
      refine g_cmp_ge 12 16 (gd rfl) rfl rfl (fun c7x9 => ?_) (fun c7x9 => ?_)
      · skip
        refine g_iconst 0 17 (gd rfl) rfl rfl ?_
        refine g_ireturn (gd rfl) rfl (nb01 (in_w 0 1 (in_c 0 rfl) rfl)) (hp7 _ _ ?_)
        show GG _ _ _ _ _ _ _ _ [.int (Int32.ofInt 0)] _ _ _
        refine g_thr (E := am_IA) (y := yX11_allow) 13 (gd rfl) rfl rfl (Or.inl ⟨rfl, rfl, rfl⟩) (by omega) (Nat.le_of_ble_eq_true rfl) (Nat.le_of_ble_eq_true rfl) (Nat.le_of_ble_eq_true rfl) (fun c10 => ?_) (fun c10 => ?_)
        · skip
          exact zn_ne c10 (in_c 0 rfl) rfl
        · skip
          exact (hX _ _ ⟨rfl, s, hI, fr_rf, rfl⟩)
      · skip
        have i7x9 := r_lt1 0 31 c7x9 i7x1 ro_2_1 rfl
        have i7x9a := r_lt2 1 32 c7x9 i7x1 ro_2_1 rfl
        refine g_iconst 1 13 (gd rfl) rfl rfl ?_
        refine g_goto 17 (gd rfl) rfl ?_
        refine g_ireturn (gd rfl) rfl (nb01 (in_w 0 1 (in_c 1 rfl) rfl)) (hp7 _ _ ?_)
        show GG _ _ _ _ _ _ _ _ [.int (Int32.ofInt 1)] _ _ _
        refine g_thr (E := am_IA) (y := yX11_allow) 13 (gd rfl) rfl rfl (Or.inl ⟨rfl, rfl, rfl⟩) (by omega) (Nat.le_of_ble_eq_true rfl) (Nat.le_of_ble_eq_true rfl) (Nat.le_of_ble_eq_true rfl) (fun c10 => ?_) (fun c10 => ?_)
        · skip
          refine g_aload_n 14 (gd rfl) rfl rfl ?_
          refine g_getA (q2 := 60) 17 (gd rfl) rfl rfl rfl rfl ?_
          refine g_aload_n 18 (gd rfl) rfl rfl ?_
          refine g_iload_n 19 (gd rfl) rfl rfl ?_
          refine g_callv (X := _) (As := [.ref (A 2), .int x1]) (r := []) (b := A 60) (q := 60) 22 (gd rfl) rfl rfl rfl rfl rfl (ww_o rfl) (Nat.le_of_ble_eq_true rfl) (mc := 0) (ms := 0) (Nat.zero_le _) (Nat.zero_le _) (P := fun v u => _) ?_ (fun e u h => h) (fun v u h => h)
          intro po19 xx19 hp19 hx19
          refine g_enter2 (k := 43) (N := 300) (by omega) rfl (Nat.le_of_ble_eq_true rfl) ?_
          refine g_aload_n 1 (gd rfl) rfl rfl ?_
          refine g_getI 4 (gd rfl) rfl rfl rfl (fun z19x1 e19x1 => ?_)
          have i19x1 := inv_F hI (-1) 4000 rfl e19x1
          refine g_aload_n 5 (gd rfl) rfl rfl ?_
          refine g_getI 8 (gd rfl) rfl rfl rfl (fun z19x5 e19x5 => ?_)
          have q19x5 : u_2_0 = z19x5 := (e_2_0).trans e19x5.symm
          subst q19x5
          refine g_cmp_eq 11 24 (gd rfl) rfl rfl (fun c19x8 => ?_) (fun c19x8 => ?_)
          · skip
            have i19x8 := r_eq1 0 4000 c19x8 i19x1 ro_2_0 rfl
            refine g_aload_n 25 (gd rfl) rfl rfl ?_
            refine g_getA (q2 := 64) 28 (gd rfl) rfl rfl rfl rfl ?_
            refine g_iload_n 29 (gd rfl) rfl rfl ?_
            refine g_iaload 30 (gd rfl) rfl (n := 32) rfl (in_ix i7x9 rfl) (fun z19x29 e19x29 => ?_)
            have i19x29 := inv_I hI (n := 32) (t := 0) 0 31 rfl (in_ix i7x9 rfl) rfl e19x29
            refine g_ireturn (gd rfl) rfl rfl (hp19 _ _ ?_)
            show GG _ _ _ _ _ _ _ _ [.int z19x29] _ _ _
            exact g_ireturn (gd rfl) rfl rfl (hP _ _ ⟨s, hI, fr_rf, z19x29, rfl, rfl, in_w 0 31 i19x29 rfl⟩)
          · skip
            refine g_aload_n 12 (gd rfl) rfl rfl ?_
            refine g_aload_n 13 (gd rfl) rfl rfl ?_
            refine g_getI 16 (gd rfl) rfl rfl rfl (fun z19x13 e19x13 => ?_)
            have q19x13 : u_2_0 = z19x13 := (e_2_0).trans e19x13.symm
            subst q19x13
            refine g_putI 19 (gd rfl) rfl rfl rfl rfl ?_
            have hI19x16 := inv_sF (q := 60) (j := 2) hI rfl (in_w (-1) 4000 ro_2_0 rfl)
            refine g_aload_n 20 (gd rfl) rfl rfl ?_
            refine g_aload_n 21 (gd rfl) rfl rfl ?_
            refine g_callv (X := _) (As := [.ref (A 2)]) (r := []) (b := A 60) (q := 60) 24 (gd rfl) rfl rfl rfl rfl rfl (ww_o rfl) (Nat.le_of_ble_eq_true rfl) (Nat.zero_le _) (Nat.zero_le _) (k_44_60_2 (by omega) hI19x16 ) (fun e u h => h) (fun v u h => ?_)
            obtain ⟨s19x21, hI19x21, hF19x21, rfl, rfl⟩ := h
            show GG _ _ _ _ _ _ _ _ [] _ _ _
            refine g_aload_n 25 (gd rfl) rfl rfl ?_
            refine g_getA (q2 := 64) 28 (gd rfl) rfl rfl rfl rfl ?_
            refine g_iload_n 29 (gd rfl) rfl rfl ?_
            refine g_iaload 30 (gd rfl) rfl (n := 32) rfl (in_ix i7x9 rfl) (fun z19x29 e19x29 => ?_)
            have i19x29 := inv_I hI19x21 (n := 32) (t := 0) 0 31 rfl (in_ix i7x9 rfl) rfl e19x29
            refine g_ireturn (gd rfl) rfl rfl (hp19 _ _ ?_)
            show GG _ _ _ _ _ _ _ _ [.int z19x29] _ _ _
            exact g_ireturn (gd rfl) rfl rfl (hP _ _ ⟨s19x21, hI19x21, (fr_tr rfl (fr_sF rfl fr_rf) hF19x21), z19x29, rfl, rfl, in_w 0 31 i19x29 rfl⟩)
        · skip
          exact zn_eq c10 (in_c 1 rfl) rfl
