section
/-! methods, by vc.py -/
def fm_175_46_2 : FM := ([48], [], [(46, 9)], [])
/-- GraphHouse$Script.write -/
theorem k_175_46_2 {Z : AmZ} {A : Nat → Nat} {s : GS} {ex : va_W} {d : Nat} {X : AmX}  (hd : 4 ≤ d) (hI : Inv s)  : GC Z d 175 [.ref (A 46), .ref (A 2)] (WW Z A s ++ ex) 0 0 (fun v u => ∃ t : GS, Inv t ∧ Fr fm_175_46_2 s t ∧ ∃ z : Int32, v = some (.int z) ∧ u = WW Z A t ++ ex ∧ In z 0 4608) X := by
  intro post xp hP hX
  obtain ⟨u_2_1, e_2_1⟩ : ∃ w, w = s.2.2.1 2 1 := ⟨_, rfl⟩
  have ro_2_1 := inv_F hI 0 32 rfl e_2_1
  obtain ⟨u_2_3, e_2_3⟩ : ∃ w, w = s.2.2.1 2 3 := ⟨_, rfl⟩
  have ro_2_3 := inv_F hI 0 160 rfl e_2_3
  have ct39 : ∀ (k39 : Nat) (sc39 : GS) (y39_2 : Int32), Inv sc39 → Fr fm_175_46_2 s sc39 → (In y39_2 0 160) → 160 - (y39_2).toInt < (k39 : Int) → GG Z (d - 1) 175 post (gx xp) (1 + k39 * 1801) 39 (fun j => xlook j [(0, .ref (A 46)), (1, .ref (A 2)), (2, .int y39_2)]) [] (WW Z A sc39 ++ ex) 0 0 := by
    intro k39
    induction k39 with
    | zero => intro sc39 y39_2 hIc39 hFc39 j39_2 mm39; exact m_no mm39 j39_2 rfl
    | succ k39 ih39 =>
      intro sc39 y39_2 hIc39 hFc39 j39_2 mm39
      refine gg_w (M := 1 + k39 * 1801 + 1801) gws ?_
      have ct113 : ∀ (sc113 : GS) , Inv sc113 → Fr fm_175_46_2 s sc113 → (In y39_2 0 159) → GG Z (d - 1) 175 post (gx xp) (1 + k39 * 1801 + 901) 113 (fun j => xlook j [(0, .ref (A 46)), (1, .ref (A 2)), (2, .int y39_2)]) [] (WW Z A sc113 ++ ex) 0 0 := by
        intro sc113  hIc113 hFc113 j113_2
        refine g_iinc 116 (gd rfl) rfl rfl (Nat.le_of_ble_eq_true rfl) (fun z113 e113 => ?_)
        have i113 := in_add 1 160 e113 j113_2 (in_c 1 rfl) rfl rfl
        refine g_goto 39 (gd rfl) rfl ?_
        exact gg_w (by first | exact Nat.le_add_right _ _ | exact gw2 | exact gw3 | exact gwe rfl | exact gwf rfl | exact gwg rfl | exact gwh rfl | omega) (gg_f (gf_cons rfl (gf_cons rfl (gf_cons rfl gf_nil))) (ih39 sc113 z113 hIc113 hFc113 (in_w 0 160 i113 rfl) (m_up mm39 (t_add e113 j113_2 (in_c 1 rfl) rfl) (in_w 1 1 (in_c 1 rfl) rfl))))
      refine g_iload_n 40 (gd rfl) rfl rfl ?_
      refine g_aload_n 41 (gd rfl) rfl rfl ?_
      refine g_getI 44 (gd rfl) rfl rfl rfl (fun z41 e41 => ?_)
      have q41 : u_2_3 = z41 := (fr_F e_2_3 hFc39 rfl).trans e41.symm
      subst q41
      refine g_cmp_ge 47 119 (gd rfl) rfl rfl (fun c44 => ?_) (fun c44 => ?_)
      · skip
        refine g_aload_n 120 (gd rfl) rfl rfl ?_
        refine g_getI 123 (gd rfl) rfl rfl rfl (fun z120 e120 => ?_)
        have i120 := inv_F hIc39 0 4608 rfl e120
        exact g_ireturn (gd rfl) rfl rfl (hP _ _ ⟨sc39, hIc39, hFc39, z120, rfl, rfl, in_w 0 4608 i120 rfl⟩)
      · skip
        have i44 := r_lt1 0 159 c44 j39_2 ro_2_3 rfl
        have i44a := r_lt2 1 160 c44 j39_2 ro_2_3 rfl
        refine g_aload_n 48 (gd rfl) rfl rfl ?_
        refine g_getA (q2 := 4) 51 (gd rfl) rfl rfl rfl rfl ?_
        refine g_iload_n 52 (gd rfl) rfl rfl ?_
        refine g_iaload 53 (gd rfl) rfl (n := 160) rfl (in_ix i44 rfl) (fun z52 e52 => ?_)
        have i52 := inv_I hIc39 (n := 160) (t := 0) (-1) 31 rfl (in_ix i44 rfl) rfl e52
        refine g_iconst (-1) 54 (gd rfl) rfl rfl ?_
        refine g_cmp_eq 57 113 (gd rfl) rfl rfl (fun c54 => ?_) (fun c54 => ?_)
        · skip
          have i54 := r_eq1 (-1) (-1) c54 i52 (in_c (-1) rfl) rfl
          exact gg_w (by first | exact Nat.le_add_right _ _ | exact gw2 | exact gw3 | exact gwe rfl | exact gwf rfl | exact gwg rfl | exact gwh rfl | omega) (gg_f (gf_cons rfl (gf_cons rfl (gf_cons rfl gf_nil))) (ct113 sc39  hIc39 hFc39 (in_w 0 159 i44 rfl)))
        · skip
          have i54 := r_ne1 0 31 c54 i52 (in_c (-1) rfl) rfl
          refine g_aload_n 58 (gd rfl) rfl rfl ?_
          refine g_bipush 97 60 (gd rfl) rfl rfl ?_
          refine g_callv (X := _) (As := [.int (Int32.ofInt 97)]) (r := []) (b := A 46) (q := 46) 63 (gd rfl) rfl rfl rfl rfl rfl (ww_o rfl) (Nat.le_of_ble_eq_true rfl) (mc := 0) (ms := 0) (Nat.zero_le _) (Nat.zero_le _) (P := fun v u => _) ?_ (fun e u h => h) (fun v u h => h)
          intro po60 xx60 hp60 hx60
          refine g_enter2 (k := 177) (N := 300) (by first | exact dq1 hd rfl | exact dq0 hd rfl | exact dq2 hd rfl | exact dq3 hd rfl | omega) rfl (Nat.le_of_ble_eq_true rfl) ?_
          refine g_aload_n 1 (gd rfl) rfl rfl ?_
          refine g_getI 4 (gd rfl) rfl rfl rfl (fun z60x1 e60x1 => ?_)
          have i60x1 := inv_F hIc39 0 4608 rfl e60x1
          refine g_aload_n 5 (gd rfl) rfl rfl ?_
          refine g_getA (q2 := 48) 8 (gd rfl) rfl rfl rfl rfl ?_
          refine g_alen (n := 4608) (t := 2) 4608 9 (gd rfl) rfl rfl (Nat.le_of_ble_eq_true rfl) rfl ?_
          refine g_cmp_ge 12 32 (gd rfl) rfl rfl (fun c60x9 => ?_) (fun c60x9 => ?_)
          · skip
            have i60x9 := r_le2 4608 4608 c60x9 (in_c 4608 rfl) i60x1 rfl
            refine g_return (gd rfl) rfl (hp60 _ _ ?_)
            show GG _ _ _ _ _ _ _ _ [] _ _ _
            refine g_aload_n 64 (gd rfl) rfl rfl ?_
            refine g_aload_n 65 (gd rfl) rfl rfl ?_
            refine g_getA (q2 := 4) 68 (gd rfl) rfl rfl rfl rfl ?_
            refine g_iload_n 69 (gd rfl) rfl rfl ?_
            refine g_iaload 70 (gd rfl) rfl (n := 160) rfl (in_ix i44 rfl) (fun z69 e69 => ?_)
            have q69 : z52 = z69 := (e52).trans e69.symm
            subst q69
            refine g_callv (X := _) (As := [.int z52]) (r := []) (b := A 46) (q := 46) 73 (gd rfl) rfl rfl rfl rfl rfl (ww_o rfl) (Nat.le_of_ble_eq_true rfl) (Nat.zero_le _) (Nat.zero_le _) (k_178_46 (by first | exact dq1 hd rfl | exact dq0 hd rfl | exact dq2 hd rfl | exact dq3 hd rfl | omega) hIc39 (in_w (-1000000) 1000000 i54 rfl)) (fun e u h => h) (fun v u h => ?_)
            obtain ⟨s70, hI70, hF70, rfl, rfl⟩ := h
            show GG _ _ _ _ _ _ _ _ [] _ _ _
            refine g_aload_n 74 (gd rfl) rfl rfl ?_
            refine g_aload_n 75 (gd rfl) rfl rfl ?_
            refine g_getA (q2 := 5) 78 (gd rfl) rfl rfl rfl rfl ?_
            refine g_iload_n 79 (gd rfl) rfl rfl ?_
            refine g_iaload 80 (gd rfl) rfl (n := 160) rfl (in_ix i44 rfl) (fun z79 e79 => ?_)
            have i79 := inv_I hI70 (n := 160) (t := 0) 0 31 rfl (in_ix i44 rfl) rfl e79
            refine g_callv (X := _) (As := [.int z79]) (r := []) (b := A 46) (q := 46) 83 (gd rfl) rfl rfl rfl rfl rfl (ww_o rfl) (Nat.le_of_ble_eq_true rfl) (Nat.zero_le _) (Nat.zero_le _) (k_178_46 (by first | exact dq1 hd rfl | exact dq0 hd rfl | exact dq2 hd rfl | exact dq3 hd rfl | omega) hI70 (in_w (-1000000) 1000000 i79 rfl)) (fun e u h => h) (fun v u h => ?_)
            obtain ⟨s80, hI80, hF80, rfl, rfl⟩ := h
            show GG _ _ _ _ _ _ _ _ [] _ _ _
            refine g_aload_n 84 (gd rfl) rfl rfl ?_
            refine g_aload_n 85 (gd rfl) rfl rfl ?_
            refine g_getA (q2 := 6) 88 (gd rfl) rfl rfl rfl rfl ?_
            refine g_iload_n 89 (gd rfl) rfl rfl ?_
            refine g_iaload 90 (gd rfl) rfl (n := 160) rfl (in_ix i44 rfl) (fun z89 e89 => ?_)
            have i89 := inv_I hI80 (n := 160) (t := 0) (-1000000) 1000000 rfl (in_ix i44 rfl) rfl e89
            refine g_callv (X := _) (As := [.int z89]) (r := []) (b := A 46) (q := 46) 93 (gd rfl) rfl rfl rfl rfl rfl (ww_o rfl) (Nat.le_of_ble_eq_true rfl) (Nat.zero_le _) (Nat.zero_le _) (k_178_46 (by first | exact dq1 hd rfl | exact dq0 hd rfl | exact dq2 hd rfl | exact dq3 hd rfl | omega) hI80 (in_w (-1000000) 1000000 i89 rfl)) (fun e u h => h) (fun v u h => ?_)
            obtain ⟨s90, hI90, hF90, rfl, rfl⟩ := h
            show GG _ _ _ _ _ _ _ _ [] _ _ _
            refine g_aload_n 94 (gd rfl) rfl rfl ?_
            refine g_aload_n 95 (gd rfl) rfl rfl ?_
            refine g_getA (q2 := 7) 98 (gd rfl) rfl rfl rfl rfl ?_
            refine g_iload_n 99 (gd rfl) rfl rfl ?_
            refine g_iaload 100 (gd rfl) rfl (n := 160) rfl (in_ix i44 rfl) (fun z99 e99 => ?_)
            have i99 := inv_I hI90 (n := 160) (t := 0) 0 1000000 rfl (in_ix i44 rfl) rfl e99
            refine g_callv (X := _) (As := [.int z99]) (r := []) (b := A 46) (q := 46) 103 (gd rfl) rfl rfl rfl rfl rfl (ww_o rfl) (Nat.le_of_ble_eq_true rfl) (Nat.zero_le _) (Nat.zero_le _) (k_178_46 (by first | exact dq1 hd rfl | exact dq0 hd rfl | exact dq2 hd rfl | exact dq3 hd rfl | omega) hI90 (in_w (-1000000) 1000000 i99 rfl)) (fun e u h => h) (fun v u h => ?_)
            obtain ⟨s100, hI100, hF100, rfl, rfl⟩ := h
            show GG _ _ _ _ _ _ _ _ [] _ _ _
            refine g_aload_n 104 (gd rfl) rfl rfl ?_
            refine g_aload_n 105 (gd rfl) rfl rfl ?_
            refine g_getA (q2 := 8) 108 (gd rfl) rfl rfl rfl rfl ?_
            refine g_iload_n 109 (gd rfl) rfl rfl ?_
            refine g_iaload 110 (gd rfl) rfl (n := 160) rfl (in_ix i44 rfl) (fun z109 e109 => ?_)
            have i109 := inv_I hI100 (n := 160) (t := 0) 0 25 rfl (in_ix i44 rfl) rfl e109
            refine g_callv (X := _) (As := [.int z109]) (r := []) (b := A 46) (q := 46) 113 (gd rfl) rfl rfl rfl rfl rfl (ww_o rfl) (Nat.le_of_ble_eq_true rfl) (mc := 0) (ms := 0) (Nat.zero_le _) (Nat.zero_le _) (P := fun v u => _) ?_ (fun e u h => h) (fun v u h => h)
            intro po110 xx110 hp110 hx110
            refine g_enter2 (k := 176) (N := 300) (by first | exact dq1 hd rfl | exact dq0 hd rfl | exact dq2 hd rfl | exact dq3 hd rfl | omega) rfl (Nat.le_of_ble_eq_true rfl) ?_
            refine g_aload_n 1 (gd rfl) rfl rfl ?_
            refine g_bipush 32 3 (gd rfl) rfl rfl ?_
            refine g_callv (X := _) (As := [.int (Int32.ofInt 32)]) (r := []) (b := A 46) (q := 46) 6 (gd rfl) rfl rfl rfl rfl rfl (ww_o rfl) (Nat.le_of_ble_eq_true rfl) (mc := 0) (ms := 0) (Nat.zero_le _) (Nat.zero_le _) (P := fun v u => _) ?_ (fun e u h => h) (fun v u h => h)
            intro po110x3 xx110x3 hp110x3 hx110x3
            refine g_enter2 (k := 177) (N := 300) (by first | exact dq1 hd rfl | exact dq0 hd rfl | exact dq2 hd rfl | exact dq3 hd rfl | omega) rfl (Nat.le_of_ble_eq_true rfl) ?_
            refine g_aload_n 1 (gd rfl) rfl rfl ?_
            refine g_getI 4 (gd rfl) rfl rfl rfl (fun z110x3x1 e110x3x1 => ?_)
            have i110x3x1 := inv_F hI100 0 4608 rfl e110x3x1
            refine g_aload_n 5 (gd rfl) rfl rfl ?_
            refine g_getA (q2 := 48) 8 (gd rfl) rfl rfl rfl rfl ?_
            refine g_alen (n := 4608) (t := 2) 4608 9 (gd rfl) rfl rfl (Nat.le_of_ble_eq_true rfl) rfl ?_
            refine g_cmp_ge 12 32 (gd rfl) rfl rfl (fun c110x3x9 => ?_) (fun c110x3x9 => ?_)
            · skip
              have i110x3x9 := r_le2 4608 4608 c110x3x9 (in_c 4608 rfl) i110x3x1 rfl
              refine g_return (gd rfl) rfl (hp110x3 _ _ ?_)
              show GG _ _ _ _ _ _ _ _ [] _ _ _
              refine g_aload_n 7 (gd rfl) rfl rfl ?_
              refine g_bipush 97 9 (gd rfl) rfl rfl ?_
              refine g_iload_n 10 (gd rfl) rfl rfl ?_
              refine g_iadd 11 (gd rfl) rfl (fun z110x10 e110x10 => ?_)
              have i110x10 := in_add 97 122 e110x10 (in_c 97 rfl) i109 rfl rfl
              refine g_i2c 12 (gd rfl) rfl (fun z110x11 e110x11 => ?_)
              have i110x11 := in_i2c e110x11
              refine g_callv (X := _) (As := [.int z110x11]) (r := []) (b := A 46) (q := 46) 15 (gd rfl) rfl rfl rfl rfl rfl (ww_o rfl) (Nat.le_of_ble_eq_true rfl) (mc := 0) (ms := 0) (Nat.zero_le _) (Nat.zero_le _) (P := fun v u => _) ?_ (fun e u h => h) (fun v u h => h)
              intro po110x12 xx110x12 hp110x12 hx110x12
              refine g_enter2 (k := 177) (N := 300) (by first | exact dq1 hd rfl | exact dq0 hd rfl | exact dq2 hd rfl | exact dq3 hd rfl | omega) rfl (Nat.le_of_ble_eq_true rfl) ?_
              refine g_aload_n 1 (gd rfl) rfl rfl ?_
              refine g_getI 4 (gd rfl) rfl rfl rfl (fun z110x12x1 e110x12x1 => ?_)
              have q110x12x1 : z110x3x1 = z110x12x1 := (e110x3x1).trans e110x12x1.symm
              subst q110x12x1
              refine g_aload_n 5 (gd rfl) rfl rfl ?_
              refine g_getA (q2 := 48) 8 (gd rfl) rfl rfl rfl rfl ?_
              refine g_alen (n := 4608) (t := 2) 4608 9 (gd rfl) rfl rfl (Nat.le_of_ble_eq_true rfl) rfl ?_
              refine g_cmp_ge 12 32 (gd rfl) rfl rfl (fun c110x12x9 => ?_) (fun c110x12x9 => ?_)
              · skip
                refine g_return (gd rfl) rfl (hp110x12 _ _ ?_)
                show GG _ _ _ _ _ _ _ _ [] _ _ _
                refine g_aload_n 16 (gd rfl) rfl rfl ?_
                refine g_bipush 59 18 (gd rfl) rfl rfl ?_
                refine g_callv (X := _) (As := [.int (Int32.ofInt 59)]) (r := []) (b := A 46) (q := 46) 21 (gd rfl) rfl rfl rfl rfl rfl (ww_o rfl) (Nat.le_of_ble_eq_true rfl) (mc := 0) (ms := 0) (Nat.zero_le _) (Nat.zero_le _) (P := fun v u => _) ?_ (fun e u h => h) (fun v u h => h)
                intro po110x18 xx110x18 hp110x18 hx110x18
                refine g_enter2 (k := 177) (N := 300) (by first | exact dq1 hd rfl | exact dq0 hd rfl | exact dq2 hd rfl | exact dq3 hd rfl | omega) rfl (Nat.le_of_ble_eq_true rfl) ?_
                refine g_aload_n 1 (gd rfl) rfl rfl ?_
                refine g_getI 4 (gd rfl) rfl rfl rfl (fun z110x18x1 e110x18x1 => ?_)
                have q110x18x1 : z110x3x1 = z110x18x1 := (e110x3x1).trans e110x18x1.symm
                subst q110x18x1
                refine g_aload_n 5 (gd rfl) rfl rfl ?_
                refine g_getA (q2 := 48) 8 (gd rfl) rfl rfl rfl rfl ?_
                refine g_alen (n := 4608) (t := 2) 4608 9 (gd rfl) rfl rfl (Nat.le_of_ble_eq_true rfl) rfl ?_
                refine g_cmp_ge 12 32 (gd rfl) rfl rfl (fun c110x18x9 => ?_) (fun c110x18x9 => ?_)
                · skip
                  refine g_return (gd rfl) rfl (hp110x18 _ _ ?_)
                  show GG _ _ _ _ _ _ _ _ [] _ _ _
                  refine g_return (gd rfl) rfl (hp110 _ _ ?_)
                  show GG _ _ _ _ _ _ _ _ [] _ _ _
                  exact gg_w (by first | exact Nat.le_add_right _ _ | exact gw2 | exact gw3 | exact gwe rfl | exact gwf rfl | exact gwg rfl | exact gwh rfl | omega) (gg_f (gf_cons rfl (gf_cons rfl (gf_cons rfl gf_nil))) (ct113 s100  hI100 (fr_tr rfl (fr_tr rfl (fr_tr rfl (fr_tr rfl hFc39 hF70) hF80) hF90) hF100) (in_w 0 159 i44 rfl)))
                · skip
                  exact n_lt c110x18x9 i110x3x9 (in_c 4608 rfl) rfl
              · skip
                exact n_lt c110x12x9 i110x3x9 (in_c 4608 rfl) rfl
            · skip
              have i110x3x9 := r_lt1 0 4607 c110x3x9 i110x3x1 (in_c 4608 rfl) rfl
              refine g_aload_n 13 (gd rfl) rfl rfl ?_
              refine g_getA (q2 := 48) 16 (gd rfl) rfl rfl rfl rfl ?_
              refine g_aload_n 17 (gd rfl) rfl rfl ?_
              refine g_getI 20 (gd rfl) rfl rfl rfl (fun z110x3x17 e110x3x17 => ?_)
              have q110x3x17 : z110x3x1 = z110x3x17 := (e110x3x1).trans e110x3x17.symm
              subst q110x3x17
              refine g_iload_n 21 (gd rfl) rfl rfl ?_
              refine g_castore 22 (gd rfl) rfl (n := 4608) rfl (in_ix i110x3x9 rfl) ?_
              have hI110x3x21 := inv_sI (q := 48) (j := z110x3x1.toNatClampNeg) hI100 rfl (in_w 0 65535 (nar_c (Int32.ofInt 32)) rfl)
              refine g_aload_n 23 (gd rfl) rfl rfl ?_
              refine g_dup 24 (gd rfl) rfl rfl ?_
              refine g_getI 27 (gd rfl) rfl rfl rfl (fun z110x3x24 e110x3x24 => ?_)
              have q110x3x24 : z110x3x1 = z110x3x24 := (sI_F (e110x3x1)).trans e110x3x24.symm
              subst q110x3x24
              refine g_iconst 1 28 (gd rfl) rfl rfl ?_
              refine g_iadd 29 (gd rfl) rfl (fun z110x3x28 e110x3x28 => ?_)
              have i110x3x28 := in_add 1 4608 e110x3x28 i110x3x9 (in_c 1 rfl) rfl rfl
              refine g_putI 32 (gd rfl) rfl rfl rfl rfl ?_
              have hI110x3x29 := inv_sF (q := 46) (j := 9) hI110x3x21 rfl (in_w 0 4608 i110x3x28 rfl)
              refine g_return (gd rfl) rfl (hp110x3 _ _ ?_)
              show GG _ _ _ _ _ _ _ _ [] _ _ _
              refine g_aload_n 7 (gd rfl) rfl rfl ?_
              refine g_bipush 97 9 (gd rfl) rfl rfl ?_
              refine g_iload_n 10 (gd rfl) rfl rfl ?_
              refine g_iadd 11 (gd rfl) rfl (fun z110x10 e110x10 => ?_)
              have i110x10 := in_add 97 122 e110x10 (in_c 97 rfl) i109 rfl rfl
              refine g_i2c 12 (gd rfl) rfl (fun z110x11 e110x11 => ?_)
              have i110x11 := in_i2c e110x11
              refine g_callv (X := _) (As := [.int z110x11]) (r := []) (b := A 46) (q := 46) 15 (gd rfl) rfl rfl rfl rfl rfl (ww_o rfl) (Nat.le_of_ble_eq_true rfl) (mc := 0) (ms := 0) (Nat.zero_le _) (Nat.zero_le _) (P := fun v u => _) ?_ (fun e u h => h) (fun v u h => h)
              intro po110x12 xx110x12 hp110x12 hx110x12
              refine g_enter2 (k := 177) (N := 300) (by first | exact dq1 hd rfl | exact dq0 hd rfl | exact dq2 hd rfl | exact dq3 hd rfl | omega) rfl (Nat.le_of_ble_eq_true rfl) ?_
              refine g_aload_n 1 (gd rfl) rfl rfl ?_
              refine g_getI 4 (gd rfl) rfl rfl rfl (fun z110x12x1 e110x12x1 => ?_)
              have q110x12x1 : z110x3x28 = z110x12x1 := (sF_get).trans e110x12x1.symm
              subst q110x12x1
              refine g_aload_n 5 (gd rfl) rfl rfl ?_
              refine g_getA (q2 := 48) 8 (gd rfl) rfl rfl rfl rfl ?_
              refine g_alen (n := 4608) (t := 2) 4608 9 (gd rfl) rfl rfl (Nat.le_of_ble_eq_true rfl) rfl ?_
              refine g_cmp_ge 12 32 (gd rfl) rfl rfl (fun c110x12x9 => ?_) (fun c110x12x9 => ?_)
              · skip
                have i110x12x9 := r_le2 4608 4608 c110x12x9 (in_c 4608 rfl) i110x3x28 rfl
                refine g_return (gd rfl) rfl (hp110x12 _ _ ?_)
                show GG _ _ _ _ _ _ _ _ [] _ _ _
                refine g_aload_n 16 (gd rfl) rfl rfl ?_
                refine g_bipush 59 18 (gd rfl) rfl rfl ?_
                refine g_callv (X := _) (As := [.int (Int32.ofInt 59)]) (r := []) (b := A 46) (q := 46) 21 (gd rfl) rfl rfl rfl rfl rfl (ww_o rfl) (Nat.le_of_ble_eq_true rfl) (mc := 0) (ms := 0) (Nat.zero_le _) (Nat.zero_le _) (P := fun v u => _) ?_ (fun e u h => h) (fun v u h => h)
                intro po110x18 xx110x18 hp110x18 hx110x18
                refine g_enter2 (k := 177) (N := 300) (by first | exact dq1 hd rfl | exact dq0 hd rfl | exact dq2 hd rfl | exact dq3 hd rfl | omega) rfl (Nat.le_of_ble_eq_true rfl) ?_
                refine g_aload_n 1 (gd rfl) rfl rfl ?_
                refine g_getI 4 (gd rfl) rfl rfl rfl (fun z110x18x1 e110x18x1 => ?_)
                have q110x18x1 : z110x3x28 = z110x18x1 := (sF_get).trans e110x18x1.symm
                subst q110x18x1
                refine g_aload_n 5 (gd rfl) rfl rfl ?_
                refine g_getA (q2 := 48) 8 (gd rfl) rfl rfl rfl rfl ?_
                refine g_alen (n := 4608) (t := 2) 4608 9 (gd rfl) rfl rfl (Nat.le_of_ble_eq_true rfl) rfl ?_
                refine g_cmp_ge 12 32 (gd rfl) rfl rfl (fun c110x18x9 => ?_) (fun c110x18x9 => ?_)
                · skip
                  refine g_return (gd rfl) rfl (hp110x18 _ _ ?_)
                  show GG _ _ _ _ _ _ _ _ [] _ _ _
                  refine g_return (gd rfl) rfl (hp110 _ _ ?_)
                  show GG _ _ _ _ _ _ _ _ [] _ _ _
                  exact gg_w (by first | exact Nat.le_add_right _ _ | exact gw2 | exact gw3 | exact gwe rfl | exact gwf rfl | exact gwg rfl | exact gwh rfl | omega) (gg_f (gf_cons rfl (gf_cons rfl (gf_cons rfl gf_nil))) (ct113 (sF (sI s100 48 z110x3x1.toNatClampNeg (vp_nar .char (Int32.ofInt 32))) 46 9 z110x3x28)  hI110x3x29 (fr_sF rfl (fr_sI rfl (fr_tr rfl (fr_tr rfl (fr_tr rfl (fr_tr rfl hFc39 hF70) hF80) hF90) hF100))) (in_w 0 159 i44 rfl)))
                · skip
                  exact n_lt c110x18x9 i110x12x9 (in_c 4608 rfl) rfl
              · skip
                have i110x12x9 := r_lt1 1 4607 c110x12x9 i110x3x28 (in_c 4608 rfl) rfl
                refine g_aload_n 13 (gd rfl) rfl rfl ?_
                refine g_getA (q2 := 48) 16 (gd rfl) rfl rfl rfl rfl ?_
                refine g_aload_n 17 (gd rfl) rfl rfl ?_
                refine g_getI 20 (gd rfl) rfl rfl rfl (fun z110x12x17 e110x12x17 => ?_)
                have q110x12x17 : z110x3x28 = z110x12x17 := (sF_get).trans e110x12x17.symm
                subst q110x12x17
                refine g_iload_n 21 (gd rfl) rfl rfl ?_
                refine g_castore 22 (gd rfl) rfl (n := 4608) rfl (in_ix i110x12x9 rfl) ?_
                have hI110x12x21 := inv_sI (q := 48) (j := z110x3x28.toNatClampNeg) hI110x3x29 rfl (in_w 0 65535 (nar_c z110x11) rfl)
                refine g_aload_n 23 (gd rfl) rfl rfl ?_
                refine g_dup 24 (gd rfl) rfl rfl ?_
                refine g_getI 27 (gd rfl) rfl rfl rfl (fun z110x12x24 e110x12x24 => ?_)
                have q110x12x24 : z110x3x28 = z110x12x24 := (sI_F (sF_get)).trans e110x12x24.symm
                subst q110x12x24
                refine g_iconst 1 28 (gd rfl) rfl rfl ?_
                refine g_iadd 29 (gd rfl) rfl (fun z110x12x28 e110x12x28 => ?_)
                have i110x12x28 := in_add 2 4608 e110x12x28 i110x12x9 (in_c 1 rfl) rfl rfl
                refine g_putI 32 (gd rfl) rfl rfl rfl rfl ?_
                have hI110x12x29 := inv_sF (q := 46) (j := 9) hI110x12x21 rfl (in_w 0 4608 i110x12x28 rfl)
                refine g_return (gd rfl) rfl (hp110x12 _ _ ?_)
                show GG _ _ _ _ _ _ _ _ [] _ _ _
                refine g_aload_n 16 (gd rfl) rfl rfl ?_
                refine g_bipush 59 18 (gd rfl) rfl rfl ?_
                refine g_callv (X := _) (As := [.int (Int32.ofInt 59)]) (r := []) (b := A 46) (q := 46) 21 (gd rfl) rfl rfl rfl rfl rfl (ww_o rfl) (Nat.le_of_ble_eq_true rfl) (mc := 0) (ms := 0) (Nat.zero_le _) (Nat.zero_le _) (P := fun v u => _) ?_ (fun e u h => h) (fun v u h => h)
                intro po110x18 xx110x18 hp110x18 hx110x18
                refine g_enter2 (k := 177) (N := 300) (by first | exact dq1 hd rfl | exact dq0 hd rfl | exact dq2 hd rfl | exact dq3 hd rfl | omega) rfl (Nat.le_of_ble_eq_true rfl) ?_
                refine g_aload_n 1 (gd rfl) rfl rfl ?_
                refine g_getI 4 (gd rfl) rfl rfl rfl (fun z110x18x1 e110x18x1 => ?_)
                have q110x18x1 : z110x12x28 = z110x18x1 := (sF_get).trans e110x18x1.symm
                subst q110x18x1
                refine g_aload_n 5 (gd rfl) rfl rfl ?_
                refine g_getA (q2 := 48) 8 (gd rfl) rfl rfl rfl rfl ?_
                refine g_alen (n := 4608) (t := 2) 4608 9 (gd rfl) rfl rfl (Nat.le_of_ble_eq_true rfl) rfl ?_
                refine g_cmp_ge 12 32 (gd rfl) rfl rfl (fun c110x18x9 => ?_) (fun c110x18x9 => ?_)
                · skip
                  have i110x18x9 := r_le2 4608 4608 c110x18x9 (in_c 4608 rfl) i110x12x28 rfl
                  refine g_return (gd rfl) rfl (hp110x18 _ _ ?_)
                  show GG _ _ _ _ _ _ _ _ [] _ _ _
                  refine g_return (gd rfl) rfl (hp110 _ _ ?_)
                  show GG _ _ _ _ _ _ _ _ [] _ _ _
                  exact gg_w (by first | exact Nat.le_add_right _ _ | exact gw2 | exact gw3 | exact gwe rfl | exact gwf rfl | exact gwg rfl | exact gwh rfl | omega) (gg_f (gf_cons rfl (gf_cons rfl (gf_cons rfl gf_nil))) (ct113 (sF (sI (sF (sI s100 48 z110x3x1.toNatClampNeg (vp_nar .char (Int32.ofInt 32))) 46 9 z110x3x28) 48 z110x3x28.toNatClampNeg (vp_nar .char z110x11)) 46 9 z110x12x28)  hI110x12x29 (fr_sF rfl (fr_sI rfl (fr_sF rfl (fr_sI rfl (fr_tr rfl (fr_tr rfl (fr_tr rfl (fr_tr rfl hFc39 hF70) hF80) hF90) hF100))))) (in_w 0 159 i44 rfl)))
                · skip
                  have i110x18x9 := r_lt1 2 4607 c110x18x9 i110x12x28 (in_c 4608 rfl) rfl
                  refine g_aload_n 13 (gd rfl) rfl rfl ?_
                  refine g_getA (q2 := 48) 16 (gd rfl) rfl rfl rfl rfl ?_
                  refine g_aload_n 17 (gd rfl) rfl rfl ?_
                  refine g_getI 20 (gd rfl) rfl rfl rfl (fun z110x18x17 e110x18x17 => ?_)
                  have q110x18x17 : z110x12x28 = z110x18x17 := (sF_get).trans e110x18x17.symm
                  subst q110x18x17
                  refine g_iload_n 21 (gd rfl) rfl rfl ?_
                  refine g_castore 22 (gd rfl) rfl (n := 4608) rfl (in_ix i110x18x9 rfl) ?_
                  have hI110x18x21 := inv_sI (q := 48) (j := z110x12x28.toNatClampNeg) hI110x12x29 rfl (in_w 0 65535 (nar_c (Int32.ofInt 59)) rfl)
                  refine g_aload_n 23 (gd rfl) rfl rfl ?_
                  refine g_dup 24 (gd rfl) rfl rfl ?_
                  refine g_getI 27 (gd rfl) rfl rfl rfl (fun z110x18x24 e110x18x24 => ?_)
                  have q110x18x24 : z110x12x28 = z110x18x24 := (sI_F (sF_get)).trans e110x18x24.symm
                  subst q110x18x24
                  refine g_iconst 1 28 (gd rfl) rfl rfl ?_
                  refine g_iadd 29 (gd rfl) rfl (fun z110x18x28 e110x18x28 => ?_)
                  have i110x18x28 := in_add 3 4608 e110x18x28 i110x18x9 (in_c 1 rfl) rfl rfl
                  refine g_putI 32 (gd rfl) rfl rfl rfl rfl ?_
                  have hI110x18x29 := inv_sF (q := 46) (j := 9) hI110x18x21 rfl (in_w 0 4608 i110x18x28 rfl)
                  refine g_return (gd rfl) rfl (hp110x18 _ _ ?_)
                  show GG _ _ _ _ _ _ _ _ [] _ _ _
                  refine g_return (gd rfl) rfl (hp110 _ _ ?_)
                  show GG _ _ _ _ _ _ _ _ [] _ _ _
                  exact gg_w (by first | exact Nat.le_add_right _ _ | exact gw2 | exact gw3 | exact gwe rfl | exact gwf rfl | exact gwg rfl | exact gwh rfl | omega) (gg_f (gf_cons rfl (gf_cons rfl (gf_cons rfl gf_nil))) (ct113 (sF (sI (sF (sI (sF (sI s100 48 z110x3x1.toNatClampNeg (vp_nar .char (Int32.ofInt 32))) 46 9 z110x3x28) 48 z110x3x28.toNatClampNeg (vp_nar .char z110x11)) 46 9 z110x12x28) 48 z110x12x28.toNatClampNeg (vp_nar .char (Int32.ofInt 59))) 46 9 z110x18x28)  hI110x18x29 (fr_sF rfl (fr_sI rfl (fr_sF rfl (fr_sI rfl (fr_sF rfl (fr_sI rfl (fr_tr rfl (fr_tr rfl (fr_tr rfl (fr_tr rfl hFc39 hF70) hF80) hF90) hF100))))))) (in_w 0 159 i44 rfl)))
          · skip
            have i60x9 := r_lt1 0 4607 c60x9 i60x1 (in_c 4608 rfl) rfl
            refine g_aload_n 13 (gd rfl) rfl rfl ?_
            refine g_getA (q2 := 48) 16 (gd rfl) rfl rfl rfl rfl ?_
            refine g_aload_n 17 (gd rfl) rfl rfl ?_
            refine g_getI 20 (gd rfl) rfl rfl rfl (fun z60x17 e60x17 => ?_)
            have q60x17 : z60x1 = z60x17 := (e60x1).trans e60x17.symm
            subst q60x17
            refine g_iload_n 21 (gd rfl) rfl rfl ?_
            refine g_castore 22 (gd rfl) rfl (n := 4608) rfl (in_ix i60x9 rfl) ?_
            have hI60x21 := inv_sI (q := 48) (j := z60x1.toNatClampNeg) hIc39 rfl (in_w 0 65535 (nar_c (Int32.ofInt 97)) rfl)
            refine g_aload_n 23 (gd rfl) rfl rfl ?_
            refine g_dup 24 (gd rfl) rfl rfl ?_
            refine g_getI 27 (gd rfl) rfl rfl rfl (fun z60x24 e60x24 => ?_)
            have q60x24 : z60x1 = z60x24 := (sI_F (e60x1)).trans e60x24.symm
            subst q60x24
            refine g_iconst 1 28 (gd rfl) rfl rfl ?_
            refine g_iadd 29 (gd rfl) rfl (fun z60x28 e60x28 => ?_)
            have i60x28 := in_add 1 4608 e60x28 i60x9 (in_c 1 rfl) rfl rfl
            refine g_putI 32 (gd rfl) rfl rfl rfl rfl ?_
            have hI60x29 := inv_sF (q := 46) (j := 9) hI60x21 rfl (in_w 0 4608 i60x28 rfl)
            refine g_return (gd rfl) rfl (hp60 _ _ ?_)
            show GG _ _ _ _ _ _ _ _ [] _ _ _
            refine g_aload_n 64 (gd rfl) rfl rfl ?_
            refine g_aload_n 65 (gd rfl) rfl rfl ?_
            refine g_getA (q2 := 4) 68 (gd rfl) rfl rfl rfl rfl ?_
            refine g_iload_n 69 (gd rfl) rfl rfl ?_
            refine g_iaload 70 (gd rfl) rfl (n := 160) rfl (in_ix i44 rfl) (fun z69 e69 => ?_)
            have q69 : z52 = z69 := (sF_I (sI_ne rfl (e52))).trans e69.symm
            subst q69
            refine g_callv (X := _) (As := [.int z52]) (r := []) (b := A 46) (q := 46) 73 (gd rfl) rfl rfl rfl rfl rfl (ww_o rfl) (Nat.le_of_ble_eq_true rfl) (Nat.zero_le _) (Nat.zero_le _) (k_178_46 (by first | exact dq1 hd rfl | exact dq0 hd rfl | exact dq2 hd rfl | exact dq3 hd rfl | omega) hI60x29 (in_w (-1000000) 1000000 i54 rfl)) (fun e u h => h) (fun v u h => ?_)
            obtain ⟨s70, hI70, hF70, rfl, rfl⟩ := h
            show GG _ _ _ _ _ _ _ _ [] _ _ _
            refine g_aload_n 74 (gd rfl) rfl rfl ?_
            refine g_aload_n 75 (gd rfl) rfl rfl ?_
            refine g_getA (q2 := 5) 78 (gd rfl) rfl rfl rfl rfl ?_
            refine g_iload_n 79 (gd rfl) rfl rfl ?_
            refine g_iaload 80 (gd rfl) rfl (n := 160) rfl (in_ix i44 rfl) (fun z79 e79 => ?_)
            have i79 := inv_I hI70 (n := 160) (t := 0) 0 31 rfl (in_ix i44 rfl) rfl e79
            refine g_callv (X := _) (As := [.int z79]) (r := []) (b := A 46) (q := 46) 83 (gd rfl) rfl rfl rfl rfl rfl (ww_o rfl) (Nat.le_of_ble_eq_true rfl) (Nat.zero_le _) (Nat.zero_le _) (k_178_46 (by first | exact dq1 hd rfl | exact dq0 hd rfl | exact dq2 hd rfl | exact dq3 hd rfl | omega) hI70 (in_w (-1000000) 1000000 i79 rfl)) (fun e u h => h) (fun v u h => ?_)
            obtain ⟨s80, hI80, hF80, rfl, rfl⟩ := h
            show GG _ _ _ _ _ _ _ _ [] _ _ _
            refine g_aload_n 84 (gd rfl) rfl rfl ?_
            refine g_aload_n 85 (gd rfl) rfl rfl ?_
            refine g_getA (q2 := 6) 88 (gd rfl) rfl rfl rfl rfl ?_
            refine g_iload_n 89 (gd rfl) rfl rfl ?_
            refine g_iaload 90 (gd rfl) rfl (n := 160) rfl (in_ix i44 rfl) (fun z89 e89 => ?_)
            have i89 := inv_I hI80 (n := 160) (t := 0) (-1000000) 1000000 rfl (in_ix i44 rfl) rfl e89
            refine g_callv (X := _) (As := [.int z89]) (r := []) (b := A 46) (q := 46) 93 (gd rfl) rfl rfl rfl rfl rfl (ww_o rfl) (Nat.le_of_ble_eq_true rfl) (Nat.zero_le _) (Nat.zero_le _) (k_178_46 (by first | exact dq1 hd rfl | exact dq0 hd rfl | exact dq2 hd rfl | exact dq3 hd rfl | omega) hI80 (in_w (-1000000) 1000000 i89 rfl)) (fun e u h => h) (fun v u h => ?_)
            obtain ⟨s90, hI90, hF90, rfl, rfl⟩ := h
            show GG _ _ _ _ _ _ _ _ [] _ _ _
            refine g_aload_n 94 (gd rfl) rfl rfl ?_
            refine g_aload_n 95 (gd rfl) rfl rfl ?_
            refine g_getA (q2 := 7) 98 (gd rfl) rfl rfl rfl rfl ?_
            refine g_iload_n 99 (gd rfl) rfl rfl ?_
            refine g_iaload 100 (gd rfl) rfl (n := 160) rfl (in_ix i44 rfl) (fun z99 e99 => ?_)
            have i99 := inv_I hI90 (n := 160) (t := 0) 0 1000000 rfl (in_ix i44 rfl) rfl e99
            refine g_callv (X := _) (As := [.int z99]) (r := []) (b := A 46) (q := 46) 103 (gd rfl) rfl rfl rfl rfl rfl (ww_o rfl) (Nat.le_of_ble_eq_true rfl) (Nat.zero_le _) (Nat.zero_le _) (k_178_46 (by first | exact dq1 hd rfl | exact dq0 hd rfl | exact dq2 hd rfl | exact dq3 hd rfl | omega) hI90 (in_w (-1000000) 1000000 i99 rfl)) (fun e u h => h) (fun v u h => ?_)
            obtain ⟨s100, hI100, hF100, rfl, rfl⟩ := h
            show GG _ _ _ _ _ _ _ _ [] _ _ _
            refine g_aload_n 104 (gd rfl) rfl rfl ?_
            refine g_aload_n 105 (gd rfl) rfl rfl ?_
            refine g_getA (q2 := 8) 108 (gd rfl) rfl rfl rfl rfl ?_
            refine g_iload_n 109 (gd rfl) rfl rfl ?_
            refine g_iaload 110 (gd rfl) rfl (n := 160) rfl (in_ix i44 rfl) (fun z109 e109 => ?_)
            have i109 := inv_I hI100 (n := 160) (t := 0) 0 25 rfl (in_ix i44 rfl) rfl e109
            refine g_callv (X := _) (As := [.int z109]) (r := []) (b := A 46) (q := 46) 113 (gd rfl) rfl rfl rfl rfl rfl (ww_o rfl) (Nat.le_of_ble_eq_true rfl) (mc := 0) (ms := 0) (Nat.zero_le _) (Nat.zero_le _) (P := fun v u => _) ?_ (fun e u h => h) (fun v u h => h)
            intro po110 xx110 hp110 hx110
            refine g_enter2 (k := 176) (N := 300) (by first | exact dq1 hd rfl | exact dq0 hd rfl | exact dq2 hd rfl | exact dq3 hd rfl | omega) rfl (Nat.le_of_ble_eq_true rfl) ?_
            refine g_aload_n 1 (gd rfl) rfl rfl ?_
            refine g_bipush 32 3 (gd rfl) rfl rfl ?_
            refine g_callv (X := _) (As := [.int (Int32.ofInt 32)]) (r := []) (b := A 46) (q := 46) 6 (gd rfl) rfl rfl rfl rfl rfl (ww_o rfl) (Nat.le_of_ble_eq_true rfl) (mc := 0) (ms := 0) (Nat.zero_le _) (Nat.zero_le _) (P := fun v u => _) ?_ (fun e u h => h) (fun v u h => h)
            intro po110x3 xx110x3 hp110x3 hx110x3
            refine g_enter2 (k := 177) (N := 300) (by first | exact dq1 hd rfl | exact dq0 hd rfl | exact dq2 hd rfl | exact dq3 hd rfl | omega) rfl (Nat.le_of_ble_eq_true rfl) ?_
            refine g_aload_n 1 (gd rfl) rfl rfl ?_
            refine g_getI 4 (gd rfl) rfl rfl rfl (fun z110x3x1 e110x3x1 => ?_)
            have i110x3x1 := inv_F hI100 0 4608 rfl e110x3x1
            refine g_aload_n 5 (gd rfl) rfl rfl ?_
            refine g_getA (q2 := 48) 8 (gd rfl) rfl rfl rfl rfl ?_
            refine g_alen (n := 4608) (t := 2) 4608 9 (gd rfl) rfl rfl (Nat.le_of_ble_eq_true rfl) rfl ?_
            refine g_cmp_ge 12 32 (gd rfl) rfl rfl (fun c110x3x9 => ?_) (fun c110x3x9 => ?_)
            · skip
              have i110x3x9 := r_le2 4608 4608 c110x3x9 (in_c 4608 rfl) i110x3x1 rfl
              refine g_return (gd rfl) rfl (hp110x3 _ _ ?_)
              show GG _ _ _ _ _ _ _ _ [] _ _ _
              refine g_aload_n 7 (gd rfl) rfl rfl ?_
              refine g_bipush 97 9 (gd rfl) rfl rfl ?_
              refine g_iload_n 10 (gd rfl) rfl rfl ?_
              refine g_iadd 11 (gd rfl) rfl (fun z110x10 e110x10 => ?_)
              have i110x10 := in_add 97 122 e110x10 (in_c 97 rfl) i109 rfl rfl
              refine g_i2c 12 (gd rfl) rfl (fun z110x11 e110x11 => ?_)
              have i110x11 := in_i2c e110x11
              refine g_callv (X := _) (As := [.int z110x11]) (r := []) (b := A 46) (q := 46) 15 (gd rfl) rfl rfl rfl rfl rfl (ww_o rfl) (Nat.le_of_ble_eq_true rfl) (mc := 0) (ms := 0) (Nat.zero_le _) (Nat.zero_le _) (P := fun v u => _) ?_ (fun e u h => h) (fun v u h => h)
              intro po110x12 xx110x12 hp110x12 hx110x12
              refine g_enter2 (k := 177) (N := 300) (by first | exact dq1 hd rfl | exact dq0 hd rfl | exact dq2 hd rfl | exact dq3 hd rfl | omega) rfl (Nat.le_of_ble_eq_true rfl) ?_
              refine g_aload_n 1 (gd rfl) rfl rfl ?_
              refine g_getI 4 (gd rfl) rfl rfl rfl (fun z110x12x1 e110x12x1 => ?_)
              have q110x12x1 : z110x3x1 = z110x12x1 := (e110x3x1).trans e110x12x1.symm
              subst q110x12x1
              refine g_aload_n 5 (gd rfl) rfl rfl ?_
              refine g_getA (q2 := 48) 8 (gd rfl) rfl rfl rfl rfl ?_
              refine g_alen (n := 4608) (t := 2) 4608 9 (gd rfl) rfl rfl (Nat.le_of_ble_eq_true rfl) rfl ?_
              refine g_cmp_ge 12 32 (gd rfl) rfl rfl (fun c110x12x9 => ?_) (fun c110x12x9 => ?_)
              · skip
                refine g_return (gd rfl) rfl (hp110x12 _ _ ?_)
                show GG _ _ _ _ _ _ _ _ [] _ _ _
                refine g_aload_n 16 (gd rfl) rfl rfl ?_
                refine g_bipush 59 18 (gd rfl) rfl rfl ?_
                refine g_callv (X := _) (As := [.int (Int32.ofInt 59)]) (r := []) (b := A 46) (q := 46) 21 (gd rfl) rfl rfl rfl rfl rfl (ww_o rfl) (Nat.le_of_ble_eq_true rfl) (mc := 0) (ms := 0) (Nat.zero_le _) (Nat.zero_le _) (P := fun v u => _) ?_ (fun e u h => h) (fun v u h => h)
                intro po110x18 xx110x18 hp110x18 hx110x18
                refine g_enter2 (k := 177) (N := 300) (by first | exact dq1 hd rfl | exact dq0 hd rfl | exact dq2 hd rfl | exact dq3 hd rfl | omega) rfl (Nat.le_of_ble_eq_true rfl) ?_
                refine g_aload_n 1 (gd rfl) rfl rfl ?_
                refine g_getI 4 (gd rfl) rfl rfl rfl (fun z110x18x1 e110x18x1 => ?_)
                have q110x18x1 : z110x3x1 = z110x18x1 := (e110x3x1).trans e110x18x1.symm
                subst q110x18x1
                refine g_aload_n 5 (gd rfl) rfl rfl ?_
                refine g_getA (q2 := 48) 8 (gd rfl) rfl rfl rfl rfl ?_
                refine g_alen (n := 4608) (t := 2) 4608 9 (gd rfl) rfl rfl (Nat.le_of_ble_eq_true rfl) rfl ?_
                refine g_cmp_ge 12 32 (gd rfl) rfl rfl (fun c110x18x9 => ?_) (fun c110x18x9 => ?_)
                · skip
                  refine g_return (gd rfl) rfl (hp110x18 _ _ ?_)
                  show GG _ _ _ _ _ _ _ _ [] _ _ _
                  refine g_return (gd rfl) rfl (hp110 _ _ ?_)
                  show GG _ _ _ _ _ _ _ _ [] _ _ _
                  exact gg_w (by first | exact Nat.le_add_right _ _ | exact gw2 | exact gw3 | exact gwe rfl | exact gwf rfl | exact gwg rfl | exact gwh rfl | omega) (gg_f (gf_cons rfl (gf_cons rfl (gf_cons rfl gf_nil))) (ct113 s100  hI100 (fr_tr rfl (fr_tr rfl (fr_tr rfl (fr_tr rfl (fr_sF rfl (fr_sI rfl hFc39)) hF70) hF80) hF90) hF100) (in_w 0 159 i44 rfl)))
                · skip
                  exact n_lt c110x18x9 i110x3x9 (in_c 4608 rfl) rfl
              · skip
                exact n_lt c110x12x9 i110x3x9 (in_c 4608 rfl) rfl
            · skip
              have i110x3x9 := r_lt1 0 4607 c110x3x9 i110x3x1 (in_c 4608 rfl) rfl
              refine g_aload_n 13 (gd rfl) rfl rfl ?_
              refine g_getA (q2 := 48) 16 (gd rfl) rfl rfl rfl rfl ?_
              refine g_aload_n 17 (gd rfl) rfl rfl ?_
              refine g_getI 20 (gd rfl) rfl rfl rfl (fun z110x3x17 e110x3x17 => ?_)
              have q110x3x17 : z110x3x1 = z110x3x17 := (e110x3x1).trans e110x3x17.symm
              subst q110x3x17
              refine g_iload_n 21 (gd rfl) rfl rfl ?_
              refine g_castore 22 (gd rfl) rfl (n := 4608) rfl (in_ix i110x3x9 rfl) ?_
              have hI110x3x21 := inv_sI (q := 48) (j := z110x3x1.toNatClampNeg) hI100 rfl (in_w 0 65535 (nar_c (Int32.ofInt 32)) rfl)
              refine g_aload_n 23 (gd rfl) rfl rfl ?_
              refine g_dup 24 (gd rfl) rfl rfl ?_
              refine g_getI 27 (gd rfl) rfl rfl rfl (fun z110x3x24 e110x3x24 => ?_)
              have q110x3x24 : z110x3x1 = z110x3x24 := (sI_F (e110x3x1)).trans e110x3x24.symm
              subst q110x3x24
              refine g_iconst 1 28 (gd rfl) rfl rfl ?_
              refine g_iadd 29 (gd rfl) rfl (fun z110x3x28 e110x3x28 => ?_)
              have i110x3x28 := in_add 1 4608 e110x3x28 i110x3x9 (in_c 1 rfl) rfl rfl
              refine g_putI 32 (gd rfl) rfl rfl rfl rfl ?_
              have hI110x3x29 := inv_sF (q := 46) (j := 9) hI110x3x21 rfl (in_w 0 4608 i110x3x28 rfl)
              refine g_return (gd rfl) rfl (hp110x3 _ _ ?_)
              show GG _ _ _ _ _ _ _ _ [] _ _ _
              refine g_aload_n 7 (gd rfl) rfl rfl ?_
              refine g_bipush 97 9 (gd rfl) rfl rfl ?_
              refine g_iload_n 10 (gd rfl) rfl rfl ?_
              refine g_iadd 11 (gd rfl) rfl (fun z110x10 e110x10 => ?_)
              have i110x10 := in_add 97 122 e110x10 (in_c 97 rfl) i109 rfl rfl
              refine g_i2c 12 (gd rfl) rfl (fun z110x11 e110x11 => ?_)
              have i110x11 := in_i2c e110x11
              refine g_callv (X := _) (As := [.int z110x11]) (r := []) (b := A 46) (q := 46) 15 (gd rfl) rfl rfl rfl rfl rfl (ww_o rfl) (Nat.le_of_ble_eq_true rfl) (mc := 0) (ms := 0) (Nat.zero_le _) (Nat.zero_le _) (P := fun v u => _) ?_ (fun e u h => h) (fun v u h => h)
              intro po110x12 xx110x12 hp110x12 hx110x12
              refine g_enter2 (k := 177) (N := 300) (by first | exact dq1 hd rfl | exact dq0 hd rfl | exact dq2 hd rfl | exact dq3 hd rfl | omega) rfl (Nat.le_of_ble_eq_true rfl) ?_
              refine g_aload_n 1 (gd rfl) rfl rfl ?_
              refine g_getI 4 (gd rfl) rfl rfl rfl (fun z110x12x1 e110x12x1 => ?_)
              have q110x12x1 : z110x3x28 = z110x12x1 := (sF_get).trans e110x12x1.symm
              subst q110x12x1
              refine g_aload_n 5 (gd rfl) rfl rfl ?_
              refine g_getA (q2 := 48) 8 (gd rfl) rfl rfl rfl rfl ?_
              refine g_alen (n := 4608) (t := 2) 4608 9 (gd rfl) rfl rfl (Nat.le_of_ble_eq_true rfl) rfl ?_
              refine g_cmp_ge 12 32 (gd rfl) rfl rfl (fun c110x12x9 => ?_) (fun c110x12x9 => ?_)
              · skip
                have i110x12x9 := r_le2 4608 4608 c110x12x9 (in_c 4608 rfl) i110x3x28 rfl
                refine g_return (gd rfl) rfl (hp110x12 _ _ ?_)
                show GG _ _ _ _ _ _ _ _ [] _ _ _
                refine g_aload_n 16 (gd rfl) rfl rfl ?_
                refine g_bipush 59 18 (gd rfl) rfl rfl ?_
                refine g_callv (X := _) (As := [.int (Int32.ofInt 59)]) (r := []) (b := A 46) (q := 46) 21 (gd rfl) rfl rfl rfl rfl rfl (ww_o rfl) (Nat.le_of_ble_eq_true rfl) (mc := 0) (ms := 0) (Nat.zero_le _) (Nat.zero_le _) (P := fun v u => _) ?_ (fun e u h => h) (fun v u h => h)
                intro po110x18 xx110x18 hp110x18 hx110x18
                refine g_enter2 (k := 177) (N := 300) (by first | exact dq1 hd rfl | exact dq0 hd rfl | exact dq2 hd rfl | exact dq3 hd rfl | omega) rfl (Nat.le_of_ble_eq_true rfl) ?_
                refine g_aload_n 1 (gd rfl) rfl rfl ?_
                refine g_getI 4 (gd rfl) rfl rfl rfl (fun z110x18x1 e110x18x1 => ?_)
                have q110x18x1 : z110x3x28 = z110x18x1 := (sF_get).trans e110x18x1.symm
                subst q110x18x1
                refine g_aload_n 5 (gd rfl) rfl rfl ?_
                refine g_getA (q2 := 48) 8 (gd rfl) rfl rfl rfl rfl ?_
                refine g_alen (n := 4608) (t := 2) 4608 9 (gd rfl) rfl rfl (Nat.le_of_ble_eq_true rfl) rfl ?_
                refine g_cmp_ge 12 32 (gd rfl) rfl rfl (fun c110x18x9 => ?_) (fun c110x18x9 => ?_)
                · skip
                  refine g_return (gd rfl) rfl (hp110x18 _ _ ?_)
                  show GG _ _ _ _ _ _ _ _ [] _ _ _
                  refine g_return (gd rfl) rfl (hp110 _ _ ?_)
                  show GG _ _ _ _ _ _ _ _ [] _ _ _
                  exact gg_w (by first | exact Nat.le_add_right _ _ | exact gw2 | exact gw3 | exact gwe rfl | exact gwf rfl | exact gwg rfl | exact gwh rfl | omega) (gg_f (gf_cons rfl (gf_cons rfl (gf_cons rfl gf_nil))) (ct113 (sF (sI s100 48 z110x3x1.toNatClampNeg (vp_nar .char (Int32.ofInt 32))) 46 9 z110x3x28)  hI110x3x29 (fr_sF rfl (fr_sI rfl (fr_tr rfl (fr_tr rfl (fr_tr rfl (fr_tr rfl (fr_sF rfl (fr_sI rfl hFc39)) hF70) hF80) hF90) hF100))) (in_w 0 159 i44 rfl)))
                · skip
                  exact n_lt c110x18x9 i110x12x9 (in_c 4608 rfl) rfl
              · skip
                have i110x12x9 := r_lt1 1 4607 c110x12x9 i110x3x28 (in_c 4608 rfl) rfl
                refine g_aload_n 13 (gd rfl) rfl rfl ?_
                refine g_getA (q2 := 48) 16 (gd rfl) rfl rfl rfl rfl ?_
                refine g_aload_n 17 (gd rfl) rfl rfl ?_
                refine g_getI 20 (gd rfl) rfl rfl rfl (fun z110x12x17 e110x12x17 => ?_)
                have q110x12x17 : z110x3x28 = z110x12x17 := (sF_get).trans e110x12x17.symm
                subst q110x12x17
                refine g_iload_n 21 (gd rfl) rfl rfl ?_
                refine g_castore 22 (gd rfl) rfl (n := 4608) rfl (in_ix i110x12x9 rfl) ?_
                have hI110x12x21 := inv_sI (q := 48) (j := z110x3x28.toNatClampNeg) hI110x3x29 rfl (in_w 0 65535 (nar_c z110x11) rfl)
                refine g_aload_n 23 (gd rfl) rfl rfl ?_
                refine g_dup 24 (gd rfl) rfl rfl ?_
                refine g_getI 27 (gd rfl) rfl rfl rfl (fun z110x12x24 e110x12x24 => ?_)
                have q110x12x24 : z110x3x28 = z110x12x24 := (sI_F (sF_get)).trans e110x12x24.symm
                subst q110x12x24
                refine g_iconst 1 28 (gd rfl) rfl rfl ?_
                refine g_iadd 29 (gd rfl) rfl (fun z110x12x28 e110x12x28 => ?_)
                have i110x12x28 := in_add 2 4608 e110x12x28 i110x12x9 (in_c 1 rfl) rfl rfl
                refine g_putI 32 (gd rfl) rfl rfl rfl rfl ?_
                have hI110x12x29 := inv_sF (q := 46) (j := 9) hI110x12x21 rfl (in_w 0 4608 i110x12x28 rfl)
                refine g_return (gd rfl) rfl (hp110x12 _ _ ?_)
                show GG _ _ _ _ _ _ _ _ [] _ _ _
                refine g_aload_n 16 (gd rfl) rfl rfl ?_
                refine g_bipush 59 18 (gd rfl) rfl rfl ?_
                refine g_callv (X := _) (As := [.int (Int32.ofInt 59)]) (r := []) (b := A 46) (q := 46) 21 (gd rfl) rfl rfl rfl rfl rfl (ww_o rfl) (Nat.le_of_ble_eq_true rfl) (mc := 0) (ms := 0) (Nat.zero_le _) (Nat.zero_le _) (P := fun v u => _) ?_ (fun e u h => h) (fun v u h => h)
                intro po110x18 xx110x18 hp110x18 hx110x18
                refine g_enter2 (k := 177) (N := 300) (by first | exact dq1 hd rfl | exact dq0 hd rfl | exact dq2 hd rfl | exact dq3 hd rfl | omega) rfl (Nat.le_of_ble_eq_true rfl) ?_
                refine g_aload_n 1 (gd rfl) rfl rfl ?_
                refine g_getI 4 (gd rfl) rfl rfl rfl (fun z110x18x1 e110x18x1 => ?_)
                have q110x18x1 : z110x12x28 = z110x18x1 := (sF_get).trans e110x18x1.symm
                subst q110x18x1
                refine g_aload_n 5 (gd rfl) rfl rfl ?_
                refine g_getA (q2 := 48) 8 (gd rfl) rfl rfl rfl rfl ?_
                refine g_alen (n := 4608) (t := 2) 4608 9 (gd rfl) rfl rfl (Nat.le_of_ble_eq_true rfl) rfl ?_
                refine g_cmp_ge 12 32 (gd rfl) rfl rfl (fun c110x18x9 => ?_) (fun c110x18x9 => ?_)
                · skip
                  have i110x18x9 := r_le2 4608 4608 c110x18x9 (in_c 4608 rfl) i110x12x28 rfl
                  refine g_return (gd rfl) rfl (hp110x18 _ _ ?_)
                  show GG _ _ _ _ _ _ _ _ [] _ _ _
                  refine g_return (gd rfl) rfl (hp110 _ _ ?_)
                  show GG _ _ _ _ _ _ _ _ [] _ _ _
                  exact gg_w (by first | exact Nat.le_add_right _ _ | exact gw2 | exact gw3 | exact gwe rfl | exact gwf rfl | exact gwg rfl | exact gwh rfl | omega) (gg_f (gf_cons rfl (gf_cons rfl (gf_cons rfl gf_nil))) (ct113 (sF (sI (sF (sI s100 48 z110x3x1.toNatClampNeg (vp_nar .char (Int32.ofInt 32))) 46 9 z110x3x28) 48 z110x3x28.toNatClampNeg (vp_nar .char z110x11)) 46 9 z110x12x28)  hI110x12x29 (fr_sF rfl (fr_sI rfl (fr_sF rfl (fr_sI rfl (fr_tr rfl (fr_tr rfl (fr_tr rfl (fr_tr rfl (fr_sF rfl (fr_sI rfl hFc39)) hF70) hF80) hF90) hF100))))) (in_w 0 159 i44 rfl)))
                · skip
                  have i110x18x9 := r_lt1 2 4607 c110x18x9 i110x12x28 (in_c 4608 rfl) rfl
                  refine g_aload_n 13 (gd rfl) rfl rfl ?_
                  refine g_getA (q2 := 48) 16 (gd rfl) rfl rfl rfl rfl ?_
                  refine g_aload_n 17 (gd rfl) rfl rfl ?_
                  refine g_getI 20 (gd rfl) rfl rfl rfl (fun z110x18x17 e110x18x17 => ?_)
                  have q110x18x17 : z110x12x28 = z110x18x17 := (sF_get).trans e110x18x17.symm
                  subst q110x18x17
                  refine g_iload_n 21 (gd rfl) rfl rfl ?_
                  refine g_castore 22 (gd rfl) rfl (n := 4608) rfl (in_ix i110x18x9 rfl) ?_
                  have hI110x18x21 := inv_sI (q := 48) (j := z110x12x28.toNatClampNeg) hI110x12x29 rfl (in_w 0 65535 (nar_c (Int32.ofInt 59)) rfl)
                  refine g_aload_n 23 (gd rfl) rfl rfl ?_
                  refine g_dup 24 (gd rfl) rfl rfl ?_
                  refine g_getI 27 (gd rfl) rfl rfl rfl (fun z110x18x24 e110x18x24 => ?_)
                  have q110x18x24 : z110x12x28 = z110x18x24 := (sI_F (sF_get)).trans e110x18x24.symm
                  subst q110x18x24
                  refine g_iconst 1 28 (gd rfl) rfl rfl ?_
                  refine g_iadd 29 (gd rfl) rfl (fun z110x18x28 e110x18x28 => ?_)
                  have i110x18x28 := in_add 3 4608 e110x18x28 i110x18x9 (in_c 1 rfl) rfl rfl
                  refine g_putI 32 (gd rfl) rfl rfl rfl rfl ?_
                  have hI110x18x29 := inv_sF (q := 46) (j := 9) hI110x18x21 rfl (in_w 0 4608 i110x18x28 rfl)
                  refine g_return (gd rfl) rfl (hp110x18 _ _ ?_)
                  show GG _ _ _ _ _ _ _ _ [] _ _ _
                  refine g_return (gd rfl) rfl (hp110 _ _ ?_)
                  show GG _ _ _ _ _ _ _ _ [] _ _ _
                  exact gg_w (by first | exact Nat.le_add_right _ _ | exact gw2 | exact gw3 | exact gwe rfl | exact gwf rfl | exact gwg rfl | exact gwh rfl | omega) (gg_f (gf_cons rfl (gf_cons rfl (gf_cons rfl gf_nil))) (ct113 (sF (sI (sF (sI (sF (sI s100 48 z110x3x1.toNatClampNeg (vp_nar .char (Int32.ofInt 32))) 46 9 z110x3x28) 48 z110x3x28.toNatClampNeg (vp_nar .char z110x11)) 46 9 z110x12x28) 48 z110x12x28.toNatClampNeg (vp_nar .char (Int32.ofInt 59))) 46 9 z110x18x28)  hI110x18x29 (fr_sF rfl (fr_sI rfl (fr_sF rfl (fr_sI rfl (fr_sF rfl (fr_sI rfl (fr_tr rfl (fr_tr rfl (fr_tr rfl (fr_tr rfl (fr_sF rfl (fr_sI rfl hFc39)) hF70) hF80) hF90) hF100))))))) (in_w 0 159 i44 rfl)))
  have ct7 : ∀ (k7 : Nat) (sc7 : GS) (y7_2 : Int32), Inv sc7 → Fr fm_175_46_2 s sc7 → (In y7_2 0 32) → 32 - (y7_2).toInt < (k7 : Int) → GG Z (d - 1) 175 post (gx xp) (289963 + k7 * 900) 7 (fun j => xlook j [(0, .ref (A 46)), (1, .ref (A 2)), (2, .int y7_2)]) [] (WW Z A sc7 ++ ex) 0 0 := by
    intro k7
    induction k7 with
    | zero => intro sc7 y7_2 hIc7 hFc7 j7_2 mm7; exact m_no mm7 j7_2 rfl
    | succ k7 ih7 =>
      intro sc7 y7_2 hIc7 hFc7 j7_2 mm7
      refine gg_w (M := 289963 + k7 * 900 + 900) gws ?_
      refine g_iload_n 8 (gd rfl) rfl rfl ?_
      refine g_aload_n 9 (gd rfl) rfl rfl ?_
      refine g_getI 12 (gd rfl) rfl rfl rfl (fun z9 e9 => ?_)
      have q9 : u_2_1 = z9 := (fr_F e_2_1 hFc7 rfl).trans e9.symm
      subst q9
      refine g_cmp_ge 15 37 (gd rfl) rfl rfl (fun c12 => ?_) (fun c12 => ?_)
      · skip
        refine g_iconst 0 38 (gd rfl) rfl rfl ?_
        refine g_istore_n 39 (gd rfl) rfl (Nat.le_of_ble_eq_true rfl) ?_
        exact gg_w (by first | exact Nat.le_add_right _ _ | exact gw2 | exact gw3 | exact gwe rfl | exact gwf rfl | exact gwg rfl | exact gwh rfl | omega) (gg_f (gf_cons rfl (gf_cons rfl (gf_cons rfl gf_nil))) (ct39 161 sc7 (Int32.ofInt 0) hIc7 hFc7 (in_w 0 160 (in_c 0 rfl) rfl) (m_in 161 (in_w 0 160 (in_c 0 rfl) rfl) rfl)))
      · skip
        have i12 := r_lt1 0 31 c12 j7_2 ro_2_1 rfl
        have i12a := r_lt2 1 32 c12 j7_2 ro_2_1 rfl
        refine g_aload_n 16 (gd rfl) rfl rfl ?_
        refine g_bipush 110 18 (gd rfl) rfl rfl ?_
        refine g_callv (X := _) (As := [.int (Int32.ofInt 110)]) (r := []) (b := A 46) (q := 46) 21 (gd rfl) rfl rfl rfl rfl rfl (ww_o rfl) (Nat.le_of_ble_eq_true rfl) (mc := 0) (ms := 0) (Nat.zero_le _) (Nat.zero_le _) (P := fun v u => _) ?_ (fun e u h => h) (fun v u h => h)
        intro po18 xx18 hp18 hx18
        refine g_enter2 (k := 177) (N := 300) (by first | exact dq1 hd rfl | exact dq0 hd rfl | exact dq2 hd rfl | exact dq3 hd rfl | omega) rfl (Nat.le_of_ble_eq_true rfl) ?_
        refine g_aload_n 1 (gd rfl) rfl rfl ?_
        refine g_getI 4 (gd rfl) rfl rfl rfl (fun z18x1 e18x1 => ?_)
        have i18x1 := inv_F hIc7 0 4608 rfl e18x1
        refine g_aload_n 5 (gd rfl) rfl rfl ?_
        refine g_getA (q2 := 48) 8 (gd rfl) rfl rfl rfl rfl ?_
        refine g_alen (n := 4608) (t := 2) 4608 9 (gd rfl) rfl rfl (Nat.le_of_ble_eq_true rfl) rfl ?_
        refine g_cmp_ge 12 32 (gd rfl) rfl rfl (fun c18x9 => ?_) (fun c18x9 => ?_)
        · skip
          have i18x9 := r_le2 4608 4608 c18x9 (in_c 4608 rfl) i18x1 rfl
          refine g_return (gd rfl) rfl (hp18 _ _ ?_)
          show GG _ _ _ _ _ _ _ _ [] _ _ _
          refine g_aload_n 22 (gd rfl) rfl rfl ?_
          refine g_aload_n 23 (gd rfl) rfl rfl ?_
          refine g_getA (q2 := 3) 26 (gd rfl) rfl rfl rfl rfl ?_
          refine g_iload_n 27 (gd rfl) rfl rfl ?_
          refine g_iaload 28 (gd rfl) rfl (n := 32) rfl (in_ix i12 rfl) (fun z27 e27 => ?_)
          have i27 := inv_I hIc7 (n := 32) (t := 0) 0 25 rfl (in_ix i12 rfl) rfl e27
          refine g_callv (X := _) (As := [.int z27]) (r := []) (b := A 46) (q := 46) 31 (gd rfl) rfl rfl rfl rfl rfl (ww_o rfl) (Nat.le_of_ble_eq_true rfl) (mc := 0) (ms := 0) (Nat.zero_le _) (Nat.zero_le _) (P := fun v u => _) ?_ (fun e u h => h) (fun v u h => h)
          intro po28 xx28 hp28 hx28
          refine g_enter2 (k := 176) (N := 300) (by first | exact dq1 hd rfl | exact dq0 hd rfl | exact dq2 hd rfl | exact dq3 hd rfl | omega) rfl (Nat.le_of_ble_eq_true rfl) ?_
          refine g_aload_n 1 (gd rfl) rfl rfl ?_
          refine g_bipush 32 3 (gd rfl) rfl rfl ?_
          refine g_callv (X := _) (As := [.int (Int32.ofInt 32)]) (r := []) (b := A 46) (q := 46) 6 (gd rfl) rfl rfl rfl rfl rfl (ww_o rfl) (Nat.le_of_ble_eq_true rfl) (mc := 0) (ms := 0) (Nat.zero_le _) (Nat.zero_le _) (P := fun v u => _) ?_ (fun e u h => h) (fun v u h => h)
          intro po28x3 xx28x3 hp28x3 hx28x3
          refine g_enter2 (k := 177) (N := 300) (by first | exact dq1 hd rfl | exact dq0 hd rfl | exact dq2 hd rfl | exact dq3 hd rfl | omega) rfl (Nat.le_of_ble_eq_true rfl) ?_
          refine g_aload_n 1 (gd rfl) rfl rfl ?_
          refine g_getI 4 (gd rfl) rfl rfl rfl (fun z28x3x1 e28x3x1 => ?_)
          have q28x3x1 : z18x1 = z28x3x1 := (e18x1).trans e28x3x1.symm
          subst q28x3x1
          refine g_aload_n 5 (gd rfl) rfl rfl ?_
          refine g_getA (q2 := 48) 8 (gd rfl) rfl rfl rfl rfl ?_
          refine g_alen (n := 4608) (t := 2) 4608 9 (gd rfl) rfl rfl (Nat.le_of_ble_eq_true rfl) rfl ?_
          refine g_cmp_ge 12 32 (gd rfl) rfl rfl (fun c28x3x9 => ?_) (fun c28x3x9 => ?_)
          · skip
            refine g_return (gd rfl) rfl (hp28x3 _ _ ?_)
            show GG _ _ _ _ _ _ _ _ [] _ _ _
            refine g_aload_n 7 (gd rfl) rfl rfl ?_
            refine g_bipush 97 9 (gd rfl) rfl rfl ?_
            refine g_iload_n 10 (gd rfl) rfl rfl ?_
            refine g_iadd 11 (gd rfl) rfl (fun z28x10 e28x10 => ?_)
            have i28x10 := in_add 97 122 e28x10 (in_c 97 rfl) i27 rfl rfl
            refine g_i2c 12 (gd rfl) rfl (fun z28x11 e28x11 => ?_)
            have i28x11 := in_i2c e28x11
            refine g_callv (X := _) (As := [.int z28x11]) (r := []) (b := A 46) (q := 46) 15 (gd rfl) rfl rfl rfl rfl rfl (ww_o rfl) (Nat.le_of_ble_eq_true rfl) (mc := 0) (ms := 0) (Nat.zero_le _) (Nat.zero_le _) (P := fun v u => _) ?_ (fun e u h => h) (fun v u h => h)
            intro po28x12 xx28x12 hp28x12 hx28x12
            refine g_enter2 (k := 177) (N := 300) (by first | exact dq1 hd rfl | exact dq0 hd rfl | exact dq2 hd rfl | exact dq3 hd rfl | omega) rfl (Nat.le_of_ble_eq_true rfl) ?_
            refine g_aload_n 1 (gd rfl) rfl rfl ?_
            refine g_getI 4 (gd rfl) rfl rfl rfl (fun z28x12x1 e28x12x1 => ?_)
            have q28x12x1 : z18x1 = z28x12x1 := (e18x1).trans e28x12x1.symm
            subst q28x12x1
            refine g_aload_n 5 (gd rfl) rfl rfl ?_
            refine g_getA (q2 := 48) 8 (gd rfl) rfl rfl rfl rfl ?_
            refine g_alen (n := 4608) (t := 2) 4608 9 (gd rfl) rfl rfl (Nat.le_of_ble_eq_true rfl) rfl ?_
            refine g_cmp_ge 12 32 (gd rfl) rfl rfl (fun c28x12x9 => ?_) (fun c28x12x9 => ?_)
            · skip
              refine g_return (gd rfl) rfl (hp28x12 _ _ ?_)
              show GG _ _ _ _ _ _ _ _ [] _ _ _
              refine g_aload_n 16 (gd rfl) rfl rfl ?_
              refine g_bipush 59 18 (gd rfl) rfl rfl ?_
              refine g_callv (X := _) (As := [.int (Int32.ofInt 59)]) (r := []) (b := A 46) (q := 46) 21 (gd rfl) rfl rfl rfl rfl rfl (ww_o rfl) (Nat.le_of_ble_eq_true rfl) (mc := 0) (ms := 0) (Nat.zero_le _) (Nat.zero_le _) (P := fun v u => _) ?_ (fun e u h => h) (fun v u h => h)
              intro po28x18 xx28x18 hp28x18 hx28x18
              refine g_enter2 (k := 177) (N := 300) (by first | exact dq1 hd rfl | exact dq0 hd rfl | exact dq2 hd rfl | exact dq3 hd rfl | omega) rfl (Nat.le_of_ble_eq_true rfl) ?_
              refine g_aload_n 1 (gd rfl) rfl rfl ?_
              refine g_getI 4 (gd rfl) rfl rfl rfl (fun z28x18x1 e28x18x1 => ?_)
              have q28x18x1 : z18x1 = z28x18x1 := (e18x1).trans e28x18x1.symm
              subst q28x18x1
              refine g_aload_n 5 (gd rfl) rfl rfl ?_
              refine g_getA (q2 := 48) 8 (gd rfl) rfl rfl rfl rfl ?_
              refine g_alen (n := 4608) (t := 2) 4608 9 (gd rfl) rfl rfl (Nat.le_of_ble_eq_true rfl) rfl ?_
              refine g_cmp_ge 12 32 (gd rfl) rfl rfl (fun c28x18x9 => ?_) (fun c28x18x9 => ?_)
              · skip
                refine g_return (gd rfl) rfl (hp28x18 _ _ ?_)
                show GG _ _ _ _ _ _ _ _ [] _ _ _
                refine g_return (gd rfl) rfl (hp28 _ _ ?_)
                show GG _ _ _ _ _ _ _ _ [] _ _ _
                refine g_iinc 34 (gd rfl) rfl rfl (Nat.le_of_ble_eq_true rfl) (fun z31 e31 => ?_)
                have i31 := in_add 1 32 e31 i12 (in_c 1 rfl) rfl rfl
                refine g_goto 7 (gd rfl) rfl ?_
                exact gg_w (by first | exact Nat.le_add_right _ _ | exact gw2 | exact gw3 | exact gwe rfl | exact gwf rfl | exact gwg rfl | exact gwh rfl | omega) (gg_f (gf_cons rfl (gf_cons rfl (gf_cons rfl gf_nil))) (ih7 sc7 z31 hIc7 hFc7 (in_w 0 32 i31 rfl) (m_up mm7 (t_add e31 i12 (in_c 1 rfl) rfl) (in_w 1 1 (in_c 1 rfl) rfl))))
              · skip
                exact n_lt c28x18x9 i18x9 (in_c 4608 rfl) rfl
            · skip
              exact n_lt c28x12x9 i18x9 (in_c 4608 rfl) rfl
          · skip
            exact n_lt c28x3x9 i18x9 (in_c 4608 rfl) rfl
        · skip
          have i18x9 := r_lt1 0 4607 c18x9 i18x1 (in_c 4608 rfl) rfl
          refine g_aload_n 13 (gd rfl) rfl rfl ?_
          refine g_getA (q2 := 48) 16 (gd rfl) rfl rfl rfl rfl ?_
          refine g_aload_n 17 (gd rfl) rfl rfl ?_
          refine g_getI 20 (gd rfl) rfl rfl rfl (fun z18x17 e18x17 => ?_)
          have q18x17 : z18x1 = z18x17 := (e18x1).trans e18x17.symm
          subst q18x17
          refine g_iload_n 21 (gd rfl) rfl rfl ?_
          refine g_castore 22 (gd rfl) rfl (n := 4608) rfl (in_ix i18x9 rfl) ?_
          have hI18x21 := inv_sI (q := 48) (j := z18x1.toNatClampNeg) hIc7 rfl (in_w 0 65535 (nar_c (Int32.ofInt 110)) rfl)
          refine g_aload_n 23 (gd rfl) rfl rfl ?_
          refine g_dup 24 (gd rfl) rfl rfl ?_
          refine g_getI 27 (gd rfl) rfl rfl rfl (fun z18x24 e18x24 => ?_)
          have q18x24 : z18x1 = z18x24 := (sI_F (e18x1)).trans e18x24.symm
          subst q18x24
          refine g_iconst 1 28 (gd rfl) rfl rfl ?_
          refine g_iadd 29 (gd rfl) rfl (fun z18x28 e18x28 => ?_)
          have i18x28 := in_add 1 4608 e18x28 i18x9 (in_c 1 rfl) rfl rfl
          refine g_putI 32 (gd rfl) rfl rfl rfl rfl ?_
          have hI18x29 := inv_sF (q := 46) (j := 9) hI18x21 rfl (in_w 0 4608 i18x28 rfl)
          refine g_return (gd rfl) rfl (hp18 _ _ ?_)
          show GG _ _ _ _ _ _ _ _ [] _ _ _
          refine g_aload_n 22 (gd rfl) rfl rfl ?_
          refine g_aload_n 23 (gd rfl) rfl rfl ?_
          refine g_getA (q2 := 3) 26 (gd rfl) rfl rfl rfl rfl ?_
          refine g_iload_n 27 (gd rfl) rfl rfl ?_
          refine g_iaload 28 (gd rfl) rfl (n := 32) rfl (in_ix i12 rfl) (fun z27 e27 => ?_)
          have i27 := inv_I hI18x29 (n := 32) (t := 0) 0 25 rfl (in_ix i12 rfl) rfl e27
          refine g_callv (X := _) (As := [.int z27]) (r := []) (b := A 46) (q := 46) 31 (gd rfl) rfl rfl rfl rfl rfl (ww_o rfl) (Nat.le_of_ble_eq_true rfl) (mc := 0) (ms := 0) (Nat.zero_le _) (Nat.zero_le _) (P := fun v u => _) ?_ (fun e u h => h) (fun v u h => h)
          intro po28 xx28 hp28 hx28
          refine g_enter2 (k := 176) (N := 300) (by first | exact dq1 hd rfl | exact dq0 hd rfl | exact dq2 hd rfl | exact dq3 hd rfl | omega) rfl (Nat.le_of_ble_eq_true rfl) ?_
          refine g_aload_n 1 (gd rfl) rfl rfl ?_
          refine g_bipush 32 3 (gd rfl) rfl rfl ?_
          refine g_callv (X := _) (As := [.int (Int32.ofInt 32)]) (r := []) (b := A 46) (q := 46) 6 (gd rfl) rfl rfl rfl rfl rfl (ww_o rfl) (Nat.le_of_ble_eq_true rfl) (mc := 0) (ms := 0) (Nat.zero_le _) (Nat.zero_le _) (P := fun v u => _) ?_ (fun e u h => h) (fun v u h => h)
          intro po28x3 xx28x3 hp28x3 hx28x3
          refine g_enter2 (k := 177) (N := 300) (by first | exact dq1 hd rfl | exact dq0 hd rfl | exact dq2 hd rfl | exact dq3 hd rfl | omega) rfl (Nat.le_of_ble_eq_true rfl) ?_
          refine g_aload_n 1 (gd rfl) rfl rfl ?_
          refine g_getI 4 (gd rfl) rfl rfl rfl (fun z28x3x1 e28x3x1 => ?_)
          have q28x3x1 : z18x28 = z28x3x1 := (sF_get).trans e28x3x1.symm
          subst q28x3x1
          refine g_aload_n 5 (gd rfl) rfl rfl ?_
          refine g_getA (q2 := 48) 8 (gd rfl) rfl rfl rfl rfl ?_
          refine g_alen (n := 4608) (t := 2) 4608 9 (gd rfl) rfl rfl (Nat.le_of_ble_eq_true rfl) rfl ?_
          refine g_cmp_ge 12 32 (gd rfl) rfl rfl (fun c28x3x9 => ?_) (fun c28x3x9 => ?_)
          · skip
            have i28x3x9 := r_le2 4608 4608 c28x3x9 (in_c 4608 rfl) i18x28 rfl
            refine g_return (gd rfl) rfl (hp28x3 _ _ ?_)
            show GG _ _ _ _ _ _ _ _ [] _ _ _
            refine g_aload_n 7 (gd rfl) rfl rfl ?_
            refine g_bipush 97 9 (gd rfl) rfl rfl ?_
            refine g_iload_n 10 (gd rfl) rfl rfl ?_
            refine g_iadd 11 (gd rfl) rfl (fun z28x10 e28x10 => ?_)
            have i28x10 := in_add 97 122 e28x10 (in_c 97 rfl) i27 rfl rfl
            refine g_i2c 12 (gd rfl) rfl (fun z28x11 e28x11 => ?_)
            have i28x11 := in_i2c e28x11
            refine g_callv (X := _) (As := [.int z28x11]) (r := []) (b := A 46) (q := 46) 15 (gd rfl) rfl rfl rfl rfl rfl (ww_o rfl) (Nat.le_of_ble_eq_true rfl) (mc := 0) (ms := 0) (Nat.zero_le _) (Nat.zero_le _) (P := fun v u => _) ?_ (fun e u h => h) (fun v u h => h)
            intro po28x12 xx28x12 hp28x12 hx28x12
            refine g_enter2 (k := 177) (N := 300) (by first | exact dq1 hd rfl | exact dq0 hd rfl | exact dq2 hd rfl | exact dq3 hd rfl | omega) rfl (Nat.le_of_ble_eq_true rfl) ?_
            refine g_aload_n 1 (gd rfl) rfl rfl ?_
            refine g_getI 4 (gd rfl) rfl rfl rfl (fun z28x12x1 e28x12x1 => ?_)
            have q28x12x1 : z18x28 = z28x12x1 := (sF_get).trans e28x12x1.symm
            subst q28x12x1
            refine g_aload_n 5 (gd rfl) rfl rfl ?_
            refine g_getA (q2 := 48) 8 (gd rfl) rfl rfl rfl rfl ?_
            refine g_alen (n := 4608) (t := 2) 4608 9 (gd rfl) rfl rfl (Nat.le_of_ble_eq_true rfl) rfl ?_
            refine g_cmp_ge 12 32 (gd rfl) rfl rfl (fun c28x12x9 => ?_) (fun c28x12x9 => ?_)
            · skip
              refine g_return (gd rfl) rfl (hp28x12 _ _ ?_)
              show GG _ _ _ _ _ _ _ _ [] _ _ _
              refine g_aload_n 16 (gd rfl) rfl rfl ?_
              refine g_bipush 59 18 (gd rfl) rfl rfl ?_
              refine g_callv (X := _) (As := [.int (Int32.ofInt 59)]) (r := []) (b := A 46) (q := 46) 21 (gd rfl) rfl rfl rfl rfl rfl (ww_o rfl) (Nat.le_of_ble_eq_true rfl) (mc := 0) (ms := 0) (Nat.zero_le _) (Nat.zero_le _) (P := fun v u => _) ?_ (fun e u h => h) (fun v u h => h)
              intro po28x18 xx28x18 hp28x18 hx28x18
              refine g_enter2 (k := 177) (N := 300) (by first | exact dq1 hd rfl | exact dq0 hd rfl | exact dq2 hd rfl | exact dq3 hd rfl | omega) rfl (Nat.le_of_ble_eq_true rfl) ?_
              refine g_aload_n 1 (gd rfl) rfl rfl ?_
              refine g_getI 4 (gd rfl) rfl rfl rfl (fun z28x18x1 e28x18x1 => ?_)
              have q28x18x1 : z18x28 = z28x18x1 := (sF_get).trans e28x18x1.symm
              subst q28x18x1
              refine g_aload_n 5 (gd rfl) rfl rfl ?_
              refine g_getA (q2 := 48) 8 (gd rfl) rfl rfl rfl rfl ?_
              refine g_alen (n := 4608) (t := 2) 4608 9 (gd rfl) rfl rfl (Nat.le_of_ble_eq_true rfl) rfl ?_
              refine g_cmp_ge 12 32 (gd rfl) rfl rfl (fun c28x18x9 => ?_) (fun c28x18x9 => ?_)
              · skip
                refine g_return (gd rfl) rfl (hp28x18 _ _ ?_)
                show GG _ _ _ _ _ _ _ _ [] _ _ _
                refine g_return (gd rfl) rfl (hp28 _ _ ?_)
                show GG _ _ _ _ _ _ _ _ [] _ _ _
                refine g_iinc 34 (gd rfl) rfl rfl (Nat.le_of_ble_eq_true rfl) (fun z31 e31 => ?_)
                have i31 := in_add 1 32 e31 i12 (in_c 1 rfl) rfl rfl
                refine g_goto 7 (gd rfl) rfl ?_
                exact gg_w (by first | exact Nat.le_add_right _ _ | exact gw2 | exact gw3 | exact gwe rfl | exact gwf rfl | exact gwg rfl | exact gwh rfl | omega) (gg_f (gf_cons rfl (gf_cons rfl (gf_cons rfl gf_nil))) (ih7 (sF (sI sc7 48 z18x1.toNatClampNeg (vp_nar .char (Int32.ofInt 110))) 46 9 z18x28) z31 hI18x29 (fr_sF rfl (fr_sI rfl hFc7)) (in_w 0 32 i31 rfl) (m_up mm7 (t_add e31 i12 (in_c 1 rfl) rfl) (in_w 1 1 (in_c 1 rfl) rfl))))
              · skip
                exact n_lt c28x18x9 i28x3x9 (in_c 4608 rfl) rfl
            · skip
              exact n_lt c28x12x9 i28x3x9 (in_c 4608 rfl) rfl
          · skip
            have i28x3x9 := r_lt1 1 4607 c28x3x9 i18x28 (in_c 4608 rfl) rfl
            refine g_aload_n 13 (gd rfl) rfl rfl ?_
            refine g_getA (q2 := 48) 16 (gd rfl) rfl rfl rfl rfl ?_
            refine g_aload_n 17 (gd rfl) rfl rfl ?_
            refine g_getI 20 (gd rfl) rfl rfl rfl (fun z28x3x17 e28x3x17 => ?_)
            have q28x3x17 : z18x28 = z28x3x17 := (sF_get).trans e28x3x17.symm
            subst q28x3x17
            refine g_iload_n 21 (gd rfl) rfl rfl ?_
            refine g_castore 22 (gd rfl) rfl (n := 4608) rfl (in_ix i28x3x9 rfl) ?_
            have hI28x3x21 := inv_sI (q := 48) (j := z18x28.toNatClampNeg) hI18x29 rfl (in_w 0 65535 (nar_c (Int32.ofInt 32)) rfl)
            refine g_aload_n 23 (gd rfl) rfl rfl ?_
            refine g_dup 24 (gd rfl) rfl rfl ?_
            refine g_getI 27 (gd rfl) rfl rfl rfl (fun z28x3x24 e28x3x24 => ?_)
            have q28x3x24 : z18x28 = z28x3x24 := (sI_F (sF_get)).trans e28x3x24.symm
            subst q28x3x24
            refine g_iconst 1 28 (gd rfl) rfl rfl ?_
            refine g_iadd 29 (gd rfl) rfl (fun z28x3x28 e28x3x28 => ?_)
            have i28x3x28 := in_add 2 4608 e28x3x28 i28x3x9 (in_c 1 rfl) rfl rfl
            refine g_putI 32 (gd rfl) rfl rfl rfl rfl ?_
            have hI28x3x29 := inv_sF (q := 46) (j := 9) hI28x3x21 rfl (in_w 0 4608 i28x3x28 rfl)
            refine g_return (gd rfl) rfl (hp28x3 _ _ ?_)
            show GG _ _ _ _ _ _ _ _ [] _ _ _
            refine g_aload_n 7 (gd rfl) rfl rfl ?_
            refine g_bipush 97 9 (gd rfl) rfl rfl ?_
            refine g_iload_n 10 (gd rfl) rfl rfl ?_
            refine g_iadd 11 (gd rfl) rfl (fun z28x10 e28x10 => ?_)
            have i28x10 := in_add 97 122 e28x10 (in_c 97 rfl) i27 rfl rfl
            refine g_i2c 12 (gd rfl) rfl (fun z28x11 e28x11 => ?_)
            have i28x11 := in_i2c e28x11
            refine g_callv (X := _) (As := [.int z28x11]) (r := []) (b := A 46) (q := 46) 15 (gd rfl) rfl rfl rfl rfl rfl (ww_o rfl) (Nat.le_of_ble_eq_true rfl) (mc := 0) (ms := 0) (Nat.zero_le _) (Nat.zero_le _) (P := fun v u => _) ?_ (fun e u h => h) (fun v u h => h)
            intro po28x12 xx28x12 hp28x12 hx28x12
            refine g_enter2 (k := 177) (N := 300) (by first | exact dq1 hd rfl | exact dq0 hd rfl | exact dq2 hd rfl | exact dq3 hd rfl | omega) rfl (Nat.le_of_ble_eq_true rfl) ?_
            refine g_aload_n 1 (gd rfl) rfl rfl ?_
            refine g_getI 4 (gd rfl) rfl rfl rfl (fun z28x12x1 e28x12x1 => ?_)
            have q28x12x1 : z28x3x28 = z28x12x1 := (sF_get).trans e28x12x1.symm
            subst q28x12x1
            refine g_aload_n 5 (gd rfl) rfl rfl ?_
            refine g_getA (q2 := 48) 8 (gd rfl) rfl rfl rfl rfl ?_
            refine g_alen (n := 4608) (t := 2) 4608 9 (gd rfl) rfl rfl (Nat.le_of_ble_eq_true rfl) rfl ?_
            refine g_cmp_ge 12 32 (gd rfl) rfl rfl (fun c28x12x9 => ?_) (fun c28x12x9 => ?_)
            · skip
              have i28x12x9 := r_le2 4608 4608 c28x12x9 (in_c 4608 rfl) i28x3x28 rfl
              refine g_return (gd rfl) rfl (hp28x12 _ _ ?_)
              show GG _ _ _ _ _ _ _ _ [] _ _ _
              refine g_aload_n 16 (gd rfl) rfl rfl ?_
              refine g_bipush 59 18 (gd rfl) rfl rfl ?_
              refine g_callv (X := _) (As := [.int (Int32.ofInt 59)]) (r := []) (b := A 46) (q := 46) 21 (gd rfl) rfl rfl rfl rfl rfl (ww_o rfl) (Nat.le_of_ble_eq_true rfl) (mc := 0) (ms := 0) (Nat.zero_le _) (Nat.zero_le _) (P := fun v u => _) ?_ (fun e u h => h) (fun v u h => h)
              intro po28x18 xx28x18 hp28x18 hx28x18
              refine g_enter2 (k := 177) (N := 300) (by first | exact dq1 hd rfl | exact dq0 hd rfl | exact dq2 hd rfl | exact dq3 hd rfl | omega) rfl (Nat.le_of_ble_eq_true rfl) ?_
              refine g_aload_n 1 (gd rfl) rfl rfl ?_
              refine g_getI 4 (gd rfl) rfl rfl rfl (fun z28x18x1 e28x18x1 => ?_)
              have q28x18x1 : z28x3x28 = z28x18x1 := (sF_get).trans e28x18x1.symm
              subst q28x18x1
              refine g_aload_n 5 (gd rfl) rfl rfl ?_
              refine g_getA (q2 := 48) 8 (gd rfl) rfl rfl rfl rfl ?_
              refine g_alen (n := 4608) (t := 2) 4608 9 (gd rfl) rfl rfl (Nat.le_of_ble_eq_true rfl) rfl ?_
              refine g_cmp_ge 12 32 (gd rfl) rfl rfl (fun c28x18x9 => ?_) (fun c28x18x9 => ?_)
              · skip
                refine g_return (gd rfl) rfl (hp28x18 _ _ ?_)
                show GG _ _ _ _ _ _ _ _ [] _ _ _
                refine g_return (gd rfl) rfl (hp28 _ _ ?_)
                show GG _ _ _ _ _ _ _ _ [] _ _ _
                refine g_iinc 34 (gd rfl) rfl rfl (Nat.le_of_ble_eq_true rfl) (fun z31 e31 => ?_)
                have i31 := in_add 1 32 e31 i12 (in_c 1 rfl) rfl rfl
                refine g_goto 7 (gd rfl) rfl ?_
                exact gg_w (by first | exact Nat.le_add_right _ _ | exact gw2 | exact gw3 | exact gwe rfl | exact gwf rfl | exact gwg rfl | exact gwh rfl | omega) (gg_f (gf_cons rfl (gf_cons rfl (gf_cons rfl gf_nil))) (ih7 (sF (sI (sF (sI sc7 48 z18x1.toNatClampNeg (vp_nar .char (Int32.ofInt 110))) 46 9 z18x28) 48 z18x28.toNatClampNeg (vp_nar .char (Int32.ofInt 32))) 46 9 z28x3x28) z31 hI28x3x29 (fr_sF rfl (fr_sI rfl (fr_sF rfl (fr_sI rfl hFc7)))) (in_w 0 32 i31 rfl) (m_up mm7 (t_add e31 i12 (in_c 1 rfl) rfl) (in_w 1 1 (in_c 1 rfl) rfl))))
              · skip
                exact n_lt c28x18x9 i28x12x9 (in_c 4608 rfl) rfl
            · skip
              have i28x12x9 := r_lt1 2 4607 c28x12x9 i28x3x28 (in_c 4608 rfl) rfl
              refine g_aload_n 13 (gd rfl) rfl rfl ?_
              refine g_getA (q2 := 48) 16 (gd rfl) rfl rfl rfl rfl ?_
              refine g_aload_n 17 (gd rfl) rfl rfl ?_
              refine g_getI 20 (gd rfl) rfl rfl rfl (fun z28x12x17 e28x12x17 => ?_)
              have q28x12x17 : z28x3x28 = z28x12x17 := (sF_get).trans e28x12x17.symm
              subst q28x12x17
              refine g_iload_n 21 (gd rfl) rfl rfl ?_
              refine g_castore 22 (gd rfl) rfl (n := 4608) rfl (in_ix i28x12x9 rfl) ?_
              have hI28x12x21 := inv_sI (q := 48) (j := z28x3x28.toNatClampNeg) hI28x3x29 rfl (in_w 0 65535 (nar_c z28x11) rfl)
              refine g_aload_n 23 (gd rfl) rfl rfl ?_
              refine g_dup 24 (gd rfl) rfl rfl ?_
              refine g_getI 27 (gd rfl) rfl rfl rfl (fun z28x12x24 e28x12x24 => ?_)
              have q28x12x24 : z28x3x28 = z28x12x24 := (sI_F (sF_get)).trans e28x12x24.symm
              subst q28x12x24
              refine g_iconst 1 28 (gd rfl) rfl rfl ?_
              refine g_iadd 29 (gd rfl) rfl (fun z28x12x28 e28x12x28 => ?_)
              have i28x12x28 := in_add 3 4608 e28x12x28 i28x12x9 (in_c 1 rfl) rfl rfl
              refine g_putI 32 (gd rfl) rfl rfl rfl rfl ?_
              have hI28x12x29 := inv_sF (q := 46) (j := 9) hI28x12x21 rfl (in_w 0 4608 i28x12x28 rfl)
              refine g_return (gd rfl) rfl (hp28x12 _ _ ?_)
              show GG _ _ _ _ _ _ _ _ [] _ _ _
              refine g_aload_n 16 (gd rfl) rfl rfl ?_
              refine g_bipush 59 18 (gd rfl) rfl rfl ?_
              refine g_callv (X := _) (As := [.int (Int32.ofInt 59)]) (r := []) (b := A 46) (q := 46) 21 (gd rfl) rfl rfl rfl rfl rfl (ww_o rfl) (Nat.le_of_ble_eq_true rfl) (mc := 0) (ms := 0) (Nat.zero_le _) (Nat.zero_le _) (P := fun v u => _) ?_ (fun e u h => h) (fun v u h => h)
              intro po28x18 xx28x18 hp28x18 hx28x18
              refine g_enter2 (k := 177) (N := 300) (by first | exact dq1 hd rfl | exact dq0 hd rfl | exact dq2 hd rfl | exact dq3 hd rfl | omega) rfl (Nat.le_of_ble_eq_true rfl) ?_
              refine g_aload_n 1 (gd rfl) rfl rfl ?_
              refine g_getI 4 (gd rfl) rfl rfl rfl (fun z28x18x1 e28x18x1 => ?_)
              have q28x18x1 : z28x12x28 = z28x18x1 := (sF_get).trans e28x18x1.symm
              subst q28x18x1
              refine g_aload_n 5 (gd rfl) rfl rfl ?_
              refine g_getA (q2 := 48) 8 (gd rfl) rfl rfl rfl rfl ?_
              refine g_alen (n := 4608) (t := 2) 4608 9 (gd rfl) rfl rfl (Nat.le_of_ble_eq_true rfl) rfl ?_
              refine g_cmp_ge 12 32 (gd rfl) rfl rfl (fun c28x18x9 => ?_) (fun c28x18x9 => ?_)
              · skip
                have i28x18x9 := r_le2 4608 4608 c28x18x9 (in_c 4608 rfl) i28x12x28 rfl
                refine g_return (gd rfl) rfl (hp28x18 _ _ ?_)
                show GG _ _ _ _ _ _ _ _ [] _ _ _
                refine g_return (gd rfl) rfl (hp28 _ _ ?_)
                show GG _ _ _ _ _ _ _ _ [] _ _ _
                refine g_iinc 34 (gd rfl) rfl rfl (Nat.le_of_ble_eq_true rfl) (fun z31 e31 => ?_)
                have i31 := in_add 1 32 e31 i12 (in_c 1 rfl) rfl rfl
                refine g_goto 7 (gd rfl) rfl ?_
                exact gg_w (by first | exact Nat.le_add_right _ _ | exact gw2 | exact gw3 | exact gwe rfl | exact gwf rfl | exact gwg rfl | exact gwh rfl | omega) (gg_f (gf_cons rfl (gf_cons rfl (gf_cons rfl gf_nil))) (ih7 (sF (sI (sF (sI (sF (sI sc7 48 z18x1.toNatClampNeg (vp_nar .char (Int32.ofInt 110))) 46 9 z18x28) 48 z18x28.toNatClampNeg (vp_nar .char (Int32.ofInt 32))) 46 9 z28x3x28) 48 z28x3x28.toNatClampNeg (vp_nar .char z28x11)) 46 9 z28x12x28) z31 hI28x12x29 (fr_sF rfl (fr_sI rfl (fr_sF rfl (fr_sI rfl (fr_sF rfl (fr_sI rfl hFc7)))))) (in_w 0 32 i31 rfl) (m_up mm7 (t_add e31 i12 (in_c 1 rfl) rfl) (in_w 1 1 (in_c 1 rfl) rfl))))
              · skip
                have i28x18x9 := r_lt1 3 4607 c28x18x9 i28x12x28 (in_c 4608 rfl) rfl
                refine g_aload_n 13 (gd rfl) rfl rfl ?_
                refine g_getA (q2 := 48) 16 (gd rfl) rfl rfl rfl rfl ?_
                refine g_aload_n 17 (gd rfl) rfl rfl ?_
                refine g_getI 20 (gd rfl) rfl rfl rfl (fun z28x18x17 e28x18x17 => ?_)
                have q28x18x17 : z28x12x28 = z28x18x17 := (sF_get).trans e28x18x17.symm
                subst q28x18x17
                refine g_iload_n 21 (gd rfl) rfl rfl ?_
                refine g_castore 22 (gd rfl) rfl (n := 4608) rfl (in_ix i28x18x9 rfl) ?_
                have hI28x18x21 := inv_sI (q := 48) (j := z28x12x28.toNatClampNeg) hI28x12x29 rfl (in_w 0 65535 (nar_c (Int32.ofInt 59)) rfl)
                refine g_aload_n 23 (gd rfl) rfl rfl ?_
                refine g_dup 24 (gd rfl) rfl rfl ?_
                refine g_getI 27 (gd rfl) rfl rfl rfl (fun z28x18x24 e28x18x24 => ?_)
                have q28x18x24 : z28x12x28 = z28x18x24 := (sI_F (sF_get)).trans e28x18x24.symm
                subst q28x18x24
                refine g_iconst 1 28 (gd rfl) rfl rfl ?_
                refine g_iadd 29 (gd rfl) rfl (fun z28x18x28 e28x18x28 => ?_)
                have i28x18x28 := in_add 4 4608 e28x18x28 i28x18x9 (in_c 1 rfl) rfl rfl
                refine g_putI 32 (gd rfl) rfl rfl rfl rfl ?_
                have hI28x18x29 := inv_sF (q := 46) (j := 9) hI28x18x21 rfl (in_w 0 4608 i28x18x28 rfl)
                refine g_return (gd rfl) rfl (hp28x18 _ _ ?_)
                show GG _ _ _ _ _ _ _ _ [] _ _ _
                refine g_return (gd rfl) rfl (hp28 _ _ ?_)
                show GG _ _ _ _ _ _ _ _ [] _ _ _
                refine g_iinc 34 (gd rfl) rfl rfl (Nat.le_of_ble_eq_true rfl) (fun z31 e31 => ?_)
                have i31 := in_add 1 32 e31 i12 (in_c 1 rfl) rfl rfl
                refine g_goto 7 (gd rfl) rfl ?_
                exact gg_w (by first | exact Nat.le_add_right _ _ | exact gw2 | exact gw3 | exact gwe rfl | exact gwf rfl | exact gwg rfl | exact gwh rfl | omega) (gg_f (gf_cons rfl (gf_cons rfl (gf_cons rfl gf_nil))) (ih7 (sF (sI (sF (sI (sF (sI (sF (sI sc7 48 z18x1.toNatClampNeg (vp_nar .char (Int32.ofInt 110))) 46 9 z18x28) 48 z18x28.toNatClampNeg (vp_nar .char (Int32.ofInt 32))) 46 9 z28x3x28) 48 z28x3x28.toNatClampNeg (vp_nar .char z28x11)) 46 9 z28x12x28) 48 z28x12x28.toNatClampNeg (vp_nar .char (Int32.ofInt 59))) 46 9 z28x18x28) z31 hI28x18x29 (fr_sF rfl (fr_sI rfl (fr_sF rfl (fr_sI rfl (fr_sF rfl (fr_sI rfl (fr_sF rfl (fr_sI rfl hFc7)))))))) (in_w 0 32 i31 rfl) (m_up mm7 (t_add e31 i12 (in_c 1 rfl) rfl) (in_w 1 1 (in_c 1 rfl) rfl))))
  refine g_enter2 (k := 175) (N := 320563) (by first | exact dq1 hd rfl | exact dq0 hd rfl | exact dq2 hd rfl | exact dq3 hd rfl | omega) rfl (Nat.le_of_ble_eq_true rfl) ?_
  refine g_aload_n 1 (gd rfl) rfl rfl ?_
  refine g_iconst 0 2 (gd rfl) rfl rfl ?_
  refine g_putI 5 (gd rfl) rfl rfl rfl rfl ?_
  have hI2 := inv_sF (q := 46) (j := 9) hI rfl (in_w 0 4608 (in_c 0 rfl) rfl)
  refine g_iconst 0 6 (gd rfl) rfl rfl ?_
  refine g_istore_n 7 (gd rfl) rfl (Nat.le_of_ble_eq_true rfl) ?_
  exact gg_w (by first | exact Nat.le_of_ble_eq_true rfl | omega) (gg_f (gf_cons rfl (gf_cons rfl (gf_cons rfl gf_nil))) (ct7 33 (sF s 46 9 (Int32.ofInt 0)) (Int32.ofInt 0) hI2 (fr_sF rfl fr_rf) (in_w 0 32 (in_c 0 rfl) rfl) (m_in 33 (in_w 0 32 (in_c 0 rfl) rfl) rfl)))

def fm_175_46_32 : FM := ([48], [], [(46, 9)], [])
/-- GraphHouse$Script.write -/
theorem k_175_46_32 {Z : AmZ} {A : Nat → Nat} {s : GS} {ex : va_W} {d : Nat} {X : AmX}  (hd : 4 ≤ d) (hI : Inv s)  : GC Z d 175 [.ref (A 46), .ref (A 32)] (WW Z A s ++ ex) 0 0 (fun v u => ∃ t : GS, Inv t ∧ Fr fm_175_46_32 s t ∧ ∃ z : Int32, v = some (.int z) ∧ u = WW Z A t ++ ex ∧ In z 0 4608) X := by
  intro post xp hP hX
  obtain ⟨u_32_1, e_32_1⟩ : ∃ w, w = s.2.2.1 32 1 := ⟨_, rfl⟩
  have ro_32_1 := inv_F hI 0 32 rfl e_32_1
  obtain ⟨u_32_3, e_32_3⟩ : ∃ w, w = s.2.2.1 32 3 := ⟨_, rfl⟩
  have ro_32_3 := inv_F hI 0 160 rfl e_32_3
  have ct39 : ∀ (k39 : Nat) (sc39 : GS) (y39_2 : Int32), Inv sc39 → Fr fm_175_46_32 s sc39 → (In y39_2 0 160) → 160 - (y39_2).toInt < (k39 : Int) → GG Z (d - 1) 175 post (gx xp) (1 + k39 * 1801) 39 (fun j => xlook j [(0, .ref (A 46)), (1, .ref (A 32)), (2, .int y39_2)]) [] (WW Z A sc39 ++ ex) 0 0 := by
    intro k39
    induction k39 with
    | zero => intro sc39 y39_2 hIc39 hFc39 j39_2 mm39; exact m_no mm39 j39_2 rfl
    | succ k39 ih39 =>
      intro sc39 y39_2 hIc39 hFc39 j39_2 mm39
      refine gg_w (M := 1 + k39 * 1801 + 1801) gws ?_
      have ct113 : ∀ (sc113 : GS) , Inv sc113 → Fr fm_175_46_32 s sc113 → (In y39_2 0 159) → GG Z (d - 1) 175 post (gx xp) (1 + k39 * 1801 + 901) 113 (fun j => xlook j [(0, .ref (A 46)), (1, .ref (A 32)), (2, .int y39_2)]) [] (WW Z A sc113 ++ ex) 0 0 := by
        intro sc113  hIc113 hFc113 j113_2
        refine g_iinc 116 (gd rfl) rfl rfl (Nat.le_of_ble_eq_true rfl) (fun z113 e113 => ?_)
        have i113 := in_add 1 160 e113 j113_2 (in_c 1 rfl) rfl rfl
        refine g_goto 39 (gd rfl) rfl ?_
        exact gg_w (by first | exact Nat.le_add_right _ _ | exact gw2 | exact gw3 | exact gwe rfl | exact gwf rfl | exact gwg rfl | exact gwh rfl | omega) (gg_f (gf_cons rfl (gf_cons rfl (gf_cons rfl gf_nil))) (ih39 sc113 z113 hIc113 hFc113 (in_w 0 160 i113 rfl) (m_up mm39 (t_add e113 j113_2 (in_c 1 rfl) rfl) (in_w 1 1 (in_c 1 rfl) rfl))))
      refine g_iload_n 40 (gd rfl) rfl rfl ?_
      refine g_aload_n 41 (gd rfl) rfl rfl ?_
      refine g_getI 44 (gd rfl) rfl rfl rfl (fun z41 e41 => ?_)
      have q41 : u_32_3 = z41 := (fr_F e_32_3 hFc39 rfl).trans e41.symm
      subst q41
      refine g_cmp_ge 47 119 (gd rfl) rfl rfl (fun c44 => ?_) (fun c44 => ?_)
      · skip
        refine g_aload_n 120 (gd rfl) rfl rfl ?_
        refine g_getI 123 (gd rfl) rfl rfl rfl (fun z120 e120 => ?_)
        have i120 := inv_F hIc39 0 4608 rfl e120
        exact g_ireturn (gd rfl) rfl rfl (hP _ _ ⟨sc39, hIc39, hFc39, z120, rfl, rfl, in_w 0 4608 i120 rfl⟩)
      · skip
        have i44 := r_lt1 0 159 c44 j39_2 ro_32_3 rfl
        have i44a := r_lt2 1 160 c44 j39_2 ro_32_3 rfl
        refine g_aload_n 48 (gd rfl) rfl rfl ?_
        refine g_getA (q2 := 34) 51 (gd rfl) rfl rfl rfl rfl ?_
        refine g_iload_n 52 (gd rfl) rfl rfl ?_
        refine g_iaload 53 (gd rfl) rfl (n := 160) rfl (in_ix i44 rfl) (fun z52 e52 => ?_)
        have i52 := inv_I hIc39 (n := 160) (t := 0) (-1) 31 rfl (in_ix i44 rfl) rfl e52
        refine g_iconst (-1) 54 (gd rfl) rfl rfl ?_
        refine g_cmp_eq 57 113 (gd rfl) rfl rfl (fun c54 => ?_) (fun c54 => ?_)
        · skip
          have i54 := r_eq1 (-1) (-1) c54 i52 (in_c (-1) rfl) rfl
          exact gg_w (by first | exact Nat.le_add_right _ _ | exact gw2 | exact gw3 | exact gwe rfl | exact gwf rfl | exact gwg rfl | exact gwh rfl | omega) (gg_f (gf_cons rfl (gf_cons rfl (gf_cons rfl gf_nil))) (ct113 sc39  hIc39 hFc39 (in_w 0 159 i44 rfl)))
        · skip
          have i54 := r_ne1 0 31 c54 i52 (in_c (-1) rfl) rfl
          refine g_aload_n 58 (gd rfl) rfl rfl ?_
          refine g_bipush 97 60 (gd rfl) rfl rfl ?_
          refine g_callv (X := _) (As := [.int (Int32.ofInt 97)]) (r := []) (b := A 46) (q := 46) 63 (gd rfl) rfl rfl rfl rfl rfl (ww_o rfl) (Nat.le_of_ble_eq_true rfl) (mc := 0) (ms := 0) (Nat.zero_le _) (Nat.zero_le _) (P := fun v u => _) ?_ (fun e u h => h) (fun v u h => h)
          intro po60 xx60 hp60 hx60
          refine g_enter2 (k := 177) (N := 300) (by first | exact dq1 hd rfl | exact dq0 hd rfl | exact dq2 hd rfl | exact dq3 hd rfl | omega) rfl (Nat.le_of_ble_eq_true rfl) ?_
          refine g_aload_n 1 (gd rfl) rfl rfl ?_
          refine g_getI 4 (gd rfl) rfl rfl rfl (fun z60x1 e60x1 => ?_)
          have i60x1 := inv_F hIc39 0 4608 rfl e60x1
          refine g_aload_n 5 (gd rfl) rfl rfl ?_
          refine g_getA (q2 := 48) 8 (gd rfl) rfl rfl rfl rfl ?_
          refine g_alen (n := 4608) (t := 2) 4608 9 (gd rfl) rfl rfl (Nat.le_of_ble_eq_true rfl) rfl ?_
          refine g_cmp_ge 12 32 (gd rfl) rfl rfl (fun c60x9 => ?_) (fun c60x9 => ?_)
          · skip
            have i60x9 := r_le2 4608 4608 c60x9 (in_c 4608 rfl) i60x1 rfl
            refine g_return (gd rfl) rfl (hp60 _ _ ?_)
            show GG _ _ _ _ _ _ _ _ [] _ _ _
            refine g_aload_n 64 (gd rfl) rfl rfl ?_
            refine g_aload_n 65 (gd rfl) rfl rfl ?_
            refine g_getA (q2 := 34) 68 (gd rfl) rfl rfl rfl rfl ?_
            refine g_iload_n 69 (gd rfl) rfl rfl ?_
            refine g_iaload 70 (gd rfl) rfl (n := 160) rfl (in_ix i44 rfl) (fun z69 e69 => ?_)
            have q69 : z52 = z69 := (e52).trans e69.symm
            subst q69
            refine g_callv (X := _) (As := [.int z52]) (r := []) (b := A 46) (q := 46) 73 (gd rfl) rfl rfl rfl rfl rfl (ww_o rfl) (Nat.le_of_ble_eq_true rfl) (Nat.zero_le _) (Nat.zero_le _) (k_178_46 (by first | exact dq1 hd rfl | exact dq0 hd rfl | exact dq2 hd rfl | exact dq3 hd rfl | omega) hIc39 (in_w (-1000000) 1000000 i54 rfl)) (fun e u h => h) (fun v u h => ?_)
            obtain ⟨s70, hI70, hF70, rfl, rfl⟩ := h
            show GG _ _ _ _ _ _ _ _ [] _ _ _
            refine g_aload_n 74 (gd rfl) rfl rfl ?_
            refine g_aload_n 75 (gd rfl) rfl rfl ?_
            refine g_getA (q2 := 35) 78 (gd rfl) rfl rfl rfl rfl ?_
            refine g_iload_n 79 (gd rfl) rfl rfl ?_
            refine g_iaload 80 (gd rfl) rfl (n := 160) rfl (in_ix i44 rfl) (fun z79 e79 => ?_)
            have i79 := inv_I hI70 (n := 160) (t := 0) 0 31 rfl (in_ix i44 rfl) rfl e79
            refine g_callv (X := _) (As := [.int z79]) (r := []) (b := A 46) (q := 46) 83 (gd rfl) rfl rfl rfl rfl rfl (ww_o rfl) (Nat.le_of_ble_eq_true rfl) (Nat.zero_le _) (Nat.zero_le _) (k_178_46 (by first | exact dq1 hd rfl | exact dq0 hd rfl | exact dq2 hd rfl | exact dq3 hd rfl | omega) hI70 (in_w (-1000000) 1000000 i79 rfl)) (fun e u h => h) (fun v u h => ?_)
            obtain ⟨s80, hI80, hF80, rfl, rfl⟩ := h
            show GG _ _ _ _ _ _ _ _ [] _ _ _
            refine g_aload_n 84 (gd rfl) rfl rfl ?_
            refine g_aload_n 85 (gd rfl) rfl rfl ?_
            refine g_getA (q2 := 36) 88 (gd rfl) rfl rfl rfl rfl ?_
            refine g_iload_n 89 (gd rfl) rfl rfl ?_
            refine g_iaload 90 (gd rfl) rfl (n := 160) rfl (in_ix i44 rfl) (fun z89 e89 => ?_)
            have i89 := inv_I hI80 (n := 160) (t := 0) (-1000000) 1000000 rfl (in_ix i44 rfl) rfl e89
            refine g_callv (X := _) (As := [.int z89]) (r := []) (b := A 46) (q := 46) 93 (gd rfl) rfl rfl rfl rfl rfl (ww_o rfl) (Nat.le_of_ble_eq_true rfl) (Nat.zero_le _) (Nat.zero_le _) (k_178_46 (by first | exact dq1 hd rfl | exact dq0 hd rfl | exact dq2 hd rfl | exact dq3 hd rfl | omega) hI80 (in_w (-1000000) 1000000 i89 rfl)) (fun e u h => h) (fun v u h => ?_)
            obtain ⟨s90, hI90, hF90, rfl, rfl⟩ := h
            show GG _ _ _ _ _ _ _ _ [] _ _ _
            refine g_aload_n 94 (gd rfl) rfl rfl ?_
            refine g_aload_n 95 (gd rfl) rfl rfl ?_
            refine g_getA (q2 := 37) 98 (gd rfl) rfl rfl rfl rfl ?_
            refine g_iload_n 99 (gd rfl) rfl rfl ?_
            refine g_iaload 100 (gd rfl) rfl (n := 160) rfl (in_ix i44 rfl) (fun z99 e99 => ?_)
            have i99 := inv_I hI90 (n := 160) (t := 0) 0 1000000 rfl (in_ix i44 rfl) rfl e99
            refine g_callv (X := _) (As := [.int z99]) (r := []) (b := A 46) (q := 46) 103 (gd rfl) rfl rfl rfl rfl rfl (ww_o rfl) (Nat.le_of_ble_eq_true rfl) (Nat.zero_le _) (Nat.zero_le _) (k_178_46 (by first | exact dq1 hd rfl | exact dq0 hd rfl | exact dq2 hd rfl | exact dq3 hd rfl | omega) hI90 (in_w (-1000000) 1000000 i99 rfl)) (fun e u h => h) (fun v u h => ?_)
            obtain ⟨s100, hI100, hF100, rfl, rfl⟩ := h
            show GG _ _ _ _ _ _ _ _ [] _ _ _
            refine g_aload_n 104 (gd rfl) rfl rfl ?_
            refine g_aload_n 105 (gd rfl) rfl rfl ?_
            refine g_getA (q2 := 38) 108 (gd rfl) rfl rfl rfl rfl ?_
            refine g_iload_n 109 (gd rfl) rfl rfl ?_
            refine g_iaload 110 (gd rfl) rfl (n := 160) rfl (in_ix i44 rfl) (fun z109 e109 => ?_)
            have i109 := inv_I hI100 (n := 160) (t := 0) 0 25 rfl (in_ix i44 rfl) rfl e109
            refine g_callv (X := _) (As := [.int z109]) (r := []) (b := A 46) (q := 46) 113 (gd rfl) rfl rfl rfl rfl rfl (ww_o rfl) (Nat.le_of_ble_eq_true rfl) (mc := 0) (ms := 0) (Nat.zero_le _) (Nat.zero_le _) (P := fun v u => _) ?_ (fun e u h => h) (fun v u h => h)
            intro po110 xx110 hp110 hx110
            refine g_enter2 (k := 176) (N := 300) (by first | exact dq1 hd rfl | exact dq0 hd rfl | exact dq2 hd rfl | exact dq3 hd rfl | omega) rfl (Nat.le_of_ble_eq_true rfl) ?_
            refine g_aload_n 1 (gd rfl) rfl rfl ?_
            refine g_bipush 32 3 (gd rfl) rfl rfl ?_
            refine g_callv (X := _) (As := [.int (Int32.ofInt 32)]) (r := []) (b := A 46) (q := 46) 6 (gd rfl) rfl rfl rfl rfl rfl (ww_o rfl) (Nat.le_of_ble_eq_true rfl) (mc := 0) (ms := 0) (Nat.zero_le _) (Nat.zero_le _) (P := fun v u => _) ?_ (fun e u h => h) (fun v u h => h)
            intro po110x3 xx110x3 hp110x3 hx110x3
            refine g_enter2 (k := 177) (N := 300) (by first | exact dq1 hd rfl | exact dq0 hd rfl | exact dq2 hd rfl | exact dq3 hd rfl | omega) rfl (Nat.le_of_ble_eq_true rfl) ?_
            refine g_aload_n 1 (gd rfl) rfl rfl ?_
            refine g_getI 4 (gd rfl) rfl rfl rfl (fun z110x3x1 e110x3x1 => ?_)
            have i110x3x1 := inv_F hI100 0 4608 rfl e110x3x1
            refine g_aload_n 5 (gd rfl) rfl rfl ?_
            refine g_getA (q2 := 48) 8 (gd rfl) rfl rfl rfl rfl ?_
            refine g_alen (n := 4608) (t := 2) 4608 9 (gd rfl) rfl rfl (Nat.le_of_ble_eq_true rfl) rfl ?_
            refine g_cmp_ge 12 32 (gd rfl) rfl rfl (fun c110x3x9 => ?_) (fun c110x3x9 => ?_)
            · skip
              have i110x3x9 := r_le2 4608 4608 c110x3x9 (in_c 4608 rfl) i110x3x1 rfl
              refine g_return (gd rfl) rfl (hp110x3 _ _ ?_)
              show GG _ _ _ _ _ _ _ _ [] _ _ _
              refine g_aload_n 7 (gd rfl) rfl rfl ?_
              refine g_bipush 97 9 (gd rfl) rfl rfl ?_
              refine g_iload_n 10 (gd rfl) rfl rfl ?_
              refine g_iadd 11 (gd rfl) rfl (fun z110x10 e110x10 => ?_)
              have i110x10 := in_add 97 122 e110x10 (in_c 97 rfl) i109 rfl rfl
              refine g_i2c 12 (gd rfl) rfl (fun z110x11 e110x11 => ?_)
              have i110x11 := in_i2c e110x11
              refine g_callv (X := _) (As := [.int z110x11]) (r := []) (b := A 46) (q := 46) 15 (gd rfl) rfl rfl rfl rfl rfl (ww_o rfl) (Nat.le_of_ble_eq_true rfl) (mc := 0) (ms := 0) (Nat.zero_le _) (Nat.zero_le _) (P := fun v u => _) ?_ (fun e u h => h) (fun v u h => h)
              intro po110x12 xx110x12 hp110x12 hx110x12
              refine g_enter2 (k := 177) (N := 300) (by first | exact dq1 hd rfl | exact dq0 hd rfl | exact dq2 hd rfl | exact dq3 hd rfl | omega) rfl (Nat.le_of_ble_eq_true rfl) ?_
              refine g_aload_n 1 (gd rfl) rfl rfl ?_
              refine g_getI 4 (gd rfl) rfl rfl rfl (fun z110x12x1 e110x12x1 => ?_)
              have q110x12x1 : z110x3x1 = z110x12x1 := (e110x3x1).trans e110x12x1.symm
              subst q110x12x1
              refine g_aload_n 5 (gd rfl) rfl rfl ?_
              refine g_getA (q2 := 48) 8 (gd rfl) rfl rfl rfl rfl ?_
              refine g_alen (n := 4608) (t := 2) 4608 9 (gd rfl) rfl rfl (Nat.le_of_ble_eq_true rfl) rfl ?_
              refine g_cmp_ge 12 32 (gd rfl) rfl rfl (fun c110x12x9 => ?_) (fun c110x12x9 => ?_)
              · skip
                refine g_return (gd rfl) rfl (hp110x12 _ _ ?_)
                show GG _ _ _ _ _ _ _ _ [] _ _ _
                refine g_aload_n 16 (gd rfl) rfl rfl ?_
                refine g_bipush 59 18 (gd rfl) rfl rfl ?_
                refine g_callv (X := _) (As := [.int (Int32.ofInt 59)]) (r := []) (b := A 46) (q := 46) 21 (gd rfl) rfl rfl rfl rfl rfl (ww_o rfl) (Nat.le_of_ble_eq_true rfl) (mc := 0) (ms := 0) (Nat.zero_le _) (Nat.zero_le _) (P := fun v u => _) ?_ (fun e u h => h) (fun v u h => h)
                intro po110x18 xx110x18 hp110x18 hx110x18
                refine g_enter2 (k := 177) (N := 300) (by first | exact dq1 hd rfl | exact dq0 hd rfl | exact dq2 hd rfl | exact dq3 hd rfl | omega) rfl (Nat.le_of_ble_eq_true rfl) ?_
                refine g_aload_n 1 (gd rfl) rfl rfl ?_
                refine g_getI 4 (gd rfl) rfl rfl rfl (fun z110x18x1 e110x18x1 => ?_)
                have q110x18x1 : z110x3x1 = z110x18x1 := (e110x3x1).trans e110x18x1.symm
                subst q110x18x1
                refine g_aload_n 5 (gd rfl) rfl rfl ?_
                refine g_getA (q2 := 48) 8 (gd rfl) rfl rfl rfl rfl ?_
                refine g_alen (n := 4608) (t := 2) 4608 9 (gd rfl) rfl rfl (Nat.le_of_ble_eq_true rfl) rfl ?_
                refine g_cmp_ge 12 32 (gd rfl) rfl rfl (fun c110x18x9 => ?_) (fun c110x18x9 => ?_)
                · skip
                  refine g_return (gd rfl) rfl (hp110x18 _ _ ?_)
                  show GG _ _ _ _ _ _ _ _ [] _ _ _
                  refine g_return (gd rfl) rfl (hp110 _ _ ?_)
                  show GG _ _ _ _ _ _ _ _ [] _ _ _
                  exact gg_w (by first | exact Nat.le_add_right _ _ | exact gw2 | exact gw3 | exact gwe rfl | exact gwf rfl | exact gwg rfl | exact gwh rfl | omega) (gg_f (gf_cons rfl (gf_cons rfl (gf_cons rfl gf_nil))) (ct113 s100  hI100 (fr_tr rfl (fr_tr rfl (fr_tr rfl (fr_tr rfl hFc39 hF70) hF80) hF90) hF100) (in_w 0 159 i44 rfl)))
                · skip
                  exact n_lt c110x18x9 i110x3x9 (in_c 4608 rfl) rfl
              · skip
                exact n_lt c110x12x9 i110x3x9 (in_c 4608 rfl) rfl
            · skip
              have i110x3x9 := r_lt1 0 4607 c110x3x9 i110x3x1 (in_c 4608 rfl) rfl
              refine g_aload_n 13 (gd rfl) rfl rfl ?_
              refine g_getA (q2 := 48) 16 (gd rfl) rfl rfl rfl rfl ?_
              refine g_aload_n 17 (gd rfl) rfl rfl ?_
              refine g_getI 20 (gd rfl) rfl rfl rfl (fun z110x3x17 e110x3x17 => ?_)
              have q110x3x17 : z110x3x1 = z110x3x17 := (e110x3x1).trans e110x3x17.symm
              subst q110x3x17
              refine g_iload_n 21 (gd rfl) rfl rfl ?_
              refine g_castore 22 (gd rfl) rfl (n := 4608) rfl (in_ix i110x3x9 rfl) ?_
              have hI110x3x21 := inv_sI (q := 48) (j := z110x3x1.toNatClampNeg) hI100 rfl (in_w 0 65535 (nar_c (Int32.ofInt 32)) rfl)
              refine g_aload_n 23 (gd rfl) rfl rfl ?_
              refine g_dup 24 (gd rfl) rfl rfl ?_
              refine g_getI 27 (gd rfl) rfl rfl rfl (fun z110x3x24 e110x3x24 => ?_)
              have q110x3x24 : z110x3x1 = z110x3x24 := (sI_F (e110x3x1)).trans e110x3x24.symm
              subst q110x3x24
              refine g_iconst 1 28 (gd rfl) rfl rfl ?_
              refine g_iadd 29 (gd rfl) rfl (fun z110x3x28 e110x3x28 => ?_)
              have i110x3x28 := in_add 1 4608 e110x3x28 i110x3x9 (in_c 1 rfl) rfl rfl
              refine g_putI 32 (gd rfl) rfl rfl rfl rfl ?_
              have hI110x3x29 := inv_sF (q := 46) (j := 9) hI110x3x21 rfl (in_w 0 4608 i110x3x28 rfl)
              refine g_return (gd rfl) rfl (hp110x3 _ _ ?_)
              show GG _ _ _ _ _ _ _ _ [] _ _ _
              refine g_aload_n 7 (gd rfl) rfl rfl ?_
              refine g_bipush 97 9 (gd rfl) rfl rfl ?_
              refine g_iload_n 10 (gd rfl) rfl rfl ?_
              refine g_iadd 11 (gd rfl) rfl (fun z110x10 e110x10 => ?_)
              have i110x10 := in_add 97 122 e110x10 (in_c 97 rfl) i109 rfl rfl
              refine g_i2c 12 (gd rfl) rfl (fun z110x11 e110x11 => ?_)
              have i110x11 := in_i2c e110x11
              refine g_callv (X := _) (As := [.int z110x11]) (r := []) (b := A 46) (q := 46) 15 (gd rfl) rfl rfl rfl rfl rfl (ww_o rfl) (Nat.le_of_ble_eq_true rfl) (mc := 0) (ms := 0) (Nat.zero_le _) (Nat.zero_le _) (P := fun v u => _) ?_ (fun e u h => h) (fun v u h => h)
              intro po110x12 xx110x12 hp110x12 hx110x12
              refine g_enter2 (k := 177) (N := 300) (by first | exact dq1 hd rfl | exact dq0 hd rfl | exact dq2 hd rfl | exact dq3 hd rfl | omega) rfl (Nat.le_of_ble_eq_true rfl) ?_
              refine g_aload_n 1 (gd rfl) rfl rfl ?_
              refine g_getI 4 (gd rfl) rfl rfl rfl (fun z110x12x1 e110x12x1 => ?_)
              have q110x12x1 : z110x3x28 = z110x12x1 := (sF_get).trans e110x12x1.symm
              subst q110x12x1
              refine g_aload_n 5 (gd rfl) rfl rfl ?_
              refine g_getA (q2 := 48) 8 (gd rfl) rfl rfl rfl rfl ?_
              refine g_alen (n := 4608) (t := 2) 4608 9 (gd rfl) rfl rfl (Nat.le_of_ble_eq_true rfl) rfl ?_
              refine g_cmp_ge 12 32 (gd rfl) rfl rfl (fun c110x12x9 => ?_) (fun c110x12x9 => ?_)
              · skip
                have i110x12x9 := r_le2 4608 4608 c110x12x9 (in_c 4608 rfl) i110x3x28 rfl
                refine g_return (gd rfl) rfl (hp110x12 _ _ ?_)
                show GG _ _ _ _ _ _ _ _ [] _ _ _
                refine g_aload_n 16 (gd rfl) rfl rfl ?_
                refine g_bipush 59 18 (gd rfl) rfl rfl ?_
                refine g_callv (X := _) (As := [.int (Int32.ofInt 59)]) (r := []) (b := A 46) (q := 46) 21 (gd rfl) rfl rfl rfl rfl rfl (ww_o rfl) (Nat.le_of_ble_eq_true rfl) (mc := 0) (ms := 0) (Nat.zero_le _) (Nat.zero_le _) (P := fun v u => _) ?_ (fun e u h => h) (fun v u h => h)
                intro po110x18 xx110x18 hp110x18 hx110x18
                refine g_enter2 (k := 177) (N := 300) (by first | exact dq1 hd rfl | exact dq0 hd rfl | exact dq2 hd rfl | exact dq3 hd rfl | omega) rfl (Nat.le_of_ble_eq_true rfl) ?_
                refine g_aload_n 1 (gd rfl) rfl rfl ?_
                refine g_getI 4 (gd rfl) rfl rfl rfl (fun z110x18x1 e110x18x1 => ?_)
                have q110x18x1 : z110x3x28 = z110x18x1 := (sF_get).trans e110x18x1.symm
                subst q110x18x1
                refine g_aload_n 5 (gd rfl) rfl rfl ?_
                refine g_getA (q2 := 48) 8 (gd rfl) rfl rfl rfl rfl ?_
                refine g_alen (n := 4608) (t := 2) 4608 9 (gd rfl) rfl rfl (Nat.le_of_ble_eq_true rfl) rfl ?_
                refine g_cmp_ge 12 32 (gd rfl) rfl rfl (fun c110x18x9 => ?_) (fun c110x18x9 => ?_)
                · skip
                  refine g_return (gd rfl) rfl (hp110x18 _ _ ?_)
                  show GG _ _ _ _ _ _ _ _ [] _ _ _
                  refine g_return (gd rfl) rfl (hp110 _ _ ?_)
                  show GG _ _ _ _ _ _ _ _ [] _ _ _
                  exact gg_w (by first | exact Nat.le_add_right _ _ | exact gw2 | exact gw3 | exact gwe rfl | exact gwf rfl | exact gwg rfl | exact gwh rfl | omega) (gg_f (gf_cons rfl (gf_cons rfl (gf_cons rfl gf_nil))) (ct113 (sF (sI s100 48 z110x3x1.toNatClampNeg (vp_nar .char (Int32.ofInt 32))) 46 9 z110x3x28)  hI110x3x29 (fr_sF rfl (fr_sI rfl (fr_tr rfl (fr_tr rfl (fr_tr rfl (fr_tr rfl hFc39 hF70) hF80) hF90) hF100))) (in_w 0 159 i44 rfl)))
                · skip
                  exact n_lt c110x18x9 i110x12x9 (in_c 4608 rfl) rfl
              · skip
                have i110x12x9 := r_lt1 1 4607 c110x12x9 i110x3x28 (in_c 4608 rfl) rfl
                refine g_aload_n 13 (gd rfl) rfl rfl ?_
                refine g_getA (q2 := 48) 16 (gd rfl) rfl rfl rfl rfl ?_
                refine g_aload_n 17 (gd rfl) rfl rfl ?_
                refine g_getI 20 (gd rfl) rfl rfl rfl (fun z110x12x17 e110x12x17 => ?_)
                have q110x12x17 : z110x3x28 = z110x12x17 := (sF_get).trans e110x12x17.symm
                subst q110x12x17
                refine g_iload_n 21 (gd rfl) rfl rfl ?_
                refine g_castore 22 (gd rfl) rfl (n := 4608) rfl (in_ix i110x12x9 rfl) ?_
                have hI110x12x21 := inv_sI (q := 48) (j := z110x3x28.toNatClampNeg) hI110x3x29 rfl (in_w 0 65535 (nar_c z110x11) rfl)
                refine g_aload_n 23 (gd rfl) rfl rfl ?_
                refine g_dup 24 (gd rfl) rfl rfl ?_
                refine g_getI 27 (gd rfl) rfl rfl rfl (fun z110x12x24 e110x12x24 => ?_)
                have q110x12x24 : z110x3x28 = z110x12x24 := (sI_F (sF_get)).trans e110x12x24.symm
                subst q110x12x24
                refine g_iconst 1 28 (gd rfl) rfl rfl ?_
                refine g_iadd 29 (gd rfl) rfl (fun z110x12x28 e110x12x28 => ?_)
                have i110x12x28 := in_add 2 4608 e110x12x28 i110x12x9 (in_c 1 rfl) rfl rfl
                refine g_putI 32 (gd rfl) rfl rfl rfl rfl ?_
                have hI110x12x29 := inv_sF (q := 46) (j := 9) hI110x12x21 rfl (in_w 0 4608 i110x12x28 rfl)
                refine g_return (gd rfl) rfl (hp110x12 _ _ ?_)
                show GG _ _ _ _ _ _ _ _ [] _ _ _
                refine g_aload_n 16 (gd rfl) rfl rfl ?_
                refine g_bipush 59 18 (gd rfl) rfl rfl ?_
                refine g_callv (X := _) (As := [.int (Int32.ofInt 59)]) (r := []) (b := A 46) (q := 46) 21 (gd rfl) rfl rfl rfl rfl rfl (ww_o rfl) (Nat.le_of_ble_eq_true rfl) (mc := 0) (ms := 0) (Nat.zero_le _) (Nat.zero_le _) (P := fun v u => _) ?_ (fun e u h => h) (fun v u h => h)
                intro po110x18 xx110x18 hp110x18 hx110x18
                refine g_enter2 (k := 177) (N := 300) (by first | exact dq1 hd rfl | exact dq0 hd rfl | exact dq2 hd rfl | exact dq3 hd rfl | omega) rfl (Nat.le_of_ble_eq_true rfl) ?_
                refine g_aload_n 1 (gd rfl) rfl rfl ?_
                refine g_getI 4 (gd rfl) rfl rfl rfl (fun z110x18x1 e110x18x1 => ?_)
                have q110x18x1 : z110x12x28 = z110x18x1 := (sF_get).trans e110x18x1.symm
                subst q110x18x1
                refine g_aload_n 5 (gd rfl) rfl rfl ?_
                refine g_getA (q2 := 48) 8 (gd rfl) rfl rfl rfl rfl ?_
                refine g_alen (n := 4608) (t := 2) 4608 9 (gd rfl) rfl rfl (Nat.le_of_ble_eq_true rfl) rfl ?_
                refine g_cmp_ge 12 32 (gd rfl) rfl rfl (fun c110x18x9 => ?_) (fun c110x18x9 => ?_)
                · skip
                  have i110x18x9 := r_le2 4608 4608 c110x18x9 (in_c 4608 rfl) i110x12x28 rfl
                  refine g_return (gd rfl) rfl (hp110x18 _ _ ?_)
                  show GG _ _ _ _ _ _ _ _ [] _ _ _
                  refine g_return (gd rfl) rfl (hp110 _ _ ?_)
                  show GG _ _ _ _ _ _ _ _ [] _ _ _
                  exact gg_w (by first | exact Nat.le_add_right _ _ | exact gw2 | exact gw3 | exact gwe rfl | exact gwf rfl | exact gwg rfl | exact gwh rfl | omega) (gg_f (gf_cons rfl (gf_cons rfl (gf_cons rfl gf_nil))) (ct113 (sF (sI (sF (sI s100 48 z110x3x1.toNatClampNeg (vp_nar .char (Int32.ofInt 32))) 46 9 z110x3x28) 48 z110x3x28.toNatClampNeg (vp_nar .char z110x11)) 46 9 z110x12x28)  hI110x12x29 (fr_sF rfl (fr_sI rfl (fr_sF rfl (fr_sI rfl (fr_tr rfl (fr_tr rfl (fr_tr rfl (fr_tr rfl hFc39 hF70) hF80) hF90) hF100))))) (in_w 0 159 i44 rfl)))
                · skip
                  have i110x18x9 := r_lt1 2 4607 c110x18x9 i110x12x28 (in_c 4608 rfl) rfl
                  refine g_aload_n 13 (gd rfl) rfl rfl ?_
                  refine g_getA (q2 := 48) 16 (gd rfl) rfl rfl rfl rfl ?_
                  refine g_aload_n 17 (gd rfl) rfl rfl ?_
                  refine g_getI 20 (gd rfl) rfl rfl rfl (fun z110x18x17 e110x18x17 => ?_)
                  have q110x18x17 : z110x12x28 = z110x18x17 := (sF_get).trans e110x18x17.symm
                  subst q110x18x17
                  refine g_iload_n 21 (gd rfl) rfl rfl ?_
                  refine g_castore 22 (gd rfl) rfl (n := 4608) rfl (in_ix i110x18x9 rfl) ?_
                  have hI110x18x21 := inv_sI (q := 48) (j := z110x12x28.toNatClampNeg) hI110x12x29 rfl (in_w 0 65535 (nar_c (Int32.ofInt 59)) rfl)
                  refine g_aload_n 23 (gd rfl) rfl rfl ?_
                  refine g_dup 24 (gd rfl) rfl rfl ?_
                  refine g_getI 27 (gd rfl) rfl rfl rfl (fun z110x18x24 e110x18x24 => ?_)
                  have q110x18x24 : z110x12x28 = z110x18x24 := (sI_F (sF_get)).trans e110x18x24.symm
                  subst q110x18x24
                  refine g_iconst 1 28 (gd rfl) rfl rfl ?_
                  refine g_iadd 29 (gd rfl) rfl (fun z110x18x28 e110x18x28 => ?_)
                  have i110x18x28 := in_add 3 4608 e110x18x28 i110x18x9 (in_c 1 rfl) rfl rfl
                  refine g_putI 32 (gd rfl) rfl rfl rfl rfl ?_
                  have hI110x18x29 := inv_sF (q := 46) (j := 9) hI110x18x21 rfl (in_w 0 4608 i110x18x28 rfl)
                  refine g_return (gd rfl) rfl (hp110x18 _ _ ?_)
                  show GG _ _ _ _ _ _ _ _ [] _ _ _
                  refine g_return (gd rfl) rfl (hp110 _ _ ?_)
                  show GG _ _ _ _ _ _ _ _ [] _ _ _
                  exact gg_w (by first | exact Nat.le_add_right _ _ | exact gw2 | exact gw3 | exact gwe rfl | exact gwf rfl | exact gwg rfl | exact gwh rfl | omega) (gg_f (gf_cons rfl (gf_cons rfl (gf_cons rfl gf_nil))) (ct113 (sF (sI (sF (sI (sF (sI s100 48 z110x3x1.toNatClampNeg (vp_nar .char (Int32.ofInt 32))) 46 9 z110x3x28) 48 z110x3x28.toNatClampNeg (vp_nar .char z110x11)) 46 9 z110x12x28) 48 z110x12x28.toNatClampNeg (vp_nar .char (Int32.ofInt 59))) 46 9 z110x18x28)  hI110x18x29 (fr_sF rfl (fr_sI rfl (fr_sF rfl (fr_sI rfl (fr_sF rfl (fr_sI rfl (fr_tr rfl (fr_tr rfl (fr_tr rfl (fr_tr rfl hFc39 hF70) hF80) hF90) hF100))))))) (in_w 0 159 i44 rfl)))
          · skip
            have i60x9 := r_lt1 0 4607 c60x9 i60x1 (in_c 4608 rfl) rfl
            refine g_aload_n 13 (gd rfl) rfl rfl ?_
            refine g_getA (q2 := 48) 16 (gd rfl) rfl rfl rfl rfl ?_
            refine g_aload_n 17 (gd rfl) rfl rfl ?_
            refine g_getI 20 (gd rfl) rfl rfl rfl (fun z60x17 e60x17 => ?_)
            have q60x17 : z60x1 = z60x17 := (e60x1).trans e60x17.symm
            subst q60x17
            refine g_iload_n 21 (gd rfl) rfl rfl ?_
            refine g_castore 22 (gd rfl) rfl (n := 4608) rfl (in_ix i60x9 rfl) ?_
            have hI60x21 := inv_sI (q := 48) (j := z60x1.toNatClampNeg) hIc39 rfl (in_w 0 65535 (nar_c (Int32.ofInt 97)) rfl)
            refine g_aload_n 23 (gd rfl) rfl rfl ?_
            refine g_dup 24 (gd rfl) rfl rfl ?_
            refine g_getI 27 (gd rfl) rfl rfl rfl (fun z60x24 e60x24 => ?_)
            have q60x24 : z60x1 = z60x24 := (sI_F (e60x1)).trans e60x24.symm
            subst q60x24
            refine g_iconst 1 28 (gd rfl) rfl rfl ?_
            refine g_iadd 29 (gd rfl) rfl (fun z60x28 e60x28 => ?_)
            have i60x28 := in_add 1 4608 e60x28 i60x9 (in_c 1 rfl) rfl rfl
            refine g_putI 32 (gd rfl) rfl rfl rfl rfl ?_
            have hI60x29 := inv_sF (q := 46) (j := 9) hI60x21 rfl (in_w 0 4608 i60x28 rfl)
            refine g_return (gd rfl) rfl (hp60 _ _ ?_)
            show GG _ _ _ _ _ _ _ _ [] _ _ _
            refine g_aload_n 64 (gd rfl) rfl rfl ?_
            refine g_aload_n 65 (gd rfl) rfl rfl ?_
            refine g_getA (q2 := 34) 68 (gd rfl) rfl rfl rfl rfl ?_
            refine g_iload_n 69 (gd rfl) rfl rfl ?_
            refine g_iaload 70 (gd rfl) rfl (n := 160) rfl (in_ix i44 rfl) (fun z69 e69 => ?_)
            have q69 : z52 = z69 := (sF_I (sI_ne rfl (e52))).trans e69.symm
            subst q69
            refine g_callv (X := _) (As := [.int z52]) (r := []) (b := A 46) (q := 46) 73 (gd rfl) rfl rfl rfl rfl rfl (ww_o rfl) (Nat.le_of_ble_eq_true rfl) (Nat.zero_le _) (Nat.zero_le _) (k_178_46 (by first | exact dq1 hd rfl | exact dq0 hd rfl | exact dq2 hd rfl | exact dq3 hd rfl | omega) hI60x29 (in_w (-1000000) 1000000 i54 rfl)) (fun e u h => h) (fun v u h => ?_)
            obtain ⟨s70, hI70, hF70, rfl, rfl⟩ := h
            show GG _ _ _ _ _ _ _ _ [] _ _ _
            refine g_aload_n 74 (gd rfl) rfl rfl ?_
            refine g_aload_n 75 (gd rfl) rfl rfl ?_
            refine g_getA (q2 := 35) 78 (gd rfl) rfl rfl rfl rfl ?_
            refine g_iload_n 79 (gd rfl) rfl rfl ?_
            refine g_iaload 80 (gd rfl) rfl (n := 160) rfl (in_ix i44 rfl) (fun z79 e79 => ?_)
            have i79 := inv_I hI70 (n := 160) (t := 0) 0 31 rfl (in_ix i44 rfl) rfl e79
            refine g_callv (X := _) (As := [.int z79]) (r := []) (b := A 46) (q := 46) 83 (gd rfl) rfl rfl rfl rfl rfl (ww_o rfl) (Nat.le_of_ble_eq_true rfl) (Nat.zero_le _) (Nat.zero_le _) (k_178_46 (by first | exact dq1 hd rfl | exact dq0 hd rfl | exact dq2 hd rfl | exact dq3 hd rfl | omega) hI70 (in_w (-1000000) 1000000 i79 rfl)) (fun e u h => h) (fun v u h => ?_)
            obtain ⟨s80, hI80, hF80, rfl, rfl⟩ := h
            show GG _ _ _ _ _ _ _ _ [] _ _ _
            refine g_aload_n 84 (gd rfl) rfl rfl ?_
            refine g_aload_n 85 (gd rfl) rfl rfl ?_
            refine g_getA (q2 := 36) 88 (gd rfl) rfl rfl rfl rfl ?_
            refine g_iload_n 89 (gd rfl) rfl rfl ?_
            refine g_iaload 90 (gd rfl) rfl (n := 160) rfl (in_ix i44 rfl) (fun z89 e89 => ?_)
            have i89 := inv_I hI80 (n := 160) (t := 0) (-1000000) 1000000 rfl (in_ix i44 rfl) rfl e89
            refine g_callv (X := _) (As := [.int z89]) (r := []) (b := A 46) (q := 46) 93 (gd rfl) rfl rfl rfl rfl rfl (ww_o rfl) (Nat.le_of_ble_eq_true rfl) (Nat.zero_le _) (Nat.zero_le _) (k_178_46 (by first | exact dq1 hd rfl | exact dq0 hd rfl | exact dq2 hd rfl | exact dq3 hd rfl | omega) hI80 (in_w (-1000000) 1000000 i89 rfl)) (fun e u h => h) (fun v u h => ?_)
            obtain ⟨s90, hI90, hF90, rfl, rfl⟩ := h
            show GG _ _ _ _ _ _ _ _ [] _ _ _
            refine g_aload_n 94 (gd rfl) rfl rfl ?_
            refine g_aload_n 95 (gd rfl) rfl rfl ?_
            refine g_getA (q2 := 37) 98 (gd rfl) rfl rfl rfl rfl ?_
            refine g_iload_n 99 (gd rfl) rfl rfl ?_
            refine g_iaload 100 (gd rfl) rfl (n := 160) rfl (in_ix i44 rfl) (fun z99 e99 => ?_)
            have i99 := inv_I hI90 (n := 160) (t := 0) 0 1000000 rfl (in_ix i44 rfl) rfl e99
            refine g_callv (X := _) (As := [.int z99]) (r := []) (b := A 46) (q := 46) 103 (gd rfl) rfl rfl rfl rfl rfl (ww_o rfl) (Nat.le_of_ble_eq_true rfl) (Nat.zero_le _) (Nat.zero_le _) (k_178_46 (by first | exact dq1 hd rfl | exact dq0 hd rfl | exact dq2 hd rfl | exact dq3 hd rfl | omega) hI90 (in_w (-1000000) 1000000 i99 rfl)) (fun e u h => h) (fun v u h => ?_)
            obtain ⟨s100, hI100, hF100, rfl, rfl⟩ := h
            show GG _ _ _ _ _ _ _ _ [] _ _ _
            refine g_aload_n 104 (gd rfl) rfl rfl ?_
            refine g_aload_n 105 (gd rfl) rfl rfl ?_
            refine g_getA (q2 := 38) 108 (gd rfl) rfl rfl rfl rfl ?_
            refine g_iload_n 109 (gd rfl) rfl rfl ?_
            refine g_iaload 110 (gd rfl) rfl (n := 160) rfl (in_ix i44 rfl) (fun z109 e109 => ?_)
            have i109 := inv_I hI100 (n := 160) (t := 0) 0 25 rfl (in_ix i44 rfl) rfl e109
            refine g_callv (X := _) (As := [.int z109]) (r := []) (b := A 46) (q := 46) 113 (gd rfl) rfl rfl rfl rfl rfl (ww_o rfl) (Nat.le_of_ble_eq_true rfl) (mc := 0) (ms := 0) (Nat.zero_le _) (Nat.zero_le _) (P := fun v u => _) ?_ (fun e u h => h) (fun v u h => h)
            intro po110 xx110 hp110 hx110
            refine g_enter2 (k := 176) (N := 300) (by first | exact dq1 hd rfl | exact dq0 hd rfl | exact dq2 hd rfl | exact dq3 hd rfl | omega) rfl (Nat.le_of_ble_eq_true rfl) ?_
            refine g_aload_n 1 (gd rfl) rfl rfl ?_
            refine g_bipush 32 3 (gd rfl) rfl rfl ?_
            refine g_callv (X := _) (As := [.int (Int32.ofInt 32)]) (r := []) (b := A 46) (q := 46) 6 (gd rfl) rfl rfl rfl rfl rfl (ww_o rfl) (Nat.le_of_ble_eq_true rfl) (mc := 0) (ms := 0) (Nat.zero_le _) (Nat.zero_le _) (P := fun v u => _) ?_ (fun e u h => h) (fun v u h => h)
            intro po110x3 xx110x3 hp110x3 hx110x3
            refine g_enter2 (k := 177) (N := 300) (by first | exact dq1 hd rfl | exact dq0 hd rfl | exact dq2 hd rfl | exact dq3 hd rfl | omega) rfl (Nat.le_of_ble_eq_true rfl) ?_
            refine g_aload_n 1 (gd rfl) rfl rfl ?_
            refine g_getI 4 (gd rfl) rfl rfl rfl (fun z110x3x1 e110x3x1 => ?_)
            have i110x3x1 := inv_F hI100 0 4608 rfl e110x3x1
            refine g_aload_n 5 (gd rfl) rfl rfl ?_
            refine g_getA (q2 := 48) 8 (gd rfl) rfl rfl rfl rfl ?_
            refine g_alen (n := 4608) (t := 2) 4608 9 (gd rfl) rfl rfl (Nat.le_of_ble_eq_true rfl) rfl ?_
            refine g_cmp_ge 12 32 (gd rfl) rfl rfl (fun c110x3x9 => ?_) (fun c110x3x9 => ?_)
            · skip
              have i110x3x9 := r_le2 4608 4608 c110x3x9 (in_c 4608 rfl) i110x3x1 rfl
              refine g_return (gd rfl) rfl (hp110x3 _ _ ?_)
              show GG _ _ _ _ _ _ _ _ [] _ _ _
              refine g_aload_n 7 (gd rfl) rfl rfl ?_
              refine g_bipush 97 9 (gd rfl) rfl rfl ?_
              refine g_iload_n 10 (gd rfl) rfl rfl ?_
              refine g_iadd 11 (gd rfl) rfl (fun z110x10 e110x10 => ?_)
              have i110x10 := in_add 97 122 e110x10 (in_c 97 rfl) i109 rfl rfl
              refine g_i2c 12 (gd rfl) rfl (fun z110x11 e110x11 => ?_)
              have i110x11 := in_i2c e110x11
              refine g_callv (X := _) (As := [.int z110x11]) (r := []) (b := A 46) (q := 46) 15 (gd rfl) rfl rfl rfl rfl rfl (ww_o rfl) (Nat.le_of_ble_eq_true rfl) (mc := 0) (ms := 0) (Nat.zero_le _) (Nat.zero_le _) (P := fun v u => _) ?_ (fun e u h => h) (fun v u h => h)
              intro po110x12 xx110x12 hp110x12 hx110x12
              refine g_enter2 (k := 177) (N := 300) (by first | exact dq1 hd rfl | exact dq0 hd rfl | exact dq2 hd rfl | exact dq3 hd rfl | omega) rfl (Nat.le_of_ble_eq_true rfl) ?_
              refine g_aload_n 1 (gd rfl) rfl rfl ?_
              refine g_getI 4 (gd rfl) rfl rfl rfl (fun z110x12x1 e110x12x1 => ?_)
              have q110x12x1 : z110x3x1 = z110x12x1 := (e110x3x1).trans e110x12x1.symm
              subst q110x12x1
              refine g_aload_n 5 (gd rfl) rfl rfl ?_
              refine g_getA (q2 := 48) 8 (gd rfl) rfl rfl rfl rfl ?_
              refine g_alen (n := 4608) (t := 2) 4608 9 (gd rfl) rfl rfl (Nat.le_of_ble_eq_true rfl) rfl ?_
              refine g_cmp_ge 12 32 (gd rfl) rfl rfl (fun c110x12x9 => ?_) (fun c110x12x9 => ?_)
              · skip
                refine g_return (gd rfl) rfl (hp110x12 _ _ ?_)
                show GG _ _ _ _ _ _ _ _ [] _ _ _
                refine g_aload_n 16 (gd rfl) rfl rfl ?_
                refine g_bipush 59 18 (gd rfl) rfl rfl ?_
                refine g_callv (X := _) (As := [.int (Int32.ofInt 59)]) (r := []) (b := A 46) (q := 46) 21 (gd rfl) rfl rfl rfl rfl rfl (ww_o rfl) (Nat.le_of_ble_eq_true rfl) (mc := 0) (ms := 0) (Nat.zero_le _) (Nat.zero_le _) (P := fun v u => _) ?_ (fun e u h => h) (fun v u h => h)
                intro po110x18 xx110x18 hp110x18 hx110x18
                refine g_enter2 (k := 177) (N := 300) (by first | exact dq1 hd rfl | exact dq0 hd rfl | exact dq2 hd rfl | exact dq3 hd rfl | omega) rfl (Nat.le_of_ble_eq_true rfl) ?_
                refine g_aload_n 1 (gd rfl) rfl rfl ?_
                refine g_getI 4 (gd rfl) rfl rfl rfl (fun z110x18x1 e110x18x1 => ?_)
                have q110x18x1 : z110x3x1 = z110x18x1 := (e110x3x1).trans e110x18x1.symm
                subst q110x18x1
                refine g_aload_n 5 (gd rfl) rfl rfl ?_
                refine g_getA (q2 := 48) 8 (gd rfl) rfl rfl rfl rfl ?_
                refine g_alen (n := 4608) (t := 2) 4608 9 (gd rfl) rfl rfl (Nat.le_of_ble_eq_true rfl) rfl ?_
                refine g_cmp_ge 12 32 (gd rfl) rfl rfl (fun c110x18x9 => ?_) (fun c110x18x9 => ?_)
                · skip
                  refine g_return (gd rfl) rfl (hp110x18 _ _ ?_)
                  show GG _ _ _ _ _ _ _ _ [] _ _ _
                  refine g_return (gd rfl) rfl (hp110 _ _ ?_)
                  show GG _ _ _ _ _ _ _ _ [] _ _ _
                  exact gg_w (by first | exact Nat.le_add_right _ _ | exact gw2 | exact gw3 | exact gwe rfl | exact gwf rfl | exact gwg rfl | exact gwh rfl | omega) (gg_f (gf_cons rfl (gf_cons rfl (gf_cons rfl gf_nil))) (ct113 s100  hI100 (fr_tr rfl (fr_tr rfl (fr_tr rfl (fr_tr rfl (fr_sF rfl (fr_sI rfl hFc39)) hF70) hF80) hF90) hF100) (in_w 0 159 i44 rfl)))
                · skip
                  exact n_lt c110x18x9 i110x3x9 (in_c 4608 rfl) rfl
              · skip
                exact n_lt c110x12x9 i110x3x9 (in_c 4608 rfl) rfl
            · skip
              have i110x3x9 := r_lt1 0 4607 c110x3x9 i110x3x1 (in_c 4608 rfl) rfl
              refine g_aload_n 13 (gd rfl) rfl rfl ?_
              refine g_getA (q2 := 48) 16 (gd rfl) rfl rfl rfl rfl ?_
              refine g_aload_n 17 (gd rfl) rfl rfl ?_
              refine g_getI 20 (gd rfl) rfl rfl rfl (fun z110x3x17 e110x3x17 => ?_)
              have q110x3x17 : z110x3x1 = z110x3x17 := (e110x3x1).trans e110x3x17.symm
              subst q110x3x17
              refine g_iload_n 21 (gd rfl) rfl rfl ?_
              refine g_castore 22 (gd rfl) rfl (n := 4608) rfl (in_ix i110x3x9 rfl) ?_
              have hI110x3x21 := inv_sI (q := 48) (j := z110x3x1.toNatClampNeg) hI100 rfl (in_w 0 65535 (nar_c (Int32.ofInt 32)) rfl)
              refine g_aload_n 23 (gd rfl) rfl rfl ?_
              refine g_dup 24 (gd rfl) rfl rfl ?_
              refine g_getI 27 (gd rfl) rfl rfl rfl (fun z110x3x24 e110x3x24 => ?_)
              have q110x3x24 : z110x3x1 = z110x3x24 := (sI_F (e110x3x1)).trans e110x3x24.symm
              subst q110x3x24
              refine g_iconst 1 28 (gd rfl) rfl rfl ?_
              refine g_iadd 29 (gd rfl) rfl (fun z110x3x28 e110x3x28 => ?_)
              have i110x3x28 := in_add 1 4608 e110x3x28 i110x3x9 (in_c 1 rfl) rfl rfl
              refine g_putI 32 (gd rfl) rfl rfl rfl rfl ?_
              have hI110x3x29 := inv_sF (q := 46) (j := 9) hI110x3x21 rfl (in_w 0 4608 i110x3x28 rfl)
              refine g_return (gd rfl) rfl (hp110x3 _ _ ?_)
              show GG _ _ _ _ _ _ _ _ [] _ _ _
              refine g_aload_n 7 (gd rfl) rfl rfl ?_
              refine g_bipush 97 9 (gd rfl) rfl rfl ?_
              refine g_iload_n 10 (gd rfl) rfl rfl ?_
              refine g_iadd 11 (gd rfl) rfl (fun z110x10 e110x10 => ?_)
              have i110x10 := in_add 97 122 e110x10 (in_c 97 rfl) i109 rfl rfl
              refine g_i2c 12 (gd rfl) rfl (fun z110x11 e110x11 => ?_)
              have i110x11 := in_i2c e110x11
              refine g_callv (X := _) (As := [.int z110x11]) (r := []) (b := A 46) (q := 46) 15 (gd rfl) rfl rfl rfl rfl rfl (ww_o rfl) (Nat.le_of_ble_eq_true rfl) (mc := 0) (ms := 0) (Nat.zero_le _) (Nat.zero_le _) (P := fun v u => _) ?_ (fun e u h => h) (fun v u h => h)
              intro po110x12 xx110x12 hp110x12 hx110x12
              refine g_enter2 (k := 177) (N := 300) (by first | exact dq1 hd rfl | exact dq0 hd rfl | exact dq2 hd rfl | exact dq3 hd rfl | omega) rfl (Nat.le_of_ble_eq_true rfl) ?_
              refine g_aload_n 1 (gd rfl) rfl rfl ?_
              refine g_getI 4 (gd rfl) rfl rfl rfl (fun z110x12x1 e110x12x1 => ?_)
              have q110x12x1 : z110x3x28 = z110x12x1 := (sF_get).trans e110x12x1.symm
              subst q110x12x1
              refine g_aload_n 5 (gd rfl) rfl rfl ?_
              refine g_getA (q2 := 48) 8 (gd rfl) rfl rfl rfl rfl ?_
              refine g_alen (n := 4608) (t := 2) 4608 9 (gd rfl) rfl rfl (Nat.le_of_ble_eq_true rfl) rfl ?_
              refine g_cmp_ge 12 32 (gd rfl) rfl rfl (fun c110x12x9 => ?_) (fun c110x12x9 => ?_)
              · skip
                have i110x12x9 := r_le2 4608 4608 c110x12x9 (in_c 4608 rfl) i110x3x28 rfl
                refine g_return (gd rfl) rfl (hp110x12 _ _ ?_)
                show GG _ _ _ _ _ _ _ _ [] _ _ _
                refine g_aload_n 16 (gd rfl) rfl rfl ?_
                refine g_bipush 59 18 (gd rfl) rfl rfl ?_
                refine g_callv (X := _) (As := [.int (Int32.ofInt 59)]) (r := []) (b := A 46) (q := 46) 21 (gd rfl) rfl rfl rfl rfl rfl (ww_o rfl) (Nat.le_of_ble_eq_true rfl) (mc := 0) (ms := 0) (Nat.zero_le _) (Nat.zero_le _) (P := fun v u => _) ?_ (fun e u h => h) (fun v u h => h)
                intro po110x18 xx110x18 hp110x18 hx110x18
                refine g_enter2 (k := 177) (N := 300) (by first | exact dq1 hd rfl | exact dq0 hd rfl | exact dq2 hd rfl | exact dq3 hd rfl | omega) rfl (Nat.le_of_ble_eq_true rfl) ?_
                refine g_aload_n 1 (gd rfl) rfl rfl ?_
                refine g_getI 4 (gd rfl) rfl rfl rfl (fun z110x18x1 e110x18x1 => ?_)
                have q110x18x1 : z110x3x28 = z110x18x1 := (sF_get).trans e110x18x1.symm
                subst q110x18x1
                refine g_aload_n 5 (gd rfl) rfl rfl ?_
                refine g_getA (q2 := 48) 8 (gd rfl) rfl rfl rfl rfl ?_
                refine g_alen (n := 4608) (t := 2) 4608 9 (gd rfl) rfl rfl (Nat.le_of_ble_eq_true rfl) rfl ?_
                refine g_cmp_ge 12 32 (gd rfl) rfl rfl (fun c110x18x9 => ?_) (fun c110x18x9 => ?_)
                · skip
                  refine g_return (gd rfl) rfl (hp110x18 _ _ ?_)
                  show GG _ _ _ _ _ _ _ _ [] _ _ _
                  refine g_return (gd rfl) rfl (hp110 _ _ ?_)
                  show GG _ _ _ _ _ _ _ _ [] _ _ _
                  exact gg_w (by first | exact Nat.le_add_right _ _ | exact gw2 | exact gw3 | exact gwe rfl | exact gwf rfl | exact gwg rfl | exact gwh rfl | omega) (gg_f (gf_cons rfl (gf_cons rfl (gf_cons rfl gf_nil))) (ct113 (sF (sI s100 48 z110x3x1.toNatClampNeg (vp_nar .char (Int32.ofInt 32))) 46 9 z110x3x28)  hI110x3x29 (fr_sF rfl (fr_sI rfl (fr_tr rfl (fr_tr rfl (fr_tr rfl (fr_tr rfl (fr_sF rfl (fr_sI rfl hFc39)) hF70) hF80) hF90) hF100))) (in_w 0 159 i44 rfl)))
                · skip
                  exact n_lt c110x18x9 i110x12x9 (in_c 4608 rfl) rfl
              · skip
                have i110x12x9 := r_lt1 1 4607 c110x12x9 i110x3x28 (in_c 4608 rfl) rfl
                refine g_aload_n 13 (gd rfl) rfl rfl ?_
                refine g_getA (q2 := 48) 16 (gd rfl) rfl rfl rfl rfl ?_
                refine g_aload_n 17 (gd rfl) rfl rfl ?_
                refine g_getI 20 (gd rfl) rfl rfl rfl (fun z110x12x17 e110x12x17 => ?_)
                have q110x12x17 : z110x3x28 = z110x12x17 := (sF_get).trans e110x12x17.symm
                subst q110x12x17
                refine g_iload_n 21 (gd rfl) rfl rfl ?_
                refine g_castore 22 (gd rfl) rfl (n := 4608) rfl (in_ix i110x12x9 rfl) ?_
                have hI110x12x21 := inv_sI (q := 48) (j := z110x3x28.toNatClampNeg) hI110x3x29 rfl (in_w 0 65535 (nar_c z110x11) rfl)
                refine g_aload_n 23 (gd rfl) rfl rfl ?_
                refine g_dup 24 (gd rfl) rfl rfl ?_
                refine g_getI 27 (gd rfl) rfl rfl rfl (fun z110x12x24 e110x12x24 => ?_)
                have q110x12x24 : z110x3x28 = z110x12x24 := (sI_F (sF_get)).trans e110x12x24.symm
                subst q110x12x24
                refine g_iconst 1 28 (gd rfl) rfl rfl ?_
                refine g_iadd 29 (gd rfl) rfl (fun z110x12x28 e110x12x28 => ?_)
                have i110x12x28 := in_add 2 4608 e110x12x28 i110x12x9 (in_c 1 rfl) rfl rfl
                refine g_putI 32 (gd rfl) rfl rfl rfl rfl ?_
                have hI110x12x29 := inv_sF (q := 46) (j := 9) hI110x12x21 rfl (in_w 0 4608 i110x12x28 rfl)
                refine g_return (gd rfl) rfl (hp110x12 _ _ ?_)
                show GG _ _ _ _ _ _ _ _ [] _ _ _
                refine g_aload_n 16 (gd rfl) rfl rfl ?_
                refine g_bipush 59 18 (gd rfl) rfl rfl ?_
                refine g_callv (X := _) (As := [.int (Int32.ofInt 59)]) (r := []) (b := A 46) (q := 46) 21 (gd rfl) rfl rfl rfl rfl rfl (ww_o rfl) (Nat.le_of_ble_eq_true rfl) (mc := 0) (ms := 0) (Nat.zero_le _) (Nat.zero_le _) (P := fun v u => _) ?_ (fun e u h => h) (fun v u h => h)
                intro po110x18 xx110x18 hp110x18 hx110x18
                refine g_enter2 (k := 177) (N := 300) (by first | exact dq1 hd rfl | exact dq0 hd rfl | exact dq2 hd rfl | exact dq3 hd rfl | omega) rfl (Nat.le_of_ble_eq_true rfl) ?_
                refine g_aload_n 1 (gd rfl) rfl rfl ?_
                refine g_getI 4 (gd rfl) rfl rfl rfl (fun z110x18x1 e110x18x1 => ?_)
                have q110x18x1 : z110x12x28 = z110x18x1 := (sF_get).trans e110x18x1.symm
                subst q110x18x1
                refine g_aload_n 5 (gd rfl) rfl rfl ?_
                refine g_getA (q2 := 48) 8 (gd rfl) rfl rfl rfl rfl ?_
                refine g_alen (n := 4608) (t := 2) 4608 9 (gd rfl) rfl rfl (Nat.le_of_ble_eq_true rfl) rfl ?_
                refine g_cmp_ge 12 32 (gd rfl) rfl rfl (fun c110x18x9 => ?_) (fun c110x18x9 => ?_)
                · skip
                  have i110x18x9 := r_le2 4608 4608 c110x18x9 (in_c 4608 rfl) i110x12x28 rfl
                  refine g_return (gd rfl) rfl (hp110x18 _ _ ?_)
                  show GG _ _ _ _ _ _ _ _ [] _ _ _
                  refine g_return (gd rfl) rfl (hp110 _ _ ?_)
                  show GG _ _ _ _ _ _ _ _ [] _ _ _
                  exact gg_w (by first | exact Nat.le_add_right _ _ | exact gw2 | exact gw3 | exact gwe rfl | exact gwf rfl | exact gwg rfl | exact gwh rfl | omega) (gg_f (gf_cons rfl (gf_cons rfl (gf_cons rfl gf_nil))) (ct113 (sF (sI (sF (sI s100 48 z110x3x1.toNatClampNeg (vp_nar .char (Int32.ofInt 32))) 46 9 z110x3x28) 48 z110x3x28.toNatClampNeg (vp_nar .char z110x11)) 46 9 z110x12x28)  hI110x12x29 (fr_sF rfl (fr_sI rfl (fr_sF rfl (fr_sI rfl (fr_tr rfl (fr_tr rfl (fr_tr rfl (fr_tr rfl (fr_sF rfl (fr_sI rfl hFc39)) hF70) hF80) hF90) hF100))))) (in_w 0 159 i44 rfl)))
                · skip
                  have i110x18x9 := r_lt1 2 4607 c110x18x9 i110x12x28 (in_c 4608 rfl) rfl
                  refine g_aload_n 13 (gd rfl) rfl rfl ?_
                  refine g_getA (q2 := 48) 16 (gd rfl) rfl rfl rfl rfl ?_
                  refine g_aload_n 17 (gd rfl) rfl rfl ?_
                  refine g_getI 20 (gd rfl) rfl rfl rfl (fun z110x18x17 e110x18x17 => ?_)
                  have q110x18x17 : z110x12x28 = z110x18x17 := (sF_get).trans e110x18x17.symm
                  subst q110x18x17
                  refine g_iload_n 21 (gd rfl) rfl rfl ?_
                  refine g_castore 22 (gd rfl) rfl (n := 4608) rfl (in_ix i110x18x9 rfl) ?_
                  have hI110x18x21 := inv_sI (q := 48) (j := z110x12x28.toNatClampNeg) hI110x12x29 rfl (in_w 0 65535 (nar_c (Int32.ofInt 59)) rfl)
                  refine g_aload_n 23 (gd rfl) rfl rfl ?_
                  refine g_dup 24 (gd rfl) rfl rfl ?_
                  refine g_getI 27 (gd rfl) rfl rfl rfl (fun z110x18x24 e110x18x24 => ?_)
                  have q110x18x24 : z110x12x28 = z110x18x24 := (sI_F (sF_get)).trans e110x18x24.symm
                  subst q110x18x24
                  refine g_iconst 1 28 (gd rfl) rfl rfl ?_
                  refine g_iadd 29 (gd rfl) rfl (fun z110x18x28 e110x18x28 => ?_)
                  have i110x18x28 := in_add 3 4608 e110x18x28 i110x18x9 (in_c 1 rfl) rfl rfl
                  refine g_putI 32 (gd rfl) rfl rfl rfl rfl ?_
                  have hI110x18x29 := inv_sF (q := 46) (j := 9) hI110x18x21 rfl (in_w 0 4608 i110x18x28 rfl)
                  refine g_return (gd rfl) rfl (hp110x18 _ _ ?_)
                  show GG _ _ _ _ _ _ _ _ [] _ _ _
                  refine g_return (gd rfl) rfl (hp110 _ _ ?_)
                  show GG _ _ _ _ _ _ _ _ [] _ _ _
                  exact gg_w (by first | exact Nat.le_add_right _ _ | exact gw2 | exact gw3 | exact gwe rfl | exact gwf rfl | exact gwg rfl | exact gwh rfl | omega) (gg_f (gf_cons rfl (gf_cons rfl (gf_cons rfl gf_nil))) (ct113 (sF (sI (sF (sI (sF (sI s100 48 z110x3x1.toNatClampNeg (vp_nar .char (Int32.ofInt 32))) 46 9 z110x3x28) 48 z110x3x28.toNatClampNeg (vp_nar .char z110x11)) 46 9 z110x12x28) 48 z110x12x28.toNatClampNeg (vp_nar .char (Int32.ofInt 59))) 46 9 z110x18x28)  hI110x18x29 (fr_sF rfl (fr_sI rfl (fr_sF rfl (fr_sI rfl (fr_sF rfl (fr_sI rfl (fr_tr rfl (fr_tr rfl (fr_tr rfl (fr_tr rfl (fr_sF rfl (fr_sI rfl hFc39)) hF70) hF80) hF90) hF100))))))) (in_w 0 159 i44 rfl)))
  have ct7 : ∀ (k7 : Nat) (sc7 : GS) (y7_2 : Int32), Inv sc7 → Fr fm_175_46_32 s sc7 → (In y7_2 0 32) → 32 - (y7_2).toInt < (k7 : Int) → GG Z (d - 1) 175 post (gx xp) (289963 + k7 * 900) 7 (fun j => xlook j [(0, .ref (A 46)), (1, .ref (A 32)), (2, .int y7_2)]) [] (WW Z A sc7 ++ ex) 0 0 := by
    intro k7
    induction k7 with
    | zero => intro sc7 y7_2 hIc7 hFc7 j7_2 mm7; exact m_no mm7 j7_2 rfl
    | succ k7 ih7 =>
      intro sc7 y7_2 hIc7 hFc7 j7_2 mm7
      refine gg_w (M := 289963 + k7 * 900 + 900) gws ?_
      refine g_iload_n 8 (gd rfl) rfl rfl ?_
      refine g_aload_n 9 (gd rfl) rfl rfl ?_
      refine g_getI 12 (gd rfl) rfl rfl rfl (fun z9 e9 => ?_)
      have q9 : u_32_1 = z9 := (fr_F e_32_1 hFc7 rfl).trans e9.symm
      subst q9
      refine g_cmp_ge 15 37 (gd rfl) rfl rfl (fun c12 => ?_) (fun c12 => ?_)
      · skip
        refine g_iconst 0 38 (gd rfl) rfl rfl ?_
        refine g_istore_n 39 (gd rfl) rfl (Nat.le_of_ble_eq_true rfl) ?_
        exact gg_w (by first | exact Nat.le_add_right _ _ | exact gw2 | exact gw3 | exact gwe rfl | exact gwf rfl | exact gwg rfl | exact gwh rfl | omega) (gg_f (gf_cons rfl (gf_cons rfl (gf_cons rfl gf_nil))) (ct39 161 sc7 (Int32.ofInt 0) hIc7 hFc7 (in_w 0 160 (in_c 0 rfl) rfl) (m_in 161 (in_w 0 160 (in_c 0 rfl) rfl) rfl)))
      · skip
        have i12 := r_lt1 0 31 c12 j7_2 ro_32_1 rfl
        have i12a := r_lt2 1 32 c12 j7_2 ro_32_1 rfl
        refine g_aload_n 16 (gd rfl) rfl rfl ?_
        refine g_bipush 110 18 (gd rfl) rfl rfl ?_
        refine g_callv (X := _) (As := [.int (Int32.ofInt 110)]) (r := []) (b := A 46) (q := 46) 21 (gd rfl) rfl rfl rfl rfl rfl (ww_o rfl) (Nat.le_of_ble_eq_true rfl) (mc := 0) (ms := 0) (Nat.zero_le _) (Nat.zero_le _) (P := fun v u => _) ?_ (fun e u h => h) (fun v u h => h)
        intro po18 xx18 hp18 hx18
        refine g_enter2 (k := 177) (N := 300) (by first | exact dq1 hd rfl | exact dq0 hd rfl | exact dq2 hd rfl | exact dq3 hd rfl | omega) rfl (Nat.le_of_ble_eq_true rfl) ?_
        refine g_aload_n 1 (gd rfl) rfl rfl ?_
        refine g_getI 4 (gd rfl) rfl rfl rfl (fun z18x1 e18x1 => ?_)
        have i18x1 := inv_F hIc7 0 4608 rfl e18x1
        refine g_aload_n 5 (gd rfl) rfl rfl ?_
        refine g_getA (q2 := 48) 8 (gd rfl) rfl rfl rfl rfl ?_
        refine g_alen (n := 4608) (t := 2) 4608 9 (gd rfl) rfl rfl (Nat.le_of_ble_eq_true rfl) rfl ?_
        refine g_cmp_ge 12 32 (gd rfl) rfl rfl (fun c18x9 => ?_) (fun c18x9 => ?_)
        · skip
          have i18x9 := r_le2 4608 4608 c18x9 (in_c 4608 rfl) i18x1 rfl
          refine g_return (gd rfl) rfl (hp18 _ _ ?_)
          show GG _ _ _ _ _ _ _ _ [] _ _ _
          refine g_aload_n 22 (gd rfl) rfl rfl ?_
          refine g_aload_n 23 (gd rfl) rfl rfl ?_
          refine g_getA (q2 := 33) 26 (gd rfl) rfl rfl rfl rfl ?_
          refine g_iload_n 27 (gd rfl) rfl rfl ?_
          refine g_iaload 28 (gd rfl) rfl (n := 32) rfl (in_ix i12 rfl) (fun z27 e27 => ?_)
          have i27 := inv_I hIc7 (n := 32) (t := 0) 0 25 rfl (in_ix i12 rfl) rfl e27
          refine g_callv (X := _) (As := [.int z27]) (r := []) (b := A 46) (q := 46) 31 (gd rfl) rfl rfl rfl rfl rfl (ww_o rfl) (Nat.le_of_ble_eq_true rfl) (mc := 0) (ms := 0) (Nat.zero_le _) (Nat.zero_le _) (P := fun v u => _) ?_ (fun e u h => h) (fun v u h => h)
          intro po28 xx28 hp28 hx28
          refine g_enter2 (k := 176) (N := 300) (by first | exact dq1 hd rfl | exact dq0 hd rfl | exact dq2 hd rfl | exact dq3 hd rfl | omega) rfl (Nat.le_of_ble_eq_true rfl) ?_
          refine g_aload_n 1 (gd rfl) rfl rfl ?_
          refine g_bipush 32 3 (gd rfl) rfl rfl ?_
          refine g_callv (X := _) (As := [.int (Int32.ofInt 32)]) (r := []) (b := A 46) (q := 46) 6 (gd rfl) rfl rfl rfl rfl rfl (ww_o rfl) (Nat.le_of_ble_eq_true rfl) (mc := 0) (ms := 0) (Nat.zero_le _) (Nat.zero_le _) (P := fun v u => _) ?_ (fun e u h => h) (fun v u h => h)
          intro po28x3 xx28x3 hp28x3 hx28x3
          refine g_enter2 (k := 177) (N := 300) (by first | exact dq1 hd rfl | exact dq0 hd rfl | exact dq2 hd rfl | exact dq3 hd rfl | omega) rfl (Nat.le_of_ble_eq_true rfl) ?_
          refine g_aload_n 1 (gd rfl) rfl rfl ?_
          refine g_getI 4 (gd rfl) rfl rfl rfl (fun z28x3x1 e28x3x1 => ?_)
          have q28x3x1 : z18x1 = z28x3x1 := (e18x1).trans e28x3x1.symm
          subst q28x3x1
          refine g_aload_n 5 (gd rfl) rfl rfl ?_
          refine g_getA (q2 := 48) 8 (gd rfl) rfl rfl rfl rfl ?_
          refine g_alen (n := 4608) (t := 2) 4608 9 (gd rfl) rfl rfl (Nat.le_of_ble_eq_true rfl) rfl ?_
          refine g_cmp_ge 12 32 (gd rfl) rfl rfl (fun c28x3x9 => ?_) (fun c28x3x9 => ?_)
          · skip
            refine g_return (gd rfl) rfl (hp28x3 _ _ ?_)
            show GG _ _ _ _ _ _ _ _ [] _ _ _
            refine g_aload_n 7 (gd rfl) rfl rfl ?_
            refine g_bipush 97 9 (gd rfl) rfl rfl ?_
            refine g_iload_n 10 (gd rfl) rfl rfl ?_
            refine g_iadd 11 (gd rfl) rfl (fun z28x10 e28x10 => ?_)
            have i28x10 := in_add 97 122 e28x10 (in_c 97 rfl) i27 rfl rfl
            refine g_i2c 12 (gd rfl) rfl (fun z28x11 e28x11 => ?_)
            have i28x11 := in_i2c e28x11
            refine g_callv (X := _) (As := [.int z28x11]) (r := []) (b := A 46) (q := 46) 15 (gd rfl) rfl rfl rfl rfl rfl (ww_o rfl) (Nat.le_of_ble_eq_true rfl) (mc := 0) (ms := 0) (Nat.zero_le _) (Nat.zero_le _) (P := fun v u => _) ?_ (fun e u h => h) (fun v u h => h)
            intro po28x12 xx28x12 hp28x12 hx28x12
            refine g_enter2 (k := 177) (N := 300) (by first | exact dq1 hd rfl | exact dq0 hd rfl | exact dq2 hd rfl | exact dq3 hd rfl | omega) rfl (Nat.le_of_ble_eq_true rfl) ?_
            refine g_aload_n 1 (gd rfl) rfl rfl ?_
            refine g_getI 4 (gd rfl) rfl rfl rfl (fun z28x12x1 e28x12x1 => ?_)
            have q28x12x1 : z18x1 = z28x12x1 := (e18x1).trans e28x12x1.symm
            subst q28x12x1
            refine g_aload_n 5 (gd rfl) rfl rfl ?_
            refine g_getA (q2 := 48) 8 (gd rfl) rfl rfl rfl rfl ?_
            refine g_alen (n := 4608) (t := 2) 4608 9 (gd rfl) rfl rfl (Nat.le_of_ble_eq_true rfl) rfl ?_
            refine g_cmp_ge 12 32 (gd rfl) rfl rfl (fun c28x12x9 => ?_) (fun c28x12x9 => ?_)
            · skip
              refine g_return (gd rfl) rfl (hp28x12 _ _ ?_)
              show GG _ _ _ _ _ _ _ _ [] _ _ _
              refine g_aload_n 16 (gd rfl) rfl rfl ?_
              refine g_bipush 59 18 (gd rfl) rfl rfl ?_
              refine g_callv (X := _) (As := [.int (Int32.ofInt 59)]) (r := []) (b := A 46) (q := 46) 21 (gd rfl) rfl rfl rfl rfl rfl (ww_o rfl) (Nat.le_of_ble_eq_true rfl) (mc := 0) (ms := 0) (Nat.zero_le _) (Nat.zero_le _) (P := fun v u => _) ?_ (fun e u h => h) (fun v u h => h)
              intro po28x18 xx28x18 hp28x18 hx28x18
              refine g_enter2 (k := 177) (N := 300) (by first | exact dq1 hd rfl | exact dq0 hd rfl | exact dq2 hd rfl | exact dq3 hd rfl | omega) rfl (Nat.le_of_ble_eq_true rfl) ?_
              refine g_aload_n 1 (gd rfl) rfl rfl ?_
              refine g_getI 4 (gd rfl) rfl rfl rfl (fun z28x18x1 e28x18x1 => ?_)
              have q28x18x1 : z18x1 = z28x18x1 := (e18x1).trans e28x18x1.symm
              subst q28x18x1
              refine g_aload_n 5 (gd rfl) rfl rfl ?_
              refine g_getA (q2 := 48) 8 (gd rfl) rfl rfl rfl rfl ?_
              refine g_alen (n := 4608) (t := 2) 4608 9 (gd rfl) rfl rfl (Nat.le_of_ble_eq_true rfl) rfl ?_
              refine g_cmp_ge 12 32 (gd rfl) rfl rfl (fun c28x18x9 => ?_) (fun c28x18x9 => ?_)
              · skip
                refine g_return (gd rfl) rfl (hp28x18 _ _ ?_)
                show GG _ _ _ _ _ _ _ _ [] _ _ _
                refine g_return (gd rfl) rfl (hp28 _ _ ?_)
                show GG _ _ _ _ _ _ _ _ [] _ _ _
                refine g_iinc 34 (gd rfl) rfl rfl (Nat.le_of_ble_eq_true rfl) (fun z31 e31 => ?_)
                have i31 := in_add 1 32 e31 i12 (in_c 1 rfl) rfl rfl
                refine g_goto 7 (gd rfl) rfl ?_
                exact gg_w (by first | exact Nat.le_add_right _ _ | exact gw2 | exact gw3 | exact gwe rfl | exact gwf rfl | exact gwg rfl | exact gwh rfl | omega) (gg_f (gf_cons rfl (gf_cons rfl (gf_cons rfl gf_nil))) (ih7 sc7 z31 hIc7 hFc7 (in_w 0 32 i31 rfl) (m_up mm7 (t_add e31 i12 (in_c 1 rfl) rfl) (in_w 1 1 (in_c 1 rfl) rfl))))
              · skip
                exact n_lt c28x18x9 i18x9 (in_c 4608 rfl) rfl
            · skip
              exact n_lt c28x12x9 i18x9 (in_c 4608 rfl) rfl
          · skip
            exact n_lt c28x3x9 i18x9 (in_c 4608 rfl) rfl
        · skip
          have i18x9 := r_lt1 0 4607 c18x9 i18x1 (in_c 4608 rfl) rfl
          refine g_aload_n 13 (gd rfl) rfl rfl ?_
          refine g_getA (q2 := 48) 16 (gd rfl) rfl rfl rfl rfl ?_
          refine g_aload_n 17 (gd rfl) rfl rfl ?_
          refine g_getI 20 (gd rfl) rfl rfl rfl (fun z18x17 e18x17 => ?_)
          have q18x17 : z18x1 = z18x17 := (e18x1).trans e18x17.symm
          subst q18x17
          refine g_iload_n 21 (gd rfl) rfl rfl ?_
          refine g_castore 22 (gd rfl) rfl (n := 4608) rfl (in_ix i18x9 rfl) ?_
          have hI18x21 := inv_sI (q := 48) (j := z18x1.toNatClampNeg) hIc7 rfl (in_w 0 65535 (nar_c (Int32.ofInt 110)) rfl)
          refine g_aload_n 23 (gd rfl) rfl rfl ?_
          refine g_dup 24 (gd rfl) rfl rfl ?_
          refine g_getI 27 (gd rfl) rfl rfl rfl (fun z18x24 e18x24 => ?_)
          have q18x24 : z18x1 = z18x24 := (sI_F (e18x1)).trans e18x24.symm
          subst q18x24
          refine g_iconst 1 28 (gd rfl) rfl rfl ?_
          refine g_iadd 29 (gd rfl) rfl (fun z18x28 e18x28 => ?_)
          have i18x28 := in_add 1 4608 e18x28 i18x9 (in_c 1 rfl) rfl rfl
          refine g_putI 32 (gd rfl) rfl rfl rfl rfl ?_
          have hI18x29 := inv_sF (q := 46) (j := 9) hI18x21 rfl (in_w 0 4608 i18x28 rfl)
          refine g_return (gd rfl) rfl (hp18 _ _ ?_)
          show GG _ _ _ _ _ _ _ _ [] _ _ _
          refine g_aload_n 22 (gd rfl) rfl rfl ?_
          refine g_aload_n 23 (gd rfl) rfl rfl ?_
          refine g_getA (q2 := 33) 26 (gd rfl) rfl rfl rfl rfl ?_
          refine g_iload_n 27 (gd rfl) rfl rfl ?_
          refine g_iaload 28 (gd rfl) rfl (n := 32) rfl (in_ix i12 rfl) (fun z27 e27 => ?_)
          have i27 := inv_I hI18x29 (n := 32) (t := 0) 0 25 rfl (in_ix i12 rfl) rfl e27
          refine g_callv (X := _) (As := [.int z27]) (r := []) (b := A 46) (q := 46) 31 (gd rfl) rfl rfl rfl rfl rfl (ww_o rfl) (Nat.le_of_ble_eq_true rfl) (mc := 0) (ms := 0) (Nat.zero_le _) (Nat.zero_le _) (P := fun v u => _) ?_ (fun e u h => h) (fun v u h => h)
          intro po28 xx28 hp28 hx28
          refine g_enter2 (k := 176) (N := 300) (by first | exact dq1 hd rfl | exact dq0 hd rfl | exact dq2 hd rfl | exact dq3 hd rfl | omega) rfl (Nat.le_of_ble_eq_true rfl) ?_
          refine g_aload_n 1 (gd rfl) rfl rfl ?_
          refine g_bipush 32 3 (gd rfl) rfl rfl ?_
          refine g_callv (X := _) (As := [.int (Int32.ofInt 32)]) (r := []) (b := A 46) (q := 46) 6 (gd rfl) rfl rfl rfl rfl rfl (ww_o rfl) (Nat.le_of_ble_eq_true rfl) (mc := 0) (ms := 0) (Nat.zero_le _) (Nat.zero_le _) (P := fun v u => _) ?_ (fun e u h => h) (fun v u h => h)
          intro po28x3 xx28x3 hp28x3 hx28x3
          refine g_enter2 (k := 177) (N := 300) (by first | exact dq1 hd rfl | exact dq0 hd rfl | exact dq2 hd rfl | exact dq3 hd rfl | omega) rfl (Nat.le_of_ble_eq_true rfl) ?_
          refine g_aload_n 1 (gd rfl) rfl rfl ?_
          refine g_getI 4 (gd rfl) rfl rfl rfl (fun z28x3x1 e28x3x1 => ?_)
          have q28x3x1 : z18x28 = z28x3x1 := (sF_get).trans e28x3x1.symm
          subst q28x3x1
          refine g_aload_n 5 (gd rfl) rfl rfl ?_
          refine g_getA (q2 := 48) 8 (gd rfl) rfl rfl rfl rfl ?_
          refine g_alen (n := 4608) (t := 2) 4608 9 (gd rfl) rfl rfl (Nat.le_of_ble_eq_true rfl) rfl ?_
          refine g_cmp_ge 12 32 (gd rfl) rfl rfl (fun c28x3x9 => ?_) (fun c28x3x9 => ?_)
          · skip
            have i28x3x9 := r_le2 4608 4608 c28x3x9 (in_c 4608 rfl) i18x28 rfl
            refine g_return (gd rfl) rfl (hp28x3 _ _ ?_)
            show GG _ _ _ _ _ _ _ _ [] _ _ _
            refine g_aload_n 7 (gd rfl) rfl rfl ?_
            refine g_bipush 97 9 (gd rfl) rfl rfl ?_
            refine g_iload_n 10 (gd rfl) rfl rfl ?_
            refine g_iadd 11 (gd rfl) rfl (fun z28x10 e28x10 => ?_)
            have i28x10 := in_add 97 122 e28x10 (in_c 97 rfl) i27 rfl rfl
            refine g_i2c 12 (gd rfl) rfl (fun z28x11 e28x11 => ?_)
            have i28x11 := in_i2c e28x11
            refine g_callv (X := _) (As := [.int z28x11]) (r := []) (b := A 46) (q := 46) 15 (gd rfl) rfl rfl rfl rfl rfl (ww_o rfl) (Nat.le_of_ble_eq_true rfl) (mc := 0) (ms := 0) (Nat.zero_le _) (Nat.zero_le _) (P := fun v u => _) ?_ (fun e u h => h) (fun v u h => h)
            intro po28x12 xx28x12 hp28x12 hx28x12
            refine g_enter2 (k := 177) (N := 300) (by first | exact dq1 hd rfl | exact dq0 hd rfl | exact dq2 hd rfl | exact dq3 hd rfl | omega) rfl (Nat.le_of_ble_eq_true rfl) ?_
            refine g_aload_n 1 (gd rfl) rfl rfl ?_
            refine g_getI 4 (gd rfl) rfl rfl rfl (fun z28x12x1 e28x12x1 => ?_)
            have q28x12x1 : z18x28 = z28x12x1 := (sF_get).trans e28x12x1.symm
            subst q28x12x1
            refine g_aload_n 5 (gd rfl) rfl rfl ?_
            refine g_getA (q2 := 48) 8 (gd rfl) rfl rfl rfl rfl ?_
            refine g_alen (n := 4608) (t := 2) 4608 9 (gd rfl) rfl rfl (Nat.le_of_ble_eq_true rfl) rfl ?_
            refine g_cmp_ge 12 32 (gd rfl) rfl rfl (fun c28x12x9 => ?_) (fun c28x12x9 => ?_)
            · skip
              refine g_return (gd rfl) rfl (hp28x12 _ _ ?_)
              show GG _ _ _ _ _ _ _ _ [] _ _ _
              refine g_aload_n 16 (gd rfl) rfl rfl ?_
              refine g_bipush 59 18 (gd rfl) rfl rfl ?_
              refine g_callv (X := _) (As := [.int (Int32.ofInt 59)]) (r := []) (b := A 46) (q := 46) 21 (gd rfl) rfl rfl rfl rfl rfl (ww_o rfl) (Nat.le_of_ble_eq_true rfl) (mc := 0) (ms := 0) (Nat.zero_le _) (Nat.zero_le _) (P := fun v u => _) ?_ (fun e u h => h) (fun v u h => h)
              intro po28x18 xx28x18 hp28x18 hx28x18
              refine g_enter2 (k := 177) (N := 300) (by first | exact dq1 hd rfl | exact dq0 hd rfl | exact dq2 hd rfl | exact dq3 hd rfl | omega) rfl (Nat.le_of_ble_eq_true rfl) ?_
              refine g_aload_n 1 (gd rfl) rfl rfl ?_
              refine g_getI 4 (gd rfl) rfl rfl rfl (fun z28x18x1 e28x18x1 => ?_)
              have q28x18x1 : z18x28 = z28x18x1 := (sF_get).trans e28x18x1.symm
              subst q28x18x1
              refine g_aload_n 5 (gd rfl) rfl rfl ?_
              refine g_getA (q2 := 48) 8 (gd rfl) rfl rfl rfl rfl ?_
              refine g_alen (n := 4608) (t := 2) 4608 9 (gd rfl) rfl rfl (Nat.le_of_ble_eq_true rfl) rfl ?_
              refine g_cmp_ge 12 32 (gd rfl) rfl rfl (fun c28x18x9 => ?_) (fun c28x18x9 => ?_)
              · skip
                refine g_return (gd rfl) rfl (hp28x18 _ _ ?_)
                show GG _ _ _ _ _ _ _ _ [] _ _ _
                refine g_return (gd rfl) rfl (hp28 _ _ ?_)
                show GG _ _ _ _ _ _ _ _ [] _ _ _
                refine g_iinc 34 (gd rfl) rfl rfl (Nat.le_of_ble_eq_true rfl) (fun z31 e31 => ?_)
                have i31 := in_add 1 32 e31 i12 (in_c 1 rfl) rfl rfl
                refine g_goto 7 (gd rfl) rfl ?_
                exact gg_w (by first | exact Nat.le_add_right _ _ | exact gw2 | exact gw3 | exact gwe rfl | exact gwf rfl | exact gwg rfl | exact gwh rfl | omega) (gg_f (gf_cons rfl (gf_cons rfl (gf_cons rfl gf_nil))) (ih7 (sF (sI sc7 48 z18x1.toNatClampNeg (vp_nar .char (Int32.ofInt 110))) 46 9 z18x28) z31 hI18x29 (fr_sF rfl (fr_sI rfl hFc7)) (in_w 0 32 i31 rfl) (m_up mm7 (t_add e31 i12 (in_c 1 rfl) rfl) (in_w 1 1 (in_c 1 rfl) rfl))))
              · skip
                exact n_lt c28x18x9 i28x3x9 (in_c 4608 rfl) rfl
            · skip
              exact n_lt c28x12x9 i28x3x9 (in_c 4608 rfl) rfl
          · skip
            have i28x3x9 := r_lt1 1 4607 c28x3x9 i18x28 (in_c 4608 rfl) rfl
            refine g_aload_n 13 (gd rfl) rfl rfl ?_
            refine g_getA (q2 := 48) 16 (gd rfl) rfl rfl rfl rfl ?_
            refine g_aload_n 17 (gd rfl) rfl rfl ?_
            refine g_getI 20 (gd rfl) rfl rfl rfl (fun z28x3x17 e28x3x17 => ?_)
            have q28x3x17 : z18x28 = z28x3x17 := (sF_get).trans e28x3x17.symm
            subst q28x3x17
            refine g_iload_n 21 (gd rfl) rfl rfl ?_
            refine g_castore 22 (gd rfl) rfl (n := 4608) rfl (in_ix i28x3x9 rfl) ?_
            have hI28x3x21 := inv_sI (q := 48) (j := z18x28.toNatClampNeg) hI18x29 rfl (in_w 0 65535 (nar_c (Int32.ofInt 32)) rfl)
            refine g_aload_n 23 (gd rfl) rfl rfl ?_
            refine g_dup 24 (gd rfl) rfl rfl ?_
            refine g_getI 27 (gd rfl) rfl rfl rfl (fun z28x3x24 e28x3x24 => ?_)
            have q28x3x24 : z18x28 = z28x3x24 := (sI_F (sF_get)).trans e28x3x24.symm
            subst q28x3x24
            refine g_iconst 1 28 (gd rfl) rfl rfl ?_
            refine g_iadd 29 (gd rfl) rfl (fun z28x3x28 e28x3x28 => ?_)
            have i28x3x28 := in_add 2 4608 e28x3x28 i28x3x9 (in_c 1 rfl) rfl rfl
            refine g_putI 32 (gd rfl) rfl rfl rfl rfl ?_
            have hI28x3x29 := inv_sF (q := 46) (j := 9) hI28x3x21 rfl (in_w 0 4608 i28x3x28 rfl)
            refine g_return (gd rfl) rfl (hp28x3 _ _ ?_)
            show GG _ _ _ _ _ _ _ _ [] _ _ _
            refine g_aload_n 7 (gd rfl) rfl rfl ?_
            refine g_bipush 97 9 (gd rfl) rfl rfl ?_
            refine g_iload_n 10 (gd rfl) rfl rfl ?_
            refine g_iadd 11 (gd rfl) rfl (fun z28x10 e28x10 => ?_)
            have i28x10 := in_add 97 122 e28x10 (in_c 97 rfl) i27 rfl rfl
            refine g_i2c 12 (gd rfl) rfl (fun z28x11 e28x11 => ?_)
            have i28x11 := in_i2c e28x11
            refine g_callv (X := _) (As := [.int z28x11]) (r := []) (b := A 46) (q := 46) 15 (gd rfl) rfl rfl rfl rfl rfl (ww_o rfl) (Nat.le_of_ble_eq_true rfl) (mc := 0) (ms := 0) (Nat.zero_le _) (Nat.zero_le _) (P := fun v u => _) ?_ (fun e u h => h) (fun v u h => h)
            intro po28x12 xx28x12 hp28x12 hx28x12
            refine g_enter2 (k := 177) (N := 300) (by first | exact dq1 hd rfl | exact dq0 hd rfl | exact dq2 hd rfl | exact dq3 hd rfl | omega) rfl (Nat.le_of_ble_eq_true rfl) ?_
            refine g_aload_n 1 (gd rfl) rfl rfl ?_
            refine g_getI 4 (gd rfl) rfl rfl rfl (fun z28x12x1 e28x12x1 => ?_)
            have q28x12x1 : z28x3x28 = z28x12x1 := (sF_get).trans e28x12x1.symm
            subst q28x12x1
            refine g_aload_n 5 (gd rfl) rfl rfl ?_
            refine g_getA (q2 := 48) 8 (gd rfl) rfl rfl rfl rfl ?_
            refine g_alen (n := 4608) (t := 2) 4608 9 (gd rfl) rfl rfl (Nat.le_of_ble_eq_true rfl) rfl ?_
            refine g_cmp_ge 12 32 (gd rfl) rfl rfl (fun c28x12x9 => ?_) (fun c28x12x9 => ?_)
            · skip
              have i28x12x9 := r_le2 4608 4608 c28x12x9 (in_c 4608 rfl) i28x3x28 rfl
              refine g_return (gd rfl) rfl (hp28x12 _ _ ?_)
              show GG _ _ _ _ _ _ _ _ [] _ _ _
              refine g_aload_n 16 (gd rfl) rfl rfl ?_
              refine g_bipush 59 18 (gd rfl) rfl rfl ?_
              refine g_callv (X := _) (As := [.int (Int32.ofInt 59)]) (r := []) (b := A 46) (q := 46) 21 (gd rfl) rfl rfl rfl rfl rfl (ww_o rfl) (Nat.le_of_ble_eq_true rfl) (mc := 0) (ms := 0) (Nat.zero_le _) (Nat.zero_le _) (P := fun v u => _) ?_ (fun e u h => h) (fun v u h => h)
              intro po28x18 xx28x18 hp28x18 hx28x18
              refine g_enter2 (k := 177) (N := 300) (by first | exact dq1 hd rfl | exact dq0 hd rfl | exact dq2 hd rfl | exact dq3 hd rfl | omega) rfl (Nat.le_of_ble_eq_true rfl) ?_
              refine g_aload_n 1 (gd rfl) rfl rfl ?_
              refine g_getI 4 (gd rfl) rfl rfl rfl (fun z28x18x1 e28x18x1 => ?_)
              have q28x18x1 : z28x3x28 = z28x18x1 := (sF_get).trans e28x18x1.symm
              subst q28x18x1
              refine g_aload_n 5 (gd rfl) rfl rfl ?_
              refine g_getA (q2 := 48) 8 (gd rfl) rfl rfl rfl rfl ?_
              refine g_alen (n := 4608) (t := 2) 4608 9 (gd rfl) rfl rfl (Nat.le_of_ble_eq_true rfl) rfl ?_
              refine g_cmp_ge 12 32 (gd rfl) rfl rfl (fun c28x18x9 => ?_) (fun c28x18x9 => ?_)
              · skip
                refine g_return (gd rfl) rfl (hp28x18 _ _ ?_)
                show GG _ _ _ _ _ _ _ _ [] _ _ _
                refine g_return (gd rfl) rfl (hp28 _ _ ?_)
                show GG _ _ _ _ _ _ _ _ [] _ _ _
                refine g_iinc 34 (gd rfl) rfl rfl (Nat.le_of_ble_eq_true rfl) (fun z31 e31 => ?_)
                have i31 := in_add 1 32 e31 i12 (in_c 1 rfl) rfl rfl
                refine g_goto 7 (gd rfl) rfl ?_
                exact gg_w (by first | exact Nat.le_add_right _ _ | exact gw2 | exact gw3 | exact gwe rfl | exact gwf rfl | exact gwg rfl | exact gwh rfl | omega) (gg_f (gf_cons rfl (gf_cons rfl (gf_cons rfl gf_nil))) (ih7 (sF (sI (sF (sI sc7 48 z18x1.toNatClampNeg (vp_nar .char (Int32.ofInt 110))) 46 9 z18x28) 48 z18x28.toNatClampNeg (vp_nar .char (Int32.ofInt 32))) 46 9 z28x3x28) z31 hI28x3x29 (fr_sF rfl (fr_sI rfl (fr_sF rfl (fr_sI rfl hFc7)))) (in_w 0 32 i31 rfl) (m_up mm7 (t_add e31 i12 (in_c 1 rfl) rfl) (in_w 1 1 (in_c 1 rfl) rfl))))
              · skip
                exact n_lt c28x18x9 i28x12x9 (in_c 4608 rfl) rfl
            · skip
              have i28x12x9 := r_lt1 2 4607 c28x12x9 i28x3x28 (in_c 4608 rfl) rfl
              refine g_aload_n 13 (gd rfl) rfl rfl ?_
              refine g_getA (q2 := 48) 16 (gd rfl) rfl rfl rfl rfl ?_
              refine g_aload_n 17 (gd rfl) rfl rfl ?_
              refine g_getI 20 (gd rfl) rfl rfl rfl (fun z28x12x17 e28x12x17 => ?_)
              have q28x12x17 : z28x3x28 = z28x12x17 := (sF_get).trans e28x12x17.symm
              subst q28x12x17
              refine g_iload_n 21 (gd rfl) rfl rfl ?_
              refine g_castore 22 (gd rfl) rfl (n := 4608) rfl (in_ix i28x12x9 rfl) ?_
              have hI28x12x21 := inv_sI (q := 48) (j := z28x3x28.toNatClampNeg) hI28x3x29 rfl (in_w 0 65535 (nar_c z28x11) rfl)
              refine g_aload_n 23 (gd rfl) rfl rfl ?_
              refine g_dup 24 (gd rfl) rfl rfl ?_
              refine g_getI 27 (gd rfl) rfl rfl rfl (fun z28x12x24 e28x12x24 => ?_)
              have q28x12x24 : z28x3x28 = z28x12x24 := (sI_F (sF_get)).trans e28x12x24.symm
              subst q28x12x24
              refine g_iconst 1 28 (gd rfl) rfl rfl ?_
              refine g_iadd 29 (gd rfl) rfl (fun z28x12x28 e28x12x28 => ?_)
              have i28x12x28 := in_add 3 4608 e28x12x28 i28x12x9 (in_c 1 rfl) rfl rfl
              refine g_putI 32 (gd rfl) rfl rfl rfl rfl ?_
              have hI28x12x29 := inv_sF (q := 46) (j := 9) hI28x12x21 rfl (in_w 0 4608 i28x12x28 rfl)
              refine g_return (gd rfl) rfl (hp28x12 _ _ ?_)
              show GG _ _ _ _ _ _ _ _ [] _ _ _
              refine g_aload_n 16 (gd rfl) rfl rfl ?_
              refine g_bipush 59 18 (gd rfl) rfl rfl ?_
              refine g_callv (X := _) (As := [.int (Int32.ofInt 59)]) (r := []) (b := A 46) (q := 46) 21 (gd rfl) rfl rfl rfl rfl rfl (ww_o rfl) (Nat.le_of_ble_eq_true rfl) (mc := 0) (ms := 0) (Nat.zero_le _) (Nat.zero_le _) (P := fun v u => _) ?_ (fun e u h => h) (fun v u h => h)
              intro po28x18 xx28x18 hp28x18 hx28x18
              refine g_enter2 (k := 177) (N := 300) (by first | exact dq1 hd rfl | exact dq0 hd rfl | exact dq2 hd rfl | exact dq3 hd rfl | omega) rfl (Nat.le_of_ble_eq_true rfl) ?_
              refine g_aload_n 1 (gd rfl) rfl rfl ?_
              refine g_getI 4 (gd rfl) rfl rfl rfl (fun z28x18x1 e28x18x1 => ?_)
              have q28x18x1 : z28x12x28 = z28x18x1 := (sF_get).trans e28x18x1.symm
              subst q28x18x1
              refine g_aload_n 5 (gd rfl) rfl rfl ?_
              refine g_getA (q2 := 48) 8 (gd rfl) rfl rfl rfl rfl ?_
              refine g_alen (n := 4608) (t := 2) 4608 9 (gd rfl) rfl rfl (Nat.le_of_ble_eq_true rfl) rfl ?_
              refine g_cmp_ge 12 32 (gd rfl) rfl rfl (fun c28x18x9 => ?_) (fun c28x18x9 => ?_)
              · skip
                have i28x18x9 := r_le2 4608 4608 c28x18x9 (in_c 4608 rfl) i28x12x28 rfl
                refine g_return (gd rfl) rfl (hp28x18 _ _ ?_)
                show GG _ _ _ _ _ _ _ _ [] _ _ _
                refine g_return (gd rfl) rfl (hp28 _ _ ?_)
                show GG _ _ _ _ _ _ _ _ [] _ _ _
                refine g_iinc 34 (gd rfl) rfl rfl (Nat.le_of_ble_eq_true rfl) (fun z31 e31 => ?_)
                have i31 := in_add 1 32 e31 i12 (in_c 1 rfl) rfl rfl
                refine g_goto 7 (gd rfl) rfl ?_
                exact gg_w (by first | exact Nat.le_add_right _ _ | exact gw2 | exact gw3 | exact gwe rfl | exact gwf rfl | exact gwg rfl | exact gwh rfl | omega) (gg_f (gf_cons rfl (gf_cons rfl (gf_cons rfl gf_nil))) (ih7 (sF (sI (sF (sI (sF (sI sc7 48 z18x1.toNatClampNeg (vp_nar .char (Int32.ofInt 110))) 46 9 z18x28) 48 z18x28.toNatClampNeg (vp_nar .char (Int32.ofInt 32))) 46 9 z28x3x28) 48 z28x3x28.toNatClampNeg (vp_nar .char z28x11)) 46 9 z28x12x28) z31 hI28x12x29 (fr_sF rfl (fr_sI rfl (fr_sF rfl (fr_sI rfl (fr_sF rfl (fr_sI rfl hFc7)))))) (in_w 0 32 i31 rfl) (m_up mm7 (t_add e31 i12 (in_c 1 rfl) rfl) (in_w 1 1 (in_c 1 rfl) rfl))))
              · skip
                have i28x18x9 := r_lt1 3 4607 c28x18x9 i28x12x28 (in_c 4608 rfl) rfl
                refine g_aload_n 13 (gd rfl) rfl rfl ?_
                refine g_getA (q2 := 48) 16 (gd rfl) rfl rfl rfl rfl ?_
                refine g_aload_n 17 (gd rfl) rfl rfl ?_
                refine g_getI 20 (gd rfl) rfl rfl rfl (fun z28x18x17 e28x18x17 => ?_)
                have q28x18x17 : z28x12x28 = z28x18x17 := (sF_get).trans e28x18x17.symm
                subst q28x18x17
                refine g_iload_n 21 (gd rfl) rfl rfl ?_
                refine g_castore 22 (gd rfl) rfl (n := 4608) rfl (in_ix i28x18x9 rfl) ?_
                have hI28x18x21 := inv_sI (q := 48) (j := z28x12x28.toNatClampNeg) hI28x12x29 rfl (in_w 0 65535 (nar_c (Int32.ofInt 59)) rfl)
                refine g_aload_n 23 (gd rfl) rfl rfl ?_
                refine g_dup 24 (gd rfl) rfl rfl ?_
                refine g_getI 27 (gd rfl) rfl rfl rfl (fun z28x18x24 e28x18x24 => ?_)
                have q28x18x24 : z28x12x28 = z28x18x24 := (sI_F (sF_get)).trans e28x18x24.symm
                subst q28x18x24
                refine g_iconst 1 28 (gd rfl) rfl rfl ?_
                refine g_iadd 29 (gd rfl) rfl (fun z28x18x28 e28x18x28 => ?_)
                have i28x18x28 := in_add 4 4608 e28x18x28 i28x18x9 (in_c 1 rfl) rfl rfl
                refine g_putI 32 (gd rfl) rfl rfl rfl rfl ?_
                have hI28x18x29 := inv_sF (q := 46) (j := 9) hI28x18x21 rfl (in_w 0 4608 i28x18x28 rfl)
                refine g_return (gd rfl) rfl (hp28x18 _ _ ?_)
                show GG _ _ _ _ _ _ _ _ [] _ _ _
                refine g_return (gd rfl) rfl (hp28 _ _ ?_)
                show GG _ _ _ _ _ _ _ _ [] _ _ _
                refine g_iinc 34 (gd rfl) rfl rfl (Nat.le_of_ble_eq_true rfl) (fun z31 e31 => ?_)
                have i31 := in_add 1 32 e31 i12 (in_c 1 rfl) rfl rfl
                refine g_goto 7 (gd rfl) rfl ?_
                exact gg_w (by first | exact Nat.le_add_right _ _ | exact gw2 | exact gw3 | exact gwe rfl | exact gwf rfl | exact gwg rfl | exact gwh rfl | omega) (gg_f (gf_cons rfl (gf_cons rfl (gf_cons rfl gf_nil))) (ih7 (sF (sI (sF (sI (sF (sI (sF (sI sc7 48 z18x1.toNatClampNeg (vp_nar .char (Int32.ofInt 110))) 46 9 z18x28) 48 z18x28.toNatClampNeg (vp_nar .char (Int32.ofInt 32))) 46 9 z28x3x28) 48 z28x3x28.toNatClampNeg (vp_nar .char z28x11)) 46 9 z28x12x28) 48 z28x12x28.toNatClampNeg (vp_nar .char (Int32.ofInt 59))) 46 9 z28x18x28) z31 hI28x18x29 (fr_sF rfl (fr_sI rfl (fr_sF rfl (fr_sI rfl (fr_sF rfl (fr_sI rfl (fr_sF rfl (fr_sI rfl hFc7)))))))) (in_w 0 32 i31 rfl) (m_up mm7 (t_add e31 i12 (in_c 1 rfl) rfl) (in_w 1 1 (in_c 1 rfl) rfl))))
  refine g_enter2 (k := 175) (N := 320563) (by first | exact dq1 hd rfl | exact dq0 hd rfl | exact dq2 hd rfl | exact dq3 hd rfl | omega) rfl (Nat.le_of_ble_eq_true rfl) ?_
  refine g_aload_n 1 (gd rfl) rfl rfl ?_
  refine g_iconst 0 2 (gd rfl) rfl rfl ?_
  refine g_putI 5 (gd rfl) rfl rfl rfl rfl ?_
  have hI2 := inv_sF (q := 46) (j := 9) hI rfl (in_w 0 4608 (in_c 0 rfl) rfl)
  refine g_iconst 0 6 (gd rfl) rfl rfl ?_
  refine g_istore_n 7 (gd rfl) rfl (Nat.le_of_ble_eq_true rfl) ?_
  exact gg_w (by first | exact Nat.le_of_ble_eq_true rfl | omega) (gg_f (gf_cons rfl (gf_cons rfl (gf_cons rfl gf_nil))) (ct7 33 (sF s 46 9 (Int32.ofInt 0)) (Int32.ofInt 0) hI2 (fr_sF rfl fr_rf) (in_w 0 32 (in_c 0 rfl) rfl) (m_in 33 (in_w 0 32 (in_c 0 rfl) rfl) rfl)))

def fm_180_76_2 : FM := ([77, 78, 81, 82, 83], [79, 80], [(76, 0)], [])
/-- GraphHouse$Trees.leastRooted -/
theorem k_180_76_2 {Z : AmZ} {A : Nat → Nat} {s : GS} {ex : va_W} {d : Nat} {X : AmX} {x2 : Int32} {u_2_1 : Int32} (hd : 4 ≤ d) (hI : Inv s) (h2 : In x2 0 31) (e_2_1 : u_2_1 = s.2.2.1 2 1) (p_0 : (x2).toInt < (u_2_1).toInt) (q_0 : KN (s.1 4) (s.1 5) (s.2.2.1 2 1)) : GC Z d 180 [.ref (A 76), .ref (A 2), .int x2] (WW Z A s ++ ex) 0 0 (fun v u => ∃ t : GS, Inv t ∧ Fr fm_180_76_2 s t ∧ ∃ z : Int64, v = some (.long z) ∧ u = WW Z A t ++ ex) X := by
  intro post xp hP hX
  have ro_2_1 := inv_F hI 0 32 rfl e_2_1
  have ct19 : ∀ (k19 : Nat) (sc19 : GS) (y19_3 : Int64) (y19_5 : Int32) (y19_6 : Int32) (y19_7 : Int32), Inv sc19 → Fr fm_180_76_2 s sc19 → (In y19_5 0 32) → (In y19_6 0 31) → (In y19_7 0 32) → ((y19_6).toInt < (y19_5).toInt) → (AE sc19 (y19_5).toInt) → 32 - (y19_7).toInt < (k19 : Int) → GG Z (d - 1) 180 post (gx xp) (1 + k19 * 32401) 19 (fun j => xlook j [(0, .ref (A 76)), (1, .ref (A 2)), (2, .int x2), (3, .long y19_3), (5, .int y19_5), (6, .int y19_6), (7, .int y19_7)]) [] (WW Z A sc19 ++ ex) 0 0 := by
    intro k19
    induction k19 with
    | zero => intro sc19 y19_3 y19_5 y19_6 y19_7 hIc19 hFc19 j19_5 j19_6 j19_7 n19_0 g19_0 mm19; exact m_no mm19 j19_7 rfl
    | succ k19 ih19 =>
      intro sc19 y19_3 y19_5 y19_6 y19_7 hIc19 hFc19 j19_5 j19_6 j19_7 n19_0 g19_0 mm19
      refine gg_w (M := 1 + k19 * 32401 + 32401) gws ?_
      have ct44 : ∀ (k44 : Nat) (sc44 : GS) (y44_3 : Int64) (y44_8 : Int32), Inv sc44 → Fr fm_180_76_2 s sc44 → (In y19_7 0 31) → (In y44_8 0 32) → (AE sc44 (y19_5).toInt) → 32 - (y44_8).toInt < (k44 : Int) → GG Z (d - 1) 180 post (gx xp) (1 + k19 * 32401 + 1 + k44 * 900) 44 (fun j => xlook j [(0, .ref (A 76)), (1, .ref (A 2)), (2, .int x2), (3, .long y44_3), (5, .int y19_5), (6, .int y19_6), (7, .int y19_7), (8, .int y44_8)]) [] (WW Z A sc44 ++ ex) 0 0 := by
        intro k44
        induction k44 with
        | zero => intro sc44 y44_3 y44_8 hIc44 hFc44 j44_7 j44_8 g44_0 mm44; exact m_no mm44 j44_8 rfl
        | succ k44 ih44 =>
          intro sc44 y44_3 y44_8 hIc44 hFc44 j44_7 j44_8 g44_0 mm44
          refine gg_w (M := 1 + k19 * 32401 + 1 + k44 * 900 + 900) gws ?_
          refine g_iload 46 (gd rfl) rfl rfl ?_
          refine g_iload 48 (gd rfl) rfl rfl ?_
          refine g_cmp_ge 51 67 (gd rfl) rfl rfl (fun c48 => ?_) (fun c48 => ?_)
          · skip
            refine g_aload_n 68 (gd rfl) rfl rfl ?_
            refine g_iload 70 (gd rfl) rfl rfl ?_
            refine g_iload 72 (gd rfl) rfl rfl ?_
            refine g_callv (X := _) (As := [.int y19_5, .int y19_6]) (r := []) (b := A 76) (q := 76) 75 (gd rfl) rfl rfl rfl rfl rfl (ww_o rfl) (Nat.le_of_ble_eq_true rfl) (Nat.zero_le _) (Nat.zero_le _) (k_183_76 (by first | exact dq1 hd rfl | exact dq0 hd rfl | exact dq2 hd rfl | exact dq3 hd rfl | omega) hIc44 (in_w 0 32 j19_5 rfl) (in_w 0 31 j19_6 rfl)) (fun e u h => h) (fun v u h => ?_)
            obtain ⟨s72, hI72, hF72, z72, rfl, rfl, i72, p72, p72a⟩ := h
            show GG _ _ _ _ _ _ _ _ [.int z72] _ _ _
            refine g_istore 77 (gd rfl) rfl (Nat.le_of_ble_eq_true rfl) ?_
            refine g_iload 79 (gd rfl) rfl rfl ?_
            refine g_if_ne 82 84 (gd rfl) rfl rfl (fun c79 => ?_) (fun c79 => ?_)
            · skip
              have i79 := z_ne 1 32 c79 i72 rfl
              refine g_aload_n 85 (gd rfl) rfl rfl ?_
              refine g_iload 87 (gd rfl) rfl rfl ?_
              refine g_iload 89 (gd rfl) rfl rfl ?_
              have p89 : (z72).toInt + (c1m (s72.1 83) 32 : Int) ≤ 32 := by exact p72
              have p89a : ∀ v : Nat, v < 32 → (s72.1 83 v).toInt < (z72).toInt := by exact p72a
              refine g_callv (X := _) (As := [.int y19_5, .int z72]) (r := []) (b := A 76) (q := 76) 92 (gd rfl) rfl rfl rfl rfl rfl (ww_o rfl) (Nat.le_of_ble_eq_true rfl) (Nat.zero_le _) (Nat.zero_le _) (k_184_76 (by first | exact dq1 hd rfl | exact dq0 hd rfl | exact dq2 hd rfl | exact dq3 hd rfl | omega) hI72 (in_w 0 32 j19_5 rfl) (in_w 0 32 i79 rfl) p89 p89a) (fun e u h => h) (fun v u h => ?_)
              obtain ⟨s89, hI89, hF89, z89, rfl, rfl, i89, p89b⟩ := h
              show GG _ _ _ _ _ _ _ _ [.int z89] _ _ _
              refine g_istore 94 (gd rfl) rfl (Nat.le_of_ble_eq_true rfl) ?_
              refine g_aload_n 95 (gd rfl) rfl rfl ?_
              have p95 : ∃ n m : Int, AE s89 n ∧ n ≤ 32 ∧ RN s89 n m := by exact ⟨(y19_5).toInt, (z89).toInt, ae_fr (ae_fr g44_0 hF72 rfl) hF89 rfl, by have a0 := oa8 j44_7 j19_6 j19_5 h2 ro_2_1 j44_8 i89 i79; omega, p89b⟩
              refine g_callv (X := _) (As := []) (r := []) (b := A 76) (q := 76) 98 (gd rfl) rfl rfl rfl rfl rfl (ww_o rfl) (Nat.le_of_ble_eq_true rfl) (Nat.zero_le _) (Nat.zero_le _) (k_185_76 (by first | exact dq1 hd rfl | exact dq0 hd rfl | exact dq2 hd rfl | exact dq3 hd rfl | omega) hI89 p95) (fun e u h => h) (fun v u h => ?_)
              obtain ⟨s95, hI95, hF95, rfl, rfl, p95a⟩ := h
              show GG _ _ _ _ _ _ _ _ [] _ _ _
              refine g_aload_n 99 (gd rfl) rfl rfl ?_
              refine g_getA (q2 := 83) 102 (gd rfl) rfl rfl rfl rfl ?_
              refine g_iload 104 (gd rfl) rfl rfl ?_
              refine g_iaload 105 (gd rfl) rfl (n := 32) rfl (in_ix j19_6 rfl) (fun z104 e104 => ?_)
              have i104 := inv_I hI95 (n := 32) (t := 0) (-1) 31 rfl (in_ix j19_6 rfl) rfl e104
              have hr := p89b (y19_6).toNatClampNeg (by show (y19_6).toInt.toNat < 32; have a0 := oa8 j44_7 j19_6 j19_5 h2 ro_2_1 j44_8 i89 i79; (first | exact zt_l (by decide) (by omega) | omega))
              rw [← hF95.1 83 rfl, ← e104] at hr
              have i105 : In z104 0 31 := by have h9 := hr.2 (by have e9 : (y19_6).toNatClampNeg = (y19_6).toInt.toNat := rfl; have a0 := oa8 j44_7 j19_6 j19_5 h2 ro_2_1 j44_8 i89 i79; omega); exact ⟨h9, i104.2⟩
              have hr1 := hr.1
              refine g_istore 107 (gd rfl) rfl (Nat.le_of_ble_eq_true rfl) ?_
              refine g_iload 109 (gd rfl) rfl rfl ?_
              refine g_istore 111 (gd rfl) rfl (Nat.le_of_ble_eq_true rfl) ?_
              refine g_iinc 114 (gd rfl) rfl rfl (Nat.le_of_ble_eq_true rfl) (fun z111 e111 => ?_)
              have i111 := in_add 1 32 e111 j44_7 (in_c 1 rfl) rfl rfl
              refine g_goto 19 (gd rfl) rfl ?_
              have n19 : (z104).toInt < (z89).toInt := by have a0 := oa9 j44_7 j19_6 j19_5 h2 ro_2_1 j44_8 i89 i79 i111; have a9 := t_add e111 j44_7 (in_c 1 rfl) rfl; have a10 := oa2 ((in_c 1 rfl)) i105; omega
              have n19a : AE s95 (z89).toInt := by exact p95a (y19_5).toInt (z89).toInt (ae_fr (ae_fr g44_0 hF72 rfl) hF89 rfl) (by have a0 := oa9 j44_7 j19_6 j19_5 h2 ro_2_1 j44_8 i89 i79 i111; have a9 := t_add e111 j44_7 (in_c 1 rfl) rfl; have a10 := oa2 ((in_c 1 rfl)) i105; omega) p89b
              exact gg_w (by first | exact Nat.le_add_right _ _ | exact gw2 | exact gw3 | exact gwe rfl | exact gwf rfl | exact gwg rfl | exact gwh rfl | omega) (gg_f (gf_cons rfl (gf_cons rfl (gf_cons rfl (gf_cons rfl (gf_cons rfl (gf_cons rfl (gf_cons rfl gf_nil))))))) (ih19 s95 y44_3 z89 z104 z111 hI95 (fr_tr rfl (fr_tr rfl (fr_tr rfl hFc44 hF72) hF89) hF95) (in_w 0 32 i89 rfl) (in_w 0 31 i105 rfl) (in_w 0 32 i111 rfl) n19 n19a (m_up mm19 (t_add e111 j44_7 (in_c 1 rfl) rfl) (in_w 1 1 (in_c 1 rfl) rfl))))
            · skip
              have i79 := z_eq 0 0 c79 i72 rfl
              refine g_lload_n 83 (gd rfl) rfl rfl ?_
              exact g_lreturn (gd rfl) rfl (hP _ _ ⟨s72, hI72, (fr_tr rfl hFc44 hF72), y44_3, rfl, rfl⟩)
          · skip
            have i48 := r_lt1 0 31 c48 j44_8 j19_5 rfl
            have i48a := r_lt2 1 32 c48 j44_8 j19_5 rfl
            refine g_lload_n 52 (gd rfl) rfl rfl ?_
            refine g_aload_n 53 (gd rfl) rfl rfl ?_
            refine g_getA (q2 := 80) 56 (gd rfl) rfl rfl rfl rfl ?_
            refine g_iload 58 (gd rfl) rfl rfl ?_
            refine g_laload 59 (gd rfl) rfl (n := 32) rfl (in_ix i48 rfl) (fun z58 e58 => ?_)
            refine g_ladd 60 (gd rfl) rfl (fun z59 e59 => ?_)
            refine g_lstore_n 61 (gd rfl) rfl (Nat.le_of_ble_eq_true rfl) ?_
            refine g_iinc 64 (gd rfl) rfl rfl (Nat.le_of_ble_eq_true rfl) (fun z61 e61 => ?_)
            have i61 := in_add 1 32 e61 i48 (in_c 1 rfl) rfl rfl
            refine g_goto 44 (gd rfl) rfl ?_
            have n44 : AE sc44 (y19_5).toInt := by exact g44_0
            exact gg_w (by first | exact Nat.le_add_right _ _ | exact gw2 | exact gw3 | exact gwe rfl | exact gwf rfl | exact gwg rfl | exact gwh rfl | omega) (gg_f (gf_cons rfl (gf_cons rfl (gf_cons rfl (gf_cons rfl (gf_cons rfl (gf_cons rfl (gf_cons rfl (gf_cons rfl gf_nil)))))))) (ih44 sc44 z59 z61 hIc44 hFc44 (in_w 0 31 j44_7 rfl) (in_w 0 32 i61 rfl) n44 (m_up mm44 (t_add e61 i48 (in_c 1 rfl) rfl) (in_w 1 1 (in_c 1 rfl) rfl))))
      refine g_iload 21 (gd rfl) rfl rfl ?_
      refine g_bipush 32 23 (gd rfl) rfl rfl ?_
      refine g_cmp_ge 26 117 (gd rfl) rfl rfl (fun c23 => ?_) (fun c23 => ?_)
      · skip
        have i23 := r_le2 32 32 c23 (in_c 32 rfl) j19_7 rfl
        refine g_lload_n 118 (gd rfl) rfl rfl ?_
        exact g_lreturn (gd rfl) rfl (hP _ _ ⟨sc19, hIc19, hFc19, y19_3, rfl, rfl⟩)
      · skip
        have i23 := r_lt1 0 31 c23 j19_7 (in_c 32 rfl) rfl
        refine g_aload_n 27 (gd rfl) rfl rfl ?_
        refine g_iload 29 (gd rfl) rfl rfl ?_
        refine g_iload 31 (gd rfl) rfl rfl ?_
        refine g_callv (X := _) (As := [.int y19_5, .int y19_6]) (r := []) (b := A 76) (q := 76) 34 (gd rfl) rfl rfl rfl rfl rfl (ww_o rfl) (Nat.le_of_ble_eq_true rfl) (Nat.zero_le _) (Nat.zero_le _) (k_182_76 (by first | exact dq1 hd rfl | exact dq0 hd rfl | exact dq2 hd rfl | exact dq3 hd rfl | omega) hIc19 (in_w 0 32 j19_5 rfl) (in_w 0 31 j19_6 rfl)) (fun e u h => h) (fun v u h => ?_)
        obtain ⟨s31, hI31, hF31, z31, rfl, rfl, i31⟩ := h
        show GG _ _ _ _ _ _ _ _ [.int z31] _ _ _
        refine g_if_ne 37 41 (gd rfl) rfl rfl (fun c34 => ?_) (fun c34 => ?_)
        · skip
          have i34 := z_ne 1 1 c34 i31 rfl
          refine g_iconst 0 42 (gd rfl) rfl rfl ?_
          refine g_istore 44 (gd rfl) rfl (Nat.le_of_ble_eq_true rfl) ?_
          have n44 : AE s31 (y19_5).toInt := by exact ae_fr g19_0 hF31 rfl
          exact gg_w (by first | exact Nat.le_add_right _ _ | exact gw2 | exact gw3 | exact gwe rfl | exact gwf rfl | exact gwg rfl | exact gwh rfl | omega) (gg_f (gf_cons rfl (gf_cons rfl (gf_cons rfl (gf_cons rfl (gf_cons rfl (gf_cons rfl (gf_cons rfl (gf_cons rfl gf_nil)))))))) (ct44 33 s31 y19_3 (Int32.ofInt 0) hI31 (fr_tr rfl hFc19 hF31) (in_w 0 31 i23 rfl) (in_w 0 32 (in_c 0 rfl) rfl) n44 (m_in 33 (in_w 0 32 (in_c 0 rfl) rfl) rfl)))
        · skip
          have i34 := z_eq 0 0 c34 i31 rfl
          refine g_ldc2_w 9000000000000000 40 (gd rfl) rfl rfl ?_
          exact g_lreturn (gd rfl) rfl (hP _ _ ⟨s31, hI31, (fr_tr rfl hFc19 hF31), (Int64.ofInt 9000000000000000), rfl, rfl⟩)
  refine g_enter2 (k := 180) (N := 1070134) (by first | exact dq1 hd rfl | exact dq0 hd rfl | exact dq2 hd rfl | exact dq3 hd rfl | omega) rfl (Nat.le_of_ble_eq_true rfl) ?_
  refine g_aload_n 1 (gd rfl) rfl rfl ?_
  refine g_aload_n 2 (gd rfl) rfl rfl ?_
  have p2 : KN (s.1 4) (s.1 5) (s.2.2.1 2 1) := by exact q_0
  refine g_callv (X := _) (As := [.ref (A 2)]) (r := []) (b := A 76) (q := 76) 5 (gd rfl) rfl rfl rfl rfl rfl (ww_o rfl) (Nat.le_of_ble_eq_true rfl) (Nat.zero_le _) (Nat.zero_le _) (k_181_76_2 (by first | exact dq1 hd rfl | exact dq0 hd rfl | exact dq2 hd rfl | exact dq3 hd rfl | omega) hI p2) (fun e u h => h) (fun v u h => ?_)
  obtain ⟨s2, hI2, hF2, rfl, rfl, p2a⟩ := h
  show GG _ _ _ _ _ _ _ _ [] _ _ _
  refine g_lconst 0 6 (gd rfl) rfl rfl ?_
  refine g_lstore_n 7 (gd rfl) rfl (Nat.le_of_ble_eq_true rfl) ?_
  refine g_aload_n 8 (gd rfl) rfl rfl ?_
  refine g_getI 11 (gd rfl) rfl rfl rfl (fun z8 e8 => ?_)
  have q8 : u_2_1 = z8 := (fr_F (e_2_1) hF2 rfl).trans e8.symm
  subst q8
  refine g_istore 13 (gd rfl) rfl (Nat.le_of_ble_eq_true rfl) ?_
  refine g_iload_n 14 (gd rfl) rfl rfl ?_
  refine g_istore 16 (gd rfl) rfl (Nat.le_of_ble_eq_true rfl) ?_
  refine g_iconst 0 17 (gd rfl) rfl rfl ?_
  refine g_istore 19 (gd rfl) rfl (Nat.le_of_ble_eq_true rfl) ?_
  have n19 : (x2).toInt < (u_2_1).toInt := by have a0 := oa3 ((inv_F hI 0 32 rfl e_2_1)) h2 ((in_c 0 rfl)); omega
  have n19a : AE s2 (u_2_1).toInt := by rw [e_2_1]; exact p2a
  exact gg_w (by first | exact Nat.le_of_ble_eq_true rfl | omega) (gg_f (gf_cons rfl (gf_cons rfl (gf_cons rfl (gf_cons rfl (gf_cons rfl (gf_cons rfl (gf_cons rfl gf_nil))))))) (ct19 33 s2 (Int64.ofInt 0) u_2_1 x2 (Int32.ofInt 0) hI2 (fr_tr rfl fr_rf hF2) (in_w 0 32 (inv_F hI 0 32 rfl e_2_1) rfl) (in_w 0 31 h2 rfl) (in_w 0 32 (in_c 0 rfl) rfl) n19 n19a (m_in 33 (in_w 0 32 (in_c 0 rfl) rfl) rfl)))

def fm_180_76_32 : FM := ([77, 78, 81, 82, 83], [79, 80], [(76, 0)], [])
/-- GraphHouse$Trees.leastRooted -/
theorem k_180_76_32 {Z : AmZ} {A : Nat → Nat} {s : GS} {ex : va_W} {d : Nat} {X : AmX} {x2 : Int32} {u_32_1 : Int32} (hd : 4 ≤ d) (hI : Inv s) (h2 : In x2 0 31) (e_32_1 : u_32_1 = s.2.2.1 32 1) (p_0 : (x2).toInt < (u_32_1).toInt) (q_0 : KN (s.1 34) (s.1 35) (s.2.2.1 32 1)) : GC Z d 180 [.ref (A 76), .ref (A 32), .int x2] (WW Z A s ++ ex) 0 0 (fun v u => ∃ t : GS, Inv t ∧ Fr fm_180_76_32 s t ∧ ∃ z : Int64, v = some (.long z) ∧ u = WW Z A t ++ ex) X := by
  intro post xp hP hX
  have ro_32_1 := inv_F hI 0 32 rfl e_32_1
  have ct19 : ∀ (k19 : Nat) (sc19 : GS) (y19_3 : Int64) (y19_5 : Int32) (y19_6 : Int32) (y19_7 : Int32), Inv sc19 → Fr fm_180_76_32 s sc19 → (In y19_5 0 32) → (In y19_6 0 31) → (In y19_7 0 32) → ((y19_6).toInt < (y19_5).toInt) → (AE sc19 (y19_5).toInt) → 32 - (y19_7).toInt < (k19 : Int) → GG Z (d - 1) 180 post (gx xp) (1 + k19 * 32401) 19 (fun j => xlook j [(0, .ref (A 76)), (1, .ref (A 32)), (2, .int x2), (3, .long y19_3), (5, .int y19_5), (6, .int y19_6), (7, .int y19_7)]) [] (WW Z A sc19 ++ ex) 0 0 := by
    intro k19
    induction k19 with
    | zero => intro sc19 y19_3 y19_5 y19_6 y19_7 hIc19 hFc19 j19_5 j19_6 j19_7 n19_0 g19_0 mm19; exact m_no mm19 j19_7 rfl
    | succ k19 ih19 =>
      intro sc19 y19_3 y19_5 y19_6 y19_7 hIc19 hFc19 j19_5 j19_6 j19_7 n19_0 g19_0 mm19
      refine gg_w (M := 1 + k19 * 32401 + 32401) gws ?_
      have ct44 : ∀ (k44 : Nat) (sc44 : GS) (y44_3 : Int64) (y44_8 : Int32), Inv sc44 → Fr fm_180_76_32 s sc44 → (In y19_7 0 31) → (In y44_8 0 32) → (AE sc44 (y19_5).toInt) → 32 - (y44_8).toInt < (k44 : Int) → GG Z (d - 1) 180 post (gx xp) (1 + k19 * 32401 + 1 + k44 * 900) 44 (fun j => xlook j [(0, .ref (A 76)), (1, .ref (A 32)), (2, .int x2), (3, .long y44_3), (5, .int y19_5), (6, .int y19_6), (7, .int y19_7), (8, .int y44_8)]) [] (WW Z A sc44 ++ ex) 0 0 := by
        intro k44
        induction k44 with
        | zero => intro sc44 y44_3 y44_8 hIc44 hFc44 j44_7 j44_8 g44_0 mm44; exact m_no mm44 j44_8 rfl
        | succ k44 ih44 =>
          intro sc44 y44_3 y44_8 hIc44 hFc44 j44_7 j44_8 g44_0 mm44
          refine gg_w (M := 1 + k19 * 32401 + 1 + k44 * 900 + 900) gws ?_
          refine g_iload 46 (gd rfl) rfl rfl ?_
          refine g_iload 48 (gd rfl) rfl rfl ?_
          refine g_cmp_ge 51 67 (gd rfl) rfl rfl (fun c48 => ?_) (fun c48 => ?_)
          · skip
            refine g_aload_n 68 (gd rfl) rfl rfl ?_
            refine g_iload 70 (gd rfl) rfl rfl ?_
            refine g_iload 72 (gd rfl) rfl rfl ?_
            refine g_callv (X := _) (As := [.int y19_5, .int y19_6]) (r := []) (b := A 76) (q := 76) 75 (gd rfl) rfl rfl rfl rfl rfl (ww_o rfl) (Nat.le_of_ble_eq_true rfl) (Nat.zero_le _) (Nat.zero_le _) (k_183_76 (by first | exact dq1 hd rfl | exact dq0 hd rfl | exact dq2 hd rfl | exact dq3 hd rfl | omega) hIc44 (in_w 0 32 j19_5 rfl) (in_w 0 31 j19_6 rfl)) (fun e u h => h) (fun v u h => ?_)
            obtain ⟨s72, hI72, hF72, z72, rfl, rfl, i72, p72, p72a⟩ := h
            show GG _ _ _ _ _ _ _ _ [.int z72] _ _ _
            refine g_istore 77 (gd rfl) rfl (Nat.le_of_ble_eq_true rfl) ?_
            refine g_iload 79 (gd rfl) rfl rfl ?_
            refine g_if_ne 82 84 (gd rfl) rfl rfl (fun c79 => ?_) (fun c79 => ?_)
            · skip
              have i79 := z_ne 1 32 c79 i72 rfl
              refine g_aload_n 85 (gd rfl) rfl rfl ?_
              refine g_iload 87 (gd rfl) rfl rfl ?_
              refine g_iload 89 (gd rfl) rfl rfl ?_
              have p89 : (z72).toInt + (c1m (s72.1 83) 32 : Int) ≤ 32 := by exact p72
              have p89a : ∀ v : Nat, v < 32 → (s72.1 83 v).toInt < (z72).toInt := by exact p72a
              refine g_callv (X := _) (As := [.int y19_5, .int z72]) (r := []) (b := A 76) (q := 76) 92 (gd rfl) rfl rfl rfl rfl rfl (ww_o rfl) (Nat.le_of_ble_eq_true rfl) (Nat.zero_le _) (Nat.zero_le _) (k_184_76 (by first | exact dq1 hd rfl | exact dq0 hd rfl | exact dq2 hd rfl | exact dq3 hd rfl | omega) hI72 (in_w 0 32 j19_5 rfl) (in_w 0 32 i79 rfl) p89 p89a) (fun e u h => h) (fun v u h => ?_)
              obtain ⟨s89, hI89, hF89, z89, rfl, rfl, i89, p89b⟩ := h
              show GG _ _ _ _ _ _ _ _ [.int z89] _ _ _
              refine g_istore 94 (gd rfl) rfl (Nat.le_of_ble_eq_true rfl) ?_
              refine g_aload_n 95 (gd rfl) rfl rfl ?_
              have p95 : ∃ n m : Int, AE s89 n ∧ n ≤ 32 ∧ RN s89 n m := by exact ⟨(y19_5).toInt, (z89).toInt, ae_fr (ae_fr g44_0 hF72 rfl) hF89 rfl, by have a0 := oa8 j44_7 j19_6 j19_5 h2 ro_32_1 j44_8 i89 i79; omega, p89b⟩
              refine g_callv (X := _) (As := []) (r := []) (b := A 76) (q := 76) 98 (gd rfl) rfl rfl rfl rfl rfl (ww_o rfl) (Nat.le_of_ble_eq_true rfl) (Nat.zero_le _) (Nat.zero_le _) (k_185_76 (by first | exact dq1 hd rfl | exact dq0 hd rfl | exact dq2 hd rfl | exact dq3 hd rfl | omega) hI89 p95) (fun e u h => h) (fun v u h => ?_)
              obtain ⟨s95, hI95, hF95, rfl, rfl, p95a⟩ := h
              show GG _ _ _ _ _ _ _ _ [] _ _ _
              refine g_aload_n 99 (gd rfl) rfl rfl ?_
              refine g_getA (q2 := 83) 102 (gd rfl) rfl rfl rfl rfl ?_
              refine g_iload 104 (gd rfl) rfl rfl ?_
              refine g_iaload 105 (gd rfl) rfl (n := 32) rfl (in_ix j19_6 rfl) (fun z104 e104 => ?_)
              have i104 := inv_I hI95 (n := 32) (t := 0) (-1) 31 rfl (in_ix j19_6 rfl) rfl e104
              have hr := p89b (y19_6).toNatClampNeg (by show (y19_6).toInt.toNat < 32; have a0 := oa8 j44_7 j19_6 j19_5 h2 ro_32_1 j44_8 i89 i79; (first | exact zt_l (by decide) (by omega) | omega))
              rw [← hF95.1 83 rfl, ← e104] at hr
              have i105 : In z104 0 31 := by have h9 := hr.2 (by have e9 : (y19_6).toNatClampNeg = (y19_6).toInt.toNat := rfl; have a0 := oa8 j44_7 j19_6 j19_5 h2 ro_32_1 j44_8 i89 i79; omega); exact ⟨h9, i104.2⟩
              have hr1 := hr.1
              refine g_istore 107 (gd rfl) rfl (Nat.le_of_ble_eq_true rfl) ?_
              refine g_iload 109 (gd rfl) rfl rfl ?_
              refine g_istore 111 (gd rfl) rfl (Nat.le_of_ble_eq_true rfl) ?_
              refine g_iinc 114 (gd rfl) rfl rfl (Nat.le_of_ble_eq_true rfl) (fun z111 e111 => ?_)
              have i111 := in_add 1 32 e111 j44_7 (in_c 1 rfl) rfl rfl
              refine g_goto 19 (gd rfl) rfl ?_
              have n19 : (z104).toInt < (z89).toInt := by have a0 := oa9 j44_7 j19_6 j19_5 h2 ro_32_1 j44_8 i89 i79 i111; have a9 := t_add e111 j44_7 (in_c 1 rfl) rfl; have a10 := oa2 ((in_c 1 rfl)) i105; omega
              have n19a : AE s95 (z89).toInt := by exact p95a (y19_5).toInt (z89).toInt (ae_fr (ae_fr g44_0 hF72 rfl) hF89 rfl) (by have a0 := oa9 j44_7 j19_6 j19_5 h2 ro_32_1 j44_8 i89 i79 i111; have a9 := t_add e111 j44_7 (in_c 1 rfl) rfl; have a10 := oa2 ((in_c 1 rfl)) i105; omega) p89b
              exact gg_w (by first | exact Nat.le_add_right _ _ | exact gw2 | exact gw3 | exact gwe rfl | exact gwf rfl | exact gwg rfl | exact gwh rfl | omega) (gg_f (gf_cons rfl (gf_cons rfl (gf_cons rfl (gf_cons rfl (gf_cons rfl (gf_cons rfl (gf_cons rfl gf_nil))))))) (ih19 s95 y44_3 z89 z104 z111 hI95 (fr_tr rfl (fr_tr rfl (fr_tr rfl hFc44 hF72) hF89) hF95) (in_w 0 32 i89 rfl) (in_w 0 31 i105 rfl) (in_w 0 32 i111 rfl) n19 n19a (m_up mm19 (t_add e111 j44_7 (in_c 1 rfl) rfl) (in_w 1 1 (in_c 1 rfl) rfl))))
            · skip
              have i79 := z_eq 0 0 c79 i72 rfl
              refine g_lload_n 83 (gd rfl) rfl rfl ?_
              exact g_lreturn (gd rfl) rfl (hP _ _ ⟨s72, hI72, (fr_tr rfl hFc44 hF72), y44_3, rfl, rfl⟩)
          · skip
            have i48 := r_lt1 0 31 c48 j44_8 j19_5 rfl
            have i48a := r_lt2 1 32 c48 j44_8 j19_5 rfl
            refine g_lload_n 52 (gd rfl) rfl rfl ?_
            refine g_aload_n 53 (gd rfl) rfl rfl ?_
            refine g_getA (q2 := 80) 56 (gd rfl) rfl rfl rfl rfl ?_
            refine g_iload 58 (gd rfl) rfl rfl ?_
            refine g_laload 59 (gd rfl) rfl (n := 32) rfl (in_ix i48 rfl) (fun z58 e58 => ?_)
            refine g_ladd 60 (gd rfl) rfl (fun z59 e59 => ?_)
            refine g_lstore_n 61 (gd rfl) rfl (Nat.le_of_ble_eq_true rfl) ?_
            refine g_iinc 64 (gd rfl) rfl rfl (Nat.le_of_ble_eq_true rfl) (fun z61 e61 => ?_)
            have i61 := in_add 1 32 e61 i48 (in_c 1 rfl) rfl rfl
            refine g_goto 44 (gd rfl) rfl ?_
            have n44 : AE sc44 (y19_5).toInt := by exact g44_0
            exact gg_w (by first | exact Nat.le_add_right _ _ | exact gw2 | exact gw3 | exact gwe rfl | exact gwf rfl | exact gwg rfl | exact gwh rfl | omega) (gg_f (gf_cons rfl (gf_cons rfl (gf_cons rfl (gf_cons rfl (gf_cons rfl (gf_cons rfl (gf_cons rfl (gf_cons rfl gf_nil)))))))) (ih44 sc44 z59 z61 hIc44 hFc44 (in_w 0 31 j44_7 rfl) (in_w 0 32 i61 rfl) n44 (m_up mm44 (t_add e61 i48 (in_c 1 rfl) rfl) (in_w 1 1 (in_c 1 rfl) rfl))))
      refine g_iload 21 (gd rfl) rfl rfl ?_
      refine g_bipush 32 23 (gd rfl) rfl rfl ?_
      refine g_cmp_ge 26 117 (gd rfl) rfl rfl (fun c23 => ?_) (fun c23 => ?_)
      · skip
        have i23 := r_le2 32 32 c23 (in_c 32 rfl) j19_7 rfl
        refine g_lload_n 118 (gd rfl) rfl rfl ?_
        exact g_lreturn (gd rfl) rfl (hP _ _ ⟨sc19, hIc19, hFc19, y19_3, rfl, rfl⟩)
      · skip
        have i23 := r_lt1 0 31 c23 j19_7 (in_c 32 rfl) rfl
        refine g_aload_n 27 (gd rfl) rfl rfl ?_
        refine g_iload 29 (gd rfl) rfl rfl ?_
        refine g_iload 31 (gd rfl) rfl rfl ?_
        refine g_callv (X := _) (As := [.int y19_5, .int y19_6]) (r := []) (b := A 76) (q := 76) 34 (gd rfl) rfl rfl rfl rfl rfl (ww_o rfl) (Nat.le_of_ble_eq_true rfl) (Nat.zero_le _) (Nat.zero_le _) (k_182_76 (by first | exact dq1 hd rfl | exact dq0 hd rfl | exact dq2 hd rfl | exact dq3 hd rfl | omega) hIc19 (in_w 0 32 j19_5 rfl) (in_w 0 31 j19_6 rfl)) (fun e u h => h) (fun v u h => ?_)
        obtain ⟨s31, hI31, hF31, z31, rfl, rfl, i31⟩ := h
        show GG _ _ _ _ _ _ _ _ [.int z31] _ _ _
        refine g_if_ne 37 41 (gd rfl) rfl rfl (fun c34 => ?_) (fun c34 => ?_)
        · skip
          have i34 := z_ne 1 1 c34 i31 rfl
          refine g_iconst 0 42 (gd rfl) rfl rfl ?_
          refine g_istore 44 (gd rfl) rfl (Nat.le_of_ble_eq_true rfl) ?_
          have n44 : AE s31 (y19_5).toInt := by exact ae_fr g19_0 hF31 rfl
          exact gg_w (by first | exact Nat.le_add_right _ _ | exact gw2 | exact gw3 | exact gwe rfl | exact gwf rfl | exact gwg rfl | exact gwh rfl | omega) (gg_f (gf_cons rfl (gf_cons rfl (gf_cons rfl (gf_cons rfl (gf_cons rfl (gf_cons rfl (gf_cons rfl (gf_cons rfl gf_nil)))))))) (ct44 33 s31 y19_3 (Int32.ofInt 0) hI31 (fr_tr rfl hFc19 hF31) (in_w 0 31 i23 rfl) (in_w 0 32 (in_c 0 rfl) rfl) n44 (m_in 33 (in_w 0 32 (in_c 0 rfl) rfl) rfl)))
        · skip
          have i34 := z_eq 0 0 c34 i31 rfl
          refine g_ldc2_w 9000000000000000 40 (gd rfl) rfl rfl ?_
          exact g_lreturn (gd rfl) rfl (hP _ _ ⟨s31, hI31, (fr_tr rfl hFc19 hF31), (Int64.ofInt 9000000000000000), rfl, rfl⟩)
  refine g_enter2 (k := 180) (N := 1070134) (by first | exact dq1 hd rfl | exact dq0 hd rfl | exact dq2 hd rfl | exact dq3 hd rfl | omega) rfl (Nat.le_of_ble_eq_true rfl) ?_
  refine g_aload_n 1 (gd rfl) rfl rfl ?_
  refine g_aload_n 2 (gd rfl) rfl rfl ?_
  have p2 : KN (s.1 34) (s.1 35) (s.2.2.1 32 1) := by exact q_0
  refine g_callv (X := _) (As := [.ref (A 32)]) (r := []) (b := A 76) (q := 76) 5 (gd rfl) rfl rfl rfl rfl rfl (ww_o rfl) (Nat.le_of_ble_eq_true rfl) (Nat.zero_le _) (Nat.zero_le _) (k_181_76_32 (by first | exact dq1 hd rfl | exact dq0 hd rfl | exact dq2 hd rfl | exact dq3 hd rfl | omega) hI p2) (fun e u h => h) (fun v u h => ?_)
  obtain ⟨s2, hI2, hF2, rfl, rfl, p2a⟩ := h
  show GG _ _ _ _ _ _ _ _ [] _ _ _
  refine g_lconst 0 6 (gd rfl) rfl rfl ?_
  refine g_lstore_n 7 (gd rfl) rfl (Nat.le_of_ble_eq_true rfl) ?_
  refine g_aload_n 8 (gd rfl) rfl rfl ?_
  refine g_getI 11 (gd rfl) rfl rfl rfl (fun z8 e8 => ?_)
  have q8 : u_32_1 = z8 := (fr_F (e_32_1) hF2 rfl).trans e8.symm
  subst q8
  refine g_istore 13 (gd rfl) rfl (Nat.le_of_ble_eq_true rfl) ?_
  refine g_iload_n 14 (gd rfl) rfl rfl ?_
  refine g_istore 16 (gd rfl) rfl (Nat.le_of_ble_eq_true rfl) ?_
  refine g_iconst 0 17 (gd rfl) rfl rfl ?_
  refine g_istore 19 (gd rfl) rfl (Nat.le_of_ble_eq_true rfl) ?_
  have n19 : (x2).toInt < (u_32_1).toInt := by have a0 := oa3 ((inv_F hI 0 32 rfl e_32_1)) h2 ((in_c 0 rfl)); omega
  have n19a : AE s2 (u_32_1).toInt := by rw [e_32_1]; exact p2a
  exact gg_w (by first | exact Nat.le_of_ble_eq_true rfl | omega) (gg_f (gf_cons rfl (gf_cons rfl (gf_cons rfl (gf_cons rfl (gf_cons rfl (gf_cons rfl (gf_cons rfl gf_nil))))))) (ct19 33 s2 (Int64.ofInt 0) u_32_1 x2 (Int32.ofInt 0) hI2 (fr_tr rfl fr_rf hF2) (in_w 0 32 (inv_F hI 0 32 rfl e_32_1) rfl) (in_w 0 31 h2 rfl) (in_w 0 32 (in_c 0 rfl) rfl) n19 n19a (m_in 33 (in_w 0 32 (in_c 0 rfl) rfl) rfl)))

def fm_186_76_2 : FM := ([84], [], [], [])
/-- GraphHouse$Trees.isSpanning -/
theorem k_186_76_2 {Z : AmZ} {A : Nat → Nat} {s : GS} {ex : va_W} {d : Nat} {X : AmX} {x2 : Int32} (hd : 5 ≤ d) (hI : Inv s) (h2 : In x2 0 159) : GC Z d 186 [.ref (A 76), .ref (A 2), .int x2] (WW Z A s ++ ex) 0 0 (fun v u => ∃ t : GS, Inv t ∧ Fr fm_186_76_2 s t ∧ ∃ z : Int32, v = some (.int z) ∧ u = WW Z A t ++ ex ∧ In z 0 1) X := by
  intro post xp hP hX
  obtain ⟨u_2_3, e_2_3⟩ : ∃ w, w = s.2.2.1 2 3 := ⟨_, rfl⟩
  have ro_2_3 := inv_F hI 0 160 rfl e_2_3
  have ct20 : ∀ (k20 : Nat) (sc20 : GS) (y20_3 : Int32), Inv sc20 → Fr fm_186_76_2 s sc20 → (In y20_3 0 160) → 160 - (y20_3).toInt < (k20 : Int) → GG Z (d - 1) 186 post (gx xp) (1 + k20 * 900) 20 (fun j => xlook j [(0, .ref (A 76)), (1, .ref (A 2)), (2, .int x2), (3, .int y20_3)]) [] (WW Z A sc20 ++ ex) 0 0 := by
    intro k20
    induction k20 with
    | zero => intro sc20 y20_3 hIc20 hFc20 j20_3 mm20; exact m_no mm20 j20_3 rfl
    | succ k20 ih20 =>
      intro sc20 y20_3 hIc20 hFc20 j20_3 mm20
      refine gg_w (M := 1 + k20 * 900 + 900) gws ?_
      refine g_iload_n 21 (gd rfl) rfl rfl ?_
      refine g_aload_n 22 (gd rfl) rfl rfl ?_
      refine g_getI 25 (gd rfl) rfl rfl rfl (fun z22 e22 => ?_)
      have q22 : u_2_3 = z22 := (fr_F e_2_3 hFc20 rfl).trans e22.symm
      subst q22
      refine g_cmp_ge 28 95 (gd rfl) rfl rfl (fun c25 => ?_) (fun c25 => ?_)
      · skip
        refine g_aload_n 96 (gd rfl) rfl rfl ?_
        refine g_getA (q2 := 84) 99 (gd rfl) rfl rfl rfl rfl ?_
        refine g_iconst 1 100 (gd rfl) rfl rfl ?_
        refine g_aload_n 101 (gd rfl) rfl rfl ?_
        refine g_getA (q2 := 4) 104 (gd rfl) rfl rfl rfl rfl ?_
        refine g_iload_n 105 (gd rfl) rfl rfl ?_
        refine g_iaload 106 (gd rfl) rfl (n := 160) rfl (in_ix h2 rfl) (fun z105 e105 => ?_)
        have i105 := inv_I hIc20 (n := 160) (t := 0) (-1) 31 rfl (in_ix h2 rfl) rfl e105
        refine g_ishl 107 (gd rfl) rfl (fun z106 e106 => ?_)
        refine g_iconst (-1) 108 (gd rfl) rfl rfl ?_
        refine g_calls (As := [.ref (A 84), .int z106, .int (Int32.ofInt (-1))]) (r := []) 111 (gd rfl) rfl rfl rfl rfl rfl (Nat.le_of_ble_eq_true rfl) (Nat.zero_le _) (Nat.zero_le _) (k_266_84 (by first | exact dq1 hd rfl | exact dq0 hd rfl | exact dq2 hd rfl | exact dq3 hd rfl | omega) hIc20 (in_w (-1) (-1) (in_c (-1) rfl) rfl)) (fun v u h => ?_)
        obtain ⟨z108, rfl, rfl, i108, p108⟩ := h
        show GG _ _ _ _ _ _ _ _ [.int z108] _ _ _
        refine g_aload_n 112 (gd rfl) rfl rfl ?_
        refine g_getA (q2 := 5) 115 (gd rfl) rfl rfl rfl rfl ?_
        refine g_iload_n 116 (gd rfl) rfl rfl ?_
        refine g_iaload 117 (gd rfl) rfl (n := 160) rfl (in_ix h2 rfl) (fun z116 e116 => ?_)
        have i116 := inv_I hIc20 (n := 160) (t := 0) 0 31 rfl (in_ix h2 rfl) rfl e116
        refine g_ishr 118 (gd rfl) rfl (fun z117 e117 => ?_)
        refine g_iconst 1 119 (gd rfl) rfl rfl ?_
        refine g_iand 120 (gd rfl) rfl (fun z119 e119 => ?_)
        have i119 := in_and2 e119 (in_c 1 rfl) rfl
        refine g_if_ne 123 127 (gd rfl) rfl rfl (fun c120 => ?_) (fun c120 => ?_)
        · skip
          have i120 := z_ne 1 1 c120 i119 rfl
          refine g_iconst 0 128 (gd rfl) rfl rfl ?_
          exact g_ireturn (gd rfl) rfl (nb01 (in_w 0 1 (in_c 0 rfl) rfl)) (hP _ _ ⟨sc20, hIc20, hFc20, (Int32.ofInt 0), rfl, rfl, in_w 0 1 (in_c 0 rfl) rfl⟩)
        · skip
          have i120 := z_eq 0 0 c120 i119 rfl
          refine g_iconst 1 124 (gd rfl) rfl rfl ?_
          refine g_goto 128 (gd rfl) rfl ?_
          exact g_ireturn (gd rfl) rfl (nb01 (in_w 0 1 (in_c 1 rfl) rfl)) (hP _ _ ⟨sc20, hIc20, hFc20, (Int32.ofInt 1), rfl, rfl, in_w 0 1 (in_c 1 rfl) rfl⟩)
      · skip
        have i25 := r_lt1 0 159 c25 j20_3 ro_2_3 rfl
        have i25a := r_lt2 1 160 c25 j20_3 ro_2_3 rfl
        refine g_aload_n 29 (gd rfl) rfl rfl ?_
        refine g_iload_n 30 (gd rfl) rfl rfl ?_
        refine g_callv (X := _) (As := [.int y20_3]) (r := []) (b := A 2) (q := 2) 33 (gd rfl) rfl rfl rfl rfl rfl (ww_o rfl) (Nat.le_of_ble_eq_true rfl) (mc := 0) (ms := 0) (Nat.zero_le _) (Nat.zero_le _) (P := fun v u => _) ?_ (fun e u h => h) (fun v u h => h)
        intro po30 xx30 hp30 hx30
        refine g_enter2 (k := 97) (N := 300) (by first | exact dq1 hd rfl | exact dq0 hd rfl | exact dq2 hd rfl | exact dq3 hd rfl | omega) rfl (Nat.le_of_ble_eq_true rfl) ?_
        refine g_aload_n 1 (gd rfl) rfl rfl ?_
        refine g_getA (q2 := 4) 4 (gd rfl) rfl rfl rfl rfl ?_
        refine g_iload_n 5 (gd rfl) rfl rfl ?_
        refine g_iaload 6 (gd rfl) rfl (n := 160) rfl (in_ix i25 rfl) (fun z30x5 e30x5 => ?_)
        have i30x5 := inv_I hIc20 (n := 160) (t := 0) (-1) 31 rfl (in_ix i25 rfl) rfl e30x5
        refine g_iconst (-1) 7 (gd rfl) rfl rfl ?_
        refine g_cmp_eq 10 29 (gd rfl) rfl rfl (fun c30x7 => ?_) (fun c30x7 => ?_)
        · skip
          have i30x7 := r_eq1 (-1) (-1) c30x7 i30x5 (in_c (-1) rfl) rfl
          refine g_iconst 0 30 (gd rfl) rfl rfl ?_
          refine g_ireturn (gd rfl) rfl (nb01 (in_w 0 1 (in_c 0 rfl) rfl)) (hp30 _ _ ?_)
          show GG _ _ _ _ _ _ _ _ [.int (Int32.ofInt 0)] _ _ _
          refine g_if_eq 36 89 (gd rfl) rfl rfl (fun c33 => ?_) (fun c33 => ?_)
          · skip
            refine g_iinc 92 (gd rfl) rfl rfl (Nat.le_of_ble_eq_true rfl) (fun z89 e89 => ?_)
            have i89 := in_add 1 160 e89 i25 (in_c 1 rfl) rfl rfl
            refine g_goto 20 (gd rfl) rfl ?_
            exact gg_w (by first | exact Nat.le_add_right _ _ | exact gw2 | exact gw3 | exact gwe rfl | exact gwf rfl | exact gwg rfl | exact gwh rfl | omega) (gg_f (gf_cons rfl (gf_cons rfl (gf_cons rfl (gf_cons rfl gf_nil)))) (ih20 sc20 z89 hIc20 hFc20 (in_w 0 160 i89 rfl) (m_up mm20 (t_add e89 i25 (in_c 1 rfl) rfl) (in_w 1 1 (in_c 1 rfl) rfl))))
          · skip
            exact zn_ne c33 (in_c 0 rfl) rfl
        · skip
          have i30x7 := r_ne1 0 31 c30x7 i30x5 (in_c (-1) rfl) rfl
          refine g_aload_n 11 (gd rfl) rfl rfl ?_
          refine g_getA (q2 := 4) 14 (gd rfl) rfl rfl rfl rfl ?_
          refine g_iload_n 15 (gd rfl) rfl rfl ?_
          refine g_iaload 16 (gd rfl) rfl (n := 160) rfl (in_ix i25 rfl) (fun z30x15 e30x15 => ?_)
          have q30x15 : z30x5 = z30x15 := (e30x5).trans e30x15.symm
          subst q30x15
          refine g_aload_n 17 (gd rfl) rfl rfl ?_
          refine g_getA (q2 := 5) 20 (gd rfl) rfl rfl rfl rfl ?_
          refine g_iload_n 21 (gd rfl) rfl rfl ?_
          refine g_iaload 22 (gd rfl) rfl (n := 160) rfl (in_ix i25 rfl) (fun z30x21 e30x21 => ?_)
          have i30x21 := inv_I hIc20 (n := 160) (t := 0) 0 31 rfl (in_ix i25 rfl) rfl e30x21
          refine g_cmp_eq 25 29 (gd rfl) rfl rfl (fun c30x22 => ?_) (fun c30x22 => ?_)
          · skip
            refine g_iconst 0 30 (gd rfl) rfl rfl ?_
            refine g_ireturn (gd rfl) rfl (nb01 (in_w 0 1 (in_c 0 rfl) rfl)) (hp30 _ _ ?_)
            show GG _ _ _ _ _ _ _ _ [.int (Int32.ofInt 0)] _ _ _
            refine g_if_eq 36 89 (gd rfl) rfl rfl (fun c33 => ?_) (fun c33 => ?_)
            · skip
              refine g_iinc 92 (gd rfl) rfl rfl (Nat.le_of_ble_eq_true rfl) (fun z89 e89 => ?_)
              have i89 := in_add 1 160 e89 i25 (in_c 1 rfl) rfl rfl
              refine g_goto 20 (gd rfl) rfl ?_
              exact gg_w (by first | exact Nat.le_add_right _ _ | exact gw2 | exact gw3 | exact gwe rfl | exact gwf rfl | exact gwg rfl | exact gwh rfl | omega) (gg_f (gf_cons rfl (gf_cons rfl (gf_cons rfl (gf_cons rfl gf_nil)))) (ih20 sc20 z89 hIc20 hFc20 (in_w 0 160 i89 rfl) (m_up mm20 (t_add e89 i25 (in_c 1 rfl) rfl) (in_w 1 1 (in_c 1 rfl) rfl))))
            · skip
              exact zn_ne c33 (in_c 0 rfl) rfl
          · skip
            refine g_iconst 1 26 (gd rfl) rfl rfl ?_
            refine g_goto 30 (gd rfl) rfl ?_
            refine g_ireturn (gd rfl) rfl (nb01 (in_w 0 1 (in_c 1 rfl) rfl)) (hp30 _ _ ?_)
            show GG _ _ _ _ _ _ _ _ [.int (Int32.ofInt 1)] _ _ _
            refine g_if_eq 36 89 (gd rfl) rfl rfl (fun c33 => ?_) (fun c33 => ?_)
            · skip
              exact zn_eq c33 (in_c 1 rfl) rfl
            · skip
              refine g_aload_n 37 (gd rfl) rfl rfl ?_
              refine g_iload_n 38 (gd rfl) rfl rfl ?_
              refine g_iload_n 39 (gd rfl) rfl rfl ?_
              refine g_calls (As := [.ref (A 2), .int y20_3, .int x2]) (r := []) 42 (gd rfl) rfl rfl rfl rfl rfl (Nat.le_of_ble_eq_true rfl) (mc := 0) (ms := 0) (Nat.zero_le _) (Nat.zero_le _) (P := fun v u => _) ?_ (fun v u h => h)
              intro po39 xx39 hp39 hx39
              refine g_enter2 (k := 187) (N := 300) (by first | exact dq1 hd rfl | exact dq0 hd rfl | exact dq2 hd rfl | exact dq3 hd rfl | omega) rfl (Nat.le_of_ble_eq_true rfl) ?_
              refine g_aload_n 1 (gd rfl) rfl rfl ?_
              refine g_getA (q2 := 6) 4 (gd rfl) rfl rfl rfl rfl ?_
              refine g_iload_n 5 (gd rfl) rfl rfl ?_
              refine g_iaload 6 (gd rfl) rfl (n := 160) rfl (in_ix i25 rfl) (fun z39x5 e39x5 => ?_)
              have i39x5 := inv_I hIc20 (n := 160) (t := 0) (-1000000) 1000000 rfl (in_ix i25 rfl) rfl e39x5
              refine g_aload_n 7 (gd rfl) rfl rfl ?_
              refine g_getA (q2 := 6) 10 (gd rfl) rfl rfl rfl rfl ?_
              refine g_iload_n 11 (gd rfl) rfl rfl ?_
              refine g_iaload 12 (gd rfl) rfl (n := 160) rfl (in_ix h2 rfl) (fun z39x11 e39x11 => ?_)
              have i39x11 := inv_I hIc20 (n := 160) (t := 0) (-1000000) 1000000 rfl (in_ix h2 rfl) rfl e39x11
              refine g_cmp_lt 15 35 (gd rfl) rfl rfl (fun c39x12 => ?_) (fun c39x12 => ?_)
              · skip
                have i39x12 := r_lt1 (-1000000) 999999 c39x12 i39x5 i39x11 rfl
                have i39x12a := r_lt2 (-999999) 1000000 c39x12 i39x5 i39x11 rfl
                refine g_iconst 1 36 (gd rfl) rfl rfl ?_
                refine g_goto 40 (gd rfl) rfl ?_
                refine g_ireturn (gd rfl) rfl (nb01 (in_w 0 1 (in_c 1 rfl) rfl)) (hp39 _ _ ?_)
                show GG _ _ _ _ _ _ _ _ [.int (Int32.ofInt 1)] _ _ _
                refine g_if_eq 45 89 (gd rfl) rfl rfl (fun c42 => ?_) (fun c42 => ?_)
                · skip
                  exact zn_eq c42 (in_c 1 rfl) rfl
                · skip
                  refine g_aload_n 46 (gd rfl) rfl rfl ?_
                  refine g_getA (q2 := 84) 49 (gd rfl) rfl rfl rfl rfl ?_
                  refine g_aload_n 50 (gd rfl) rfl rfl ?_
                  refine g_getA (q2 := 4) 53 (gd rfl) rfl rfl rfl rfl ?_
                  refine g_iload_n 54 (gd rfl) rfl rfl ?_
                  refine g_iaload 55 (gd rfl) rfl (n := 160) rfl (in_ix i25 rfl) (fun z54 e54 => ?_)
                  have q54 : z30x5 = z54 := (e30x5).trans e54.symm
                  subst q54
                  refine g_dup2 56 (gd rfl) rfl rfl rfl ?_
                  refine g_iaload 57 (gd rfl) rfl (n := 32) rfl (in_ix i30x7 rfl) (fun z56 e56 => ?_)
                  refine g_iconst 1 58 (gd rfl) rfl rfl ?_
                  refine g_aload_n 59 (gd rfl) rfl rfl ?_
                  refine g_getA (q2 := 5) 62 (gd rfl) rfl rfl rfl rfl ?_
                  refine g_iload_n 63 (gd rfl) rfl rfl ?_
                  refine g_iaload 64 (gd rfl) rfl (n := 160) rfl (in_ix i25 rfl) (fun z63 e63 => ?_)
                  have q63 : z30x21 = z63 := (e30x21).trans e63.symm
                  subst q63
                  refine g_ishl 65 (gd rfl) rfl (fun z64 e64 => ?_)
                  refine g_ior 66 (gd rfl) rfl (fun z65 e65 => ?_)
                  refine g_iastore 67 (gd rfl) rfl (n := 32) rfl (in_ix i30x7 rfl) ?_
                  have hI66 := inv_sI (q := 84) (j := z30x5.toNatClampNeg) hIc20 rfl (in_w (-2147483648) 2147483647 (i_rng z65) rfl)
                  refine g_aload_n 68 (gd rfl) rfl rfl ?_
                  refine g_getA (q2 := 84) 71 (gd rfl) rfl rfl rfl rfl ?_
                  refine g_aload_n 72 (gd rfl) rfl rfl ?_
                  refine g_getA (q2 := 5) 75 (gd rfl) rfl rfl rfl rfl ?_
                  refine g_iload_n 76 (gd rfl) rfl rfl ?_
                  refine g_iaload 77 (gd rfl) rfl (n := 160) rfl (in_ix i25 rfl) (fun z76 e76 => ?_)
                  have q76 : z30x21 = z76 := (sI_ne rfl (e30x21)).trans e76.symm
                  subst q76
                  refine g_dup2 78 (gd rfl) rfl rfl rfl ?_
                  refine g_iaload 79 (gd rfl) rfl (n := 32) rfl (in_ix i30x21 rfl) (fun z78 e78 => ?_)
                  refine g_iconst 1 80 (gd rfl) rfl rfl ?_
                  refine g_aload_n 81 (gd rfl) rfl rfl ?_
                  refine g_getA (q2 := 4) 84 (gd rfl) rfl rfl rfl rfl ?_
                  refine g_iload_n 85 (gd rfl) rfl rfl ?_
                  refine g_iaload 86 (gd rfl) rfl (n := 160) rfl (in_ix i25 rfl) (fun z85 e85 => ?_)
                  have q85 : z30x5 = z85 := (sI_ne rfl (e30x5)).trans e85.symm
                  subst q85
                  refine g_ishl 87 (gd rfl) rfl (fun z86 e86 => ?_)
                  refine g_ior 88 (gd rfl) rfl (fun z87 e87 => ?_)
                  refine g_iastore 89 (gd rfl) rfl (n := 32) rfl (in_ix i30x21 rfl) ?_
                  have hI88 := inv_sI (q := 84) (j := z30x21.toNatClampNeg) hI66 rfl (in_w (-2147483648) 2147483647 (i_rng z87) rfl)
                  refine g_iinc 92 (gd rfl) rfl rfl (Nat.le_of_ble_eq_true rfl) (fun z89 e89 => ?_)
                  have i89 := in_add 1 160 e89 i25 (in_c 1 rfl) rfl rfl
                  refine g_goto 20 (gd rfl) rfl ?_
                  exact gg_w (by first | exact Nat.le_add_right _ _ | exact gw2 | exact gw3 | exact gwe rfl | exact gwf rfl | exact gwg rfl | exact gwh rfl | omega) (gg_f (gf_cons rfl (gf_cons rfl (gf_cons rfl (gf_cons rfl gf_nil)))) (ih20 (sI (sI sc20 84 z30x5.toNatClampNeg z65) 84 z30x21.toNatClampNeg z87) z89 hI88 (fr_sI rfl (fr_sI rfl hFc20)) (in_w 0 160 i89 rfl) (m_up mm20 (t_add e89 i25 (in_c 1 rfl) rfl) (in_w 1 1 (in_c 1 rfl) rfl))))
              · skip
                refine g_aload_n 16 (gd rfl) rfl rfl ?_
                refine g_getA (q2 := 6) 19 (gd rfl) rfl rfl rfl rfl ?_
                refine g_iload_n 20 (gd rfl) rfl rfl ?_
                refine g_iaload 21 (gd rfl) rfl (n := 160) rfl (in_ix i25 rfl) (fun z39x20 e39x20 => ?_)
                have q39x20 : z39x5 = z39x20 := (e39x5).trans e39x20.symm
                subst q39x20
                refine g_aload_n 22 (gd rfl) rfl rfl ?_
                refine g_getA (q2 := 6) 25 (gd rfl) rfl rfl rfl rfl ?_
                refine g_iload_n 26 (gd rfl) rfl rfl ?_
                refine g_iaload 27 (gd rfl) rfl (n := 160) rfl (in_ix h2 rfl) (fun z39x26 e39x26 => ?_)
                have q39x26 : z39x11 = z39x26 := (e39x11).trans e39x26.symm
                subst q39x26
                refine g_cmp_ne 30 39 (gd rfl) rfl rfl (fun c39x27 => ?_) (fun c39x27 => ?_)
                · skip
                  refine g_iconst 0 40 (gd rfl) rfl rfl ?_
                  refine g_ireturn (gd rfl) rfl (nb01 (in_w 0 1 (in_c 0 rfl) rfl)) (hp39 _ _ ?_)
                  show GG _ _ _ _ _ _ _ _ [.int (Int32.ofInt 0)] _ _ _
                  refine g_if_eq 45 89 (gd rfl) rfl rfl (fun c42 => ?_) (fun c42 => ?_)
                  · skip
                    refine g_iinc 92 (gd rfl) rfl rfl (Nat.le_of_ble_eq_true rfl) (fun z89 e89 => ?_)
                    have i89 := in_add 1 160 e89 i25 (in_c 1 rfl) rfl rfl
                    refine g_goto 20 (gd rfl) rfl ?_
                    exact gg_w (by first | exact Nat.le_add_right _ _ | exact gw2 | exact gw3 | exact gwe rfl | exact gwf rfl | exact gwg rfl | exact gwh rfl | omega) (gg_f (gf_cons rfl (gf_cons rfl (gf_cons rfl (gf_cons rfl gf_nil)))) (ih20 sc20 z89 hIc20 hFc20 (in_w 0 160 i89 rfl) (m_up mm20 (t_add e89 i25 (in_c 1 rfl) rfl) (in_w 1 1 (in_c 1 rfl) rfl))))
                  · skip
                    exact zn_ne c42 (in_c 0 rfl) rfl
                · skip
                  refine g_iload_n 31 (gd rfl) rfl rfl ?_
                  refine g_iload_n 32 (gd rfl) rfl rfl ?_
                  refine g_cmp_ge 35 39 (gd rfl) rfl rfl (fun c39x32 => ?_) (fun c39x32 => ?_)
                  · skip
                    refine g_iconst 0 40 (gd rfl) rfl rfl ?_
                    refine g_ireturn (gd rfl) rfl (nb01 (in_w 0 1 (in_c 0 rfl) rfl)) (hp39 _ _ ?_)
                    show GG _ _ _ _ _ _ _ _ [.int (Int32.ofInt 0)] _ _ _
                    refine g_if_eq 45 89 (gd rfl) rfl rfl (fun c42 => ?_) (fun c42 => ?_)
                    · skip
                      refine g_iinc 92 (gd rfl) rfl rfl (Nat.le_of_ble_eq_true rfl) (fun z89 e89 => ?_)
                      have i89 := in_add 1 160 e89 i25 (in_c 1 rfl) rfl rfl
                      refine g_goto 20 (gd rfl) rfl ?_
                      exact gg_w (by first | exact Nat.le_add_right _ _ | exact gw2 | exact gw3 | exact gwe rfl | exact gwf rfl | exact gwg rfl | exact gwh rfl | omega) (gg_f (gf_cons rfl (gf_cons rfl (gf_cons rfl (gf_cons rfl gf_nil)))) (ih20 sc20 z89 hIc20 hFc20 (in_w 0 160 i89 rfl) (m_up mm20 (t_add e89 i25 (in_c 1 rfl) rfl) (in_w 1 1 (in_c 1 rfl) rfl))))
                    · skip
                      exact zn_ne c42 (in_c 0 rfl) rfl
                  · skip
                    have i39x32 := r_lt1 0 158 c39x32 i25 h2 rfl
                    have i39x32a := r_lt2 1 159 c39x32 i25 h2 rfl
                    refine g_iconst 1 36 (gd rfl) rfl rfl ?_
                    refine g_goto 40 (gd rfl) rfl ?_
                    refine g_ireturn (gd rfl) rfl (nb01 (in_w 0 1 (in_c 1 rfl) rfl)) (hp39 _ _ ?_)
                    show GG _ _ _ _ _ _ _ _ [.int (Int32.ofInt 1)] _ _ _
                    refine g_if_eq 45 89 (gd rfl) rfl rfl (fun c42 => ?_) (fun c42 => ?_)
                    · skip
                      exact zn_eq c42 (in_c 1 rfl) rfl
                    · skip
                      refine g_aload_n 46 (gd rfl) rfl rfl ?_
                      refine g_getA (q2 := 84) 49 (gd rfl) rfl rfl rfl rfl ?_
                      refine g_aload_n 50 (gd rfl) rfl rfl ?_
                      refine g_getA (q2 := 4) 53 (gd rfl) rfl rfl rfl rfl ?_
                      refine g_iload_n 54 (gd rfl) rfl rfl ?_
                      refine g_iaload 55 (gd rfl) rfl (n := 160) rfl (in_ix i39x32 rfl) (fun z54 e54 => ?_)
                      have q54 : z30x5 = z54 := (e30x5).trans e54.symm
                      subst q54
                      refine g_dup2 56 (gd rfl) rfl rfl rfl ?_
                      refine g_iaload 57 (gd rfl) rfl (n := 32) rfl (in_ix i30x7 rfl) (fun z56 e56 => ?_)
                      refine g_iconst 1 58 (gd rfl) rfl rfl ?_
                      refine g_aload_n 59 (gd rfl) rfl rfl ?_
                      refine g_getA (q2 := 5) 62 (gd rfl) rfl rfl rfl rfl ?_
                      refine g_iload_n 63 (gd rfl) rfl rfl ?_
                      refine g_iaload 64 (gd rfl) rfl (n := 160) rfl (in_ix i39x32 rfl) (fun z63 e63 => ?_)
                      have q63 : z30x21 = z63 := (e30x21).trans e63.symm
                      subst q63
                      refine g_ishl 65 (gd rfl) rfl (fun z64 e64 => ?_)
                      refine g_ior 66 (gd rfl) rfl (fun z65 e65 => ?_)
                      refine g_iastore 67 (gd rfl) rfl (n := 32) rfl (in_ix i30x7 rfl) ?_
                      have hI66 := inv_sI (q := 84) (j := z30x5.toNatClampNeg) hIc20 rfl (in_w (-2147483648) 2147483647 (i_rng z65) rfl)
                      refine g_aload_n 68 (gd rfl) rfl rfl ?_
                      refine g_getA (q2 := 84) 71 (gd rfl) rfl rfl rfl rfl ?_
                      refine g_aload_n 72 (gd rfl) rfl rfl ?_
                      refine g_getA (q2 := 5) 75 (gd rfl) rfl rfl rfl rfl ?_
                      refine g_iload_n 76 (gd rfl) rfl rfl ?_
                      refine g_iaload 77 (gd rfl) rfl (n := 160) rfl (in_ix i39x32 rfl) (fun z76 e76 => ?_)
                      have q76 : z30x21 = z76 := (sI_ne rfl (e30x21)).trans e76.symm
                      subst q76
                      refine g_dup2 78 (gd rfl) rfl rfl rfl ?_
                      refine g_iaload 79 (gd rfl) rfl (n := 32) rfl (in_ix i30x21 rfl) (fun z78 e78 => ?_)
                      refine g_iconst 1 80 (gd rfl) rfl rfl ?_
                      refine g_aload_n 81 (gd rfl) rfl rfl ?_
                      refine g_getA (q2 := 4) 84 (gd rfl) rfl rfl rfl rfl ?_
                      refine g_iload_n 85 (gd rfl) rfl rfl ?_
                      refine g_iaload 86 (gd rfl) rfl (n := 160) rfl (in_ix i39x32 rfl) (fun z85 e85 => ?_)
                      have q85 : z30x5 = z85 := (sI_ne rfl (e30x5)).trans e85.symm
                      subst q85
                      refine g_ishl 87 (gd rfl) rfl (fun z86 e86 => ?_)
                      refine g_ior 88 (gd rfl) rfl (fun z87 e87 => ?_)
                      refine g_iastore 89 (gd rfl) rfl (n := 32) rfl (in_ix i30x21 rfl) ?_
                      have hI88 := inv_sI (q := 84) (j := z30x21.toNatClampNeg) hI66 rfl (in_w (-2147483648) 2147483647 (i_rng z87) rfl)
                      refine g_iinc 92 (gd rfl) rfl rfl (Nat.le_of_ble_eq_true rfl) (fun z89 e89 => ?_)
                      have i89 := in_add 1 159 e89 i39x32 (in_c 1 rfl) rfl rfl
                      refine g_goto 20 (gd rfl) rfl ?_
                      exact gg_w (by first | exact Nat.le_add_right _ _ | exact gw2 | exact gw3 | exact gwe rfl | exact gwf rfl | exact gwg rfl | exact gwh rfl | omega) (gg_f (gf_cons rfl (gf_cons rfl (gf_cons rfl (gf_cons rfl gf_nil)))) (ih20 (sI (sI sc20 84 z30x5.toNatClampNeg z65) 84 z30x21.toNatClampNeg z87) z89 hI88 (fr_sI rfl (fr_sI rfl hFc20)) (in_w 0 160 i89 rfl) (m_up mm20 (t_add e89 i39x32 (in_c 1 rfl) rfl) (in_w 1 1 (in_c 1 rfl) rfl))))
  refine g_enter2 (k := 186) (N := 145801) (by first | exact dq1 hd rfl | exact dq0 hd rfl | exact dq2 hd rfl | exact dq3 hd rfl | omega) rfl (Nat.le_of_ble_eq_true rfl) ?_
  refine g_aload_n 1 (gd rfl) rfl rfl ?_
  refine g_iload_n 2 (gd rfl) rfl rfl ?_
  refine g_callv (X := _) (As := [.int x2]) (r := []) (b := A 2) (q := 2) 5 (gd rfl) rfl rfl rfl rfl rfl (ww_o rfl) (Nat.le_of_ble_eq_true rfl) (mc := 0) (ms := 0) (Nat.zero_le _) (Nat.zero_le _) (P := fun v u => _) ?_ (fun e u h => h) (fun v u h => h)
  intro po2 xx2 hp2 hx2
  refine g_enter2 (k := 97) (N := 300) (by first | exact dq1 hd rfl | exact dq0 hd rfl | exact dq2 hd rfl | exact dq3 hd rfl | omega) rfl (Nat.le_of_ble_eq_true rfl) ?_
  refine g_aload_n 1 (gd rfl) rfl rfl ?_
  refine g_getA (q2 := 4) 4 (gd rfl) rfl rfl rfl rfl ?_
  refine g_iload_n 5 (gd rfl) rfl rfl ?_
  refine g_iaload 6 (gd rfl) rfl (n := 160) rfl (in_ix h2 rfl) (fun z2x5 e2x5 => ?_)
  have i2x5 := inv_I hI (n := 160) (t := 0) (-1) 31 rfl (in_ix h2 rfl) rfl e2x5
  refine g_iconst (-1) 7 (gd rfl) rfl rfl ?_
  refine g_cmp_eq 10 29 (gd rfl) rfl rfl (fun c2x7 => ?_) (fun c2x7 => ?_)
  · skip
    have i2x7 := r_eq1 (-1) (-1) c2x7 i2x5 (in_c (-1) rfl) rfl
    refine g_iconst 0 30 (gd rfl) rfl rfl ?_
    refine g_ireturn (gd rfl) rfl (nb01 (in_w 0 1 (in_c 0 rfl) rfl)) (hp2 _ _ ?_)
    show GG _ _ _ _ _ _ _ _ [.int (Int32.ofInt 0)] _ _ _
    refine g_if_ne 8 10 (gd rfl) rfl rfl (fun c5 => ?_) (fun c5 => ?_)
    · skip
      exact zn_ne c5 (in_c 0 rfl) rfl
    · skip
      refine g_iconst 0 9 (gd rfl) rfl rfl ?_
      exact g_ireturn (gd rfl) rfl (nb01 (in_w 0 1 (in_c 0 rfl) rfl)) (hP _ _ ⟨s, hI, fr_rf, (Int32.ofInt 0), rfl, rfl, in_w 0 1 (in_c 0 rfl) rfl⟩)
  · skip
    have i2x7 := r_ne1 0 31 c2x7 i2x5 (in_c (-1) rfl) rfl
    refine g_aload_n 11 (gd rfl) rfl rfl ?_
    refine g_getA (q2 := 4) 14 (gd rfl) rfl rfl rfl rfl ?_
    refine g_iload_n 15 (gd rfl) rfl rfl ?_
    refine g_iaload 16 (gd rfl) rfl (n := 160) rfl (in_ix h2 rfl) (fun z2x15 e2x15 => ?_)
    have q2x15 : z2x5 = z2x15 := (e2x5).trans e2x15.symm
    subst q2x15
    refine g_aload_n 17 (gd rfl) rfl rfl ?_
    refine g_getA (q2 := 5) 20 (gd rfl) rfl rfl rfl rfl ?_
    refine g_iload_n 21 (gd rfl) rfl rfl ?_
    refine g_iaload 22 (gd rfl) rfl (n := 160) rfl (in_ix h2 rfl) (fun z2x21 e2x21 => ?_)
    have i2x21 := inv_I hI (n := 160) (t := 0) 0 31 rfl (in_ix h2 rfl) rfl e2x21
    refine g_cmp_eq 25 29 (gd rfl) rfl rfl (fun c2x22 => ?_) (fun c2x22 => ?_)
    · skip
      refine g_iconst 0 30 (gd rfl) rfl rfl ?_
      refine g_ireturn (gd rfl) rfl (nb01 (in_w 0 1 (in_c 0 rfl) rfl)) (hp2 _ _ ?_)
      show GG _ _ _ _ _ _ _ _ [.int (Int32.ofInt 0)] _ _ _
      refine g_if_ne 8 10 (gd rfl) rfl rfl (fun c5 => ?_) (fun c5 => ?_)
      · skip
        exact zn_ne c5 (in_c 0 rfl) rfl
      · skip
        refine g_iconst 0 9 (gd rfl) rfl rfl ?_
        exact g_ireturn (gd rfl) rfl (nb01 (in_w 0 1 (in_c 0 rfl) rfl)) (hP _ _ ⟨s, hI, fr_rf, (Int32.ofInt 0), rfl, rfl, in_w 0 1 (in_c 0 rfl) rfl⟩)
    · skip
      refine g_iconst 1 26 (gd rfl) rfl rfl ?_
      refine g_goto 30 (gd rfl) rfl ?_
      refine g_ireturn (gd rfl) rfl (nb01 (in_w 0 1 (in_c 1 rfl) rfl)) (hp2 _ _ ?_)
      show GG _ _ _ _ _ _ _ _ [.int (Int32.ofInt 1)] _ _ _
      refine g_if_ne 8 10 (gd rfl) rfl rfl (fun c5 => ?_) (fun c5 => ?_)
      · skip
        refine g_aload_n 11 (gd rfl) rfl rfl ?_
        refine g_getA (q2 := 84) 14 (gd rfl) rfl rfl rfl rfl ?_
        refine g_iconst 0 15 (gd rfl) rfl rfl ?_
        refine g_calls (As := [.ref (A 84), .int (Int32.ofInt 0)]) (r := []) 18 (gd rfl) rfl rfl rfl rfl rfl (Nat.le_of_ble_eq_true rfl) (Nat.zero_le _) (Nat.zero_le _) (k_fillI 84 (by first | exact dq1 hd rfl | exact dq0 hd rfl | exact dq2 hd rfl | exact dq3 hd rfl | omega) hI (in_c 0 rfl) (n := 32) rfl rfl rfl rfl) (fun v u h => ?_)
        obtain ⟨s15, hI15, hF15, rfl, rfl, fl15⟩ := h
        show GG _ _ _ _ _ _ _ _ [] _ _ _
        refine g_iconst 0 19 (gd rfl) rfl rfl ?_
        refine g_istore_n 20 (gd rfl) rfl (Nat.le_of_ble_eq_true rfl) ?_
        exact gg_w (by first | exact Nat.le_of_ble_eq_true rfl | omega) (gg_f (gf_cons rfl (gf_cons rfl (gf_cons rfl (gf_cons rfl gf_nil)))) (ct20 161 s15 (Int32.ofInt 0) hI15 (fr_tr rfl fr_rf hF15) (in_w 0 160 (in_c 0 rfl) rfl) (m_in 161 (in_w 0 160 (in_c 0 rfl) rfl) rfl)))
      · skip
        exact zn_eq c5 (in_c 1 rfl) rfl

def fm_186_76_32 : FM := ([84], [], [], [])
/-- GraphHouse$Trees.isSpanning -/
theorem k_186_76_32 {Z : AmZ} {A : Nat → Nat} {s : GS} {ex : va_W} {d : Nat} {X : AmX} {x2 : Int32} (hd : 5 ≤ d) (hI : Inv s) (h2 : In x2 0 159) : GC Z d 186 [.ref (A 76), .ref (A 32), .int x2] (WW Z A s ++ ex) 0 0 (fun v u => ∃ t : GS, Inv t ∧ Fr fm_186_76_32 s t ∧ ∃ z : Int32, v = some (.int z) ∧ u = WW Z A t ++ ex ∧ In z 0 1) X := by
  intro post xp hP hX
  obtain ⟨u_32_3, e_32_3⟩ : ∃ w, w = s.2.2.1 32 3 := ⟨_, rfl⟩
  have ro_32_3 := inv_F hI 0 160 rfl e_32_3
  have ct20 : ∀ (k20 : Nat) (sc20 : GS) (y20_3 : Int32), Inv sc20 → Fr fm_186_76_32 s sc20 → (In y20_3 0 160) → 160 - (y20_3).toInt < (k20 : Int) → GG Z (d - 1) 186 post (gx xp) (1 + k20 * 900) 20 (fun j => xlook j [(0, .ref (A 76)), (1, .ref (A 32)), (2, .int x2), (3, .int y20_3)]) [] (WW Z A sc20 ++ ex) 0 0 := by
    intro k20
    induction k20 with
    | zero => intro sc20 y20_3 hIc20 hFc20 j20_3 mm20; exact m_no mm20 j20_3 rfl
    | succ k20 ih20 =>
      intro sc20 y20_3 hIc20 hFc20 j20_3 mm20
      refine gg_w (M := 1 + k20 * 900 + 900) gws ?_
      refine g_iload_n 21 (gd rfl) rfl rfl ?_
      refine g_aload_n 22 (gd rfl) rfl rfl ?_
      refine g_getI 25 (gd rfl) rfl rfl rfl (fun z22 e22 => ?_)
      have q22 : u_32_3 = z22 := (fr_F e_32_3 hFc20 rfl).trans e22.symm
      subst q22
      refine g_cmp_ge 28 95 (gd rfl) rfl rfl (fun c25 => ?_) (fun c25 => ?_)
      · skip
        refine g_aload_n 96 (gd rfl) rfl rfl ?_
        refine g_getA (q2 := 84) 99 (gd rfl) rfl rfl rfl rfl ?_
        refine g_iconst 1 100 (gd rfl) rfl rfl ?_
        refine g_aload_n 101 (gd rfl) rfl rfl ?_
        refine g_getA (q2 := 34) 104 (gd rfl) rfl rfl rfl rfl ?_
        refine g_iload_n 105 (gd rfl) rfl rfl ?_
        refine g_iaload 106 (gd rfl) rfl (n := 160) rfl (in_ix h2 rfl) (fun z105 e105 => ?_)
        have i105 := inv_I hIc20 (n := 160) (t := 0) (-1) 31 rfl (in_ix h2 rfl) rfl e105
        refine g_ishl 107 (gd rfl) rfl (fun z106 e106 => ?_)
        refine g_iconst (-1) 108 (gd rfl) rfl rfl ?_
        refine g_calls (As := [.ref (A 84), .int z106, .int (Int32.ofInt (-1))]) (r := []) 111 (gd rfl) rfl rfl rfl rfl rfl (Nat.le_of_ble_eq_true rfl) (Nat.zero_le _) (Nat.zero_le _) (k_266_84 (by first | exact dq1 hd rfl | exact dq0 hd rfl | exact dq2 hd rfl | exact dq3 hd rfl | omega) hIc20 (in_w (-1) (-1) (in_c (-1) rfl) rfl)) (fun v u h => ?_)
        obtain ⟨z108, rfl, rfl, i108, p108⟩ := h
        show GG _ _ _ _ _ _ _ _ [.int z108] _ _ _
        refine g_aload_n 112 (gd rfl) rfl rfl ?_
        refine g_getA (q2 := 35) 115 (gd rfl) rfl rfl rfl rfl ?_
        refine g_iload_n 116 (gd rfl) rfl rfl ?_
        refine g_iaload 117 (gd rfl) rfl (n := 160) rfl (in_ix h2 rfl) (fun z116 e116 => ?_)
        have i116 := inv_I hIc20 (n := 160) (t := 0) 0 31 rfl (in_ix h2 rfl) rfl e116
        refine g_ishr 118 (gd rfl) rfl (fun z117 e117 => ?_)
        refine g_iconst 1 119 (gd rfl) rfl rfl ?_
        refine g_iand 120 (gd rfl) rfl (fun z119 e119 => ?_)
        have i119 := in_and2 e119 (in_c 1 rfl) rfl
        refine g_if_ne 123 127 (gd rfl) rfl rfl (fun c120 => ?_) (fun c120 => ?_)
        · skip
          have i120 := z_ne 1 1 c120 i119 rfl
          refine g_iconst 0 128 (gd rfl) rfl rfl ?_
          exact g_ireturn (gd rfl) rfl (nb01 (in_w 0 1 (in_c 0 rfl) rfl)) (hP _ _ ⟨sc20, hIc20, hFc20, (Int32.ofInt 0), rfl, rfl, in_w 0 1 (in_c 0 rfl) rfl⟩)
        · skip
          have i120 := z_eq 0 0 c120 i119 rfl
          refine g_iconst 1 124 (gd rfl) rfl rfl ?_
          refine g_goto 128 (gd rfl) rfl ?_
          exact g_ireturn (gd rfl) rfl (nb01 (in_w 0 1 (in_c 1 rfl) rfl)) (hP _ _ ⟨sc20, hIc20, hFc20, (Int32.ofInt 1), rfl, rfl, in_w 0 1 (in_c 1 rfl) rfl⟩)
      · skip
        have i25 := r_lt1 0 159 c25 j20_3 ro_32_3 rfl
        have i25a := r_lt2 1 160 c25 j20_3 ro_32_3 rfl
        refine g_aload_n 29 (gd rfl) rfl rfl ?_
        refine g_iload_n 30 (gd rfl) rfl rfl ?_
        refine g_callv (X := _) (As := [.int y20_3]) (r := []) (b := A 32) (q := 32) 33 (gd rfl) rfl rfl rfl rfl rfl (ww_o rfl) (Nat.le_of_ble_eq_true rfl) (mc := 0) (ms := 0) (Nat.zero_le _) (Nat.zero_le _) (P := fun v u => _) ?_ (fun e u h => h) (fun v u h => h)
        intro po30 xx30 hp30 hx30
        refine g_enter2 (k := 97) (N := 300) (by first | exact dq1 hd rfl | exact dq0 hd rfl | exact dq2 hd rfl | exact dq3 hd rfl | omega) rfl (Nat.le_of_ble_eq_true rfl) ?_
        refine g_aload_n 1 (gd rfl) rfl rfl ?_
        refine g_getA (q2 := 34) 4 (gd rfl) rfl rfl rfl rfl ?_
        refine g_iload_n 5 (gd rfl) rfl rfl ?_
        refine g_iaload 6 (gd rfl) rfl (n := 160) rfl (in_ix i25 rfl) (fun z30x5 e30x5 => ?_)
        have i30x5 := inv_I hIc20 (n := 160) (t := 0) (-1) 31 rfl (in_ix i25 rfl) rfl e30x5
        refine g_iconst (-1) 7 (gd rfl) rfl rfl ?_
        refine g_cmp_eq 10 29 (gd rfl) rfl rfl (fun c30x7 => ?_) (fun c30x7 => ?_)
        · skip
          have i30x7 := r_eq1 (-1) (-1) c30x7 i30x5 (in_c (-1) rfl) rfl
          refine g_iconst 0 30 (gd rfl) rfl rfl ?_
          refine g_ireturn (gd rfl) rfl (nb01 (in_w 0 1 (in_c 0 rfl) rfl)) (hp30 _ _ ?_)
          show GG _ _ _ _ _ _ _ _ [.int (Int32.ofInt 0)] _ _ _
          refine g_if_eq 36 89 (gd rfl) rfl rfl (fun c33 => ?_) (fun c33 => ?_)
          · skip
            refine g_iinc 92 (gd rfl) rfl rfl (Nat.le_of_ble_eq_true rfl) (fun z89 e89 => ?_)
            have i89 := in_add 1 160 e89 i25 (in_c 1 rfl) rfl rfl
            refine g_goto 20 (gd rfl) rfl ?_
            exact gg_w (by first | exact Nat.le_add_right _ _ | exact gw2 | exact gw3 | exact gwe rfl | exact gwf rfl | exact gwg rfl | exact gwh rfl | omega) (gg_f (gf_cons rfl (gf_cons rfl (gf_cons rfl (gf_cons rfl gf_nil)))) (ih20 sc20 z89 hIc20 hFc20 (in_w 0 160 i89 rfl) (m_up mm20 (t_add e89 i25 (in_c 1 rfl) rfl) (in_w 1 1 (in_c 1 rfl) rfl))))
          · skip
            exact zn_ne c33 (in_c 0 rfl) rfl
        · skip
          have i30x7 := r_ne1 0 31 c30x7 i30x5 (in_c (-1) rfl) rfl
          refine g_aload_n 11 (gd rfl) rfl rfl ?_
          refine g_getA (q2 := 34) 14 (gd rfl) rfl rfl rfl rfl ?_
          refine g_iload_n 15 (gd rfl) rfl rfl ?_
          refine g_iaload 16 (gd rfl) rfl (n := 160) rfl (in_ix i25 rfl) (fun z30x15 e30x15 => ?_)
          have q30x15 : z30x5 = z30x15 := (e30x5).trans e30x15.symm
          subst q30x15
          refine g_aload_n 17 (gd rfl) rfl rfl ?_
          refine g_getA (q2 := 35) 20 (gd rfl) rfl rfl rfl rfl ?_
          refine g_iload_n 21 (gd rfl) rfl rfl ?_
          refine g_iaload 22 (gd rfl) rfl (n := 160) rfl (in_ix i25 rfl) (fun z30x21 e30x21 => ?_)
          have i30x21 := inv_I hIc20 (n := 160) (t := 0) 0 31 rfl (in_ix i25 rfl) rfl e30x21
          refine g_cmp_eq 25 29 (gd rfl) rfl rfl (fun c30x22 => ?_) (fun c30x22 => ?_)
          · skip
            refine g_iconst 0 30 (gd rfl) rfl rfl ?_
            refine g_ireturn (gd rfl) rfl (nb01 (in_w 0 1 (in_c 0 rfl) rfl)) (hp30 _ _ ?_)
            show GG _ _ _ _ _ _ _ _ [.int (Int32.ofInt 0)] _ _ _
            refine g_if_eq 36 89 (gd rfl) rfl rfl (fun c33 => ?_) (fun c33 => ?_)
            · skip
              refine g_iinc 92 (gd rfl) rfl rfl (Nat.le_of_ble_eq_true rfl) (fun z89 e89 => ?_)
              have i89 := in_add 1 160 e89 i25 (in_c 1 rfl) rfl rfl
              refine g_goto 20 (gd rfl) rfl ?_
              exact gg_w (by first | exact Nat.le_add_right _ _ | exact gw2 | exact gw3 | exact gwe rfl | exact gwf rfl | exact gwg rfl | exact gwh rfl | omega) (gg_f (gf_cons rfl (gf_cons rfl (gf_cons rfl (gf_cons rfl gf_nil)))) (ih20 sc20 z89 hIc20 hFc20 (in_w 0 160 i89 rfl) (m_up mm20 (t_add e89 i25 (in_c 1 rfl) rfl) (in_w 1 1 (in_c 1 rfl) rfl))))
            · skip
              exact zn_ne c33 (in_c 0 rfl) rfl
          · skip
            refine g_iconst 1 26 (gd rfl) rfl rfl ?_
            refine g_goto 30 (gd rfl) rfl ?_
            refine g_ireturn (gd rfl) rfl (nb01 (in_w 0 1 (in_c 1 rfl) rfl)) (hp30 _ _ ?_)
            show GG _ _ _ _ _ _ _ _ [.int (Int32.ofInt 1)] _ _ _
            refine g_if_eq 36 89 (gd rfl) rfl rfl (fun c33 => ?_) (fun c33 => ?_)
            · skip
              exact zn_eq c33 (in_c 1 rfl) rfl
            · skip
              refine g_aload_n 37 (gd rfl) rfl rfl ?_
              refine g_iload_n 38 (gd rfl) rfl rfl ?_
              refine g_iload_n 39 (gd rfl) rfl rfl ?_
              refine g_calls (As := [.ref (A 32), .int y20_3, .int x2]) (r := []) 42 (gd rfl) rfl rfl rfl rfl rfl (Nat.le_of_ble_eq_true rfl) (mc := 0) (ms := 0) (Nat.zero_le _) (Nat.zero_le _) (P := fun v u => _) ?_ (fun v u h => h)
              intro po39 xx39 hp39 hx39
              refine g_enter2 (k := 187) (N := 300) (by first | exact dq1 hd rfl | exact dq0 hd rfl | exact dq2 hd rfl | exact dq3 hd rfl | omega) rfl (Nat.le_of_ble_eq_true rfl) ?_
              refine g_aload_n 1 (gd rfl) rfl rfl ?_
              refine g_getA (q2 := 36) 4 (gd rfl) rfl rfl rfl rfl ?_
              refine g_iload_n 5 (gd rfl) rfl rfl ?_
              refine g_iaload 6 (gd rfl) rfl (n := 160) rfl (in_ix i25 rfl) (fun z39x5 e39x5 => ?_)
              have i39x5 := inv_I hIc20 (n := 160) (t := 0) (-1000000) 1000000 rfl (in_ix i25 rfl) rfl e39x5
              refine g_aload_n 7 (gd rfl) rfl rfl ?_
              refine g_getA (q2 := 36) 10 (gd rfl) rfl rfl rfl rfl ?_
              refine g_iload_n 11 (gd rfl) rfl rfl ?_
              refine g_iaload 12 (gd rfl) rfl (n := 160) rfl (in_ix h2 rfl) (fun z39x11 e39x11 => ?_)
              have i39x11 := inv_I hIc20 (n := 160) (t := 0) (-1000000) 1000000 rfl (in_ix h2 rfl) rfl e39x11
              refine g_cmp_lt 15 35 (gd rfl) rfl rfl (fun c39x12 => ?_) (fun c39x12 => ?_)
              · skip
                have i39x12 := r_lt1 (-1000000) 999999 c39x12 i39x5 i39x11 rfl
                have i39x12a := r_lt2 (-999999) 1000000 c39x12 i39x5 i39x11 rfl
                refine g_iconst 1 36 (gd rfl) rfl rfl ?_
                refine g_goto 40 (gd rfl) rfl ?_
                refine g_ireturn (gd rfl) rfl (nb01 (in_w 0 1 (in_c 1 rfl) rfl)) (hp39 _ _ ?_)
                show GG _ _ _ _ _ _ _ _ [.int (Int32.ofInt 1)] _ _ _
                refine g_if_eq 45 89 (gd rfl) rfl rfl (fun c42 => ?_) (fun c42 => ?_)
                · skip
                  exact zn_eq c42 (in_c 1 rfl) rfl
                · skip
                  refine g_aload_n 46 (gd rfl) rfl rfl ?_
                  refine g_getA (q2 := 84) 49 (gd rfl) rfl rfl rfl rfl ?_
                  refine g_aload_n 50 (gd rfl) rfl rfl ?_
                  refine g_getA (q2 := 34) 53 (gd rfl) rfl rfl rfl rfl ?_
                  refine g_iload_n 54 (gd rfl) rfl rfl ?_
                  refine g_iaload 55 (gd rfl) rfl (n := 160) rfl (in_ix i25 rfl) (fun z54 e54 => ?_)
                  have q54 : z30x5 = z54 := (e30x5).trans e54.symm
                  subst q54
                  refine g_dup2 56 (gd rfl) rfl rfl rfl ?_
                  refine g_iaload 57 (gd rfl) rfl (n := 32) rfl (in_ix i30x7 rfl) (fun z56 e56 => ?_)
                  refine g_iconst 1 58 (gd rfl) rfl rfl ?_
                  refine g_aload_n 59 (gd rfl) rfl rfl ?_
                  refine g_getA (q2 := 35) 62 (gd rfl) rfl rfl rfl rfl ?_
                  refine g_iload_n 63 (gd rfl) rfl rfl ?_
                  refine g_iaload 64 (gd rfl) rfl (n := 160) rfl (in_ix i25 rfl) (fun z63 e63 => ?_)
                  have q63 : z30x21 = z63 := (e30x21).trans e63.symm
                  subst q63
                  refine g_ishl 65 (gd rfl) rfl (fun z64 e64 => ?_)
                  refine g_ior 66 (gd rfl) rfl (fun z65 e65 => ?_)
                  refine g_iastore 67 (gd rfl) rfl (n := 32) rfl (in_ix i30x7 rfl) ?_
                  have hI66 := inv_sI (q := 84) (j := z30x5.toNatClampNeg) hIc20 rfl (in_w (-2147483648) 2147483647 (i_rng z65) rfl)
                  refine g_aload_n 68 (gd rfl) rfl rfl ?_
                  refine g_getA (q2 := 84) 71 (gd rfl) rfl rfl rfl rfl ?_
                  refine g_aload_n 72 (gd rfl) rfl rfl ?_
                  refine g_getA (q2 := 35) 75 (gd rfl) rfl rfl rfl rfl ?_
                  refine g_iload_n 76 (gd rfl) rfl rfl ?_
                  refine g_iaload 77 (gd rfl) rfl (n := 160) rfl (in_ix i25 rfl) (fun z76 e76 => ?_)
                  have q76 : z30x21 = z76 := (sI_ne rfl (e30x21)).trans e76.symm
                  subst q76
                  refine g_dup2 78 (gd rfl) rfl rfl rfl ?_
                  refine g_iaload 79 (gd rfl) rfl (n := 32) rfl (in_ix i30x21 rfl) (fun z78 e78 => ?_)
                  refine g_iconst 1 80 (gd rfl) rfl rfl ?_
                  refine g_aload_n 81 (gd rfl) rfl rfl ?_
                  refine g_getA (q2 := 34) 84 (gd rfl) rfl rfl rfl rfl ?_
                  refine g_iload_n 85 (gd rfl) rfl rfl ?_
                  refine g_iaload 86 (gd rfl) rfl (n := 160) rfl (in_ix i25 rfl) (fun z85 e85 => ?_)
                  have q85 : z30x5 = z85 := (sI_ne rfl (e30x5)).trans e85.symm
                  subst q85
                  refine g_ishl 87 (gd rfl) rfl (fun z86 e86 => ?_)
                  refine g_ior 88 (gd rfl) rfl (fun z87 e87 => ?_)
                  refine g_iastore 89 (gd rfl) rfl (n := 32) rfl (in_ix i30x21 rfl) ?_
                  have hI88 := inv_sI (q := 84) (j := z30x21.toNatClampNeg) hI66 rfl (in_w (-2147483648) 2147483647 (i_rng z87) rfl)
                  refine g_iinc 92 (gd rfl) rfl rfl (Nat.le_of_ble_eq_true rfl) (fun z89 e89 => ?_)
                  have i89 := in_add 1 160 e89 i25 (in_c 1 rfl) rfl rfl
                  refine g_goto 20 (gd rfl) rfl ?_
                  exact gg_w (by first | exact Nat.le_add_right _ _ | exact gw2 | exact gw3 | exact gwe rfl | exact gwf rfl | exact gwg rfl | exact gwh rfl | omega) (gg_f (gf_cons rfl (gf_cons rfl (gf_cons rfl (gf_cons rfl gf_nil)))) (ih20 (sI (sI sc20 84 z30x5.toNatClampNeg z65) 84 z30x21.toNatClampNeg z87) z89 hI88 (fr_sI rfl (fr_sI rfl hFc20)) (in_w 0 160 i89 rfl) (m_up mm20 (t_add e89 i25 (in_c 1 rfl) rfl) (in_w 1 1 (in_c 1 rfl) rfl))))
              · skip
                refine g_aload_n 16 (gd rfl) rfl rfl ?_
                refine g_getA (q2 := 36) 19 (gd rfl) rfl rfl rfl rfl ?_
                refine g_iload_n 20 (gd rfl) rfl rfl ?_
                refine g_iaload 21 (gd rfl) rfl (n := 160) rfl (in_ix i25 rfl) (fun z39x20 e39x20 => ?_)
                have q39x20 : z39x5 = z39x20 := (e39x5).trans e39x20.symm
                subst q39x20
                refine g_aload_n 22 (gd rfl) rfl rfl ?_
                refine g_getA (q2 := 36) 25 (gd rfl) rfl rfl rfl rfl ?_
                refine g_iload_n 26 (gd rfl) rfl rfl ?_
                refine g_iaload 27 (gd rfl) rfl (n := 160) rfl (in_ix h2 rfl) (fun z39x26 e39x26 => ?_)
                have q39x26 : z39x11 = z39x26 := (e39x11).trans e39x26.symm
                subst q39x26
                refine g_cmp_ne 30 39 (gd rfl) rfl rfl (fun c39x27 => ?_) (fun c39x27 => ?_)
                · skip
                  refine g_iconst 0 40 (gd rfl) rfl rfl ?_
                  refine g_ireturn (gd rfl) rfl (nb01 (in_w 0 1 (in_c 0 rfl) rfl)) (hp39 _ _ ?_)
                  show GG _ _ _ _ _ _ _ _ [.int (Int32.ofInt 0)] _ _ _
                  refine g_if_eq 45 89 (gd rfl) rfl rfl (fun c42 => ?_) (fun c42 => ?_)
                  · skip
                    refine g_iinc 92 (gd rfl) rfl rfl (Nat.le_of_ble_eq_true rfl) (fun z89 e89 => ?_)
                    have i89 := in_add 1 160 e89 i25 (in_c 1 rfl) rfl rfl
                    refine g_goto 20 (gd rfl) rfl ?_
                    exact gg_w (by first | exact Nat.le_add_right _ _ | exact gw2 | exact gw3 | exact gwe rfl | exact gwf rfl | exact gwg rfl | exact gwh rfl | omega) (gg_f (gf_cons rfl (gf_cons rfl (gf_cons rfl (gf_cons rfl gf_nil)))) (ih20 sc20 z89 hIc20 hFc20 (in_w 0 160 i89 rfl) (m_up mm20 (t_add e89 i25 (in_c 1 rfl) rfl) (in_w 1 1 (in_c 1 rfl) rfl))))
                  · skip
                    exact zn_ne c42 (in_c 0 rfl) rfl
                · skip
                  refine g_iload_n 31 (gd rfl) rfl rfl ?_
                  refine g_iload_n 32 (gd rfl) rfl rfl ?_
                  refine g_cmp_ge 35 39 (gd rfl) rfl rfl (fun c39x32 => ?_) (fun c39x32 => ?_)
                  · skip
                    refine g_iconst 0 40 (gd rfl) rfl rfl ?_
                    refine g_ireturn (gd rfl) rfl (nb01 (in_w 0 1 (in_c 0 rfl) rfl)) (hp39 _ _ ?_)
                    show GG _ _ _ _ _ _ _ _ [.int (Int32.ofInt 0)] _ _ _
                    refine g_if_eq 45 89 (gd rfl) rfl rfl (fun c42 => ?_) (fun c42 => ?_)
                    · skip
                      refine g_iinc 92 (gd rfl) rfl rfl (Nat.le_of_ble_eq_true rfl) (fun z89 e89 => ?_)
                      have i89 := in_add 1 160 e89 i25 (in_c 1 rfl) rfl rfl
                      refine g_goto 20 (gd rfl) rfl ?_
                      exact gg_w (by first | exact Nat.le_add_right _ _ | exact gw2 | exact gw3 | exact gwe rfl | exact gwf rfl | exact gwg rfl | exact gwh rfl | omega) (gg_f (gf_cons rfl (gf_cons rfl (gf_cons rfl (gf_cons rfl gf_nil)))) (ih20 sc20 z89 hIc20 hFc20 (in_w 0 160 i89 rfl) (m_up mm20 (t_add e89 i25 (in_c 1 rfl) rfl) (in_w 1 1 (in_c 1 rfl) rfl))))
                    · skip
                      exact zn_ne c42 (in_c 0 rfl) rfl
                  · skip
                    have i39x32 := r_lt1 0 158 c39x32 i25 h2 rfl
                    have i39x32a := r_lt2 1 159 c39x32 i25 h2 rfl
                    refine g_iconst 1 36 (gd rfl) rfl rfl ?_
                    refine g_goto 40 (gd rfl) rfl ?_
                    refine g_ireturn (gd rfl) rfl (nb01 (in_w 0 1 (in_c 1 rfl) rfl)) (hp39 _ _ ?_)
                    show GG _ _ _ _ _ _ _ _ [.int (Int32.ofInt 1)] _ _ _
                    refine g_if_eq 45 89 (gd rfl) rfl rfl (fun c42 => ?_) (fun c42 => ?_)
                    · skip
                      exact zn_eq c42 (in_c 1 rfl) rfl
                    · skip
                      refine g_aload_n 46 (gd rfl) rfl rfl ?_
                      refine g_getA (q2 := 84) 49 (gd rfl) rfl rfl rfl rfl ?_
                      refine g_aload_n 50 (gd rfl) rfl rfl ?_
                      refine g_getA (q2 := 34) 53 (gd rfl) rfl rfl rfl rfl ?_
                      refine g_iload_n 54 (gd rfl) rfl rfl ?_
                      refine g_iaload 55 (gd rfl) rfl (n := 160) rfl (in_ix i39x32 rfl) (fun z54 e54 => ?_)
                      have q54 : z30x5 = z54 := (e30x5).trans e54.symm
                      subst q54
                      refine g_dup2 56 (gd rfl) rfl rfl rfl ?_
                      refine g_iaload 57 (gd rfl) rfl (n := 32) rfl (in_ix i30x7 rfl) (fun z56 e56 => ?_)
                      refine g_iconst 1 58 (gd rfl) rfl rfl ?_
                      refine g_aload_n 59 (gd rfl) rfl rfl ?_
                      refine g_getA (q2 := 35) 62 (gd rfl) rfl rfl rfl rfl ?_
                      refine g_iload_n 63 (gd rfl) rfl rfl ?_
                      refine g_iaload 64 (gd rfl) rfl (n := 160) rfl (in_ix i39x32 rfl) (fun z63 e63 => ?_)
                      have q63 : z30x21 = z63 := (e30x21).trans e63.symm
                      subst q63
                      refine g_ishl 65 (gd rfl) rfl (fun z64 e64 => ?_)
                      refine g_ior 66 (gd rfl) rfl (fun z65 e65 => ?_)
                      refine g_iastore 67 (gd rfl) rfl (n := 32) rfl (in_ix i30x7 rfl) ?_
                      have hI66 := inv_sI (q := 84) (j := z30x5.toNatClampNeg) hIc20 rfl (in_w (-2147483648) 2147483647 (i_rng z65) rfl)
                      refine g_aload_n 68 (gd rfl) rfl rfl ?_
                      refine g_getA (q2 := 84) 71 (gd rfl) rfl rfl rfl rfl ?_
                      refine g_aload_n 72 (gd rfl) rfl rfl ?_
                      refine g_getA (q2 := 35) 75 (gd rfl) rfl rfl rfl rfl ?_
                      refine g_iload_n 76 (gd rfl) rfl rfl ?_
                      refine g_iaload 77 (gd rfl) rfl (n := 160) rfl (in_ix i39x32 rfl) (fun z76 e76 => ?_)
                      have q76 : z30x21 = z76 := (sI_ne rfl (e30x21)).trans e76.symm
                      subst q76
                      refine g_dup2 78 (gd rfl) rfl rfl rfl ?_
                      refine g_iaload 79 (gd rfl) rfl (n := 32) rfl (in_ix i30x21 rfl) (fun z78 e78 => ?_)
                      refine g_iconst 1 80 (gd rfl) rfl rfl ?_
                      refine g_aload_n 81 (gd rfl) rfl rfl ?_
                      refine g_getA (q2 := 34) 84 (gd rfl) rfl rfl rfl rfl ?_
                      refine g_iload_n 85 (gd rfl) rfl rfl ?_
                      refine g_iaload 86 (gd rfl) rfl (n := 160) rfl (in_ix i39x32 rfl) (fun z85 e85 => ?_)
                      have q85 : z30x5 = z85 := (sI_ne rfl (e30x5)).trans e85.symm
                      subst q85
                      refine g_ishl 87 (gd rfl) rfl (fun z86 e86 => ?_)
                      refine g_ior 88 (gd rfl) rfl (fun z87 e87 => ?_)
                      refine g_iastore 89 (gd rfl) rfl (n := 32) rfl (in_ix i30x21 rfl) ?_
                      have hI88 := inv_sI (q := 84) (j := z30x21.toNatClampNeg) hI66 rfl (in_w (-2147483648) 2147483647 (i_rng z87) rfl)
                      refine g_iinc 92 (gd rfl) rfl rfl (Nat.le_of_ble_eq_true rfl) (fun z89 e89 => ?_)
                      have i89 := in_add 1 159 e89 i39x32 (in_c 1 rfl) rfl rfl
                      refine g_goto 20 (gd rfl) rfl ?_
                      exact gg_w (by first | exact Nat.le_add_right _ _ | exact gw2 | exact gw3 | exact gwe rfl | exact gwf rfl | exact gwg rfl | exact gwh rfl | omega) (gg_f (gf_cons rfl (gf_cons rfl (gf_cons rfl (gf_cons rfl gf_nil)))) (ih20 (sI (sI sc20 84 z30x5.toNatClampNeg z65) 84 z30x21.toNatClampNeg z87) z89 hI88 (fr_sI rfl (fr_sI rfl hFc20)) (in_w 0 160 i89 rfl) (m_up mm20 (t_add e89 i39x32 (in_c 1 rfl) rfl) (in_w 1 1 (in_c 1 rfl) rfl))))
  refine g_enter2 (k := 186) (N := 145801) (by first | exact dq1 hd rfl | exact dq0 hd rfl | exact dq2 hd rfl | exact dq3 hd rfl | omega) rfl (Nat.le_of_ble_eq_true rfl) ?_
  refine g_aload_n 1 (gd rfl) rfl rfl ?_
  refine g_iload_n 2 (gd rfl) rfl rfl ?_
  refine g_callv (X := _) (As := [.int x2]) (r := []) (b := A 32) (q := 32) 5 (gd rfl) rfl rfl rfl rfl rfl (ww_o rfl) (Nat.le_of_ble_eq_true rfl) (mc := 0) (ms := 0) (Nat.zero_le _) (Nat.zero_le _) (P := fun v u => _) ?_ (fun e u h => h) (fun v u h => h)
  intro po2 xx2 hp2 hx2
  refine g_enter2 (k := 97) (N := 300) (by first | exact dq1 hd rfl | exact dq0 hd rfl | exact dq2 hd rfl | exact dq3 hd rfl | omega) rfl (Nat.le_of_ble_eq_true rfl) ?_
  refine g_aload_n 1 (gd rfl) rfl rfl ?_
  refine g_getA (q2 := 34) 4 (gd rfl) rfl rfl rfl rfl ?_
  refine g_iload_n 5 (gd rfl) rfl rfl ?_
  refine g_iaload 6 (gd rfl) rfl (n := 160) rfl (in_ix h2 rfl) (fun z2x5 e2x5 => ?_)
  have i2x5 := inv_I hI (n := 160) (t := 0) (-1) 31 rfl (in_ix h2 rfl) rfl e2x5
  refine g_iconst (-1) 7 (gd rfl) rfl rfl ?_
  refine g_cmp_eq 10 29 (gd rfl) rfl rfl (fun c2x7 => ?_) (fun c2x7 => ?_)
  · skip
    have i2x7 := r_eq1 (-1) (-1) c2x7 i2x5 (in_c (-1) rfl) rfl
    refine g_iconst 0 30 (gd rfl) rfl rfl ?_
    refine g_ireturn (gd rfl) rfl (nb01 (in_w 0 1 (in_c 0 rfl) rfl)) (hp2 _ _ ?_)
    show GG _ _ _ _ _ _ _ _ [.int (Int32.ofInt 0)] _ _ _
    refine g_if_ne 8 10 (gd rfl) rfl rfl (fun c5 => ?_) (fun c5 => ?_)
    · skip
      exact zn_ne c5 (in_c 0 rfl) rfl
    · skip
      refine g_iconst 0 9 (gd rfl) rfl rfl ?_
      exact g_ireturn (gd rfl) rfl (nb01 (in_w 0 1 (in_c 0 rfl) rfl)) (hP _ _ ⟨s, hI, fr_rf, (Int32.ofInt 0), rfl, rfl, in_w 0 1 (in_c 0 rfl) rfl⟩)
  · skip
    have i2x7 := r_ne1 0 31 c2x7 i2x5 (in_c (-1) rfl) rfl
    refine g_aload_n 11 (gd rfl) rfl rfl ?_
    refine g_getA (q2 := 34) 14 (gd rfl) rfl rfl rfl rfl ?_
    refine g_iload_n 15 (gd rfl) rfl rfl ?_
    refine g_iaload 16 (gd rfl) rfl (n := 160) rfl (in_ix h2 rfl) (fun z2x15 e2x15 => ?_)
    have q2x15 : z2x5 = z2x15 := (e2x5).trans e2x15.symm
    subst q2x15
    refine g_aload_n 17 (gd rfl) rfl rfl ?_
    refine g_getA (q2 := 35) 20 (gd rfl) rfl rfl rfl rfl ?_
    refine g_iload_n 21 (gd rfl) rfl rfl ?_
    refine g_iaload 22 (gd rfl) rfl (n := 160) rfl (in_ix h2 rfl) (fun z2x21 e2x21 => ?_)
    have i2x21 := inv_I hI (n := 160) (t := 0) 0 31 rfl (in_ix h2 rfl) rfl e2x21
    refine g_cmp_eq 25 29 (gd rfl) rfl rfl (fun c2x22 => ?_) (fun c2x22 => ?_)
    · skip
      refine g_iconst 0 30 (gd rfl) rfl rfl ?_
      refine g_ireturn (gd rfl) rfl (nb01 (in_w 0 1 (in_c 0 rfl) rfl)) (hp2 _ _ ?_)
      show GG _ _ _ _ _ _ _ _ [.int (Int32.ofInt 0)] _ _ _
      refine g_if_ne 8 10 (gd rfl) rfl rfl (fun c5 => ?_) (fun c5 => ?_)
      · skip
        exact zn_ne c5 (in_c 0 rfl) rfl
      · skip
        refine g_iconst 0 9 (gd rfl) rfl rfl ?_
        exact g_ireturn (gd rfl) rfl (nb01 (in_w 0 1 (in_c 0 rfl) rfl)) (hP _ _ ⟨s, hI, fr_rf, (Int32.ofInt 0), rfl, rfl, in_w 0 1 (in_c 0 rfl) rfl⟩)
    · skip
      refine g_iconst 1 26 (gd rfl) rfl rfl ?_
      refine g_goto 30 (gd rfl) rfl ?_
      refine g_ireturn (gd rfl) rfl (nb01 (in_w 0 1 (in_c 1 rfl) rfl)) (hp2 _ _ ?_)
      show GG _ _ _ _ _ _ _ _ [.int (Int32.ofInt 1)] _ _ _
      refine g_if_ne 8 10 (gd rfl) rfl rfl (fun c5 => ?_) (fun c5 => ?_)
      · skip
        refine g_aload_n 11 (gd rfl) rfl rfl ?_
        refine g_getA (q2 := 84) 14 (gd rfl) rfl rfl rfl rfl ?_
        refine g_iconst 0 15 (gd rfl) rfl rfl ?_
        refine g_calls (As := [.ref (A 84), .int (Int32.ofInt 0)]) (r := []) 18 (gd rfl) rfl rfl rfl rfl rfl (Nat.le_of_ble_eq_true rfl) (Nat.zero_le _) (Nat.zero_le _) (k_fillI 84 (by first | exact dq1 hd rfl | exact dq0 hd rfl | exact dq2 hd rfl | exact dq3 hd rfl | omega) hI (in_c 0 rfl) (n := 32) rfl rfl rfl rfl) (fun v u h => ?_)
        obtain ⟨s15, hI15, hF15, rfl, rfl, fl15⟩ := h
        show GG _ _ _ _ _ _ _ _ [] _ _ _
        refine g_iconst 0 19 (gd rfl) rfl rfl ?_
        refine g_istore_n 20 (gd rfl) rfl (Nat.le_of_ble_eq_true rfl) ?_
        exact gg_w (by first | exact Nat.le_of_ble_eq_true rfl | omega) (gg_f (gf_cons rfl (gf_cons rfl (gf_cons rfl (gf_cons rfl gf_nil)))) (ct20 161 s15 (Int32.ofInt 0) hI15 (fr_tr rfl fr_rf hF15) (in_w 0 160 (in_c 0 rfl) rfl) (m_in 161 (in_w 0 160 (in_c 0 rfl) rfl) rfl)))
      · skip
        exact zn_eq c5 (in_c 1 rfl) rfl

def fm_190_76 : FM := ([], [85], [], [])
/-- GraphHouse$Trees.pivot -/
theorem k_190_76 {Z : AmZ} {A : Nat → Nat} {s : GS} {ex : va_W} {d : Nat} {X : AmX} {x1 : Int32} {x2 : Int32} (hd : 2 ≤ d) (hI : Inv s) (h1 : In x1 0 30) (h2 : In x2 1 31) : GC Z d 190 [.ref (A 76), .int x1, .int x2] (WW Z A s ++ ex) 0 0 (fun v u => ∃ t : GS, Inv t ∧ Fr fm_190_76 s t ∧ ∃ z : Int64, v = some (.long z) ∧ u = WW Z A t ++ ex) X := by
  intro post xp hP hX
  have ct75 : ∀ (k75 : Nat) (sc75 : GS) (y75_3 : Int32) (y75_4 : Int64) (y75_6 : Int64) (y75_8 : Int32), Inv sc75 → Fr fm_190_76 s sc75 → (In y75_3 0 30) → (In y75_8 1 31) → 31 - (y75_8).toInt < (k75 : Int) → GG Z (d - 1) 190 post (gx xp) (1 + k75 * 31501) 75 (fun j => xlook j [(0, .ref (A 76)), (1, .int x1), (2, .int x2), (3, .int y75_3), (4, .long y75_4), (6, .long y75_6), (8, .int y75_8)]) [] (WW Z A sc75 ++ ex) 0 0 := by
    intro k75
    induction k75 with
    | zero => intro sc75 y75_3 y75_4 y75_6 y75_8 hIc75 hFc75 j75_3 j75_8 mm75; exact m_no mm75 j75_8 rfl
    | succ k75 ih75 =>
      intro sc75 y75_3 y75_4 y75_6 y75_8 hIc75 hFc75 j75_3 j75_8 mm75
      refine gg_w (M := 1 + k75 * 31501 + 31501) gws ?_
      have ct109 : ∀ (k109 : Nat) (sc109 : GS) (y109_9 : Int64) (y109_11 : Int32), Inv sc109 → Fr fm_190_76 s sc109 → (In x2 2 31) → (In y75_8 1 30) → (In y109_11 0 31) → 31 - (y109_11).toInt < (k109 : Int) → GG Z (d - 1) 190 post (gx xp) (1 + k75 * 31501 + 1 + k109 * 900) 109 (fun j => xlook j [(0, .ref (A 76)), (1, .int x1), (2, .int x2), (3, .int y75_3), (4, .long y75_4), (6, .long y75_6), (8, .int y75_8), (9, .long y109_9), (11, .int y109_11)]) [] (WW Z A sc109 ++ ex) 0 0 := by
        intro k109
        induction k109 with
        | zero => intro sc109 y109_9 y109_11 hIc109 hFc109 j109_2 j109_8 j109_11 mm109; exact m_no mm109 j109_11 rfl
        | succ k109 ih109 =>
          intro sc109 y109_9 y109_11 hIc109 hFc109 j109_2 j109_8 j109_11 mm109
          refine gg_w (M := 1 + k75 * 31501 + 1 + k109 * 900 + 900) gws ?_
          refine g_iload 111 (gd rfl) rfl rfl ?_
          refine g_iload_n 112 (gd rfl) rfl rfl ?_
          refine g_cmp_ge 115 174 (gd rfl) rfl rfl (fun c112 => ?_) (fun c112 => ?_)
          · skip
            have i112 := r_le2 2 31 c112 j109_2 j109_11 rfl
            refine g_iinc 177 (gd rfl) rfl rfl (Nat.le_of_ble_eq_true rfl) (fun z174 e174 => ?_)
            have i174 := in_add 2 31 e174 j109_8 (in_c 1 rfl) rfl rfl
            refine g_goto 75 (gd rfl) rfl ?_
            exact gg_w (by first | exact Nat.le_add_right _ _ | exact gw2 | exact gw3 | exact gwe rfl | exact gwf rfl | exact gwg rfl | exact gwh rfl | omega) (gg_f (gf_cons rfl (gf_cons rfl (gf_cons rfl (gf_cons rfl (gf_cons rfl (gf_cons rfl (gf_cons rfl gf_nil))))))) (ih75 sc109 y75_3 y75_4 y75_6 z174 hIc109 hFc109 (in_w 0 30 j75_3 rfl) (in_w 1 31 i174 rfl) (m_up mm75 (t_add e174 j109_8 (in_c 1 rfl) rfl) (in_w 1 1 (in_c 1 rfl) rfl))))
          · skip
            have i112 := r_lt1 0 30 c112 j109_11 j109_2 rfl
            refine g_lload 117 (gd rfl) rfl rfl ?_
            refine g_lconst 0 118 (gd rfl) rfl rfl ?_
            refine g_lcmp 119 (gd rfl) rfl (fun z118 e118 => ?_)
            have i118 := lc_in e118
            refine g_if_eq 122 174 (gd rfl) rfl rfl (fun c119 => ?_) (fun c119 => ?_)
            · skip
              have i119 := z_eq 0 0 c119 i118 rfl
              have c119a := lc_eq e118 c119
              have i119a := lr_eq1 0 0 c119a (l_rng y109_9) (l_c 0 rfl) rfl
              refine g_iinc 177 (gd rfl) rfl rfl (Nat.le_of_ble_eq_true rfl) (fun z174 e174 => ?_)
              have i174 := in_add 2 31 e174 j109_8 (in_c 1 rfl) rfl rfl
              refine g_goto 75 (gd rfl) rfl ?_
              exact gg_w (by first | exact Nat.le_add_right _ _ | exact gw2 | exact gw3 | exact gwe rfl | exact gwf rfl | exact gwg rfl | exact gwh rfl | omega) (gg_f (gf_cons rfl (gf_cons rfl (gf_cons rfl (gf_cons rfl (gf_cons rfl (gf_cons rfl (gf_cons rfl gf_nil))))))) (ih75 sc109 y75_3 y75_4 y75_6 z174 hIc109 hFc109 (in_w 0 30 j75_3 rfl) (in_w 1 31 i174 rfl) (m_up mm75 (t_add e174 j109_8 (in_c 1 rfl) rfl) (in_w 1 1 (in_c 1 rfl) rfl))))
            · skip
              have c119a := lc_ne e118 c119
              refine g_aload_n 123 (gd rfl) rfl rfl ?_
              refine g_getA (q2 := 85) 126 (gd rfl) rfl rfl rfl rfl ?_
              refine g_iload 128 (gd rfl) rfl rfl ?_
              refine g_bipush 32 130 (gd rfl) rfl rfl ?_
              refine g_imul 131 (gd rfl) rfl (fun z130 e130 => ?_)
              have i130 := in_mulc 32 32 960 (Or.inr e130) j109_8 rfl rfl
              refine g_iload 133 (gd rfl) rfl rfl ?_
              refine g_iadd 134 (gd rfl) rfl (fun z133 e133 => ?_)
              have i133 := in_add 32 990 e133 i130 i112 rfl rfl
              refine g_aload_n 135 (gd rfl) rfl rfl ?_
              refine g_getA (q2 := 85) 138 (gd rfl) rfl rfl rfl rfl ?_
              refine g_iload 140 (gd rfl) rfl rfl ?_
              refine g_bipush 32 142 (gd rfl) rfl rfl ?_
              refine g_imul 143 (gd rfl) rfl (fun z142 e142 => ?_)
              have i142 := in_mulc 32 32 960 (Or.inr e142) j109_8 rfl rfl
              refine g_iload 145 (gd rfl) rfl rfl ?_
              refine g_iadd 146 (gd rfl) rfl (fun z145 e145 => ?_)
              have i145 := in_add 32 990 e145 i142 i112 rfl rfl
              refine g_laload 147 (gd rfl) rfl (n := 1024) rfl (in_ix i145 rfl) (fun z146 e146 => ?_)
              refine g_lload 149 (gd rfl) rfl rfl ?_
              refine g_aload_n 150 (gd rfl) rfl rfl ?_
              refine g_getA (q2 := 85) 153 (gd rfl) rfl rfl rfl rfl ?_
              refine g_iload_n 154 (gd rfl) rfl rfl ?_
              refine g_bipush 32 156 (gd rfl) rfl rfl ?_
              refine g_imul 157 (gd rfl) rfl (fun z156 e156 => ?_)
              have i156 := in_mulc 32 0 960 (Or.inr e156) h1 rfl rfl
              refine g_iload 159 (gd rfl) rfl rfl ?_
              refine g_iadd 160 (gd rfl) rfl (fun z159 e159 => ?_)
              have i159 := in_add 0 990 e159 i156 i112 rfl rfl
              refine g_laload 161 (gd rfl) rfl (n := 1024) rfl (in_ix i159 rfl) (fun z160 e160 => ?_)
              refine g_lmul 162 (gd rfl) rfl (fun z161 e161 => ?_)
              refine g_ladd 163 (gd rfl) rfl (fun z162 e162 => ?_)
              refine g_ldc2_w 1000000007 166 (gd rfl) rfl rfl ?_
              refine g_lrem 167 (gd rfl) rfl (by decide) (fun z166 e166 => ?_)
              have i166 := l_rem (-1000000006) 1000000006 e166 rfl
              refine g_lastore 168 (gd rfl) rfl (n := 1024) rfl (in_ix i133 rfl) ?_
              have hI167 := inv_sL (q := 85) (j := z133.toNatClampNeg) (x := z166) hIc109 rfl (l_rng z166)
              refine g_iinc 171 (gd rfl) rfl rfl (Nat.le_of_ble_eq_true rfl) (fun z168 e168 => ?_)
              have i168 := in_add 1 31 e168 i112 (in_c 1 rfl) rfl rfl
              refine g_goto 109 (gd rfl) rfl ?_
              exact gg_w (by first | exact Nat.le_add_right _ _ | exact gw2 | exact gw3 | exact gwe rfl | exact gwf rfl | exact gwg rfl | exact gwh rfl | omega) (gg_f (gf_cons rfl (gf_cons rfl (gf_cons rfl (gf_cons rfl (gf_cons rfl (gf_cons rfl (gf_cons rfl (gf_cons rfl (gf_cons rfl gf_nil))))))))) (ih109 (sL sc109 85 z133.toNatClampNeg z166) y109_9 z168 hI167 (fr_sL rfl hFc109) (in_w 2 31 j109_2 rfl) (in_w 1 30 j109_8 rfl) (in_w 0 31 i168 rfl) (m_up mm109 (t_add e168 i112 (in_c 1 rfl) rfl) (in_w 1 1 (in_c 1 rfl) rfl))))
      refine g_iload 77 (gd rfl) rfl rfl ?_
      refine g_iload_n 78 (gd rfl) rfl rfl ?_
      refine g_cmp_ge 81 180 (gd rfl) rfl rfl (fun c78 => ?_) (fun c78 => ?_)
      · skip
        refine g_iload_n 181 (gd rfl) rfl rfl ?_
        refine g_iload_n 182 (gd rfl) rfl rfl ?_
        refine g_cmp_ne 185 190 (gd rfl) rfl rfl (fun c182 => ?_) (fun c182 => ?_)
        · skip
          refine g_ldc2_w 1000000007 193 (gd rfl) rfl rfl ?_
          refine g_lload 195 (gd rfl) rfl rfl ?_
          refine g_lsub 196 (gd rfl) rfl (fun z195 e195 => ?_)
          exact g_lreturn (gd rfl) rfl (hP _ _ ⟨sc75, hIc75, hFc75, z195, rfl, rfl⟩)
        · skip
          refine g_lload 187 (gd rfl) rfl rfl ?_
          refine g_goto 196 (gd rfl) rfl ?_
          exact g_lreturn (gd rfl) rfl (hP _ _ ⟨sc75, hIc75, hFc75, y75_4, rfl, rfl⟩)
      · skip
        have i78 := r_lt1 1 30 c78 j75_8 h2 rfl
        have i78a := r_lt2 2 31 c78 j75_8 h2 rfl
        refine g_ldc2_w 1000000007 84 (gd rfl) rfl rfl ?_
        refine g_aload_n 85 (gd rfl) rfl rfl ?_
        refine g_getA (q2 := 85) 88 (gd rfl) rfl rfl rfl rfl ?_
        refine g_iload 90 (gd rfl) rfl rfl ?_
        refine g_bipush 32 92 (gd rfl) rfl rfl ?_
        refine g_imul 93 (gd rfl) rfl (fun z92 e92 => ?_)
        have i92 := in_mulc 32 32 960 (Or.inr e92) i78 rfl rfl
        refine g_iload_n 94 (gd rfl) rfl rfl ?_
        refine g_iadd 95 (gd rfl) rfl (fun z94 e94 => ?_)
        have i94 := in_add 32 990 e94 i92 h1 rfl rfl
        refine g_laload 96 (gd rfl) rfl (n := 1024) rfl (in_ix i94 rfl) (fun z95 e95 => ?_)
        refine g_lsub 97 (gd rfl) rfl (fun z96 e96 => ?_)
        refine g_lload 99 (gd rfl) rfl rfl ?_
        refine g_lmul 100 (gd rfl) rfl (fun z99 e99 => ?_)
        refine g_ldc2_w 1000000007 103 (gd rfl) rfl rfl ?_
        refine g_lrem 104 (gd rfl) rfl (by decide) (fun z103 e103 => ?_)
        have i103 := l_rem (-1000000006) 1000000006 e103 rfl
        refine g_lstore 106 (gd rfl) rfl (Nat.le_of_ble_eq_true rfl) ?_
        refine g_iload_n 107 (gd rfl) rfl rfl ?_
        refine g_istore 109 (gd rfl) rfl (Nat.le_of_ble_eq_true rfl) ?_
        exact gg_w (by first | exact Nat.le_add_right _ _ | exact gw2 | exact gw3 | exact gwe rfl | exact gwf rfl | exact gwg rfl | exact gwh rfl | omega) (gg_f (gf_cons rfl (gf_cons rfl (gf_cons rfl (gf_cons rfl (gf_cons rfl (gf_cons rfl (gf_cons rfl (gf_cons rfl (gf_cons rfl gf_nil))))))))) (ct109 32 sc75 z103 x1 hIc75 hFc75 (in_w 2 31 i78a rfl) (in_w 1 30 i78 rfl) (in_w 0 31 h1 rfl) (m_in 32 (in_w 0 31 h1 rfl) rfl)))
  have ct2 : ∀ (k2 : Nat) (sc2 : GS) (y2_3 : Int32), Inv sc2 → Fr fm_190_76 s sc2 → (In y2_3 0 31) → 31 - (y2_3).toInt < (k2 : Int) → GG Z (d - 1) 190 post (gx xp) (976533 + k2 * 900) 2 (fun j => xlook j [(0, .ref (A 76)), (1, .int x1), (2, .int x2), (3, .int y2_3)]) [] (WW Z A sc2 ++ ex) 0 0 := by
    intro k2
    induction k2 with
    | zero => intro sc2 y2_3 hIc2 hFc2 j2_3 mm2; exact m_no mm2 j2_3 rfl
    | succ k2 ih2 =>
      intro sc2 y2_3 hIc2 hFc2 j2_3 mm2
      refine gg_w (M := 976533 + k2 * 900 + 900) gws ?_
      refine g_iload_n 3 (gd rfl) rfl rfl ?_
      refine g_iload_n 4 (gd rfl) rfl rfl ?_
      refine g_cmp_ge 7 29 (gd rfl) rfl rfl (fun c4 => ?_) (fun c4 => ?_)
      · skip
        have i4 := r_le2 1 31 c4 h2 j2_3 rfl
        refine g_iload_n 30 (gd rfl) rfl rfl ?_
        refine g_iload_n 31 (gd rfl) rfl rfl ?_
        refine g_cmp_lt 34 36 (gd rfl) rfl rfl (fun c31 => ?_) (fun c31 => ?_)
        · skip
          have i31 := r_lt1 1 30 c31 i4 h2 rfl
          have i31a := r_lt2 2 31 c31 i4 h2 rfl
          refine g_iload_n 37 (gd rfl) rfl rfl ?_
          refine g_iload_n 38 (gd rfl) rfl rfl ?_
          refine g_cmp_eq 41 47 (gd rfl) rfl rfl (fun c38 => ?_) (fun c38 => ?_)
          · skip
            have i38 := r_eq2 1 30 c38 i31 h1 rfl
            refine g_aload_n 48 (gd rfl) rfl rfl ?_
            refine g_getA (q2 := 85) 51 (gd rfl) rfl rfl rfl rfl ?_
            refine g_iload_n 52 (gd rfl) rfl rfl ?_
            refine g_bipush 32 54 (gd rfl) rfl rfl ?_
            refine g_imul 55 (gd rfl) rfl (fun z54 e54 => ?_)
            have i54 := in_mulc 32 32 960 (Or.inr e54) i38 rfl rfl
            refine g_iload_n 56 (gd rfl) rfl rfl ?_
            refine g_iadd 57 (gd rfl) rfl (fun z56 e56 => ?_)
            have i56 := in_add 33 990 e56 i54 i38 rfl rfl
            refine g_laload 58 (gd rfl) rfl (n := 1024) rfl (in_ix i56 rfl) (fun z57 e57 => ?_)
            refine g_lstore 60 (gd rfl) rfl (Nat.le_of_ble_eq_true rfl) ?_
            refine g_lload 62 (gd rfl) rfl rfl ?_
            refine g_ldc2_w 1000000005 65 (gd rfl) rfl rfl ?_
            refine g_calls (As := [.long z57, .long (Int64.ofInt 1000000005)]) (r := []) 68 (gd rfl) rfl rfl rfl rfl rfl (Nat.le_of_ble_eq_true rfl) (Nat.zero_le _) (Nat.zero_le _) (k_192 (by first | exact dq1 hd rfl | exact dq0 hd rfl | exact dq2 hd rfl | exact dq3 hd rfl | omega) hIc2 ) (fun v u h => ?_)
            obtain ⟨z65, rfl, rfl⟩ := h
            show GG _ _ _ _ _ _ _ _ [.long z65] _ _ _
            refine g_lstore 70 (gd rfl) rfl (Nat.le_of_ble_eq_true rfl) ?_
            refine g_iload_n 71 (gd rfl) rfl rfl ?_
            refine g_iconst 1 72 (gd rfl) rfl rfl ?_
            refine g_iadd 73 (gd rfl) rfl (fun z72 e72 => ?_)
            have i72 := in_add 2 31 e72 i38 (in_c 1 rfl) rfl rfl
            refine g_istore 75 (gd rfl) rfl (Nat.le_of_ble_eq_true rfl) ?_
            exact gg_w (by first | exact Nat.le_add_right _ _ | exact gw2 | exact gw3 | exact gwe rfl | exact gwf rfl | exact gwg rfl | exact gwh rfl | omega) (gg_f (gf_cons rfl (gf_cons rfl (gf_cons rfl (gf_cons rfl (gf_cons rfl (gf_cons rfl (gf_cons rfl gf_nil))))))) (ct75 31 sc2 y2_3 z57 z65 z72 hIc2 hFc2 (in_w 0 30 i31 rfl) (in_w 1 31 i72 rfl) (m_in 31 (in_w 1 31 i72 rfl) rfl)))
          · skip
            refine g_aload_n 42 (gd rfl) rfl rfl ?_
            refine g_iload_n 43 (gd rfl) rfl rfl ?_
            refine g_iload_n 44 (gd rfl) rfl rfl ?_
            refine g_callv (X := _) (As := [.int y2_3, .int x1]) (r := []) (b := A 76) (q := 76) 47 (gd rfl) rfl rfl rfl rfl rfl (ww_o rfl) (Nat.le_of_ble_eq_true rfl) (Nat.zero_le _) (Nat.zero_le _) (k_191_76 (by first | exact dq1 hd rfl | exact dq0 hd rfl | exact dq2 hd rfl | exact dq3 hd rfl | omega) hIc2 (in_w 0 30 i31 rfl) (in_w 0 30 h1 rfl)) (fun e u h => h) (fun v u h => ?_)
            obtain ⟨s44, hI44, hF44, rfl, rfl⟩ := h
            show GG _ _ _ _ _ _ _ _ [] _ _ _
            refine g_aload_n 48 (gd rfl) rfl rfl ?_
            refine g_getA (q2 := 85) 51 (gd rfl) rfl rfl rfl rfl ?_
            refine g_iload_n 52 (gd rfl) rfl rfl ?_
            refine g_bipush 32 54 (gd rfl) rfl rfl ?_
            refine g_imul 55 (gd rfl) rfl (fun z54 e54 => ?_)
            have i54 := in_mulc 32 0 960 (Or.inr e54) h1 rfl rfl
            refine g_iload_n 56 (gd rfl) rfl rfl ?_
            refine g_iadd 57 (gd rfl) rfl (fun z56 e56 => ?_)
            have i56 := in_add 0 990 e56 i54 h1 rfl rfl
            refine g_laload 58 (gd rfl) rfl (n := 1024) rfl (in_ix i56 rfl) (fun z57 e57 => ?_)
            refine g_lstore 60 (gd rfl) rfl (Nat.le_of_ble_eq_true rfl) ?_
            refine g_lload 62 (gd rfl) rfl rfl ?_
            refine g_ldc2_w 1000000005 65 (gd rfl) rfl rfl ?_
            refine g_calls (As := [.long z57, .long (Int64.ofInt 1000000005)]) (r := []) 68 (gd rfl) rfl rfl rfl rfl rfl (Nat.le_of_ble_eq_true rfl) (Nat.zero_le _) (Nat.zero_le _) (k_192 (by first | exact dq1 hd rfl | exact dq0 hd rfl | exact dq2 hd rfl | exact dq3 hd rfl | omega) hI44 ) (fun v u h => ?_)
            obtain ⟨z65, rfl, rfl⟩ := h
            show GG _ _ _ _ _ _ _ _ [.long z65] _ _ _
            refine g_lstore 70 (gd rfl) rfl (Nat.le_of_ble_eq_true rfl) ?_
            refine g_iload_n 71 (gd rfl) rfl rfl ?_
            refine g_iconst 1 72 (gd rfl) rfl rfl ?_
            refine g_iadd 73 (gd rfl) rfl (fun z72 e72 => ?_)
            have i72 := in_add 1 31 e72 h1 (in_c 1 rfl) rfl rfl
            refine g_istore 75 (gd rfl) rfl (Nat.le_of_ble_eq_true rfl) ?_
            exact gg_w (by first | exact Nat.le_add_right _ _ | exact gw2 | exact gw3 | exact gwe rfl | exact gwf rfl | exact gwg rfl | exact gwh rfl | omega) (gg_f (gf_cons rfl (gf_cons rfl (gf_cons rfl (gf_cons rfl (gf_cons rfl (gf_cons rfl (gf_cons rfl gf_nil))))))) (ct75 31 s44 y2_3 z57 z65 z72 hI44 (fr_tr rfl hFc2 hF44) (in_w 0 30 i31 rfl) (in_w 1 31 i72 rfl) (m_in 31 (in_w 1 31 i72 rfl) rfl)))
        · skip
          refine g_lconst 0 35 (gd rfl) rfl rfl ?_
          exact g_lreturn (gd rfl) rfl (hP _ _ ⟨sc2, hIc2, hFc2, (Int64.ofInt 0), rfl, rfl⟩)
      · skip
        have i4 := r_lt1 0 30 c4 j2_3 h2 rfl
        refine g_aload_n 8 (gd rfl) rfl rfl ?_
        refine g_getA (q2 := 85) 11 (gd rfl) rfl rfl rfl rfl ?_
        refine g_iload_n 12 (gd rfl) rfl rfl ?_
        refine g_bipush 32 14 (gd rfl) rfl rfl ?_
        refine g_imul 15 (gd rfl) rfl (fun z14 e14 => ?_)
        have i14 := in_mulc 32 0 960 (Or.inr e14) i4 rfl rfl
        refine g_iload_n 16 (gd rfl) rfl rfl ?_
        refine g_iadd 17 (gd rfl) rfl (fun z16 e16 => ?_)
        have i16 := in_add 0 990 e16 i14 h1 rfl rfl
        refine g_laload 18 (gd rfl) rfl (n := 1024) rfl (in_ix i16 rfl) (fun z17 e17 => ?_)
        refine g_lconst 0 19 (gd rfl) rfl rfl ?_
        refine g_lcmp 20 (gd rfl) rfl (fun z19 e19 => ?_)
        have i19 := lc_in e19
        refine g_if_ne 23 29 (gd rfl) rfl rfl (fun c20 => ?_) (fun c20 => ?_)
        · skip
          have c20a := lc_ne e19 c20
          refine g_iload_n 30 (gd rfl) rfl rfl ?_
          refine g_iload_n 31 (gd rfl) rfl rfl ?_
          refine g_cmp_lt 34 36 (gd rfl) rfl rfl (fun c31 => ?_) (fun c31 => ?_)
          · skip
            refine g_iload_n 37 (gd rfl) rfl rfl ?_
            refine g_iload_n 38 (gd rfl) rfl rfl ?_
            refine g_cmp_eq 41 47 (gd rfl) rfl rfl (fun c38 => ?_) (fun c38 => ?_)
            · skip
              refine g_aload_n 48 (gd rfl) rfl rfl ?_
              refine g_getA (q2 := 85) 51 (gd rfl) rfl rfl rfl rfl ?_
              refine g_iload_n 52 (gd rfl) rfl rfl ?_
              refine g_bipush 32 54 (gd rfl) rfl rfl ?_
              refine g_imul 55 (gd rfl) rfl (fun z54 e54 => ?_)
              have i54 := in_mulc 32 0 960 (Or.inr e54) h1 rfl rfl
              refine g_iload_n 56 (gd rfl) rfl rfl ?_
              refine g_iadd 57 (gd rfl) rfl (fun z56 e56 => ?_)
              have i56 := in_add 0 990 e56 i54 h1 rfl rfl
              refine g_laload 58 (gd rfl) rfl (n := 1024) rfl (in_ix i56 rfl) (fun z57 e57 => ?_)
              refine g_lstore 60 (gd rfl) rfl (Nat.le_of_ble_eq_true rfl) ?_
              refine g_lload 62 (gd rfl) rfl rfl ?_
              refine g_ldc2_w 1000000005 65 (gd rfl) rfl rfl ?_
              refine g_calls (As := [.long z57, .long (Int64.ofInt 1000000005)]) (r := []) 68 (gd rfl) rfl rfl rfl rfl rfl (Nat.le_of_ble_eq_true rfl) (Nat.zero_le _) (Nat.zero_le _) (k_192 (by first | exact dq1 hd rfl | exact dq0 hd rfl | exact dq2 hd rfl | exact dq3 hd rfl | omega) hIc2 ) (fun v u h => ?_)
              obtain ⟨z65, rfl, rfl⟩ := h
              show GG _ _ _ _ _ _ _ _ [.long z65] _ _ _
              refine g_lstore 70 (gd rfl) rfl (Nat.le_of_ble_eq_true rfl) ?_
              refine g_iload_n 71 (gd rfl) rfl rfl ?_
              refine g_iconst 1 72 (gd rfl) rfl rfl ?_
              refine g_iadd 73 (gd rfl) rfl (fun z72 e72 => ?_)
              have i72 := in_add 1 31 e72 h1 (in_c 1 rfl) rfl rfl
              refine g_istore 75 (gd rfl) rfl (Nat.le_of_ble_eq_true rfl) ?_
              exact gg_w (by first | exact Nat.le_add_right _ _ | exact gw2 | exact gw3 | exact gwe rfl | exact gwf rfl | exact gwg rfl | exact gwh rfl | omega) (gg_f (gf_cons rfl (gf_cons rfl (gf_cons rfl (gf_cons rfl (gf_cons rfl (gf_cons rfl (gf_cons rfl gf_nil))))))) (ct75 31 sc2 y2_3 z57 z65 z72 hIc2 hFc2 (in_w 0 30 i4 rfl) (in_w 1 31 i72 rfl) (m_in 31 (in_w 1 31 i72 rfl) rfl)))
            · skip
              refine g_aload_n 42 (gd rfl) rfl rfl ?_
              refine g_iload_n 43 (gd rfl) rfl rfl ?_
              refine g_iload_n 44 (gd rfl) rfl rfl ?_
              refine g_callv (X := _) (As := [.int y2_3, .int x1]) (r := []) (b := A 76) (q := 76) 47 (gd rfl) rfl rfl rfl rfl rfl (ww_o rfl) (Nat.le_of_ble_eq_true rfl) (Nat.zero_le _) (Nat.zero_le _) (k_191_76 (by first | exact dq1 hd rfl | exact dq0 hd rfl | exact dq2 hd rfl | exact dq3 hd rfl | omega) hIc2 (in_w 0 30 i4 rfl) (in_w 0 30 h1 rfl)) (fun e u h => h) (fun v u h => ?_)
              obtain ⟨s44, hI44, hF44, rfl, rfl⟩ := h
              show GG _ _ _ _ _ _ _ _ [] _ _ _
              refine g_aload_n 48 (gd rfl) rfl rfl ?_
              refine g_getA (q2 := 85) 51 (gd rfl) rfl rfl rfl rfl ?_
              refine g_iload_n 52 (gd rfl) rfl rfl ?_
              refine g_bipush 32 54 (gd rfl) rfl rfl ?_
              refine g_imul 55 (gd rfl) rfl (fun z54 e54 => ?_)
              have i54 := in_mulc 32 0 960 (Or.inr e54) h1 rfl rfl
              refine g_iload_n 56 (gd rfl) rfl rfl ?_
              refine g_iadd 57 (gd rfl) rfl (fun z56 e56 => ?_)
              have i56 := in_add 0 990 e56 i54 h1 rfl rfl
              refine g_laload 58 (gd rfl) rfl (n := 1024) rfl (in_ix i56 rfl) (fun z57 e57 => ?_)
              refine g_lstore 60 (gd rfl) rfl (Nat.le_of_ble_eq_true rfl) ?_
              refine g_lload 62 (gd rfl) rfl rfl ?_
              refine g_ldc2_w 1000000005 65 (gd rfl) rfl rfl ?_
              refine g_calls (As := [.long z57, .long (Int64.ofInt 1000000005)]) (r := []) 68 (gd rfl) rfl rfl rfl rfl rfl (Nat.le_of_ble_eq_true rfl) (Nat.zero_le _) (Nat.zero_le _) (k_192 (by first | exact dq1 hd rfl | exact dq0 hd rfl | exact dq2 hd rfl | exact dq3 hd rfl | omega) hI44 ) (fun v u h => ?_)
              obtain ⟨z65, rfl, rfl⟩ := h
              show GG _ _ _ _ _ _ _ _ [.long z65] _ _ _
              refine g_lstore 70 (gd rfl) rfl (Nat.le_of_ble_eq_true rfl) ?_
              refine g_iload_n 71 (gd rfl) rfl rfl ?_
              refine g_iconst 1 72 (gd rfl) rfl rfl ?_
              refine g_iadd 73 (gd rfl) rfl (fun z72 e72 => ?_)
              have i72 := in_add 1 31 e72 h1 (in_c 1 rfl) rfl rfl
              refine g_istore 75 (gd rfl) rfl (Nat.le_of_ble_eq_true rfl) ?_
              exact gg_w (by first | exact Nat.le_add_right _ _ | exact gw2 | exact gw3 | exact gwe rfl | exact gwf rfl | exact gwg rfl | exact gwh rfl | omega) (gg_f (gf_cons rfl (gf_cons rfl (gf_cons rfl (gf_cons rfl (gf_cons rfl (gf_cons rfl (gf_cons rfl gf_nil))))))) (ct75 31 s44 y2_3 z57 z65 z72 hI44 (fr_tr rfl hFc2 hF44) (in_w 0 30 i4 rfl) (in_w 1 31 i72 rfl) (m_in 31 (in_w 1 31 i72 rfl) rfl)))
          · skip
            have i31 := r_le1 1 30 c31 h2 i4 rfl
            have i31a := r_le2 1 30 c31 h2 i4 rfl
            refine g_lconst 0 35 (gd rfl) rfl rfl ?_
            exact g_lreturn (gd rfl) rfl (hP _ _ ⟨sc2, hIc2, hFc2, (Int64.ofInt 0), rfl, rfl⟩)
        · skip
          have i20 := z_eq 0 0 c20 i19 rfl
          have c20a := lc_eq e19 c20
          have i20a := lr_eq1 0 0 c20a (l_rng z17) (l_c 0 rfl) rfl
          refine g_iinc 26 (gd rfl) rfl rfl (Nat.le_of_ble_eq_true rfl) (fun z23 e23 => ?_)
          have i23 := in_add 1 31 e23 i4 (in_c 1 rfl) rfl rfl
          refine g_goto 2 (gd rfl) rfl ?_
          exact gg_w (by first | exact Nat.le_add_right _ _ | exact gw2 | exact gw3 | exact gwe rfl | exact gwf rfl | exact gwg rfl | exact gwh rfl | omega) (gg_f (gf_cons rfl (gf_cons rfl (gf_cons rfl (gf_cons rfl gf_nil)))) (ih2 sc2 z23 hIc2 hFc2 (in_w 0 31 i23 rfl) (m_up mm2 (t_add e23 i4 (in_c 1 rfl) rfl) (in_w 1 1 (in_c 1 rfl) rfl))))
  refine g_enter2 (k := 190) (N := 1006233) (by first | exact dq1 hd rfl | exact dq0 hd rfl | exact dq2 hd rfl | exact dq3 hd rfl | omega) rfl (Nat.le_of_ble_eq_true rfl) ?_
  refine g_iload_n 1 (gd rfl) rfl rfl ?_
  refine g_istore_n 2 (gd rfl) rfl (Nat.le_of_ble_eq_true rfl) ?_
  exact gg_w (by first | exact Nat.le_of_ble_eq_true rfl | omega) (gg_f (gf_cons rfl (gf_cons rfl (gf_cons rfl (gf_cons rfl gf_nil)))) (ct2 32 s x1 hI fr_rf (in_w 0 31 h1 rfl) (m_in 32 (in_w 0 31 h1 rfl) rfl)))
end
section
/-! methods, by vc.py -/
def fm_198_49_2 : FM := ([9, 10, 11, 12, 13, 14, 15], [50], [(2, 4), (49, 0), (49, 1), (49, 2)], [])
/-- GraphHouse$Ways.measure -/
theorem k_198_49_2 {Z : AmZ} {A : Nat → Nat} {s : GS} {ex : va_W} {d : Nat} {X : AmX} {x2 : Int32} (hd : 5 ≤ d) (hI : Inv s) (h2 : In x2 0 31) : GC Z d 198 [.ref (A 49), .ref (A 2), .int x2] (WW Z A s ++ ex) 0 0 (fun v u => ∃ t : GS, Inv t ∧ Fr fm_198_49_2 s t ∧ v = none ∧ u = WW Z A t ++ ex) X := by
  intro post xp hP hX
  obtain ⟨u_2_0, e_2_0⟩ : ∃ w, w = s.2.2.1 2 0 := ⟨_, rfl⟩
  have ro_2_0 := inv_F hI 0 4000 rfl e_2_0
  obtain ⟨u_2_1, e_2_1⟩ : ∃ w, w = s.2.2.1 2 1 := ⟨_, rfl⟩
  have ro_2_1 := inv_F hI 0 32 rfl e_2_1
  have ct61 : ∀ (k61 : Nat) (sc61 : GS) (y61_3 : Int32) (y61_4 : Int32) (w61_2_4 : Int32) (w61_2_0 : Int32), Inv sc61 → Fr fm_198_49_2 s sc61 → (In y61_4 0 32) → (w61_2_4 = sc61.2.2.1 2 4) → (w61_2_0 = sc61.2.2.1 2 0) → ((w61_2_4).toInt = (w61_2_0).toInt) → 32 - (y61_4).toInt < (k61 : Int) → GG Z (d - 1) 198 post (gx xp) (1 + k61 * 900) 61 (fun j => xlook j [(0, .ref (A 49)), (1, .ref (A 2)), (2, .int x2), (3, .int y61_3), (4, .int y61_4)]) [] (WW Z A sc61 ++ ex) 0 0 := by
    intro k61
    induction k61 with
    | zero => intro sc61 y61_3 y61_4 w61_2_4 w61_2_0 hIc61 hFc61 j61_4 v61_2_4 v61_2_0 n61_0 mm61; exact m_no mm61 j61_4 rfl
    | succ k61 ih61 =>
      intro sc61 y61_3 y61_4 w61_2_4 w61_2_0 hIc61 hFc61 j61_4 v61_2_4 v61_2_0 n61_0 mm61
      refine gg_w (M := 1 + k61 * 900 + 900) gws ?_
      refine g_iload 63 (gd rfl) rfl rfl ?_
      refine g_aload_n 64 (gd rfl) rfl rfl ?_
      refine g_getI 67 (gd rfl) rfl rfl rfl (fun z64 e64 => ?_)
      have q64 : u_2_1 = z64 := (fr_F e_2_1 hFc61 rfl).trans e64.symm
      subst q64
      refine g_cmp_ge 70 87 (gd rfl) rfl rfl (fun c67 => ?_) (fun c67 => ?_)
      · skip
        refine g_aload_n 88 (gd rfl) rfl rfl ?_
        refine g_iload_n 89 (gd rfl) rfl rfl ?_
        refine g_if_ne 92 96 (gd rfl) rfl rfl (fun c89 => ?_) (fun c89 => ?_)
        · skip
          refine g_aload_n 97 (gd rfl) rfl rfl ?_
          refine g_getA (q2 := 11) 100 (gd rfl) rfl rfl rfl rfl ?_
          refine g_aload_n 101 (gd rfl) rfl rfl ?_
          refine g_aload_n 102 (gd rfl) rfl rfl ?_
          refine g_iload_n 103 (gd rfl) rfl rfl ?_
          have n103 : (w61_2_4).toInt = (w61_2_0).toInt := by first | exact n61_0 | (have a0 := oa5 h2 ro_2_1 ((inv_F hIc61 0 4000 rfl v61_2_0)) ((inv_F hIc61 (-1) 4000 rfl v61_2_4)) j61_4; omega)
          refine g_callv (X := _) (As := [.ref (A 2), .int y61_3]) (r := [.ref (A 11), .ref (A 49)]) (b := A 49) (q := 49) 106 (gd rfl) rfl rfl rfl rfl rfl (ww_o rfl) (Nat.le_of_ble_eq_true rfl) (Nat.zero_le _) (Nat.zero_le _) (k_199_49_2 (by first | exact dq1 hd rfl | exact dq0 hd rfl | exact dq2 hd rfl | exact dq3 hd rfl | omega) hIc61 v61_2_4 v61_2_0 n103) (fun e u h => h) (fun v u h => ?_)
          obtain ⟨s103, hI103, hF103, z103, rfl, rfl, i103⟩ := h
          show GG _ _ _ _ _ _ _ _ [.int z103, .ref (A 11), .ref (A 49)] _ _ _
          refine g_iconst (-1) 107 (gd rfl) rfl rfl ?_
          refine g_calls (As := [.ref (A 11), .int z103, .int (Int32.ofInt (-1))]) (r := [.ref (A 49)]) 110 (gd rfl) rfl rfl rfl rfl rfl (Nat.le_of_ble_eq_true rfl) (Nat.zero_le _) (Nat.zero_le _) (k_266_11 (by first | exact dq1 hd rfl | exact dq0 hd rfl | exact dq2 hd rfl | exact dq3 hd rfl | omega) hI103 (in_w (-1) (-1) (in_c (-1) rfl) rfl)) (fun v u h => ?_)
          obtain ⟨z107, rfl, rfl, i107, p107⟩ := h
          show GG _ _ _ _ _ _ _ _ [.int z107, .ref (A 49)] _ _ _
          refine g_putI 113 (gd rfl) rfl rfl rfl rfl ?_
          have hI110 := inv_sF (q := 49) (j := 2) hI103 rfl (in_w (-2147483648) 2147483647 i107 rfl)
          exact g_return (gd rfl) rfl (hP _ _ ⟨(sF s103 49 2 z107), hI110, (fr_sF rfl (fr_tr rfl hFc61 hF103)), rfl, rfl⟩)
        · skip
          have i89 := z_eq 0 0 c89 (i_rng y61_3) rfl
          refine g_iconst 0 93 (gd rfl) rfl rfl ?_
          refine g_goto 110 (gd rfl) rfl ?_
          refine g_putI 113 (gd rfl) rfl rfl rfl rfl ?_
          have hI110 := inv_sF (q := 49) (j := 2) hIc61 rfl (in_w (-2147483648) 2147483647 (in_c 0 rfl) rfl)
          exact g_return (gd rfl) rfl (hP _ _ ⟨(sF sc61 49 2 (Int32.ofInt 0)), hI110, (fr_sF rfl hFc61), rfl, rfl⟩)
      · skip
        have i67 := r_lt1 0 31 c67 j61_4 ro_2_1 rfl
        have i67a := r_lt2 1 32 c67 j61_4 ro_2_1 rfl
        refine g_iload_n 71 (gd rfl) rfl rfl ?_
        refine g_if_eq 74 87 (gd rfl) rfl rfl (fun c71 => ?_) (fun c71 => ?_)
        · skip
          have i71 := z_eq 0 0 c71 (i_rng y61_3) rfl
          refine g_aload_n 88 (gd rfl) rfl rfl ?_
          refine g_iload_n 89 (gd rfl) rfl rfl ?_
          refine g_if_ne 92 96 (gd rfl) rfl rfl (fun c89 => ?_) (fun c89 => ?_)
          · skip
            exact zn_ne c89 i71 rfl
          · skip
            refine g_iconst 0 93 (gd rfl) rfl rfl ?_
            refine g_goto 110 (gd rfl) rfl ?_
            refine g_putI 113 (gd rfl) rfl rfl rfl rfl ?_
            have hI110 := inv_sF (q := 49) (j := 2) hIc61 rfl (in_w (-2147483648) 2147483647 (in_c 0 rfl) rfl)
            exact g_return (gd rfl) rfl (hP _ _ ⟨(sF sc61 49 2 (Int32.ofInt 0)), hI110, (fr_sF rfl hFc61), rfl, rfl⟩)
        · skip
          refine g_aload_n 75 (gd rfl) rfl rfl ?_
          refine g_aload_n 76 (gd rfl) rfl rfl ?_
          refine g_iload_n 77 (gd rfl) rfl rfl ?_
          have n77 : (w61_2_4).toInt = (w61_2_0).toInt := by first | exact n61_0 | (have a0 := oa5 h2 i67a ((inv_F hIc61 0 4000 rfl v61_2_0)) ((inv_F hIc61 (-1) 4000 rfl v61_2_4)) i67; omega)
          refine g_callv (X := _) (As := [.ref (A 2), .int y61_3]) (r := []) (b := A 49) (q := 49) 80 (gd rfl) rfl rfl rfl rfl rfl (ww_o rfl) (Nat.le_of_ble_eq_true rfl) (Nat.zero_le _) (Nat.zero_le _) (k_199_49_2 (by first | exact dq1 hd rfl | exact dq0 hd rfl | exact dq2 hd rfl | exact dq3 hd rfl | omega) hIc61 v61_2_4 v61_2_0 n77) (fun e u h => h) (fun v u h => ?_)
          obtain ⟨s77, hI77, hF77, z77, rfl, rfl, i77⟩ := h
          show GG _ _ _ _ _ _ _ _ [.int z77] _ _ _
          refine g_istore_n 81 (gd rfl) rfl (Nat.le_of_ble_eq_true rfl) ?_
          refine g_iinc 84 (gd rfl) rfl rfl (Nat.le_of_ble_eq_true rfl) (fun z81 e81 => ?_)
          have i81 := in_add 1 32 e81 i67 (in_c 1 rfl) rfl rfl
          refine g_goto 61 (gd rfl) rfl ?_
          have v61 : w61_2_4 = s77.2.2.1 2 4 := fr_F (v61_2_4) hF77 rfl
          have v61a : w61_2_0 = s77.2.2.1 2 0 := fr_F (v61_2_0) hF77 rfl
          have n61 : (w61_2_4).toInt = (w61_2_0).toInt := by first | exact n61_0 | (have a0 := oa6 h2 i67a ((inv_F hIc61 0 4000 rfl v61_2_0)) ((inv_F hIc61 (-1) 4000 rfl v61_2_4)) i67 i81; have a6 := t_add e81 i67 (in_c 1 rfl) rfl; have a7 := in_u ((in_c 1 rfl)); omega)
          exact gg_w (by first | exact Nat.le_add_right _ _ | exact gw2 | exact gw3 | exact gwe rfl | exact gwf rfl | exact gwg rfl | exact gwh rfl | omega) (gg_f (gf_cons rfl (gf_cons rfl (gf_cons rfl (gf_cons rfl (gf_cons rfl gf_nil))))) (ih61 s77 z77 z81 w61_2_4 w61_2_0 hI77 (fr_tr rfl hFc61 hF77) (in_w 0 32 i81 rfl) v61 v61a n61 (m_up mm61 (t_add e81 i67 (in_c 1 rfl) rfl) (in_w 1 1 (in_c 1 rfl) rfl))))
  refine g_enter2 (k := 198) (N := 30601) (by first | exact dq1 hd rfl | exact dq0 hd rfl | exact dq2 hd rfl | exact dq3 hd rfl | omega) rfl (Nat.le_of_ble_eq_true rfl) ?_
  refine g_aload_n 1 (gd rfl) rfl rfl ?_
  refine g_callv (X := _) (As := []) (r := []) (b := A 2) (q := 2) 4 (gd rfl) rfl rfl rfl rfl rfl (ww_o rfl) (Nat.le_of_ble_eq_true rfl) (Nat.zero_le _) (Nat.zero_le _) (k_106_2 (by first | exact dq1 hd rfl | exact dq0 hd rfl | exact dq2 hd rfl | exact dq3 hd rfl | omega) hI ) (fun e u h => h) (fun v u h => ?_)
  obtain ⟨s1, hI1, hF1, n1, rfl, rfl⟩ := h
  obtain ⟨z1a, e1⟩ : ∃ w, w = s1.2.2.1 2 4 := ⟨_, rfl⟩
  have i1a := inv_F hI1 (-1) 4000 rfl e1
  rw [← (show z1a = s1.2.2.1 2 4 from e1)] at n1
  rw [← (show u_2_0 = s1.2.2.1 2 0 from fr_F (e_2_0) hF1 rfl)] at n1
  show GG _ _ _ _ _ _ _ _ [] _ _ _
  refine g_aload_n 5 (gd rfl) rfl rfl ?_
  refine g_getI 8 (gd rfl) rfl rfl rfl (fun z5 e5 => ?_)
  have i5 := inv_F hI1 (-1) 4000 rfl e5
  refine g_aload_n 9 (gd rfl) rfl rfl ?_
  refine g_getI 12 (gd rfl) rfl rfl rfl (fun z9 e9 => ?_)
  have q9 : u_2_0 = z9 := (fr_F (e_2_0) hF1 rfl).trans e9.symm
  subst q9
  refine g_cmp_ne 15 24 (gd rfl) rfl rfl (fun c12 => ?_) (fun c12 => ?_)
  · skip
    refine g_aload_n 25 (gd rfl) rfl rfl ?_
    refine g_aload_n 26 (gd rfl) rfl rfl ?_
    refine g_getI 29 (gd rfl) rfl rfl rfl (fun z26 e26 => ?_)
    have q26 : u_2_0 = z26 := (fr_F (e_2_0) hF1 rfl).trans e26.symm
    subst q26
    refine g_putI 32 (gd rfl) rfl rfl rfl rfl ?_
    have hI29 := inv_sF (q := 49) (j := 0) hI1 rfl (in_w (-1) 4000 ro_2_0 rfl)
    refine g_aload_n 33 (gd rfl) rfl rfl ?_
    refine g_iload_n 34 (gd rfl) rfl rfl ?_
    refine g_putI 37 (gd rfl) rfl rfl rfl rfl ?_
    have hI34 := inv_sF (q := 49) (j := 1) hI29 rfl (in_w 0 31 h2 rfl)
    refine g_aload_n 38 (gd rfl) rfl rfl ?_
    refine g_getA (q2 := 50) 41 (gd rfl) rfl rfl rfl rfl ?_
    refine g_ldc2_w 9223372036854775807 44 (gd rfl) rfl rfl ?_
    refine g_calls (As := [.ref (A 50), .long (Int64.ofInt 9223372036854775807)]) (r := []) 47 (gd rfl) rfl rfl rfl rfl rfl (Nat.le_of_ble_eq_true rfl) (Nat.zero_le _) (Nat.zero_le _) (k_fillL 50 (by first | exact dq1 hd rfl | exact dq0 hd rfl | exact dq2 hd rfl | exact dq3 hd rfl | omega) hI34 (n := 32) rfl rfl rfl (l_rng (Int64.ofInt 9223372036854775807))) (fun v u h => ?_)
    obtain ⟨s44, hI44, hF44, rfl, rfl, fl44⟩ := h
    show GG _ _ _ _ _ _ _ _ [] _ _ _
    refine g_aload_n 48 (gd rfl) rfl rfl ?_
    refine g_getA (q2 := 50) 51 (gd rfl) rfl rfl rfl rfl ?_
    refine g_iload_n 52 (gd rfl) rfl rfl ?_
    refine g_lconst 0 53 (gd rfl) rfl rfl ?_
    refine g_lastore 54 (gd rfl) rfl (n := 32) rfl (in_ix h2 rfl) ?_
    have hI53 := inv_sL (q := 50) (j := x2.toNatClampNeg) (x := (Int64.ofInt 0)) hI44 rfl (l_rng (Int64.ofInt 0))
    refine g_iconst 1 55 (gd rfl) rfl rfl ?_
    refine g_iload_n 56 (gd rfl) rfl rfl ?_
    refine g_ishl 57 (gd rfl) rfl (fun z56 e56 => ?_)
    refine g_istore_n 58 (gd rfl) rfl (Nat.le_of_ble_eq_true rfl) ?_
    refine g_iconst 0 59 (gd rfl) rfl rfl ?_
    refine g_istore 61 (gd rfl) rfl (Nat.le_of_ble_eq_true rfl) ?_
    have v61 : z1a = (sL s44 50 x2.toNatClampNeg (Int64.ofInt 0)).2.2.1 2 4 := sL_F (fr_F (s := (sF (sF s1 49 0 u_2_0) 49 1 x2)) (sF_ne rfl (sF_ne rfl (e1))) hF44 rfl)
    have v61a : u_2_0 = (sL s44 50 x2.toNatClampNeg (Int64.ofInt 0)).2.2.1 2 0 := sL_F (fr_F (s := (sF (sF s1 49 0 u_2_0) 49 1 x2)) (sF_ne rfl (sF_ne rfl (fr_F (e_2_0) hF1 rfl))) hF44 rfl)
    have n61 : (z1a).toInt = (u_2_0).toInt := by have a0 := oa5 ro_2_1 ro_2_0 h2 ((in_c 0 rfl)) i1a; omega
    exact gg_w (by first | exact Nat.le_of_ble_eq_true rfl | omega) (gg_f (gf_cons rfl (gf_cons rfl (gf_cons rfl (gf_cons rfl (gf_cons rfl gf_nil))))) (ct61 33 (sL s44 50 x2.toNatClampNeg (Int64.ofInt 0)) z56 (Int32.ofInt 0) z1a u_2_0 hI53 (fr_sL rfl (fr_tr rfl (fr_sF rfl (fr_sF rfl (fr_tr rfl fr_rf hF1))) hF44)) (in_w 0 32 (in_c 0 rfl) rfl) v61 v61a n61 (m_in 33 (in_w 0 32 (in_c 0 rfl) rfl) rfl)))
  · skip
    have i12 := r_eq1 0 4000 c12 i5 ro_2_0 rfl
    refine g_aload_n 16 (gd rfl) rfl rfl ?_
    refine g_getI 19 (gd rfl) rfl rfl rfl (fun z16 e16 => ?_)
    have i16 := inv_F hI1 0 31 rfl e16
    refine g_iload_n 20 (gd rfl) rfl rfl ?_
    refine g_cmp_ne 23 24 (gd rfl) rfl rfl (fun c20 => ?_) (fun c20 => ?_)
    · skip
      refine g_aload_n 25 (gd rfl) rfl rfl ?_
      refine g_aload_n 26 (gd rfl) rfl rfl ?_
      refine g_getI 29 (gd rfl) rfl rfl rfl (fun z26 e26 => ?_)
      have q26 : u_2_0 = z26 := (fr_F (e_2_0) hF1 rfl).trans e26.symm
      subst q26
      refine g_putI 32 (gd rfl) rfl rfl rfl rfl ?_
      have hI29 := inv_sF (q := 49) (j := 0) hI1 rfl (in_w (-1) 4000 ro_2_0 rfl)
      refine g_aload_n 33 (gd rfl) rfl rfl ?_
      refine g_iload_n 34 (gd rfl) rfl rfl ?_
      refine g_putI 37 (gd rfl) rfl rfl rfl rfl ?_
      have hI34 := inv_sF (q := 49) (j := 1) hI29 rfl (in_w 0 31 h2 rfl)
      refine g_aload_n 38 (gd rfl) rfl rfl ?_
      refine g_getA (q2 := 50) 41 (gd rfl) rfl rfl rfl rfl ?_
      refine g_ldc2_w 9223372036854775807 44 (gd rfl) rfl rfl ?_
      refine g_calls (As := [.ref (A 50), .long (Int64.ofInt 9223372036854775807)]) (r := []) 47 (gd rfl) rfl rfl rfl rfl rfl (Nat.le_of_ble_eq_true rfl) (Nat.zero_le _) (Nat.zero_le _) (k_fillL 50 (by first | exact dq1 hd rfl | exact dq0 hd rfl | exact dq2 hd rfl | exact dq3 hd rfl | omega) hI34 (n := 32) rfl rfl rfl (l_rng (Int64.ofInt 9223372036854775807))) (fun v u h => ?_)
      obtain ⟨s44, hI44, hF44, rfl, rfl, fl44⟩ := h
      show GG _ _ _ _ _ _ _ _ [] _ _ _
      refine g_aload_n 48 (gd rfl) rfl rfl ?_
      refine g_getA (q2 := 50) 51 (gd rfl) rfl rfl rfl rfl ?_
      refine g_iload_n 52 (gd rfl) rfl rfl ?_
      refine g_lconst 0 53 (gd rfl) rfl rfl ?_
      refine g_lastore 54 (gd rfl) rfl (n := 32) rfl (in_ix h2 rfl) ?_
      have hI53 := inv_sL (q := 50) (j := x2.toNatClampNeg) (x := (Int64.ofInt 0)) hI44 rfl (l_rng (Int64.ofInt 0))
      refine g_iconst 1 55 (gd rfl) rfl rfl ?_
      refine g_iload_n 56 (gd rfl) rfl rfl ?_
      refine g_ishl 57 (gd rfl) rfl (fun z56 e56 => ?_)
      refine g_istore_n 58 (gd rfl) rfl (Nat.le_of_ble_eq_true rfl) ?_
      refine g_iconst 0 59 (gd rfl) rfl rfl ?_
      refine g_istore 61 (gd rfl) rfl (Nat.le_of_ble_eq_true rfl) ?_
      have v61 : z1a = (sL s44 50 x2.toNatClampNeg (Int64.ofInt 0)).2.2.1 2 4 := sL_F (fr_F (s := (sF (sF s1 49 0 u_2_0) 49 1 x2)) (sF_ne rfl (sF_ne rfl (e1))) hF44 rfl)
      have v61a : u_2_0 = (sL s44 50 x2.toNatClampNeg (Int64.ofInt 0)).2.2.1 2 0 := sL_F (fr_F (s := (sF (sF s1 49 0 u_2_0) 49 1 x2)) (sF_ne rfl (sF_ne rfl (fr_F (e_2_0) hF1 rfl))) hF44 rfl)
      have n61 : (z1a).toInt = (u_2_0).toInt := by have a0 := oa5 ro_2_1 ro_2_0 h2 ((in_c 0 rfl)) i1a; omega
      exact gg_w (by first | exact Nat.le_of_ble_eq_true rfl | omega) (gg_f (gf_cons rfl (gf_cons rfl (gf_cons rfl (gf_cons rfl (gf_cons rfl gf_nil))))) (ct61 33 (sL s44 50 x2.toNatClampNeg (Int64.ofInt 0)) z56 (Int32.ofInt 0) z1a u_2_0 hI53 (fr_sL rfl (fr_tr rfl (fr_sF rfl (fr_sF rfl (fr_tr rfl fr_rf hF1))) hF44)) (in_w 0 32 (in_c 0 rfl) rfl) v61 v61a n61 (m_in 33 (in_w 0 32 (in_c 0 rfl) rfl) rfl)))
    · skip
      exact g_return (gd rfl) rfl (hP _ _ ⟨s1, hI1, (fr_tr rfl fr_rf hF1), rfl, rfl⟩)

def fm_198_49_32 : FM := ([39, 40, 41, 42, 43, 44, 45], [50], [(32, 4), (49, 0), (49, 1), (49, 2)], [])
/-- GraphHouse$Ways.measure -/
theorem k_198_49_32 {Z : AmZ} {A : Nat → Nat} {s : GS} {ex : va_W} {d : Nat} {X : AmX} {x2 : Int32} (hd : 5 ≤ d) (hI : Inv s) (h2 : In x2 0 31) : GC Z d 198 [.ref (A 49), .ref (A 32), .int x2] (WW Z A s ++ ex) 0 0 (fun v u => ∃ t : GS, Inv t ∧ Fr fm_198_49_32 s t ∧ v = none ∧ u = WW Z A t ++ ex) X := by
  intro post xp hP hX
  obtain ⟨u_32_0, e_32_0⟩ : ∃ w, w = s.2.2.1 32 0 := ⟨_, rfl⟩
  have ro_32_0 := inv_F hI 0 4000 rfl e_32_0
  obtain ⟨u_32_1, e_32_1⟩ : ∃ w, w = s.2.2.1 32 1 := ⟨_, rfl⟩
  have ro_32_1 := inv_F hI 0 32 rfl e_32_1
  have ct61 : ∀ (k61 : Nat) (sc61 : GS) (y61_3 : Int32) (y61_4 : Int32) (w61_32_4 : Int32) (w61_32_0 : Int32), Inv sc61 → Fr fm_198_49_32 s sc61 → (In y61_4 0 32) → (w61_32_4 = sc61.2.2.1 32 4) → (w61_32_0 = sc61.2.2.1 32 0) → ((w61_32_4).toInt = (w61_32_0).toInt) → 32 - (y61_4).toInt < (k61 : Int) → GG Z (d - 1) 198 post (gx xp) (1 + k61 * 900) 61 (fun j => xlook j [(0, .ref (A 49)), (1, .ref (A 32)), (2, .int x2), (3, .int y61_3), (4, .int y61_4)]) [] (WW Z A sc61 ++ ex) 0 0 := by
    intro k61
    induction k61 with
    | zero => intro sc61 y61_3 y61_4 w61_32_4 w61_32_0 hIc61 hFc61 j61_4 v61_32_4 v61_32_0 n61_0 mm61; exact m_no mm61 j61_4 rfl
    | succ k61 ih61 =>
      intro sc61 y61_3 y61_4 w61_32_4 w61_32_0 hIc61 hFc61 j61_4 v61_32_4 v61_32_0 n61_0 mm61
      refine gg_w (M := 1 + k61 * 900 + 900) gws ?_
      refine g_iload 63 (gd rfl) rfl rfl ?_
      refine g_aload_n 64 (gd rfl) rfl rfl ?_
      refine g_getI 67 (gd rfl) rfl rfl rfl (fun z64 e64 => ?_)
      have q64 : u_32_1 = z64 := (fr_F e_32_1 hFc61 rfl).trans e64.symm
      subst q64
      refine g_cmp_ge 70 87 (gd rfl) rfl rfl (fun c67 => ?_) (fun c67 => ?_)
      · skip
        refine g_aload_n 88 (gd rfl) rfl rfl ?_
        refine g_iload_n 89 (gd rfl) rfl rfl ?_
        refine g_if_ne 92 96 (gd rfl) rfl rfl (fun c89 => ?_) (fun c89 => ?_)
        · skip
          refine g_aload_n 97 (gd rfl) rfl rfl ?_
          refine g_getA (q2 := 41) 100 (gd rfl) rfl rfl rfl rfl ?_
          refine g_aload_n 101 (gd rfl) rfl rfl ?_
          refine g_aload_n 102 (gd rfl) rfl rfl ?_
          refine g_iload_n 103 (gd rfl) rfl rfl ?_
          have n103 : (w61_32_4).toInt = (w61_32_0).toInt := by first | exact n61_0 | (have a0 := oa5 h2 ro_32_1 ((inv_F hIc61 0 4000 rfl v61_32_0)) ((inv_F hIc61 (-1) 4000 rfl v61_32_4)) j61_4; omega)
          refine g_callv (X := _) (As := [.ref (A 32), .int y61_3]) (r := [.ref (A 41), .ref (A 49)]) (b := A 49) (q := 49) 106 (gd rfl) rfl rfl rfl rfl rfl (ww_o rfl) (Nat.le_of_ble_eq_true rfl) (Nat.zero_le _) (Nat.zero_le _) (k_199_49_32 (by first | exact dq1 hd rfl | exact dq0 hd rfl | exact dq2 hd rfl | exact dq3 hd rfl | omega) hIc61 v61_32_4 v61_32_0 n103) (fun e u h => h) (fun v u h => ?_)
          obtain ⟨s103, hI103, hF103, z103, rfl, rfl, i103⟩ := h
          show GG _ _ _ _ _ _ _ _ [.int z103, .ref (A 41), .ref (A 49)] _ _ _
          refine g_iconst (-1) 107 (gd rfl) rfl rfl ?_
          refine g_calls (As := [.ref (A 41), .int z103, .int (Int32.ofInt (-1))]) (r := [.ref (A 49)]) 110 (gd rfl) rfl rfl rfl rfl rfl (Nat.le_of_ble_eq_true rfl) (Nat.zero_le _) (Nat.zero_le _) (k_266_41 (by first | exact dq1 hd rfl | exact dq0 hd rfl | exact dq2 hd rfl | exact dq3 hd rfl | omega) hI103 (in_w (-1) (-1) (in_c (-1) rfl) rfl)) (fun v u h => ?_)
          obtain ⟨z107, rfl, rfl, i107, p107⟩ := h
          show GG _ _ _ _ _ _ _ _ [.int z107, .ref (A 49)] _ _ _
          refine g_putI 113 (gd rfl) rfl rfl rfl rfl ?_
          have hI110 := inv_sF (q := 49) (j := 2) hI103 rfl (in_w (-2147483648) 2147483647 i107 rfl)
          exact g_return (gd rfl) rfl (hP _ _ ⟨(sF s103 49 2 z107), hI110, (fr_sF rfl (fr_tr rfl hFc61 hF103)), rfl, rfl⟩)
        · skip
          have i89 := z_eq 0 0 c89 (i_rng y61_3) rfl
          refine g_iconst 0 93 (gd rfl) rfl rfl ?_
          refine g_goto 110 (gd rfl) rfl ?_
          refine g_putI 113 (gd rfl) rfl rfl rfl rfl ?_
          have hI110 := inv_sF (q := 49) (j := 2) hIc61 rfl (in_w (-2147483648) 2147483647 (in_c 0 rfl) rfl)
          exact g_return (gd rfl) rfl (hP _ _ ⟨(sF sc61 49 2 (Int32.ofInt 0)), hI110, (fr_sF rfl hFc61), rfl, rfl⟩)
      · skip
        have i67 := r_lt1 0 31 c67 j61_4 ro_32_1 rfl
        have i67a := r_lt2 1 32 c67 j61_4 ro_32_1 rfl
        refine g_iload_n 71 (gd rfl) rfl rfl ?_
        refine g_if_eq 74 87 (gd rfl) rfl rfl (fun c71 => ?_) (fun c71 => ?_)
        · skip
          have i71 := z_eq 0 0 c71 (i_rng y61_3) rfl
          refine g_aload_n 88 (gd rfl) rfl rfl ?_
          refine g_iload_n 89 (gd rfl) rfl rfl ?_
          refine g_if_ne 92 96 (gd rfl) rfl rfl (fun c89 => ?_) (fun c89 => ?_)
          · skip
            exact zn_ne c89 i71 rfl
          · skip
            refine g_iconst 0 93 (gd rfl) rfl rfl ?_
            refine g_goto 110 (gd rfl) rfl ?_
            refine g_putI 113 (gd rfl) rfl rfl rfl rfl ?_
            have hI110 := inv_sF (q := 49) (j := 2) hIc61 rfl (in_w (-2147483648) 2147483647 (in_c 0 rfl) rfl)
            exact g_return (gd rfl) rfl (hP _ _ ⟨(sF sc61 49 2 (Int32.ofInt 0)), hI110, (fr_sF rfl hFc61), rfl, rfl⟩)
        · skip
          refine g_aload_n 75 (gd rfl) rfl rfl ?_
          refine g_aload_n 76 (gd rfl) rfl rfl ?_
          refine g_iload_n 77 (gd rfl) rfl rfl ?_
          have n77 : (w61_32_4).toInt = (w61_32_0).toInt := by first | exact n61_0 | (have a0 := oa5 h2 i67a ((inv_F hIc61 0 4000 rfl v61_32_0)) ((inv_F hIc61 (-1) 4000 rfl v61_32_4)) i67; omega)
          refine g_callv (X := _) (As := [.ref (A 32), .int y61_3]) (r := []) (b := A 49) (q := 49) 80 (gd rfl) rfl rfl rfl rfl rfl (ww_o rfl) (Nat.le_of_ble_eq_true rfl) (Nat.zero_le _) (Nat.zero_le _) (k_199_49_32 (by first | exact dq1 hd rfl | exact dq0 hd rfl | exact dq2 hd rfl | exact dq3 hd rfl | omega) hIc61 v61_32_4 v61_32_0 n77) (fun e u h => h) (fun v u h => ?_)
          obtain ⟨s77, hI77, hF77, z77, rfl, rfl, i77⟩ := h
          show GG _ _ _ _ _ _ _ _ [.int z77] _ _ _
          refine g_istore_n 81 (gd rfl) rfl (Nat.le_of_ble_eq_true rfl) ?_
          refine g_iinc 84 (gd rfl) rfl rfl (Nat.le_of_ble_eq_true rfl) (fun z81 e81 => ?_)
          have i81 := in_add 1 32 e81 i67 (in_c 1 rfl) rfl rfl
          refine g_goto 61 (gd rfl) rfl ?_
          have v61 : w61_32_4 = s77.2.2.1 32 4 := fr_F (v61_32_4) hF77 rfl
          have v61a : w61_32_0 = s77.2.2.1 32 0 := fr_F (v61_32_0) hF77 rfl
          have n61 : (w61_32_4).toInt = (w61_32_0).toInt := by first | exact n61_0 | (have a0 := oa6 h2 i67a ((inv_F hIc61 0 4000 rfl v61_32_0)) ((inv_F hIc61 (-1) 4000 rfl v61_32_4)) i67 i81; have a6 := t_add e81 i67 (in_c 1 rfl) rfl; have a7 := in_u ((in_c 1 rfl)); omega)
          exact gg_w (by first | exact Nat.le_add_right _ _ | exact gw2 | exact gw3 | exact gwe rfl | exact gwf rfl | exact gwg rfl | exact gwh rfl | omega) (gg_f (gf_cons rfl (gf_cons rfl (gf_cons rfl (gf_cons rfl (gf_cons rfl gf_nil))))) (ih61 s77 z77 z81 w61_32_4 w61_32_0 hI77 (fr_tr rfl hFc61 hF77) (in_w 0 32 i81 rfl) v61 v61a n61 (m_up mm61 (t_add e81 i67 (in_c 1 rfl) rfl) (in_w 1 1 (in_c 1 rfl) rfl))))
  refine g_enter2 (k := 198) (N := 30601) (by first | exact dq1 hd rfl | exact dq0 hd rfl | exact dq2 hd rfl | exact dq3 hd rfl | omega) rfl (Nat.le_of_ble_eq_true rfl) ?_
  refine g_aload_n 1 (gd rfl) rfl rfl ?_
  refine g_callv (X := _) (As := []) (r := []) (b := A 32) (q := 32) 4 (gd rfl) rfl rfl rfl rfl rfl (ww_o rfl) (Nat.le_of_ble_eq_true rfl) (Nat.zero_le _) (Nat.zero_le _) (k_106_32 (by first | exact dq1 hd rfl | exact dq0 hd rfl | exact dq2 hd rfl | exact dq3 hd rfl | omega) hI ) (fun e u h => h) (fun v u h => ?_)
  obtain ⟨s1, hI1, hF1, n1, rfl, rfl⟩ := h
  obtain ⟨z1a, e1⟩ : ∃ w, w = s1.2.2.1 32 4 := ⟨_, rfl⟩
  have i1a := inv_F hI1 (-1) 4000 rfl e1
  rw [← (show z1a = s1.2.2.1 32 4 from e1)] at n1
  rw [← (show u_32_0 = s1.2.2.1 32 0 from fr_F (e_32_0) hF1 rfl)] at n1
  show GG _ _ _ _ _ _ _ _ [] _ _ _
  refine g_aload_n 5 (gd rfl) rfl rfl ?_
  refine g_getI 8 (gd rfl) rfl rfl rfl (fun z5 e5 => ?_)
  have i5 := inv_F hI1 (-1) 4000 rfl e5
  refine g_aload_n 9 (gd rfl) rfl rfl ?_
  refine g_getI 12 (gd rfl) rfl rfl rfl (fun z9 e9 => ?_)
  have q9 : u_32_0 = z9 := (fr_F (e_32_0) hF1 rfl).trans e9.symm
  subst q9
  refine g_cmp_ne 15 24 (gd rfl) rfl rfl (fun c12 => ?_) (fun c12 => ?_)
  · skip
    refine g_aload_n 25 (gd rfl) rfl rfl ?_
    refine g_aload_n 26 (gd rfl) rfl rfl ?_
    refine g_getI 29 (gd rfl) rfl rfl rfl (fun z26 e26 => ?_)
    have q26 : u_32_0 = z26 := (fr_F (e_32_0) hF1 rfl).trans e26.symm
    subst q26
    refine g_putI 32 (gd rfl) rfl rfl rfl rfl ?_
    have hI29 := inv_sF (q := 49) (j := 0) hI1 rfl (in_w (-1) 4000 ro_32_0 rfl)
    refine g_aload_n 33 (gd rfl) rfl rfl ?_
    refine g_iload_n 34 (gd rfl) rfl rfl ?_
    refine g_putI 37 (gd rfl) rfl rfl rfl rfl ?_
    have hI34 := inv_sF (q := 49) (j := 1) hI29 rfl (in_w 0 31 h2 rfl)
    refine g_aload_n 38 (gd rfl) rfl rfl ?_
    refine g_getA (q2 := 50) 41 (gd rfl) rfl rfl rfl rfl ?_
    refine g_ldc2_w 9223372036854775807 44 (gd rfl) rfl rfl ?_
    refine g_calls (As := [.ref (A 50), .long (Int64.ofInt 9223372036854775807)]) (r := []) 47 (gd rfl) rfl rfl rfl rfl rfl (Nat.le_of_ble_eq_true rfl) (Nat.zero_le _) (Nat.zero_le _) (k_fillL 50 (by first | exact dq1 hd rfl | exact dq0 hd rfl | exact dq2 hd rfl | exact dq3 hd rfl | omega) hI34 (n := 32) rfl rfl rfl (l_rng (Int64.ofInt 9223372036854775807))) (fun v u h => ?_)
    obtain ⟨s44, hI44, hF44, rfl, rfl, fl44⟩ := h
    show GG _ _ _ _ _ _ _ _ [] _ _ _
    refine g_aload_n 48 (gd rfl) rfl rfl ?_
    refine g_getA (q2 := 50) 51 (gd rfl) rfl rfl rfl rfl ?_
    refine g_iload_n 52 (gd rfl) rfl rfl ?_
    refine g_lconst 0 53 (gd rfl) rfl rfl ?_
    refine g_lastore 54 (gd rfl) rfl (n := 32) rfl (in_ix h2 rfl) ?_
    have hI53 := inv_sL (q := 50) (j := x2.toNatClampNeg) (x := (Int64.ofInt 0)) hI44 rfl (l_rng (Int64.ofInt 0))
    refine g_iconst 1 55 (gd rfl) rfl rfl ?_
    refine g_iload_n 56 (gd rfl) rfl rfl ?_
    refine g_ishl 57 (gd rfl) rfl (fun z56 e56 => ?_)
    refine g_istore_n 58 (gd rfl) rfl (Nat.le_of_ble_eq_true rfl) ?_
    refine g_iconst 0 59 (gd rfl) rfl rfl ?_
    refine g_istore 61 (gd rfl) rfl (Nat.le_of_ble_eq_true rfl) ?_
    have v61 : z1a = (sL s44 50 x2.toNatClampNeg (Int64.ofInt 0)).2.2.1 32 4 := sL_F (fr_F (s := (sF (sF s1 49 0 u_32_0) 49 1 x2)) (sF_ne rfl (sF_ne rfl (e1))) hF44 rfl)
    have v61a : u_32_0 = (sL s44 50 x2.toNatClampNeg (Int64.ofInt 0)).2.2.1 32 0 := sL_F (fr_F (s := (sF (sF s1 49 0 u_32_0) 49 1 x2)) (sF_ne rfl (sF_ne rfl (fr_F (e_32_0) hF1 rfl))) hF44 rfl)
    have n61 : (z1a).toInt = (u_32_0).toInt := by have a0 := oa5 ro_32_1 ro_32_0 h2 ((in_c 0 rfl)) i1a; omega
    exact gg_w (by first | exact Nat.le_of_ble_eq_true rfl | omega) (gg_f (gf_cons rfl (gf_cons rfl (gf_cons rfl (gf_cons rfl (gf_cons rfl gf_nil))))) (ct61 33 (sL s44 50 x2.toNatClampNeg (Int64.ofInt 0)) z56 (Int32.ofInt 0) z1a u_32_0 hI53 (fr_sL rfl (fr_tr rfl (fr_sF rfl (fr_sF rfl (fr_tr rfl fr_rf hF1))) hF44)) (in_w 0 32 (in_c 0 rfl) rfl) v61 v61a n61 (m_in 33 (in_w 0 32 (in_c 0 rfl) rfl) rfl)))
  · skip
    have i12 := r_eq1 0 4000 c12 i5 ro_32_0 rfl
    refine g_aload_n 16 (gd rfl) rfl rfl ?_
    refine g_getI 19 (gd rfl) rfl rfl rfl (fun z16 e16 => ?_)
    have i16 := inv_F hI1 0 31 rfl e16
    refine g_iload_n 20 (gd rfl) rfl rfl ?_
    refine g_cmp_ne 23 24 (gd rfl) rfl rfl (fun c20 => ?_) (fun c20 => ?_)
    · skip
      refine g_aload_n 25 (gd rfl) rfl rfl ?_
      refine g_aload_n 26 (gd rfl) rfl rfl ?_
      refine g_getI 29 (gd rfl) rfl rfl rfl (fun z26 e26 => ?_)
      have q26 : u_32_0 = z26 := (fr_F (e_32_0) hF1 rfl).trans e26.symm
      subst q26
      refine g_putI 32 (gd rfl) rfl rfl rfl rfl ?_
      have hI29 := inv_sF (q := 49) (j := 0) hI1 rfl (in_w (-1) 4000 ro_32_0 rfl)
      refine g_aload_n 33 (gd rfl) rfl rfl ?_
      refine g_iload_n 34 (gd rfl) rfl rfl ?_
      refine g_putI 37 (gd rfl) rfl rfl rfl rfl ?_
      have hI34 := inv_sF (q := 49) (j := 1) hI29 rfl (in_w 0 31 h2 rfl)
      refine g_aload_n 38 (gd rfl) rfl rfl ?_
      refine g_getA (q2 := 50) 41 (gd rfl) rfl rfl rfl rfl ?_
      refine g_ldc2_w 9223372036854775807 44 (gd rfl) rfl rfl ?_
      refine g_calls (As := [.ref (A 50), .long (Int64.ofInt 9223372036854775807)]) (r := []) 47 (gd rfl) rfl rfl rfl rfl rfl (Nat.le_of_ble_eq_true rfl) (Nat.zero_le _) (Nat.zero_le _) (k_fillL 50 (by first | exact dq1 hd rfl | exact dq0 hd rfl | exact dq2 hd rfl | exact dq3 hd rfl | omega) hI34 (n := 32) rfl rfl rfl (l_rng (Int64.ofInt 9223372036854775807))) (fun v u h => ?_)
      obtain ⟨s44, hI44, hF44, rfl, rfl, fl44⟩ := h
      show GG _ _ _ _ _ _ _ _ [] _ _ _
      refine g_aload_n 48 (gd rfl) rfl rfl ?_
      refine g_getA (q2 := 50) 51 (gd rfl) rfl rfl rfl rfl ?_
      refine g_iload_n 52 (gd rfl) rfl rfl ?_
      refine g_lconst 0 53 (gd rfl) rfl rfl ?_
      refine g_lastore 54 (gd rfl) rfl (n := 32) rfl (in_ix h2 rfl) ?_
      have hI53 := inv_sL (q := 50) (j := x2.toNatClampNeg) (x := (Int64.ofInt 0)) hI44 rfl (l_rng (Int64.ofInt 0))
      refine g_iconst 1 55 (gd rfl) rfl rfl ?_
      refine g_iload_n 56 (gd rfl) rfl rfl ?_
      refine g_ishl 57 (gd rfl) rfl (fun z56 e56 => ?_)
      refine g_istore_n 58 (gd rfl) rfl (Nat.le_of_ble_eq_true rfl) ?_
      refine g_iconst 0 59 (gd rfl) rfl rfl ?_
      refine g_istore 61 (gd rfl) rfl (Nat.le_of_ble_eq_true rfl) ?_
      have v61 : z1a = (sL s44 50 x2.toNatClampNeg (Int64.ofInt 0)).2.2.1 32 4 := sL_F (fr_F (s := (sF (sF s1 49 0 u_32_0) 49 1 x2)) (sF_ne rfl (sF_ne rfl (e1))) hF44 rfl)
      have v61a : u_32_0 = (sL s44 50 x2.toNatClampNeg (Int64.ofInt 0)).2.2.1 32 0 := sL_F (fr_F (s := (sF (sF s1 49 0 u_32_0) 49 1 x2)) (sF_ne rfl (sF_ne rfl (fr_F (e_32_0) hF1 rfl))) hF44 rfl)
      have n61 : (z1a).toInt = (u_32_0).toInt := by have a0 := oa5 ro_32_1 ro_32_0 h2 ((in_c 0 rfl)) i1a; omega
      exact gg_w (by first | exact Nat.le_of_ble_eq_true rfl | omega) (gg_f (gf_cons rfl (gf_cons rfl (gf_cons rfl (gf_cons rfl (gf_cons rfl gf_nil))))) (ct61 33 (sL s44 50 x2.toNatClampNeg (Int64.ofInt 0)) z56 (Int32.ofInt 0) z1a u_32_0 hI53 (fr_sL rfl (fr_tr rfl (fr_sF rfl (fr_sF rfl (fr_tr rfl fr_rf hF1))) hF44)) (in_w 0 32 (in_c 0 rfl) rfl) v61 v61a n61 (m_in 33 (in_w 0 32 (in_c 0 rfl) rfl) rfl)))
    · skip
      exact g_return (gd rfl) rfl (hP _ _ ⟨s1, hI1, (fr_tr rfl fr_rf hF1), rfl, rfl⟩)

def fm_200_49_2 : FM := ([9, 10, 11, 12, 13, 14, 15, 51], [], [(2, 4)], [])
/-- GraphHouse$Ways.widest -/
theorem k_200_49_2 {Z : AmZ} {A : Nat → Nat} {s : GS} {ex : va_W} {d : Nat} {X : AmX} {x2 : Int32} {x3 : Int32} (hd : 5 ≤ d) (hI : Inv s) (h2 : In x2 0 31) (h3 : In x3 0 31) : GC Z d 200 [.ref (A 49), .ref (A 2), .int x2, .int x3] (WW Z A s ++ ex) 0 0 (fun v u => ∃ t : GS, Inv t ∧ Fr fm_200_49_2 s t ∧ ∃ z : Int32, v = some (.int z) ∧ u = WW Z A t ++ ex ∧ In z (-1) 1000001) X := by
  intro post xp hP hX
  obtain ⟨u_2_1, e_2_1⟩ : ∃ w, w = s.2.2.1 2 1 := ⟨_, rfl⟩
  have ro_2_1 := inv_F hI 0 32 rfl e_2_1
  have ct29 : ∀ (k29 : Nat) (sc29 : GS) (y29_4 : Int32) (y29_5 : Int32), Inv sc29 → Fr fm_200_49_2 s sc29 → (In y29_5 0 32) → ((cb y29_4 : Int) = (u_2_1).toInt - (y29_5).toInt) → 32 - (y29_5).toInt < (k29 : Int) → GG Z (d - 1) 200 post (gx xp) (1 + k29 * 147601) 29 (fun j => xlook j [(0, .ref (A 49)), (1, .ref (A 2)), (2, .int x2), (3, .int x3), (4, .int y29_4), (5, .int y29_5)]) [] (WW Z A sc29 ++ ex) 0 0 := by
    intro k29
    induction k29 with
    | zero => intro sc29 y29_4 y29_5 hIc29 hFc29 j29_5 g29_0 mm29; exact m_no mm29 j29_5 rfl
    | succ k29 ih29 =>
      intro sc29 y29_4 y29_5 hIc29 hFc29 j29_5 g29_0 mm29
      refine gg_w (M := 1 + k29 * 147601 + 147601) gws ?_
      have ct90 : ∀ (k90 : Nat) (sc90 : GS) (y90_4 : Int32) (y90_6 : Int32) (y90_7 : Int32), Inv sc90 → Fr fm_200_49_2 s sc90 → (In y29_5 0 31) → (In y90_6 0 31) → (In y90_7 0 160) → ((cb y90_4 : Int) = (u_2_1).toInt - (y29_5).toInt - 1) → 160 - (y90_7).toInt < (k90 : Int) → GG Z (d - 1) 200 post (gx xp) (1 + k29 * 147601 + 1 + k90 * 900) 90 (fun j => xlook j [(0, .ref (A 49)), (1, .ref (A 2)), (2, .int x2), (3, .int x3), (4, .int y90_4), (5, .int y29_5), (6, .int y90_6), (7, .int y90_7)]) [] (WW Z A sc90 ++ ex) 0 0 := by
        intro k90
        induction k90 with
        | zero => intro sc90 y90_4 y90_6 y90_7 hIc90 hFc90 j90_5 j90_6 j90_7 g90_0 mm90; exact m_no mm90 j90_7 rfl
        | succ k90 ih90 =>
          intro sc90 y90_4 y90_6 y90_7 hIc90 hFc90 j90_5 j90_6 j90_7 g90_0 mm90
          refine gg_w (M := 1 + k29 * 147601 + 1 + k90 * 900 + 900) gws ?_
          refine g_iload 92 (gd rfl) rfl rfl ?_
          refine g_aload_n 93 (gd rfl) rfl rfl ?_
          refine g_getA (q2 := 12) 96 (gd rfl) rfl rfl rfl rfl ?_
          refine g_iload 98 (gd rfl) rfl rfl ?_
          refine g_iconst 1 99 (gd rfl) rfl rfl ?_
          refine g_iadd 100 (gd rfl) rfl (fun z99 e99 => ?_)
          have i99 := in_add 1 32 e99 j90_6 (in_c 1 rfl) rfl rfl
          refine g_iaload 101 (gd rfl) rfl (n := 33) rfl (in_ix i99 rfl) (fun z100 e100 => ?_)
          have i100 := inv_I hIc90 (n := 33) (t := 0) 0 160 rfl (in_ix i99 rfl) rfl e100
          refine g_cmp_ge 104 163 (gd rfl) rfl rfl (fun c101 => ?_) (fun c101 => ?_)
          · skip
            refine g_iinc 166 (gd rfl) rfl rfl (Nat.le_of_ble_eq_true rfl) (fun z163 e163 => ?_)
            have i163 := in_add 1 32 e163 j90_5 (in_c 1 rfl) rfl rfl
            refine g_goto 29 (gd rfl) rfl ?_
            have n29 : (cb y90_4 : Int) = (u_2_1).toInt - (z163).toInt := by first | (have hcb := cb_m1; have a0 := oa7 j90_5 h3 h2 ro_2_1 j90_7 j90_6 i163; have a7 := t_add e163 j90_5 (in_c 1 rfl) rfl; have a8 := oa2 ((in_c 1 rfl)) i99; have a10 := t_add e99 j90_6 (in_c 1 rfl) rfl; omega) | (have hcb := cb_all e21x18 e21x20 ‹_›; have a0 := oa7 j90_5 h3 h2 ro_2_1 j90_7 j90_6 i163; have a7 := t_add e163 j90_5 (in_c 1 rfl) rfl; have a8 := oa2 ((in_c 1 rfl)) i99; have a10 := t_add e99 j90_6 (in_c 1 rfl) rfl; omega) | (have a0 := oa7 j90_5 h3 h2 ro_2_1 j90_7 j90_6 i163; have a7 := t_add e163 j90_5 (in_c 1 rfl) rfl; have a8 := oa2 ((in_c 1 rfl)) i99; have a10 := t_add e99 j90_6 (in_c 1 rfl) rfl; omega)
            exact gg_w (by first | exact Nat.le_add_right _ _ | exact gw2 | exact gw3 | exact gwe rfl | exact gwf rfl | exact gwg rfl | exact gwh rfl | omega) (gg_f (gf_cons rfl (gf_cons rfl (gf_cons rfl (gf_cons rfl (gf_cons rfl (gf_cons rfl gf_nil)))))) (ih29 sc90 y90_4 z163 hIc90 hFc90 (in_w 0 32 i163 rfl) n29 (m_up mm29 (t_add e163 j90_5 (in_c 1 rfl) rfl) (in_w 1 1 (in_c 1 rfl) rfl))))
          · skip
            have i101 := r_lt1 0 159 c101 j90_7 i100 rfl
            have i101a := r_lt2 1 160 c101 j90_7 i100 rfl
            refine g_aload_n 105 (gd rfl) rfl rfl ?_
            refine g_getA (q2 := 13) 108 (gd rfl) rfl rfl rfl rfl ?_
            refine g_iload 110 (gd rfl) rfl rfl ?_
            refine g_iaload 111 (gd rfl) rfl (n := 160) rfl (in_ix i101 rfl) (fun z110 e110 => ?_)
            have i110 := inv_I hIc90 (n := 160) (t := 0) 0 159 rfl (in_ix i101 rfl) rfl e110
            refine g_istore 113 (gd rfl) rfl (Nat.le_of_ble_eq_true rfl) ?_
            refine g_aload_n 114 (gd rfl) rfl rfl ?_
            refine g_getA (q2 := 51) 117 (gd rfl) rfl rfl rfl rfl ?_
            refine g_aload_n 118 (gd rfl) rfl rfl ?_
            refine g_getA (q2 := 5) 121 (gd rfl) rfl rfl rfl rfl ?_
            refine g_iload 123 (gd rfl) rfl rfl ?_
            refine g_iaload 124 (gd rfl) rfl (n := 160) rfl (in_ix i110 rfl) (fun z123 e123 => ?_)
            have i123 := inv_I hIc90 (n := 160) (t := 0) 0 31 rfl (in_ix i110 rfl) rfl e123
            refine g_aload_n 125 (gd rfl) rfl rfl ?_
            refine g_getA (q2 := 51) 128 (gd rfl) rfl rfl rfl rfl ?_
            refine g_aload_n 129 (gd rfl) rfl rfl ?_
            refine g_getA (q2 := 5) 132 (gd rfl) rfl rfl rfl rfl ?_
            refine g_iload 134 (gd rfl) rfl rfl ?_
            refine g_iaload 135 (gd rfl) rfl (n := 160) rfl (in_ix i110 rfl) (fun z134 e134 => ?_)
            have q134 : z123 = z134 := (e123).trans e134.symm
            subst q134
            refine g_iaload 136 (gd rfl) rfl (n := 32) rfl (in_ix i123 rfl) (fun z135 e135 => ?_)
            have i135 := inv_I hIc90 (n := 32) (t := 0) (-1) 1000001 rfl (in_ix i123 rfl) rfl e135
            refine g_aload_n 137 (gd rfl) rfl rfl ?_
            refine g_getA (q2 := 51) 140 (gd rfl) rfl rfl rfl rfl ?_
            refine g_iload 142 (gd rfl) rfl rfl ?_
            refine g_iaload 143 (gd rfl) rfl (n := 32) rfl (in_ix j90_6 rfl) (fun z142 e142 => ?_)
            have i142 := inv_I hIc90 (n := 32) (t := 0) (-1) 1000001 rfl (in_ix j90_6 rfl) rfl e142
            refine g_aload_n 144 (gd rfl) rfl rfl ?_
            refine g_getA (q2 := 7) 147 (gd rfl) rfl rfl rfl rfl ?_
            refine g_iload 149 (gd rfl) rfl rfl ?_
            refine g_iaload 150 (gd rfl) rfl (n := 160) rfl (in_ix i110 rfl) (fun z149 e149 => ?_)
            have i149 := inv_I hIc90 (n := 160) (t := 0) 0 1000000 rfl (in_ix i110 rfl) rfl e149
            refine g_calls (As := [.int z142, .int z149]) (r := [.int z135, .int z123, .ref (A 51)]) 153 (gd rfl) rfl rfl rfl rfl rfl (Nat.le_of_ble_eq_true rfl) (mc := 0) (ms := 0) (Nat.zero_le _) (Nat.zero_le _) (P := fun v u => _) ?_ (fun v u h => h)
            intro po150 xx150 hp150 hx150
            refine g_enter2 (k := 424) (N := 300) (by first | exact dq1 hd rfl | exact dq0 hd rfl | exact dq2 hd rfl | exact dq3 hd rfl | omega) rfl (Nat.le_of_ble_eq_true rfl) ?_
            refine g_iload_n 1 (gd rfl) rfl rfl ?_
            refine g_iload_n 2 (gd rfl) rfl rfl ?_
            refine g_cmp_gt 5 9 (gd rfl) rfl rfl (fun c150x2 => ?_) (fun c150x2 => ?_)
            · skip
              have i150x2 := r_lt2 1 1000001 c150x2 i149 i142 rfl
              refine g_iload_n 10 (gd rfl) rfl rfl ?_
              refine g_ireturn (gd rfl) rfl rfl (hp150 _ _ ?_)
              show GG _ _ _ _ _ _ _ _ [.int z149, .int z135, .int z123, .ref (A 51)] _ _ _
              refine g_calls (As := [.int z135, .int z149]) (r := [.int z123, .ref (A 51)]) 156 (gd rfl) rfl rfl rfl rfl rfl (Nat.le_of_ble_eq_true rfl) (mc := 0) (ms := 0) (Nat.zero_le _) (Nat.zero_le _) (P := fun v u => _) ?_ (fun v u h => h)
              intro po153 xx153 hp153 hx153
              refine g_enter2 (k := 422) (N := 300) (by first | exact dq1 hd rfl | exact dq0 hd rfl | exact dq2 hd rfl | exact dq3 hd rfl | omega) rfl (Nat.le_of_ble_eq_true rfl) ?_
              refine g_iload_n 1 (gd rfl) rfl rfl ?_
              refine g_iload_n 2 (gd rfl) rfl rfl ?_
              refine g_cmp_lt 5 9 (gd rfl) rfl rfl (fun c153x2 => ?_) (fun c153x2 => ?_)
              · skip
                have i153x2 := r_lt1 (-1) 999999 c153x2 i135 i149 rfl
                refine g_iload_n 10 (gd rfl) rfl rfl ?_
                refine g_ireturn (gd rfl) rfl rfl (hp153 _ _ ?_)
                show GG _ _ _ _ _ _ _ _ [.int z149, .int z123, .ref (A 51)] _ _ _
                refine g_iastore 157 (gd rfl) rfl (n := 32) rfl (in_ix i123 rfl) ?_
                have hI156 := inv_sI (q := 51) (j := z123.toNatClampNeg) hIc90 rfl (in_w (-1) 1000001 i149 rfl)
                refine g_iinc 160 (gd rfl) rfl rfl (Nat.le_of_ble_eq_true rfl) (fun z157 e157 => ?_)
                have i157 := in_add 1 160 e157 i101 (in_c 1 rfl) rfl rfl
                refine g_goto 90 (gd rfl) rfl ?_
                have n90 : (cb y90_4 : Int) = (u_2_1).toInt - (y29_5).toInt - 1 := by first | exact g90_0 | (have a0 := oa8 j90_5 h3 h2 ro_2_1 i101 j90_6 i110 i157; have a8 := t_add e157 i101 (in_c 1 rfl) rfl; have a9 := oa2 ((in_c 1 rfl)) i99; have a11 := t_add e99 j90_6 (in_c 1 rfl) rfl; omega)
                exact gg_w (by first | exact Nat.le_add_right _ _ | exact gw2 | exact gw3 | exact gwe rfl | exact gwf rfl | exact gwg rfl | exact gwh rfl | omega) (gg_f (gf_cons rfl (gf_cons rfl (gf_cons rfl (gf_cons rfl (gf_cons rfl (gf_cons rfl (gf_cons rfl (gf_cons rfl gf_nil)))))))) (ih90 (sI sc90 51 z123.toNatClampNeg z149) y90_4 y90_6 z157 hI156 (fr_sI rfl hFc90) (in_w 0 31 j90_5 rfl) (in_w 0 31 j90_6 rfl) (in_w 0 160 i157 rfl) n90 (m_up mm90 (t_add e157 i101 (in_c 1 rfl) rfl) (in_w 1 1 (in_c 1 rfl) rfl))))
              · skip
                have i153x2 := r_le2 0 1000001 c153x2 i149 i135 rfl
                refine g_iload_n 6 (gd rfl) rfl rfl ?_
                refine g_goto 10 (gd rfl) rfl ?_
                refine g_ireturn (gd rfl) rfl rfl (hp153 _ _ ?_)
                show GG _ _ _ _ _ _ _ _ [.int z135, .int z123, .ref (A 51)] _ _ _
                refine g_iastore 157 (gd rfl) rfl (n := 32) rfl (in_ix i123 rfl) ?_
                have hI156 := inv_sI (q := 51) (j := z123.toNatClampNeg) hIc90 rfl (in_w (-1) 1000001 i153x2 rfl)
                refine g_iinc 160 (gd rfl) rfl rfl (Nat.le_of_ble_eq_true rfl) (fun z157 e157 => ?_)
                have i157 := in_add 1 160 e157 i101 (in_c 1 rfl) rfl rfl
                refine g_goto 90 (gd rfl) rfl ?_
                have n90 : (cb y90_4 : Int) = (u_2_1).toInt - (y29_5).toInt - 1 := by first | exact g90_0 | (have a0 := oa8 j90_5 h3 h2 ro_2_1 i101 j90_6 i110 i157; have a8 := t_add e157 i101 (in_c 1 rfl) rfl; have a9 := oa2 ((in_c 1 rfl)) i99; have a11 := t_add e99 j90_6 (in_c 1 rfl) rfl; omega)
                exact gg_w (by first | exact Nat.le_add_right _ _ | exact gw2 | exact gw3 | exact gwe rfl | exact gwf rfl | exact gwg rfl | exact gwh rfl | omega) (gg_f (gf_cons rfl (gf_cons rfl (gf_cons rfl (gf_cons rfl (gf_cons rfl (gf_cons rfl (gf_cons rfl (gf_cons rfl gf_nil)))))))) (ih90 (sI sc90 51 z123.toNatClampNeg z135) y90_4 y90_6 z157 hI156 (fr_sI rfl hFc90) (in_w 0 31 j90_5 rfl) (in_w 0 31 j90_6 rfl) (in_w 0 160 i157 rfl) n90 (m_up mm90 (t_add e157 i101 (in_c 1 rfl) rfl) (in_w 1 1 (in_c 1 rfl) rfl))))
            · skip
              have i150x2 := r_le1 (-1) 1000000 c150x2 i142 i149 rfl
              refine g_iload_n 6 (gd rfl) rfl rfl ?_
              refine g_goto 10 (gd rfl) rfl ?_
              refine g_ireturn (gd rfl) rfl rfl (hp150 _ _ ?_)
              show GG _ _ _ _ _ _ _ _ [.int z142, .int z135, .int z123, .ref (A 51)] _ _ _
              refine g_calls (As := [.int z135, .int z142]) (r := [.int z123, .ref (A 51)]) 156 (gd rfl) rfl rfl rfl rfl rfl (Nat.le_of_ble_eq_true rfl) (mc := 0) (ms := 0) (Nat.zero_le _) (Nat.zero_le _) (P := fun v u => _) ?_ (fun v u h => h)
              intro po153 xx153 hp153 hx153
              refine g_enter2 (k := 422) (N := 300) (by first | exact dq1 hd rfl | exact dq0 hd rfl | exact dq2 hd rfl | exact dq3 hd rfl | omega) rfl (Nat.le_of_ble_eq_true rfl) ?_
              refine g_iload_n 1 (gd rfl) rfl rfl ?_
              refine g_iload_n 2 (gd rfl) rfl rfl ?_
              refine g_cmp_lt 5 9 (gd rfl) rfl rfl (fun c153x2 => ?_) (fun c153x2 => ?_)
              · skip
                have i153x2 := r_lt1 (-1) 999999 c153x2 i135 i150x2 rfl
                have i153x2a := r_lt2 0 1000000 c153x2 i135 i150x2 rfl
                refine g_iload_n 10 (gd rfl) rfl rfl ?_
                refine g_ireturn (gd rfl) rfl rfl (hp153 _ _ ?_)
                show GG _ _ _ _ _ _ _ _ [.int z142, .int z123, .ref (A 51)] _ _ _
                refine g_iastore 157 (gd rfl) rfl (n := 32) rfl (in_ix i123 rfl) ?_
                have hI156 := inv_sI (q := 51) (j := z123.toNatClampNeg) hIc90 rfl (in_w (-1) 1000001 i153x2a rfl)
                refine g_iinc 160 (gd rfl) rfl rfl (Nat.le_of_ble_eq_true rfl) (fun z157 e157 => ?_)
                have i157 := in_add 1 160 e157 i101 (in_c 1 rfl) rfl rfl
                refine g_goto 90 (gd rfl) rfl ?_
                have n90 : (cb y90_4 : Int) = (u_2_1).toInt - (y29_5).toInt - 1 := by first | exact g90_0 | (have a0 := oa8 j90_5 h3 h2 ro_2_1 i101 j90_6 i110 i157; have a8 := t_add e157 i101 (in_c 1 rfl) rfl; have a9 := oa2 ((in_c 1 rfl)) i99; have a11 := t_add e99 j90_6 (in_c 1 rfl) rfl; omega)
                exact gg_w (by first | exact Nat.le_add_right _ _ | exact gw2 | exact gw3 | exact gwe rfl | exact gwf rfl | exact gwg rfl | exact gwh rfl | omega) (gg_f (gf_cons rfl (gf_cons rfl (gf_cons rfl (gf_cons rfl (gf_cons rfl (gf_cons rfl (gf_cons rfl (gf_cons rfl gf_nil)))))))) (ih90 (sI sc90 51 z123.toNatClampNeg z142) y90_4 y90_6 z157 hI156 (fr_sI rfl hFc90) (in_w 0 31 j90_5 rfl) (in_w 0 31 j90_6 rfl) (in_w 0 160 i157 rfl) n90 (m_up mm90 (t_add e157 i101 (in_c 1 rfl) rfl) (in_w 1 1 (in_c 1 rfl) rfl))))
              · skip
                refine g_iload_n 6 (gd rfl) rfl rfl ?_
                refine g_goto 10 (gd rfl) rfl ?_
                refine g_ireturn (gd rfl) rfl rfl (hp153 _ _ ?_)
                show GG _ _ _ _ _ _ _ _ [.int z135, .int z123, .ref (A 51)] _ _ _
                refine g_iastore 157 (gd rfl) rfl (n := 32) rfl (in_ix i123 rfl) ?_
                have hI156 := inv_sI (q := 51) (j := z123.toNatClampNeg) hIc90 rfl (in_w (-1) 1000001 i135 rfl)
                refine g_iinc 160 (gd rfl) rfl rfl (Nat.le_of_ble_eq_true rfl) (fun z157 e157 => ?_)
                have i157 := in_add 1 160 e157 i101 (in_c 1 rfl) rfl rfl
                refine g_goto 90 (gd rfl) rfl ?_
                have n90 : (cb y90_4 : Int) = (u_2_1).toInt - (y29_5).toInt - 1 := by first | exact g90_0 | (have a0 := oa8 j90_5 h3 h2 ro_2_1 i101 j90_6 i110 i157; have a8 := t_add e157 i101 (in_c 1 rfl) rfl; have a9 := oa2 ((in_c 1 rfl)) i99; have a11 := t_add e99 j90_6 (in_c 1 rfl) rfl; omega)
                exact gg_w (by first | exact Nat.le_add_right _ _ | exact gw2 | exact gw3 | exact gwe rfl | exact gwf rfl | exact gwg rfl | exact gwh rfl | omega) (gg_f (gf_cons rfl (gf_cons rfl (gf_cons rfl (gf_cons rfl (gf_cons rfl (gf_cons rfl (gf_cons rfl (gf_cons rfl gf_nil)))))))) (ih90 (sI sc90 51 z123.toNatClampNeg z135) y90_4 y90_6 z157 hI156 (fr_sI rfl hFc90) (in_w 0 31 j90_5 rfl) (in_w 0 31 j90_6 rfl) (in_w 0 160 i157 rfl) n90 (m_up mm90 (t_add e157 i101 (in_c 1 rfl) rfl) (in_w 1 1 (in_c 1 rfl) rfl))))
      refine g_iload 31 (gd rfl) rfl rfl ?_
      refine g_aload_n 32 (gd rfl) rfl rfl ?_
      refine g_getI 35 (gd rfl) rfl rfl rfl (fun z32 e32 => ?_)
      have q32 : u_2_1 = z32 := (fr_F e_2_1 hFc29 rfl).trans e32.symm
      subst q32
      refine g_cmp_ge 38 169 (gd rfl) rfl rfl (fun c35 => ?_) (fun c35 => ?_)
      · skip
        refine g_aload_n 170 (gd rfl) rfl rfl ?_
        refine g_getA (q2 := 51) 173 (gd rfl) rfl rfl rfl rfl ?_
        refine g_iload_n 174 (gd rfl) rfl rfl ?_
        refine g_iaload 175 (gd rfl) rfl (n := 32) rfl (in_ix h3 rfl) (fun z174 e174 => ?_)
        have i174 := inv_I hIc29 (n := 32) (t := 0) (-1) 1000001 rfl (in_ix h3 rfl) rfl e174
        exact g_ireturn (gd rfl) rfl rfl (hP _ _ ⟨sc29, hIc29, hFc29, z174, rfl, rfl, in_w (-1) 1000001 i174 rfl⟩)
      · skip
        have i35 := r_lt1 0 31 c35 j29_5 ro_2_1 rfl
        have i35a := r_lt2 1 32 c35 j29_5 ro_2_1 rfl
        refine g_aload_n 39 (gd rfl) rfl rfl ?_
        refine g_iload 41 (gd rfl) rfl rfl ?_
        have nz41 : (y29_4).toInt ≠ 0 := by exact cb_nz (by have a0 := oa4 h3 h2 i35a i35; omega)
        refine g_callv (X := _) (As := [.int y29_4]) (r := []) (b := A 49) (q := 49) 44 (gd rfl) rfl rfl rfl rfl rfl (ww_o rfl) (Nat.le_of_ble_eq_true rfl) (Nat.zero_le _) (Nat.zero_le _) (k_201_49 (by first | exact dq1 hd rfl | exact dq0 hd rfl | exact dq2 hd rfl | exact dq3 hd rfl | omega) hIc29 nz41) (fun e u h => h) (fun v u h => ?_)
        obtain ⟨z41, rfl, rfl, i41, p41⟩ := h
        show GG _ _ _ _ _ _ _ _ [.int z41] _ _ _
        refine g_istore 46 (gd rfl) rfl (Nat.le_of_ble_eq_true rfl) ?_
        refine g_iload 48 (gd rfl) rfl rfl ?_
        refine g_iload_n 49 (gd rfl) rfl rfl ?_
        refine g_cmp_eq 52 63 (gd rfl) rfl rfl (fun c49 => ?_) (fun c49 => ?_)
        · skip
          refine g_aload_n 64 (gd rfl) rfl rfl ?_
          refine g_getA (q2 := 51) 67 (gd rfl) rfl rfl rfl rfl ?_
          refine g_iload_n 68 (gd rfl) rfl rfl ?_
          refine g_iaload 69 (gd rfl) rfl (n := 32) rfl (in_ix h3 rfl) (fun z68 e68 => ?_)
          have i68 := inv_I hIc29 (n := 32) (t := 0) (-1) 1000001 rfl (in_ix h3 rfl) rfl e68
          exact g_ireturn (gd rfl) rfl rfl (hP _ _ ⟨sc29, hIc29, hFc29, z68, rfl, rfl, in_w (-1) 1000001 i68 rfl⟩)
        · skip
          refine g_aload_n 53 (gd rfl) rfl rfl ?_
          refine g_getA (q2 := 51) 56 (gd rfl) rfl rfl rfl rfl ?_
          refine g_iload 58 (gd rfl) rfl rfl ?_
          refine g_iaload 59 (gd rfl) rfl (n := 32) rfl (in_ix i41 rfl) (fun z58 e58 => ?_)
          have i58 := inv_I hIc29 (n := 32) (t := 0) (-1) 1000001 rfl (in_ix i41 rfl) rfl e58
          refine g_iconst (-1) 60 (gd rfl) rfl rfl ?_
          refine g_cmp_ne 63 70 (gd rfl) rfl rfl (fun c60 => ?_) (fun c60 => ?_)
          · skip
            have i60 := r_ne1 0 1000001 c60 i58 (in_c (-1) rfl) rfl
            refine g_iload 72 (gd rfl) rfl rfl ?_
            refine g_iconst 1 73 (gd rfl) rfl rfl ?_
            refine g_iload 75 (gd rfl) rfl rfl ?_
            refine g_ishl 76 (gd rfl) rfl (fun z75 e75 => ?_)
            refine g_iconst (-1) 77 (gd rfl) rfl rfl ?_
            refine g_ixor 78 (gd rfl) rfl (fun z77 e77 => ?_)
            refine g_iand 79 (gd rfl) rfl (fun z78 e78 => ?_)
            have hcb := cb_clr e75 e77 e78 i41 p41
            refine g_istore 81 (gd rfl) rfl (Nat.le_of_ble_eq_true rfl) ?_
            refine g_aload_n 82 (gd rfl) rfl rfl ?_
            refine g_getA (q2 := 12) 85 (gd rfl) rfl rfl rfl rfl ?_
            refine g_iload 87 (gd rfl) rfl rfl ?_
            refine g_iaload 88 (gd rfl) rfl (n := 33) rfl (in_ix i41 rfl) (fun z87 e87 => ?_)
            have i87 := inv_I hIc29 (n := 33) (t := 0) 0 160 rfl (in_ix i41 rfl) rfl e87
            refine g_istore 90 (gd rfl) rfl (Nat.le_of_ble_eq_true rfl) ?_
            have n90 : (cb z78 : Int) = (u_2_1).toInt - (y29_5).toInt - 1 := by have a0 := oa6 h3 h2 i35a i35 i87 i41; omega
            exact gg_w (by first | exact Nat.le_add_right _ _ | exact gw2 | exact gw3 | exact gwe rfl | exact gwf rfl | exact gwg rfl | exact gwh rfl | omega) (gg_f (gf_cons rfl (gf_cons rfl (gf_cons rfl (gf_cons rfl (gf_cons rfl (gf_cons rfl (gf_cons rfl (gf_cons rfl gf_nil)))))))) (ct90 161 sc29 z78 z41 z87 hIc29 hFc29 (in_w 0 31 i35 rfl) (in_w 0 31 i41 rfl) (in_w 0 160 i87 rfl) n90 (m_in 161 (in_w 0 160 i87 rfl) rfl)))
          · skip
            have i60 := r_eq1 (-1) (-1) c60 i58 (in_c (-1) rfl) rfl
            refine g_aload_n 64 (gd rfl) rfl rfl ?_
            refine g_getA (q2 := 51) 67 (gd rfl) rfl rfl rfl rfl ?_
            refine g_iload_n 68 (gd rfl) rfl rfl ?_
            refine g_iaload 69 (gd rfl) rfl (n := 32) rfl (in_ix h3 rfl) (fun z68 e68 => ?_)
            have i68 := inv_I hIc29 (n := 32) (t := 0) (-1) 1000001 rfl (in_ix h3 rfl) rfl e68
            exact g_ireturn (gd rfl) rfl rfl (hP _ _ ⟨sc29, hIc29, hFc29, z68, rfl, rfl, in_w (-1) 1000001 i68 rfl⟩)
  refine g_enter2 (k := 200) (N := 4871734) (by first | exact dq1 hd rfl | exact dq0 hd rfl | exact dq2 hd rfl | exact dq3 hd rfl | omega) rfl (Nat.le_of_ble_eq_true rfl) ?_
  refine g_aload_n 1 (gd rfl) rfl rfl ?_
  refine g_callv (X := _) (As := []) (r := []) (b := A 2) (q := 2) 4 (gd rfl) rfl rfl rfl rfl rfl (ww_o rfl) (Nat.le_of_ble_eq_true rfl) (Nat.zero_le _) (Nat.zero_le _) (k_106_2 (by first | exact dq1 hd rfl | exact dq0 hd rfl | exact dq2 hd rfl | exact dq3 hd rfl | omega) hI ) (fun e u h => h) (fun v u h => ?_)
  obtain ⟨s1, hI1, hF1, n1, rfl, rfl⟩ := h
  obtain ⟨z1a, e1⟩ : ∃ w, w = s1.2.2.1 2 4 := ⟨_, rfl⟩
  have i1a := inv_F hI1 (-1) 4000 rfl e1
  obtain ⟨z1b, e1a⟩ : ∃ w, w = s1.2.2.1 2 0 := ⟨_, rfl⟩
  have i1b := inv_F hI1 0 4000 rfl e1a
  rw [← (show z1a = s1.2.2.1 2 4 from e1)] at n1
  rw [← (show z1b = s1.2.2.1 2 0 from e1a)] at n1
  show GG _ _ _ _ _ _ _ _ [] _ _ _
  refine g_aload_n 5 (gd rfl) rfl rfl ?_
  refine g_getA (q2 := 51) 8 (gd rfl) rfl rfl rfl rfl ?_
  refine g_iconst (-1) 9 (gd rfl) rfl rfl ?_
  refine g_calls (As := [.ref (A 51), .int (Int32.ofInt (-1))]) (r := []) 12 (gd rfl) rfl rfl rfl rfl rfl (Nat.le_of_ble_eq_true rfl) (Nat.zero_le _) (Nat.zero_le _) (k_fillI 51 (by first | exact dq1 hd rfl | exact dq0 hd rfl | exact dq2 hd rfl | exact dq3 hd rfl | omega) hI1 (in_c (-1) rfl) (n := 32) rfl rfl rfl rfl) (fun v u h => ?_)
  obtain ⟨s9, hI9, hF9, rfl, rfl, fl9⟩ := h
  show GG _ _ _ _ _ _ _ _ [] _ _ _
  refine g_aload_n 13 (gd rfl) rfl rfl ?_
  refine g_getA (q2 := 51) 16 (gd rfl) rfl rfl rfl rfl ?_
  refine g_iload_n 17 (gd rfl) rfl rfl ?_
  refine g_ldc 1000001 19 (gd rfl) rfl rfl ?_
  refine g_iastore 20 (gd rfl) rfl (n := 32) rfl (in_ix h2 rfl) ?_
  have hI19 := inv_sI (q := 51) (j := x2.toNatClampNeg) hI9 rfl (in_w (-1) 1000001 (in_c 1000001 rfl) rfl)
  refine g_aload_n 21 (gd rfl) rfl rfl ?_
  refine g_callv (X := _) (As := []) (r := []) (b := A 2) (q := 2) 24 (gd rfl) rfl rfl rfl rfl rfl (ww_o rfl) (Nat.le_of_ble_eq_true rfl) (mc := 0) (ms := 0) (Nat.zero_le _) (Nat.zero_le _) (P := fun v u => _) ?_ (fun e u h => h) (fun v u h => h)
  intro po21 xx21 hp21 hx21
  refine g_enter2 (k := 102) (N := 300) (by first | exact dq1 hd rfl | exact dq0 hd rfl | exact dq2 hd rfl | exact dq3 hd rfl | omega) rfl (Nat.le_of_ble_eq_true rfl) ?_
  refine g_aload_n 1 (gd rfl) rfl rfl ?_
  refine g_getI 4 (gd rfl) rfl rfl rfl (fun z21x1 e21x1 => ?_)
  have q21x1 : u_2_1 = z21x1 := (sI_F (fr_F (fr_F (e_2_1) hF1 rfl) hF9 rfl)).trans e21x1.symm
  subst q21x1
  refine g_bipush 32 6 (gd rfl) rfl rfl ?_
  refine g_cmp_lt 9 13 (gd rfl) rfl rfl (fun c21x6 => ?_) (fun c21x6 => ?_)
  · skip
    have i21x6 := r_lt1 0 31 c21x6 ro_2_1 (in_c 32 rfl) rfl
    refine g_iconst 1 14 (gd rfl) rfl rfl ?_
    refine g_aload_n 15 (gd rfl) rfl rfl ?_
    refine g_getI 18 (gd rfl) rfl rfl rfl (fun z21x15 e21x15 => ?_)
    have q21x15 : u_2_1 = z21x15 := (sI_F (fr_F (fr_F (e_2_1) hF1 rfl) hF9 rfl)).trans e21x15.symm
    subst q21x15
    refine g_ishl 19 (gd rfl) rfl (fun z21x18 e21x18 => ?_)
    refine g_iconst 1 20 (gd rfl) rfl rfl ?_
    refine g_isub 21 (gd rfl) rfl (fun z21x20 e21x20 => ?_)
    refine g_ireturn (gd rfl) rfl rfl (hp21 _ _ ?_)
    show GG _ _ _ _ _ _ _ _ [.int z21x20] _ _ _
    refine g_istore 26 (gd rfl) rfl (Nat.le_of_ble_eq_true rfl) ?_
    refine g_iconst 0 27 (gd rfl) rfl rfl ?_
    refine g_istore 29 (gd rfl) rfl (Nat.le_of_ble_eq_true rfl) ?_
    have n29 : (cb z21x20 : Int) = (u_2_1).toInt - ((Int32.ofInt 0)).toInt := by first | (have hcb := cb_m1; have a0 := oa6 i21x6 h3 h2 ((in_c 0 rfl)) i1b i1a; omega) | (have hcb := cb_all e21x18 e21x20 ‹_›; have a0 := oa6 i21x6 h3 h2 ((in_c 0 rfl)) i1b i1a; omega) | (have a0 := oa6 i21x6 h3 h2 ((in_c 0 rfl)) i1b i1a; omega)
    exact gg_w (by first | exact Nat.le_of_ble_eq_true rfl | omega) (gg_f (gf_cons rfl (gf_cons rfl (gf_cons rfl (gf_cons rfl (gf_cons rfl (gf_cons rfl gf_nil)))))) (ct29 33 (sI s9 51 x2.toNatClampNeg (Int32.ofInt 1000001)) z21x20 (Int32.ofInt 0) hI19 (fr_sI rfl (fr_tr rfl (fr_tr rfl fr_rf hF1) hF9)) (in_w 0 32 (in_c 0 rfl) rfl) n29 (m_in 33 (in_w 0 32 (in_c 0 rfl) rfl) rfl)))
  · skip
    have i21x6 := r_le2 32 32 c21x6 (in_c 32 rfl) ro_2_1 rfl
    refine g_iconst (-1) 10 (gd rfl) rfl rfl ?_
    refine g_goto 21 (gd rfl) rfl ?_
    refine g_ireturn (gd rfl) rfl rfl (hp21 _ _ ?_)
    show GG _ _ _ _ _ _ _ _ [.int (Int32.ofInt (-1))] _ _ _
    refine g_istore 26 (gd rfl) rfl (Nat.le_of_ble_eq_true rfl) ?_
    refine g_iconst 0 27 (gd rfl) rfl rfl ?_
    refine g_istore 29 (gd rfl) rfl (Nat.le_of_ble_eq_true rfl) ?_
    have n29 : (cb (Int32.ofInt (-1)) : Int) = (u_2_1).toInt - ((Int32.ofInt 0)).toInt := by first | (have hcb := cb_m1; have a0 := oa7 i21x6 h3 h2 ((in_c 0 rfl)) ((in_c (-1) rfl)) i1b i1a; omega) | (have hcb := cb_all e21x18 e21x20 ‹_›; have a0 := oa7 i21x6 h3 h2 ((in_c 0 rfl)) ((in_c (-1) rfl)) i1b i1a; omega) | (have a0 := oa7 i21x6 h3 h2 ((in_c 0 rfl)) ((in_c (-1) rfl)) i1b i1a; omega)
    exact gg_w (by first | exact Nat.le_of_ble_eq_true rfl | omega) (gg_f (gf_cons rfl (gf_cons rfl (gf_cons rfl (gf_cons rfl (gf_cons rfl (gf_cons rfl gf_nil)))))) (ct29 33 (sI s9 51 x2.toNatClampNeg (Int32.ofInt 1000001)) (Int32.ofInt (-1)) (Int32.ofInt 0) hI19 (fr_sI rfl (fr_tr rfl (fr_tr rfl fr_rf hF1) hF9)) (in_w 0 32 (in_c 0 rfl) rfl) n29 (m_in 33 (in_w 0 32 (in_c 0 rfl) rfl) rfl)))

def fm_200_49_32 : FM := ([39, 40, 41, 42, 43, 44, 45, 51], [], [(32, 4)], [])
/-- GraphHouse$Ways.widest -/
theorem k_200_49_32 {Z : AmZ} {A : Nat → Nat} {s : GS} {ex : va_W} {d : Nat} {X : AmX} {x2 : Int32} {x3 : Int32} (hd : 5 ≤ d) (hI : Inv s) (h2 : In x2 0 31) (h3 : In x3 0 31) : GC Z d 200 [.ref (A 49), .ref (A 32), .int x2, .int x3] (WW Z A s ++ ex) 0 0 (fun v u => ∃ t : GS, Inv t ∧ Fr fm_200_49_32 s t ∧ ∃ z : Int32, v = some (.int z) ∧ u = WW Z A t ++ ex ∧ In z (-1) 1000001) X := by
  intro post xp hP hX
  obtain ⟨u_32_1, e_32_1⟩ : ∃ w, w = s.2.2.1 32 1 := ⟨_, rfl⟩
  have ro_32_1 := inv_F hI 0 32 rfl e_32_1
  have ct29 : ∀ (k29 : Nat) (sc29 : GS) (y29_4 : Int32) (y29_5 : Int32), Inv sc29 → Fr fm_200_49_32 s sc29 → (In y29_5 0 32) → ((cb y29_4 : Int) = (u_32_1).toInt - (y29_5).toInt) → 32 - (y29_5).toInt < (k29 : Int) → GG Z (d - 1) 200 post (gx xp) (1 + k29 * 147601) 29 (fun j => xlook j [(0, .ref (A 49)), (1, .ref (A 32)), (2, .int x2), (3, .int x3), (4, .int y29_4), (5, .int y29_5)]) [] (WW Z A sc29 ++ ex) 0 0 := by
    intro k29
    induction k29 with
    | zero => intro sc29 y29_4 y29_5 hIc29 hFc29 j29_5 g29_0 mm29; exact m_no mm29 j29_5 rfl
    | succ k29 ih29 =>
      intro sc29 y29_4 y29_5 hIc29 hFc29 j29_5 g29_0 mm29
      refine gg_w (M := 1 + k29 * 147601 + 147601) gws ?_
      have ct90 : ∀ (k90 : Nat) (sc90 : GS) (y90_4 : Int32) (y90_6 : Int32) (y90_7 : Int32), Inv sc90 → Fr fm_200_49_32 s sc90 → (In y29_5 0 31) → (In y90_6 0 31) → (In y90_7 0 160) → ((cb y90_4 : Int) = (u_32_1).toInt - (y29_5).toInt - 1) → 160 - (y90_7).toInt < (k90 : Int) → GG Z (d - 1) 200 post (gx xp) (1 + k29 * 147601 + 1 + k90 * 900) 90 (fun j => xlook j [(0, .ref (A 49)), (1, .ref (A 32)), (2, .int x2), (3, .int x3), (4, .int y90_4), (5, .int y29_5), (6, .int y90_6), (7, .int y90_7)]) [] (WW Z A sc90 ++ ex) 0 0 := by
        intro k90
        induction k90 with
        | zero => intro sc90 y90_4 y90_6 y90_7 hIc90 hFc90 j90_5 j90_6 j90_7 g90_0 mm90; exact m_no mm90 j90_7 rfl
        | succ k90 ih90 =>
          intro sc90 y90_4 y90_6 y90_7 hIc90 hFc90 j90_5 j90_6 j90_7 g90_0 mm90
          refine gg_w (M := 1 + k29 * 147601 + 1 + k90 * 900 + 900) gws ?_
          refine g_iload 92 (gd rfl) rfl rfl ?_
          refine g_aload_n 93 (gd rfl) rfl rfl ?_
          refine g_getA (q2 := 42) 96 (gd rfl) rfl rfl rfl rfl ?_
          refine g_iload 98 (gd rfl) rfl rfl ?_
          refine g_iconst 1 99 (gd rfl) rfl rfl ?_
          refine g_iadd 100 (gd rfl) rfl (fun z99 e99 => ?_)
          have i99 := in_add 1 32 e99 j90_6 (in_c 1 rfl) rfl rfl
          refine g_iaload 101 (gd rfl) rfl (n := 33) rfl (in_ix i99 rfl) (fun z100 e100 => ?_)
          have i100 := inv_I hIc90 (n := 33) (t := 0) 0 160 rfl (in_ix i99 rfl) rfl e100
          refine g_cmp_ge 104 163 (gd rfl) rfl rfl (fun c101 => ?_) (fun c101 => ?_)
          · skip
            refine g_iinc 166 (gd rfl) rfl rfl (Nat.le_of_ble_eq_true rfl) (fun z163 e163 => ?_)
            have i163 := in_add 1 32 e163 j90_5 (in_c 1 rfl) rfl rfl
            refine g_goto 29 (gd rfl) rfl ?_
            have n29 : (cb y90_4 : Int) = (u_32_1).toInt - (z163).toInt := by first | (have hcb := cb_m1; have a0 := oa7 j90_5 h3 h2 ro_32_1 j90_7 j90_6 i163; have a7 := t_add e163 j90_5 (in_c 1 rfl) rfl; have a8 := oa2 ((in_c 1 rfl)) i99; have a10 := t_add e99 j90_6 (in_c 1 rfl) rfl; omega) | (have hcb := cb_all e21x18 e21x20 ‹_›; have a0 := oa7 j90_5 h3 h2 ro_32_1 j90_7 j90_6 i163; have a7 := t_add e163 j90_5 (in_c 1 rfl) rfl; have a8 := oa2 ((in_c 1 rfl)) i99; have a10 := t_add e99 j90_6 (in_c 1 rfl) rfl; omega) | (have a0 := oa7 j90_5 h3 h2 ro_32_1 j90_7 j90_6 i163; have a7 := t_add e163 j90_5 (in_c 1 rfl) rfl; have a8 := oa2 ((in_c 1 rfl)) i99; have a10 := t_add e99 j90_6 (in_c 1 rfl) rfl; omega)
            exact gg_w (by first | exact Nat.le_add_right _ _ | exact gw2 | exact gw3 | exact gwe rfl | exact gwf rfl | exact gwg rfl | exact gwh rfl | omega) (gg_f (gf_cons rfl (gf_cons rfl (gf_cons rfl (gf_cons rfl (gf_cons rfl (gf_cons rfl gf_nil)))))) (ih29 sc90 y90_4 z163 hIc90 hFc90 (in_w 0 32 i163 rfl) n29 (m_up mm29 (t_add e163 j90_5 (in_c 1 rfl) rfl) (in_w 1 1 (in_c 1 rfl) rfl))))
          · skip
            have i101 := r_lt1 0 159 c101 j90_7 i100 rfl
            have i101a := r_lt2 1 160 c101 j90_7 i100 rfl
            refine g_aload_n 105 (gd rfl) rfl rfl ?_
            refine g_getA (q2 := 43) 108 (gd rfl) rfl rfl rfl rfl ?_
            refine g_iload 110 (gd rfl) rfl rfl ?_
            refine g_iaload 111 (gd rfl) rfl (n := 160) rfl (in_ix i101 rfl) (fun z110 e110 => ?_)
            have i110 := inv_I hIc90 (n := 160) (t := 0) 0 159 rfl (in_ix i101 rfl) rfl e110
            refine g_istore 113 (gd rfl) rfl (Nat.le_of_ble_eq_true rfl) ?_
            refine g_aload_n 114 (gd rfl) rfl rfl ?_
            refine g_getA (q2 := 51) 117 (gd rfl) rfl rfl rfl rfl ?_
            refine g_aload_n 118 (gd rfl) rfl rfl ?_
            refine g_getA (q2 := 35) 121 (gd rfl) rfl rfl rfl rfl ?_
            refine g_iload 123 (gd rfl) rfl rfl ?_
            refine g_iaload 124 (gd rfl) rfl (n := 160) rfl (in_ix i110 rfl) (fun z123 e123 => ?_)
            have i123 := inv_I hIc90 (n := 160) (t := 0) 0 31 rfl (in_ix i110 rfl) rfl e123
            refine g_aload_n 125 (gd rfl) rfl rfl ?_
            refine g_getA (q2 := 51) 128 (gd rfl) rfl rfl rfl rfl ?_
            refine g_aload_n 129 (gd rfl) rfl rfl ?_
            refine g_getA (q2 := 35) 132 (gd rfl) rfl rfl rfl rfl ?_
            refine g_iload 134 (gd rfl) rfl rfl ?_
            refine g_iaload 135 (gd rfl) rfl (n := 160) rfl (in_ix i110 rfl) (fun z134 e134 => ?_)
            have q134 : z123 = z134 := (e123).trans e134.symm
            subst q134
            refine g_iaload 136 (gd rfl) rfl (n := 32) rfl (in_ix i123 rfl) (fun z135 e135 => ?_)
            have i135 := inv_I hIc90 (n := 32) (t := 0) (-1) 1000001 rfl (in_ix i123 rfl) rfl e135
            refine g_aload_n 137 (gd rfl) rfl rfl ?_
            refine g_getA (q2 := 51) 140 (gd rfl) rfl rfl rfl rfl ?_
            refine g_iload 142 (gd rfl) rfl rfl ?_
            refine g_iaload 143 (gd rfl) rfl (n := 32) rfl (in_ix j90_6 rfl) (fun z142 e142 => ?_)
            have i142 := inv_I hIc90 (n := 32) (t := 0) (-1) 1000001 rfl (in_ix j90_6 rfl) rfl e142
            refine g_aload_n 144 (gd rfl) rfl rfl ?_
            refine g_getA (q2 := 37) 147 (gd rfl) rfl rfl rfl rfl ?_
            refine g_iload 149 (gd rfl) rfl rfl ?_
            refine g_iaload 150 (gd rfl) rfl (n := 160) rfl (in_ix i110 rfl) (fun z149 e149 => ?_)
            have i149 := inv_I hIc90 (n := 160) (t := 0) 0 1000000 rfl (in_ix i110 rfl) rfl e149
            refine g_calls (As := [.int z142, .int z149]) (r := [.int z135, .int z123, .ref (A 51)]) 153 (gd rfl) rfl rfl rfl rfl rfl (Nat.le_of_ble_eq_true rfl) (mc := 0) (ms := 0) (Nat.zero_le _) (Nat.zero_le _) (P := fun v u => _) ?_ (fun v u h => h)
            intro po150 xx150 hp150 hx150
            refine g_enter2 (k := 424) (N := 300) (by first | exact dq1 hd rfl | exact dq0 hd rfl | exact dq2 hd rfl | exact dq3 hd rfl | omega) rfl (Nat.le_of_ble_eq_true rfl) ?_
            refine g_iload_n 1 (gd rfl) rfl rfl ?_
            refine g_iload_n 2 (gd rfl) rfl rfl ?_
            refine g_cmp_gt 5 9 (gd rfl) rfl rfl (fun c150x2 => ?_) (fun c150x2 => ?_)
            · skip
              have i150x2 := r_lt2 1 1000001 c150x2 i149 i142 rfl
              refine g_iload_n 10 (gd rfl) rfl rfl ?_
              refine g_ireturn (gd rfl) rfl rfl (hp150 _ _ ?_)
              show GG _ _ _ _ _ _ _ _ [.int z149, .int z135, .int z123, .ref (A 51)] _ _ _
              refine g_calls (As := [.int z135, .int z149]) (r := [.int z123, .ref (A 51)]) 156 (gd rfl) rfl rfl rfl rfl rfl (Nat.le_of_ble_eq_true rfl) (mc := 0) (ms := 0) (Nat.zero_le _) (Nat.zero_le _) (P := fun v u => _) ?_ (fun v u h => h)
              intro po153 xx153 hp153 hx153
              refine g_enter2 (k := 422) (N := 300) (by first | exact dq1 hd rfl | exact dq0 hd rfl | exact dq2 hd rfl | exact dq3 hd rfl | omega) rfl (Nat.le_of_ble_eq_true rfl) ?_
              refine g_iload_n 1 (gd rfl) rfl rfl ?_
              refine g_iload_n 2 (gd rfl) rfl rfl ?_
              refine g_cmp_lt 5 9 (gd rfl) rfl rfl (fun c153x2 => ?_) (fun c153x2 => ?_)
              · skip
                have i153x2 := r_lt1 (-1) 999999 c153x2 i135 i149 rfl
                refine g_iload_n 10 (gd rfl) rfl rfl ?_
                refine g_ireturn (gd rfl) rfl rfl (hp153 _ _ ?_)
                show GG _ _ _ _ _ _ _ _ [.int z149, .int z123, .ref (A 51)] _ _ _
                refine g_iastore 157 (gd rfl) rfl (n := 32) rfl (in_ix i123 rfl) ?_
                have hI156 := inv_sI (q := 51) (j := z123.toNatClampNeg) hIc90 rfl (in_w (-1) 1000001 i149 rfl)
                refine g_iinc 160 (gd rfl) rfl rfl (Nat.le_of_ble_eq_true rfl) (fun z157 e157 => ?_)
                have i157 := in_add 1 160 e157 i101 (in_c 1 rfl) rfl rfl
                refine g_goto 90 (gd rfl) rfl ?_
                have n90 : (cb y90_4 : Int) = (u_32_1).toInt - (y29_5).toInt - 1 := by first | exact g90_0 | (have a0 := oa8 j90_5 h3 h2 ro_32_1 i101 j90_6 i110 i157; have a8 := t_add e157 i101 (in_c 1 rfl) rfl; have a9 := oa2 ((in_c 1 rfl)) i99; have a11 := t_add e99 j90_6 (in_c 1 rfl) rfl; omega)
                exact gg_w (by first | exact Nat.le_add_right _ _ | exact gw2 | exact gw3 | exact gwe rfl | exact gwf rfl | exact gwg rfl | exact gwh rfl | omega) (gg_f (gf_cons rfl (gf_cons rfl (gf_cons rfl (gf_cons rfl (gf_cons rfl (gf_cons rfl (gf_cons rfl (gf_cons rfl gf_nil)))))))) (ih90 (sI sc90 51 z123.toNatClampNeg z149) y90_4 y90_6 z157 hI156 (fr_sI rfl hFc90) (in_w 0 31 j90_5 rfl) (in_w 0 31 j90_6 rfl) (in_w 0 160 i157 rfl) n90 (m_up mm90 (t_add e157 i101 (in_c 1 rfl) rfl) (in_w 1 1 (in_c 1 rfl) rfl))))
              · skip
                have i153x2 := r_le2 0 1000001 c153x2 i149 i135 rfl
                refine g_iload_n 6 (gd rfl) rfl rfl ?_
                refine g_goto 10 (gd rfl) rfl ?_
                refine g_ireturn (gd rfl) rfl rfl (hp153 _ _ ?_)
                show GG _ _ _ _ _ _ _ _ [.int z135, .int z123, .ref (A 51)] _ _ _
                refine g_iastore 157 (gd rfl) rfl (n := 32) rfl (in_ix i123 rfl) ?_
                have hI156 := inv_sI (q := 51) (j := z123.toNatClampNeg) hIc90 rfl (in_w (-1) 1000001 i153x2 rfl)
                refine g_iinc 160 (gd rfl) rfl rfl (Nat.le_of_ble_eq_true rfl) (fun z157 e157 => ?_)
                have i157 := in_add 1 160 e157 i101 (in_c 1 rfl) rfl rfl
                refine g_goto 90 (gd rfl) rfl ?_
                have n90 : (cb y90_4 : Int) = (u_32_1).toInt - (y29_5).toInt - 1 := by first | exact g90_0 | (have a0 := oa8 j90_5 h3 h2 ro_32_1 i101 j90_6 i110 i157; have a8 := t_add e157 i101 (in_c 1 rfl) rfl; have a9 := oa2 ((in_c 1 rfl)) i99; have a11 := t_add e99 j90_6 (in_c 1 rfl) rfl; omega)
                exact gg_w (by first | exact Nat.le_add_right _ _ | exact gw2 | exact gw3 | exact gwe rfl | exact gwf rfl | exact gwg rfl | exact gwh rfl | omega) (gg_f (gf_cons rfl (gf_cons rfl (gf_cons rfl (gf_cons rfl (gf_cons rfl (gf_cons rfl (gf_cons rfl (gf_cons rfl gf_nil)))))))) (ih90 (sI sc90 51 z123.toNatClampNeg z135) y90_4 y90_6 z157 hI156 (fr_sI rfl hFc90) (in_w 0 31 j90_5 rfl) (in_w 0 31 j90_6 rfl) (in_w 0 160 i157 rfl) n90 (m_up mm90 (t_add e157 i101 (in_c 1 rfl) rfl) (in_w 1 1 (in_c 1 rfl) rfl))))
            · skip
              have i150x2 := r_le1 (-1) 1000000 c150x2 i142 i149 rfl
              refine g_iload_n 6 (gd rfl) rfl rfl ?_
              refine g_goto 10 (gd rfl) rfl ?_
              refine g_ireturn (gd rfl) rfl rfl (hp150 _ _ ?_)
              show GG _ _ _ _ _ _ _ _ [.int z142, .int z135, .int z123, .ref (A 51)] _ _ _
              refine g_calls (As := [.int z135, .int z142]) (r := [.int z123, .ref (A 51)]) 156 (gd rfl) rfl rfl rfl rfl rfl (Nat.le_of_ble_eq_true rfl) (mc := 0) (ms := 0) (Nat.zero_le _) (Nat.zero_le _) (P := fun v u => _) ?_ (fun v u h => h)
              intro po153 xx153 hp153 hx153
              refine g_enter2 (k := 422) (N := 300) (by first | exact dq1 hd rfl | exact dq0 hd rfl | exact dq2 hd rfl | exact dq3 hd rfl | omega) rfl (Nat.le_of_ble_eq_true rfl) ?_
              refine g_iload_n 1 (gd rfl) rfl rfl ?_
              refine g_iload_n 2 (gd rfl) rfl rfl ?_
              refine g_cmp_lt 5 9 (gd rfl) rfl rfl (fun c153x2 => ?_) (fun c153x2 => ?_)
              · skip
                have i153x2 := r_lt1 (-1) 999999 c153x2 i135 i150x2 rfl
                have i153x2a := r_lt2 0 1000000 c153x2 i135 i150x2 rfl
                refine g_iload_n 10 (gd rfl) rfl rfl ?_
                refine g_ireturn (gd rfl) rfl rfl (hp153 _ _ ?_)
                show GG _ _ _ _ _ _ _ _ [.int z142, .int z123, .ref (A 51)] _ _ _
                refine g_iastore 157 (gd rfl) rfl (n := 32) rfl (in_ix i123 rfl) ?_
                have hI156 := inv_sI (q := 51) (j := z123.toNatClampNeg) hIc90 rfl (in_w (-1) 1000001 i153x2a rfl)
                refine g_iinc 160 (gd rfl) rfl rfl (Nat.le_of_ble_eq_true rfl) (fun z157 e157 => ?_)
                have i157 := in_add 1 160 e157 i101 (in_c 1 rfl) rfl rfl
                refine g_goto 90 (gd rfl) rfl ?_
                have n90 : (cb y90_4 : Int) = (u_32_1).toInt - (y29_5).toInt - 1 := by first | exact g90_0 | (have a0 := oa8 j90_5 h3 h2 ro_32_1 i101 j90_6 i110 i157; have a8 := t_add e157 i101 (in_c 1 rfl) rfl; have a9 := oa2 ((in_c 1 rfl)) i99; have a11 := t_add e99 j90_6 (in_c 1 rfl) rfl; omega)
                exact gg_w (by first | exact Nat.le_add_right _ _ | exact gw2 | exact gw3 | exact gwe rfl | exact gwf rfl | exact gwg rfl | exact gwh rfl | omega) (gg_f (gf_cons rfl (gf_cons rfl (gf_cons rfl (gf_cons rfl (gf_cons rfl (gf_cons rfl (gf_cons rfl (gf_cons rfl gf_nil)))))))) (ih90 (sI sc90 51 z123.toNatClampNeg z142) y90_4 y90_6 z157 hI156 (fr_sI rfl hFc90) (in_w 0 31 j90_5 rfl) (in_w 0 31 j90_6 rfl) (in_w 0 160 i157 rfl) n90 (m_up mm90 (t_add e157 i101 (in_c 1 rfl) rfl) (in_w 1 1 (in_c 1 rfl) rfl))))
              · skip
                refine g_iload_n 6 (gd rfl) rfl rfl ?_
                refine g_goto 10 (gd rfl) rfl ?_
                refine g_ireturn (gd rfl) rfl rfl (hp153 _ _ ?_)
                show GG _ _ _ _ _ _ _ _ [.int z135, .int z123, .ref (A 51)] _ _ _
                refine g_iastore 157 (gd rfl) rfl (n := 32) rfl (in_ix i123 rfl) ?_
                have hI156 := inv_sI (q := 51) (j := z123.toNatClampNeg) hIc90 rfl (in_w (-1) 1000001 i135 rfl)
                refine g_iinc 160 (gd rfl) rfl rfl (Nat.le_of_ble_eq_true rfl) (fun z157 e157 => ?_)
                have i157 := in_add 1 160 e157 i101 (in_c 1 rfl) rfl rfl
                refine g_goto 90 (gd rfl) rfl ?_
                have n90 : (cb y90_4 : Int) = (u_32_1).toInt - (y29_5).toInt - 1 := by first | exact g90_0 | (have a0 := oa8 j90_5 h3 h2 ro_32_1 i101 j90_6 i110 i157; have a8 := t_add e157 i101 (in_c 1 rfl) rfl; have a9 := oa2 ((in_c 1 rfl)) i99; have a11 := t_add e99 j90_6 (in_c 1 rfl) rfl; omega)
                exact gg_w (by first | exact Nat.le_add_right _ _ | exact gw2 | exact gw3 | exact gwe rfl | exact gwf rfl | exact gwg rfl | exact gwh rfl | omega) (gg_f (gf_cons rfl (gf_cons rfl (gf_cons rfl (gf_cons rfl (gf_cons rfl (gf_cons rfl (gf_cons rfl (gf_cons rfl gf_nil)))))))) (ih90 (sI sc90 51 z123.toNatClampNeg z135) y90_4 y90_6 z157 hI156 (fr_sI rfl hFc90) (in_w 0 31 j90_5 rfl) (in_w 0 31 j90_6 rfl) (in_w 0 160 i157 rfl) n90 (m_up mm90 (t_add e157 i101 (in_c 1 rfl) rfl) (in_w 1 1 (in_c 1 rfl) rfl))))
      refine g_iload 31 (gd rfl) rfl rfl ?_
      refine g_aload_n 32 (gd rfl) rfl rfl ?_
      refine g_getI 35 (gd rfl) rfl rfl rfl (fun z32 e32 => ?_)
      have q32 : u_32_1 = z32 := (fr_F e_32_1 hFc29 rfl).trans e32.symm
      subst q32
      refine g_cmp_ge 38 169 (gd rfl) rfl rfl (fun c35 => ?_) (fun c35 => ?_)
      · skip
        refine g_aload_n 170 (gd rfl) rfl rfl ?_
        refine g_getA (q2 := 51) 173 (gd rfl) rfl rfl rfl rfl ?_
        refine g_iload_n 174 (gd rfl) rfl rfl ?_
        refine g_iaload 175 (gd rfl) rfl (n := 32) rfl (in_ix h3 rfl) (fun z174 e174 => ?_)
        have i174 := inv_I hIc29 (n := 32) (t := 0) (-1) 1000001 rfl (in_ix h3 rfl) rfl e174
        exact g_ireturn (gd rfl) rfl rfl (hP _ _ ⟨sc29, hIc29, hFc29, z174, rfl, rfl, in_w (-1) 1000001 i174 rfl⟩)
      · skip
        have i35 := r_lt1 0 31 c35 j29_5 ro_32_1 rfl
        have i35a := r_lt2 1 32 c35 j29_5 ro_32_1 rfl
        refine g_aload_n 39 (gd rfl) rfl rfl ?_
        refine g_iload 41 (gd rfl) rfl rfl ?_
        have nz41 : (y29_4).toInt ≠ 0 := by exact cb_nz (by have a0 := oa4 h3 h2 i35a i35; omega)
        refine g_callv (X := _) (As := [.int y29_4]) (r := []) (b := A 49) (q := 49) 44 (gd rfl) rfl rfl rfl rfl rfl (ww_o rfl) (Nat.le_of_ble_eq_true rfl) (Nat.zero_le _) (Nat.zero_le _) (k_201_49 (by first | exact dq1 hd rfl | exact dq0 hd rfl | exact dq2 hd rfl | exact dq3 hd rfl | omega) hIc29 nz41) (fun e u h => h) (fun v u h => ?_)
        obtain ⟨z41, rfl, rfl, i41, p41⟩ := h
        show GG _ _ _ _ _ _ _ _ [.int z41] _ _ _
        refine g_istore 46 (gd rfl) rfl (Nat.le_of_ble_eq_true rfl) ?_
        refine g_iload 48 (gd rfl) rfl rfl ?_
        refine g_iload_n 49 (gd rfl) rfl rfl ?_
        refine g_cmp_eq 52 63 (gd rfl) rfl rfl (fun c49 => ?_) (fun c49 => ?_)
        · skip
          refine g_aload_n 64 (gd rfl) rfl rfl ?_
          refine g_getA (q2 := 51) 67 (gd rfl) rfl rfl rfl rfl ?_
          refine g_iload_n 68 (gd rfl) rfl rfl ?_
          refine g_iaload 69 (gd rfl) rfl (n := 32) rfl (in_ix h3 rfl) (fun z68 e68 => ?_)
          have i68 := inv_I hIc29 (n := 32) (t := 0) (-1) 1000001 rfl (in_ix h3 rfl) rfl e68
          exact g_ireturn (gd rfl) rfl rfl (hP _ _ ⟨sc29, hIc29, hFc29, z68, rfl, rfl, in_w (-1) 1000001 i68 rfl⟩)
        · skip
          refine g_aload_n 53 (gd rfl) rfl rfl ?_
          refine g_getA (q2 := 51) 56 (gd rfl) rfl rfl rfl rfl ?_
          refine g_iload 58 (gd rfl) rfl rfl ?_
          refine g_iaload 59 (gd rfl) rfl (n := 32) rfl (in_ix i41 rfl) (fun z58 e58 => ?_)
          have i58 := inv_I hIc29 (n := 32) (t := 0) (-1) 1000001 rfl (in_ix i41 rfl) rfl e58
          refine g_iconst (-1) 60 (gd rfl) rfl rfl ?_
          refine g_cmp_ne 63 70 (gd rfl) rfl rfl (fun c60 => ?_) (fun c60 => ?_)
          · skip
            have i60 := r_ne1 0 1000001 c60 i58 (in_c (-1) rfl) rfl
            refine g_iload 72 (gd rfl) rfl rfl ?_
            refine g_iconst 1 73 (gd rfl) rfl rfl ?_
            refine g_iload 75 (gd rfl) rfl rfl ?_
            refine g_ishl 76 (gd rfl) rfl (fun z75 e75 => ?_)
            refine g_iconst (-1) 77 (gd rfl) rfl rfl ?_
            refine g_ixor 78 (gd rfl) rfl (fun z77 e77 => ?_)
            refine g_iand 79 (gd rfl) rfl (fun z78 e78 => ?_)
            have hcb := cb_clr e75 e77 e78 i41 p41
            refine g_istore 81 (gd rfl) rfl (Nat.le_of_ble_eq_true rfl) ?_
            refine g_aload_n 82 (gd rfl) rfl rfl ?_
            refine g_getA (q2 := 42) 85 (gd rfl) rfl rfl rfl rfl ?_
            refine g_iload 87 (gd rfl) rfl rfl ?_
            refine g_iaload 88 (gd rfl) rfl (n := 33) rfl (in_ix i41 rfl) (fun z87 e87 => ?_)
            have i87 := inv_I hIc29 (n := 33) (t := 0) 0 160 rfl (in_ix i41 rfl) rfl e87
            refine g_istore 90 (gd rfl) rfl (Nat.le_of_ble_eq_true rfl) ?_
            have n90 : (cb z78 : Int) = (u_32_1).toInt - (y29_5).toInt - 1 := by have a0 := oa6 h3 h2 i35a i35 i87 i41; omega
            exact gg_w (by first | exact Nat.le_add_right _ _ | exact gw2 | exact gw3 | exact gwe rfl | exact gwf rfl | exact gwg rfl | exact gwh rfl | omega) (gg_f (gf_cons rfl (gf_cons rfl (gf_cons rfl (gf_cons rfl (gf_cons rfl (gf_cons rfl (gf_cons rfl (gf_cons rfl gf_nil)))))))) (ct90 161 sc29 z78 z41 z87 hIc29 hFc29 (in_w 0 31 i35 rfl) (in_w 0 31 i41 rfl) (in_w 0 160 i87 rfl) n90 (m_in 161 (in_w 0 160 i87 rfl) rfl)))
          · skip
            have i60 := r_eq1 (-1) (-1) c60 i58 (in_c (-1) rfl) rfl
            refine g_aload_n 64 (gd rfl) rfl rfl ?_
            refine g_getA (q2 := 51) 67 (gd rfl) rfl rfl rfl rfl ?_
            refine g_iload_n 68 (gd rfl) rfl rfl ?_
            refine g_iaload 69 (gd rfl) rfl (n := 32) rfl (in_ix h3 rfl) (fun z68 e68 => ?_)
            have i68 := inv_I hIc29 (n := 32) (t := 0) (-1) 1000001 rfl (in_ix h3 rfl) rfl e68
            exact g_ireturn (gd rfl) rfl rfl (hP _ _ ⟨sc29, hIc29, hFc29, z68, rfl, rfl, in_w (-1) 1000001 i68 rfl⟩)
  refine g_enter2 (k := 200) (N := 4871734) (by first | exact dq1 hd rfl | exact dq0 hd rfl | exact dq2 hd rfl | exact dq3 hd rfl | omega) rfl (Nat.le_of_ble_eq_true rfl) ?_
  refine g_aload_n 1 (gd rfl) rfl rfl ?_
  refine g_callv (X := _) (As := []) (r := []) (b := A 32) (q := 32) 4 (gd rfl) rfl rfl rfl rfl rfl (ww_o rfl) (Nat.le_of_ble_eq_true rfl) (Nat.zero_le _) (Nat.zero_le _) (k_106_32 (by first | exact dq1 hd rfl | exact dq0 hd rfl | exact dq2 hd rfl | exact dq3 hd rfl | omega) hI ) (fun e u h => h) (fun v u h => ?_)
  obtain ⟨s1, hI1, hF1, n1, rfl, rfl⟩ := h
  obtain ⟨z1a, e1⟩ : ∃ w, w = s1.2.2.1 32 4 := ⟨_, rfl⟩
  have i1a := inv_F hI1 (-1) 4000 rfl e1
  obtain ⟨z1b, e1a⟩ : ∃ w, w = s1.2.2.1 32 0 := ⟨_, rfl⟩
  have i1b := inv_F hI1 0 4000 rfl e1a
  rw [← (show z1a = s1.2.2.1 32 4 from e1)] at n1
  rw [← (show z1b = s1.2.2.1 32 0 from e1a)] at n1
  show GG _ _ _ _ _ _ _ _ [] _ _ _
  refine g_aload_n 5 (gd rfl) rfl rfl ?_
  refine g_getA (q2 := 51) 8 (gd rfl) rfl rfl rfl rfl ?_
  refine g_iconst (-1) 9 (gd rfl) rfl rfl ?_
  refine g_calls (As := [.ref (A 51), .int (Int32.ofInt (-1))]) (r := []) 12 (gd rfl) rfl rfl rfl rfl rfl (Nat.le_of_ble_eq_true rfl) (Nat.zero_le _) (Nat.zero_le _) (k_fillI 51 (by first | exact dq1 hd rfl | exact dq0 hd rfl | exact dq2 hd rfl | exact dq3 hd rfl | omega) hI1 (in_c (-1) rfl) (n := 32) rfl rfl rfl rfl) (fun v u h => ?_)
  obtain ⟨s9, hI9, hF9, rfl, rfl, fl9⟩ := h
  show GG _ _ _ _ _ _ _ _ [] _ _ _
  refine g_aload_n 13 (gd rfl) rfl rfl ?_
  refine g_getA (q2 := 51) 16 (gd rfl) rfl rfl rfl rfl ?_
  refine g_iload_n 17 (gd rfl) rfl rfl ?_
  refine g_ldc 1000001 19 (gd rfl) rfl rfl ?_
  refine g_iastore 20 (gd rfl) rfl (n := 32) rfl (in_ix h2 rfl) ?_
  have hI19 := inv_sI (q := 51) (j := x2.toNatClampNeg) hI9 rfl (in_w (-1) 1000001 (in_c 1000001 rfl) rfl)
  refine g_aload_n 21 (gd rfl) rfl rfl ?_
  refine g_callv (X := _) (As := []) (r := []) (b := A 32) (q := 32) 24 (gd rfl) rfl rfl rfl rfl rfl (ww_o rfl) (Nat.le_of_ble_eq_true rfl) (mc := 0) (ms := 0) (Nat.zero_le _) (Nat.zero_le _) (P := fun v u => _) ?_ (fun e u h => h) (fun v u h => h)
  intro po21 xx21 hp21 hx21
  refine g_enter2 (k := 102) (N := 300) (by first | exact dq1 hd rfl | exact dq0 hd rfl | exact dq2 hd rfl | exact dq3 hd rfl | omega) rfl (Nat.le_of_ble_eq_true rfl) ?_
  refine g_aload_n 1 (gd rfl) rfl rfl ?_
  refine g_getI 4 (gd rfl) rfl rfl rfl (fun z21x1 e21x1 => ?_)
  have q21x1 : u_32_1 = z21x1 := (sI_F (fr_F (fr_F (e_32_1) hF1 rfl) hF9 rfl)).trans e21x1.symm
  subst q21x1
  refine g_bipush 32 6 (gd rfl) rfl rfl ?_
  refine g_cmp_lt 9 13 (gd rfl) rfl rfl (fun c21x6 => ?_) (fun c21x6 => ?_)
  · skip
    have i21x6 := r_lt1 0 31 c21x6 ro_32_1 (in_c 32 rfl) rfl
    refine g_iconst 1 14 (gd rfl) rfl rfl ?_
    refine g_aload_n 15 (gd rfl) rfl rfl ?_
    refine g_getI 18 (gd rfl) rfl rfl rfl (fun z21x15 e21x15 => ?_)
    have q21x15 : u_32_1 = z21x15 := (sI_F (fr_F (fr_F (e_32_1) hF1 rfl) hF9 rfl)).trans e21x15.symm
    subst q21x15
    refine g_ishl 19 (gd rfl) rfl (fun z21x18 e21x18 => ?_)
    refine g_iconst 1 20 (gd rfl) rfl rfl ?_
    refine g_isub 21 (gd rfl) rfl (fun z21x20 e21x20 => ?_)
    refine g_ireturn (gd rfl) rfl rfl (hp21 _ _ ?_)
    show GG _ _ _ _ _ _ _ _ [.int z21x20] _ _ _
    refine g_istore 26 (gd rfl) rfl (Nat.le_of_ble_eq_true rfl) ?_
    refine g_iconst 0 27 (gd rfl) rfl rfl ?_
    refine g_istore 29 (gd rfl) rfl (Nat.le_of_ble_eq_true rfl) ?_
    have n29 : (cb z21x20 : Int) = (u_32_1).toInt - ((Int32.ofInt 0)).toInt := by first | (have hcb := cb_m1; have a0 := oa6 i21x6 h3 h2 ((in_c 0 rfl)) i1b i1a; omega) | (have hcb := cb_all e21x18 e21x20 ‹_›; have a0 := oa6 i21x6 h3 h2 ((in_c 0 rfl)) i1b i1a; omega) | (have a0 := oa6 i21x6 h3 h2 ((in_c 0 rfl)) i1b i1a; omega)
    exact gg_w (by first | exact Nat.le_of_ble_eq_true rfl | omega) (gg_f (gf_cons rfl (gf_cons rfl (gf_cons rfl (gf_cons rfl (gf_cons rfl (gf_cons rfl gf_nil)))))) (ct29 33 (sI s9 51 x2.toNatClampNeg (Int32.ofInt 1000001)) z21x20 (Int32.ofInt 0) hI19 (fr_sI rfl (fr_tr rfl (fr_tr rfl fr_rf hF1) hF9)) (in_w 0 32 (in_c 0 rfl) rfl) n29 (m_in 33 (in_w 0 32 (in_c 0 rfl) rfl) rfl)))
  · skip
    have i21x6 := r_le2 32 32 c21x6 (in_c 32 rfl) ro_32_1 rfl
    refine g_iconst (-1) 10 (gd rfl) rfl rfl ?_
    refine g_goto 21 (gd rfl) rfl ?_
    refine g_ireturn (gd rfl) rfl rfl (hp21 _ _ ?_)
    show GG _ _ _ _ _ _ _ _ [.int (Int32.ofInt (-1))] _ _ _
    refine g_istore 26 (gd rfl) rfl (Nat.le_of_ble_eq_true rfl) ?_
    refine g_iconst 0 27 (gd rfl) rfl rfl ?_
    refine g_istore 29 (gd rfl) rfl (Nat.le_of_ble_eq_true rfl) ?_
    have n29 : (cb (Int32.ofInt (-1)) : Int) = (u_32_1).toInt - ((Int32.ofInt 0)).toInt := by first | (have hcb := cb_m1; have a0 := oa7 i21x6 h3 h2 ((in_c 0 rfl)) ((in_c (-1) rfl)) i1b i1a; omega) | (have hcb := cb_all e21x18 e21x20 ‹_›; have a0 := oa7 i21x6 h3 h2 ((in_c 0 rfl)) ((in_c (-1) rfl)) i1b i1a; omega) | (have a0 := oa7 i21x6 h3 h2 ((in_c 0 rfl)) ((in_c (-1) rfl)) i1b i1a; omega)
    exact gg_w (by first | exact Nat.le_of_ble_eq_true rfl | omega) (gg_f (gf_cons rfl (gf_cons rfl (gf_cons rfl (gf_cons rfl (gf_cons rfl (gf_cons rfl gf_nil)))))) (ct29 33 (sI s9 51 x2.toNatClampNeg (Int32.ofInt 1000001)) (Int32.ofInt (-1)) (Int32.ofInt 0) hI19 (fr_sI rfl (fr_tr rfl (fr_tr rfl fr_rf hF1) hF9)) (in_w 0 32 (in_c 0 rfl) rfl) n29 (m_in 33 (in_w 0 32 (in_c 0 rfl) rfl) rfl)))

def fm_203_49_2 : FM := ([9, 10, 11, 12, 13, 14, 15, 52, 54], [53], [(2, 4)], [])
/-- GraphHouse$Ways.countBy -/
theorem k_203_49_2 {Z : AmZ} {A : Nat → Nat} {s : GS} {ex : va_W} {d : Nat} {X : AmX} {x2 : Int32} {x3 : Int32} {x4 : Int32} (hd : 5 ≤ d) (hI : Inv s) (h2 : In x2 0 31) (h3 : In x3 0 31) (h4 : In x4 0 31) : GC Z d 203 [.ref (A 49), .ref (A 2), .int x2, .int x3, .int x4] (WW Z A s ++ ex) 0 0 (fun v u => ∃ t : GS, Inv t ∧ Fr fm_203_49_2 s t ∧ ∃ z : Int32, v = some (.int z) ∧ u = WW Z A t ++ ex ∧ In z (-2147483648) 2147483647) X := by
  intro post xp hP hX
  refine g_enter2 (k := 203) (N := 900) (by first | exact dq1 hd rfl | exact dq0 hd rfl | exact dq2 hd rfl | exact dq3 hd rfl | omega) rfl (Nat.le_of_ble_eq_true rfl) ?_
  refine g_aload_n 1 (gd rfl) rfl rfl ?_
  refine g_aload_n 2 (gd rfl) rfl rfl ?_
  refine g_iload_n 3 (gd rfl) rfl rfl ?_
  refine g_callv (X := _) (As := [.ref (A 2), .int x2]) (r := []) (b := A 49) (q := 49) 6 (gd rfl) rfl rfl rfl rfl rfl (ww_o rfl) (Nat.le_of_ble_eq_true rfl) (Nat.zero_le _) (Nat.zero_le _) (k_204_49_2 (by first | exact dq1 hd rfl | exact dq0 hd rfl | exact dq2 hd rfl | exact dq3 hd rfl | omega) hI (in_w 0 31 h2 rfl)) (fun e u h => h) (fun v u h => ?_)
  obtain ⟨s3, hI3, hF3, rfl, rfl⟩ := h
  show GG _ _ _ _ _ _ _ _ [] _ _ _
  refine g_aload_n 7 (gd rfl) rfl rfl ?_
  refine g_getA (q2 := 52) 10 (gd rfl) rfl rfl rfl rfl ?_
  refine g_iload_n 11 (gd rfl) rfl rfl ?_
  refine g_iaload 12 (gd rfl) rfl (n := 32) rfl (in_ix h3 rfl) (fun z11 e11 => ?_)
  refine g_istore 14 (gd rfl) rfl (Nat.le_of_ble_eq_true rfl) ?_
  refine g_aload_n 15 (gd rfl) rfl rfl ?_
  refine g_getA (q2 := 52) 18 (gd rfl) rfl rfl rfl rfl ?_
  refine g_iload 20 (gd rfl) rfl rfl ?_
  refine g_iaload 21 (gd rfl) rfl (n := 32) rfl (in_ix h4 rfl) (fun z20 e20 => ?_)
  refine g_istore 23 (gd rfl) rfl (Nat.le_of_ble_eq_true rfl) ?_
  refine g_aload_n 24 (gd rfl) rfl rfl ?_
  refine g_getA (q2 := 53) 27 (gd rfl) rfl rfl rfl rfl ?_
  refine g_iload 29 (gd rfl) rfl rfl ?_
  refine g_laload 30 (gd rfl) rfl (n := 32) rfl (in_ix h4 rfl) (fun z29 e29 => ?_)
  refine g_lstore 32 (gd rfl) rfl (Nat.le_of_ble_eq_true rfl) ?_
  refine g_iload 34 (gd rfl) rfl rfl ?_
  refine g_iconst (-1) 35 (gd rfl) rfl rfl ?_
  refine g_cmp_eq 38 44 (gd rfl) rfl rfl (fun c35 => ?_) (fun c35 => ?_)
  · skip
    have i35 := r_eq1 (-1) (-1) c35 (i_rng z11) (in_c (-1) rfl) rfl
    refine g_iconst 0 45 (gd rfl) rfl rfl ?_
    exact g_ireturn (gd rfl) rfl rfl (hP _ _ ⟨s3, hI3, (fr_tr rfl fr_rf hF3), (Int32.ofInt 0), rfl, rfl, in_w (-2147483648) 2147483647 (in_c 0 rfl) rfl⟩)
  · skip
    refine g_iload 40 (gd rfl) rfl rfl ?_
    refine g_iconst (-1) 41 (gd rfl) rfl rfl ?_
    refine g_cmp_ne 44 46 (gd rfl) rfl rfl (fun c41 => ?_) (fun c41 => ?_)
    · skip
      refine g_iload 48 (gd rfl) rfl rfl ?_
      refine g_iload_n 49 (gd rfl) rfl rfl ?_
      refine g_cmp_eq 52 59 (gd rfl) rfl rfl (fun c49 => ?_) (fun c49 => ?_)
      · skip
        refine g_aload_n 60 (gd rfl) rfl rfl ?_
        refine g_getA (q2 := 52) 63 (gd rfl) rfl rfl rfl rfl ?_
        refine g_iload_n 64 (gd rfl) rfl rfl ?_
        refine g_iaload 65 (gd rfl) rfl (n := 32) rfl (in_ix h3 rfl) (fun z64 e64 => ?_)
        have q64 : z11 = z64 := (e11).trans e64.symm
        subst q64
        refine g_iconst (-1) 66 (gd rfl) rfl rfl ?_
        refine g_cmp_eq 69 83 (gd rfl) rfl rfl (fun c66 => ?_) (fun c66 => ?_)
        · skip
          exact absurd c66 c35
        · skip
          refine g_iload 71 (gd rfl) rfl rfl ?_
          refine g_aload_n 72 (gd rfl) rfl rfl ?_
          refine g_getA (q2 := 52) 75 (gd rfl) rfl rfl rfl rfl ?_
          refine g_iload_n 76 (gd rfl) rfl rfl ?_
          refine g_iaload 77 (gd rfl) rfl (n := 32) rfl (in_ix h3 rfl) (fun z76 e76 => ?_)
          have q76 : z11 = z76 := (e11).trans e76.symm
          subst q76
          refine g_iadd 78 (gd rfl) rfl (fun z77 e77 => ?_)
          refine g_iload 80 (gd rfl) rfl rfl ?_
          refine g_cmp_eq 83 85 (gd rfl) rfl rfl (fun c80 => ?_) (fun c80 => ?_)
          · skip
            refine g_lload 87 (gd rfl) rfl rfl ?_
            refine g_aload_n 88 (gd rfl) rfl rfl ?_
            refine g_getA (q2 := 53) 91 (gd rfl) rfl rfl rfl rfl ?_
            refine g_iload_n 92 (gd rfl) rfl rfl ?_
            refine g_laload 93 (gd rfl) rfl (n := 32) rfl (in_ix h3 rfl) (fun z92 e92 => ?_)
            refine g_lmul 94 (gd rfl) rfl (fun z93 e93 => ?_)
            refine g_ldc2_w 1000000007 97 (gd rfl) rfl rfl ?_
            refine g_lrem 98 (gd rfl) rfl (by decide) (fun z97 e97 => ?_)
            have i97 := l_rem (-1000000006) 1000000006 e97 rfl
            refine g_l2i 99 (gd rfl) rfl (fun z98 e98 => ?_)
            exact g_ireturn (gd rfl) rfl rfl (hP _ _ ⟨s3, hI3, (fr_tr rfl fr_rf hF3), z98, rfl, rfl, in_w (-2147483648) 2147483647 (i_rng z98) rfl⟩)
          · skip
            refine g_iconst 0 84 (gd rfl) rfl rfl ?_
            exact g_ireturn (gd rfl) rfl rfl (hP _ _ ⟨s3, hI3, (fr_tr rfl fr_rf hF3), (Int32.ofInt 0), rfl, rfl, in_w (-2147483648) 2147483647 (in_c 0 rfl) rfl⟩)
      · skip
        refine g_aload_n 53 (gd rfl) rfl rfl ?_
        refine g_aload_n 54 (gd rfl) rfl rfl ?_
        refine g_iload 56 (gd rfl) rfl rfl ?_
        refine g_callv (X := _) (As := [.ref (A 2), .int x4]) (r := []) (b := A 49) (q := 49) 59 (gd rfl) rfl rfl rfl rfl rfl (ww_o rfl) (Nat.le_of_ble_eq_true rfl) (Nat.zero_le _) (Nat.zero_le _) (k_204_49_2 (by first | exact dq1 hd rfl | exact dq0 hd rfl | exact dq2 hd rfl | exact dq3 hd rfl | omega) hI3 (in_w 0 31 h4 rfl)) (fun e u h => h) (fun v u h => ?_)
        obtain ⟨s56, hI56, hF56, rfl, rfl⟩ := h
        show GG _ _ _ _ _ _ _ _ [] _ _ _
        refine g_aload_n 60 (gd rfl) rfl rfl ?_
        refine g_getA (q2 := 52) 63 (gd rfl) rfl rfl rfl rfl ?_
        refine g_iload_n 64 (gd rfl) rfl rfl ?_
        refine g_iaload 65 (gd rfl) rfl (n := 32) rfl (in_ix h3 rfl) (fun z64 e64 => ?_)
        refine g_iconst (-1) 66 (gd rfl) rfl rfl ?_
        refine g_cmp_eq 69 83 (gd rfl) rfl rfl (fun c66 => ?_) (fun c66 => ?_)
        · skip
          have i66 := r_eq1 (-1) (-1) c66 (i_rng z64) (in_c (-1) rfl) rfl
          refine g_iconst 0 84 (gd rfl) rfl rfl ?_
          exact g_ireturn (gd rfl) rfl rfl (hP _ _ ⟨s56, hI56, (fr_tr rfl (fr_tr rfl fr_rf hF3) hF56), (Int32.ofInt 0), rfl, rfl, in_w (-2147483648) 2147483647 (in_c 0 rfl) rfl⟩)
        · skip
          refine g_iload 71 (gd rfl) rfl rfl ?_
          refine g_aload_n 72 (gd rfl) rfl rfl ?_
          refine g_getA (q2 := 52) 75 (gd rfl) rfl rfl rfl rfl ?_
          refine g_iload_n 76 (gd rfl) rfl rfl ?_
          refine g_iaload 77 (gd rfl) rfl (n := 32) rfl (in_ix h3 rfl) (fun z76 e76 => ?_)
          have q76 : z64 = z76 := (e64).trans e76.symm
          subst q76
          refine g_iadd 78 (gd rfl) rfl (fun z77 e77 => ?_)
          refine g_iload 80 (gd rfl) rfl rfl ?_
          refine g_cmp_eq 83 85 (gd rfl) rfl rfl (fun c80 => ?_) (fun c80 => ?_)
          · skip
            refine g_lload 87 (gd rfl) rfl rfl ?_
            refine g_aload_n 88 (gd rfl) rfl rfl ?_
            refine g_getA (q2 := 53) 91 (gd rfl) rfl rfl rfl rfl ?_
            refine g_iload_n 92 (gd rfl) rfl rfl ?_
            refine g_laload 93 (gd rfl) rfl (n := 32) rfl (in_ix h3 rfl) (fun z92 e92 => ?_)
            refine g_lmul 94 (gd rfl) rfl (fun z93 e93 => ?_)
            refine g_ldc2_w 1000000007 97 (gd rfl) rfl rfl ?_
            refine g_lrem 98 (gd rfl) rfl (by decide) (fun z97 e97 => ?_)
            have i97 := l_rem (-1000000006) 1000000006 e97 rfl
            refine g_l2i 99 (gd rfl) rfl (fun z98 e98 => ?_)
            exact g_ireturn (gd rfl) rfl rfl (hP _ _ ⟨s56, hI56, (fr_tr rfl (fr_tr rfl fr_rf hF3) hF56), z98, rfl, rfl, in_w (-2147483648) 2147483647 (i_rng z98) rfl⟩)
          · skip
            refine g_iconst 0 84 (gd rfl) rfl rfl ?_
            exact g_ireturn (gd rfl) rfl rfl (hP _ _ ⟨s56, hI56, (fr_tr rfl (fr_tr rfl fr_rf hF3) hF56), (Int32.ofInt 0), rfl, rfl, in_w (-2147483648) 2147483647 (in_c 0 rfl) rfl⟩)
    · skip
      have i41 := r_eq1 (-1) (-1) c41 (i_rng z20) (in_c (-1) rfl) rfl
      refine g_iconst 0 45 (gd rfl) rfl rfl ?_
      exact g_ireturn (gd rfl) rfl rfl (hP _ _ ⟨s3, hI3, (fr_tr rfl fr_rf hF3), (Int32.ofInt 0), rfl, rfl, in_w (-2147483648) 2147483647 (in_c 0 rfl) rfl⟩)

def fm_203_49_32 : FM := ([39, 40, 41, 42, 43, 44, 45, 52, 54], [53], [(32, 4)], [])
/-- GraphHouse$Ways.countBy -/
theorem k_203_49_32 {Z : AmZ} {A : Nat → Nat} {s : GS} {ex : va_W} {d : Nat} {X : AmX} {x2 : Int32} {x3 : Int32} {x4 : Int32} (hd : 5 ≤ d) (hI : Inv s) (h2 : In x2 0 31) (h3 : In x3 0 31) (h4 : In x4 0 31) : GC Z d 203 [.ref (A 49), .ref (A 32), .int x2, .int x3, .int x4] (WW Z A s ++ ex) 0 0 (fun v u => ∃ t : GS, Inv t ∧ Fr fm_203_49_32 s t ∧ ∃ z : Int32, v = some (.int z) ∧ u = WW Z A t ++ ex ∧ In z (-2147483648) 2147483647) X := by
  intro post xp hP hX
  refine g_enter2 (k := 203) (N := 900) (by first | exact dq1 hd rfl | exact dq0 hd rfl | exact dq2 hd rfl | exact dq3 hd rfl | omega) rfl (Nat.le_of_ble_eq_true rfl) ?_
  refine g_aload_n 1 (gd rfl) rfl rfl ?_
  refine g_aload_n 2 (gd rfl) rfl rfl ?_
  refine g_iload_n 3 (gd rfl) rfl rfl ?_
  refine g_callv (X := _) (As := [.ref (A 32), .int x2]) (r := []) (b := A 49) (q := 49) 6 (gd rfl) rfl rfl rfl rfl rfl (ww_o rfl) (Nat.le_of_ble_eq_true rfl) (Nat.zero_le _) (Nat.zero_le _) (k_204_49_32 (by first | exact dq1 hd rfl | exact dq0 hd rfl | exact dq2 hd rfl | exact dq3 hd rfl | omega) hI (in_w 0 31 h2 rfl)) (fun e u h => h) (fun v u h => ?_)
  obtain ⟨s3, hI3, hF3, rfl, rfl⟩ := h
  show GG _ _ _ _ _ _ _ _ [] _ _ _
  refine g_aload_n 7 (gd rfl) rfl rfl ?_
  refine g_getA (q2 := 52) 10 (gd rfl) rfl rfl rfl rfl ?_
  refine g_iload_n 11 (gd rfl) rfl rfl ?_
  refine g_iaload 12 (gd rfl) rfl (n := 32) rfl (in_ix h3 rfl) (fun z11 e11 => ?_)
  refine g_istore 14 (gd rfl) rfl (Nat.le_of_ble_eq_true rfl) ?_
  refine g_aload_n 15 (gd rfl) rfl rfl ?_
  refine g_getA (q2 := 52) 18 (gd rfl) rfl rfl rfl rfl ?_
  refine g_iload 20 (gd rfl) rfl rfl ?_
  refine g_iaload 21 (gd rfl) rfl (n := 32) rfl (in_ix h4 rfl) (fun z20 e20 => ?_)
  refine g_istore 23 (gd rfl) rfl (Nat.le_of_ble_eq_true rfl) ?_
  refine g_aload_n 24 (gd rfl) rfl rfl ?_
  refine g_getA (q2 := 53) 27 (gd rfl) rfl rfl rfl rfl ?_
  refine g_iload 29 (gd rfl) rfl rfl ?_
  refine g_laload 30 (gd rfl) rfl (n := 32) rfl (in_ix h4 rfl) (fun z29 e29 => ?_)
  refine g_lstore 32 (gd rfl) rfl (Nat.le_of_ble_eq_true rfl) ?_
  refine g_iload 34 (gd rfl) rfl rfl ?_
  refine g_iconst (-1) 35 (gd rfl) rfl rfl ?_
  refine g_cmp_eq 38 44 (gd rfl) rfl rfl (fun c35 => ?_) (fun c35 => ?_)
  · skip
    have i35 := r_eq1 (-1) (-1) c35 (i_rng z11) (in_c (-1) rfl) rfl
    refine g_iconst 0 45 (gd rfl) rfl rfl ?_
    exact g_ireturn (gd rfl) rfl rfl (hP _ _ ⟨s3, hI3, (fr_tr rfl fr_rf hF3), (Int32.ofInt 0), rfl, rfl, in_w (-2147483648) 2147483647 (in_c 0 rfl) rfl⟩)
  · skip
    refine g_iload 40 (gd rfl) rfl rfl ?_
    refine g_iconst (-1) 41 (gd rfl) rfl rfl ?_
    refine g_cmp_ne 44 46 (gd rfl) rfl rfl (fun c41 => ?_) (fun c41 => ?_)
    · skip
      refine g_iload 48 (gd rfl) rfl rfl ?_
      refine g_iload_n 49 (gd rfl) rfl rfl ?_
      refine g_cmp_eq 52 59 (gd rfl) rfl rfl (fun c49 => ?_) (fun c49 => ?_)
      · skip
        refine g_aload_n 60 (gd rfl) rfl rfl ?_
        refine g_getA (q2 := 52) 63 (gd rfl) rfl rfl rfl rfl ?_
        refine g_iload_n 64 (gd rfl) rfl rfl ?_
        refine g_iaload 65 (gd rfl) rfl (n := 32) rfl (in_ix h3 rfl) (fun z64 e64 => ?_)
        have q64 : z11 = z64 := (e11).trans e64.symm
        subst q64
        refine g_iconst (-1) 66 (gd rfl) rfl rfl ?_
        refine g_cmp_eq 69 83 (gd rfl) rfl rfl (fun c66 => ?_) (fun c66 => ?_)
        · skip
          exact absurd c66 c35
        · skip
          refine g_iload 71 (gd rfl) rfl rfl ?_
          refine g_aload_n 72 (gd rfl) rfl rfl ?_
          refine g_getA (q2 := 52) 75 (gd rfl) rfl rfl rfl rfl ?_
          refine g_iload_n 76 (gd rfl) rfl rfl ?_
          refine g_iaload 77 (gd rfl) rfl (n := 32) rfl (in_ix h3 rfl) (fun z76 e76 => ?_)
          have q76 : z11 = z76 := (e11).trans e76.symm
          subst q76
          refine g_iadd 78 (gd rfl) rfl (fun z77 e77 => ?_)
          refine g_iload 80 (gd rfl) rfl rfl ?_
          refine g_cmp_eq 83 85 (gd rfl) rfl rfl (fun c80 => ?_) (fun c80 => ?_)
          · skip
            refine g_lload 87 (gd rfl) rfl rfl ?_
            refine g_aload_n 88 (gd rfl) rfl rfl ?_
            refine g_getA (q2 := 53) 91 (gd rfl) rfl rfl rfl rfl ?_
            refine g_iload_n 92 (gd rfl) rfl rfl ?_
            refine g_laload 93 (gd rfl) rfl (n := 32) rfl (in_ix h3 rfl) (fun z92 e92 => ?_)
            refine g_lmul 94 (gd rfl) rfl (fun z93 e93 => ?_)
            refine g_ldc2_w 1000000007 97 (gd rfl) rfl rfl ?_
            refine g_lrem 98 (gd rfl) rfl (by decide) (fun z97 e97 => ?_)
            have i97 := l_rem (-1000000006) 1000000006 e97 rfl
            refine g_l2i 99 (gd rfl) rfl (fun z98 e98 => ?_)
            exact g_ireturn (gd rfl) rfl rfl (hP _ _ ⟨s3, hI3, (fr_tr rfl fr_rf hF3), z98, rfl, rfl, in_w (-2147483648) 2147483647 (i_rng z98) rfl⟩)
          · skip
            refine g_iconst 0 84 (gd rfl) rfl rfl ?_
            exact g_ireturn (gd rfl) rfl rfl (hP _ _ ⟨s3, hI3, (fr_tr rfl fr_rf hF3), (Int32.ofInt 0), rfl, rfl, in_w (-2147483648) 2147483647 (in_c 0 rfl) rfl⟩)
      · skip
        refine g_aload_n 53 (gd rfl) rfl rfl ?_
        refine g_aload_n 54 (gd rfl) rfl rfl ?_
        refine g_iload 56 (gd rfl) rfl rfl ?_
        refine g_callv (X := _) (As := [.ref (A 32), .int x4]) (r := []) (b := A 49) (q := 49) 59 (gd rfl) rfl rfl rfl rfl rfl (ww_o rfl) (Nat.le_of_ble_eq_true rfl) (Nat.zero_le _) (Nat.zero_le _) (k_204_49_32 (by first | exact dq1 hd rfl | exact dq0 hd rfl | exact dq2 hd rfl | exact dq3 hd rfl | omega) hI3 (in_w 0 31 h4 rfl)) (fun e u h => h) (fun v u h => ?_)
        obtain ⟨s56, hI56, hF56, rfl, rfl⟩ := h
        show GG _ _ _ _ _ _ _ _ [] _ _ _
        refine g_aload_n 60 (gd rfl) rfl rfl ?_
        refine g_getA (q2 := 52) 63 (gd rfl) rfl rfl rfl rfl ?_
        refine g_iload_n 64 (gd rfl) rfl rfl ?_
        refine g_iaload 65 (gd rfl) rfl (n := 32) rfl (in_ix h3 rfl) (fun z64 e64 => ?_)
        refine g_iconst (-1) 66 (gd rfl) rfl rfl ?_
        refine g_cmp_eq 69 83 (gd rfl) rfl rfl (fun c66 => ?_) (fun c66 => ?_)
        · skip
          have i66 := r_eq1 (-1) (-1) c66 (i_rng z64) (in_c (-1) rfl) rfl
          refine g_iconst 0 84 (gd rfl) rfl rfl ?_
          exact g_ireturn (gd rfl) rfl rfl (hP _ _ ⟨s56, hI56, (fr_tr rfl (fr_tr rfl fr_rf hF3) hF56), (Int32.ofInt 0), rfl, rfl, in_w (-2147483648) 2147483647 (in_c 0 rfl) rfl⟩)
        · skip
          refine g_iload 71 (gd rfl) rfl rfl ?_
          refine g_aload_n 72 (gd rfl) rfl rfl ?_
          refine g_getA (q2 := 52) 75 (gd rfl) rfl rfl rfl rfl ?_
          refine g_iload_n 76 (gd rfl) rfl rfl ?_
          refine g_iaload 77 (gd rfl) rfl (n := 32) rfl (in_ix h3 rfl) (fun z76 e76 => ?_)
          have q76 : z64 = z76 := (e64).trans e76.symm
          subst q76
          refine g_iadd 78 (gd rfl) rfl (fun z77 e77 => ?_)
          refine g_iload 80 (gd rfl) rfl rfl ?_
          refine g_cmp_eq 83 85 (gd rfl) rfl rfl (fun c80 => ?_) (fun c80 => ?_)
          · skip
            refine g_lload 87 (gd rfl) rfl rfl ?_
            refine g_aload_n 88 (gd rfl) rfl rfl ?_
            refine g_getA (q2 := 53) 91 (gd rfl) rfl rfl rfl rfl ?_
            refine g_iload_n 92 (gd rfl) rfl rfl ?_
            refine g_laload 93 (gd rfl) rfl (n := 32) rfl (in_ix h3 rfl) (fun z92 e92 => ?_)
            refine g_lmul 94 (gd rfl) rfl (fun z93 e93 => ?_)
            refine g_ldc2_w 1000000007 97 (gd rfl) rfl rfl ?_
            refine g_lrem 98 (gd rfl) rfl (by decide) (fun z97 e97 => ?_)
            have i97 := l_rem (-1000000006) 1000000006 e97 rfl
            refine g_l2i 99 (gd rfl) rfl (fun z98 e98 => ?_)
            exact g_ireturn (gd rfl) rfl rfl (hP _ _ ⟨s56, hI56, (fr_tr rfl (fr_tr rfl fr_rf hF3) hF56), z98, rfl, rfl, in_w (-2147483648) 2147483647 (i_rng z98) rfl⟩)
          · skip
            refine g_iconst 0 84 (gd rfl) rfl rfl ?_
            exact g_ireturn (gd rfl) rfl rfl (hP _ _ ⟨s56, hI56, (fr_tr rfl (fr_tr rfl fr_rf hF3) hF56), (Int32.ofInt 0), rfl, rfl, in_w (-2147483648) 2147483647 (in_c 0 rfl) rfl⟩)
    · skip
      have i41 := r_eq1 (-1) (-1) c41 (i_rng z20) (in_c (-1) rfl) rfl
      refine g_iconst 0 45 (gd rfl) rfl rfl ?_
      exact g_ireturn (gd rfl) rfl rfl (hP _ _ ⟨s3, hI3, (fr_tr rfl fr_rf hF3), (Int32.ofInt 0), rfl, rfl, in_w (-2147483648) 2147483647 (in_c 0 rfl) rfl⟩)

def fm_208_49_2 : FM := ([], [55], [(49, 11)], [])
def fm_208_49_32 : FM := ([], [55], [(49, 11)], [])
def fm_227_0 : FM := ([48], [], [(46, 9)], [])
/-- GraphHouse.print -/
theorem k_227_0 {Z : AmZ} {A : Nat → Nat} {s : GS} {ex : va_W} {d : Nat} {X : AmX}  (hd : 5 ≤ d) (hI : Inv s)  : GC Z d 227 [.ref (A 0)] (WW Z A s ++ ex) 3 18 (fun v u => ∃ t : GS, Inv t ∧ Fr fm_227_0 s t ∧ ∃ z : Int32, v = some (.int z) ∧ u = WW Z A t ++ ex ∧ In z 0 4608) X := by
  intro post xp hP hX
  obtain ⟨u_0_2, e_0_2⟩ : ∃ w, w = s.2.2.1 0 2 := ⟨_, rfl⟩
  have ro_0_2 := inv_F hI (-1) 4000 rfl e_0_2
  refine g_enter2 (k := 227) (N := 900) (by first | exact dq1 hd rfl | exact dq0 hd rfl | exact dq2 hd rfl | exact dq3 hd rfl | omega) rfl (Nat.le_of_ble_eq_true rfl) ?_
  refine g_aload_n 1 (gd rfl) rfl rfl ?_
  refine g_getA (q2 := 46) 4 (gd rfl) rfl rfl rfl rfl ?_
  refine g_aload_n 5 (gd rfl) rfl rfl ?_
  refine g_callv (X := _) (As := []) (r := [.ref (A 46)]) (b := A 0) (q := 0) 8 (gd rfl) rfl rfl rfl rfl rfl (ww_o rfl) (Nat.le_of_ble_eq_true rfl) (mc := 0) (ms := 0) (Nat.zero_le _) (Nat.zero_le _) (P := fun v u => _) ?_ (fun e u h => h) (fun v u h => h)
  intro po5 xx5 hp5 hx5
  refine g_enter2 (k := 259) (N := 300) (by first | exact dq1 hd rfl | exact dq0 hd rfl | exact dq2 hd rfl | exact dq3 hd rfl | omega) rfl (Nat.le_of_ble_eq_true rfl) ?_
  refine g_aload_n 1 (gd rfl) rfl rfl ?_
  refine g_getI 4 (gd rfl) rfl rfl rfl (fun z5x1 e5x1 => ?_)
  have q5x1 : u_0_2 = z5x1 := (e_0_2).trans e5x1.symm
  subst q5x1
  refine g_iconst (-1) 5 (gd rfl) rfl rfl ?_
  refine g_cmp_ne 8 18 (gd rfl) rfl rfl (fun c5x5 => ?_) (fun c5x5 => ?_)
  · skip
    have i5x5 := r_ne1 0 4000 c5x5 ro_0_2 (in_c (-1) rfl) rfl
    refine g_aload_n 19 (gd rfl) rfl rfl ?_
    refine g_getA (q2 := 32) 22 (gd rfl) rfl rfl rfl rfl ?_
    refine g_areturn (gd rfl) rfl (hp5 _ _ ?_)
    show GG _ _ _ _ _ _ _ _ [.ref (A 32), .ref (A 46)] _ _ _
    refine g_callv (X := _) (As := [.ref (A 32)]) (r := []) (b := A 46) (q := 46) 11 (gd rfl) rfl rfl rfl rfl rfl (ww_o rfl) (Nat.le_of_ble_eq_true rfl) (Nat.zero_le _) (Nat.zero_le _) (k_175_46_32 (by first | exact dq1 hd rfl | exact dq0 hd rfl | exact dq2 hd rfl | exact dq3 hd rfl | omega) hI ) (fun e u h => h) (fun v u h => ?_)
    obtain ⟨s8, hI8, hF8, z8, rfl, rfl, i8⟩ := h
    show GG _ _ _ _ _ _ _ _ [.int z8] _ _ _
    exact g_ireturn (gd rfl) rfl rfl (hP _ _ ⟨s8, hI8, (fr_tr rfl fr_rf hF8), z8, rfl, rfl, in_w 0 4608 i8 rfl⟩)
  · skip
    have i5x5 := r_eq1 (-1) (-1) c5x5 ro_0_2 (in_c (-1) rfl) rfl
    refine g_aload_n 9 (gd rfl) rfl rfl ?_
    refine g_getA (q2 := 1) 12 (gd rfl) rfl rfl rfl rfl ?_
    refine g_getA (q2 := 2) 15 (gd rfl) rfl rfl rfl rfl ?_
    refine g_goto 22 (gd rfl) rfl ?_
    refine g_areturn (gd rfl) rfl (hp5 _ _ ?_)
    show GG _ _ _ _ _ _ _ _ [.ref (A 2), .ref (A 46)] _ _ _
    refine g_callv (X := _) (As := [.ref (A 2)]) (r := []) (b := A 46) (q := 46) 11 (gd rfl) rfl rfl rfl rfl rfl (ww_o rfl) (Nat.le_of_ble_eq_true rfl) (Nat.zero_le _) (Nat.zero_le _) (k_175_46_2 (by first | exact dq1 hd rfl | exact dq0 hd rfl | exact dq2 hd rfl | exact dq3 hd rfl | omega) hI ) (fun e u h => h) (fun v u h => ?_)
    obtain ⟨s8, hI8, hF8, z8, rfl, rfl, i8⟩ := h
    show GG _ _ _ _ _ _ _ _ [.int z8] _ _ _
    exact g_ireturn (gd rfl) rfl rfl (hP _ _ ⟨s8, hI8, (fr_tr rfl fr_rf hF8), z8, rfl, rfl, in_w 0 4608 i8 rfl⟩)

def fm_229_0 : FM := ([9, 10, 11, 12, 13, 14, 15, 39, 40, 41, 42, 43, 44, 45], [50], [(2, 4), (32, 4), (49, 0), (49, 1), (49, 2)], [])
/-- GraphHouse.distance -/
theorem k_229_0 {Z : AmZ} {A : Nat → Nat} {s : GS} {ex : va_W} {d : Nat} {x1 : Int32} {x2 : Int32} (hd : 7 ≤ d) (hI : Inv s)  : GC Z d 229 [.ref (A 0), .int x1, .int x2] (WW Z A s ++ ex) 3 18 (fun v u => ∃ t : GS, Inv t ∧ Fr fm_229_0 s t ∧ ∃ z : Int64, v = some (.long z) ∧ u = WW Z A t ++ ex) (gE1 Z A ex fm_229_0 s) := by
  intro post xp hP hX
  obtain ⟨u_0_2, e_0_2⟩ : ∃ w, w = s.2.2.1 0 2 := ⟨_, rfl⟩
  have ro_0_2 := inv_F hI (-1) 4000 rfl e_0_2
  obtain ⟨u_2_1, e_2_1⟩ : ∃ w, w = s.2.2.1 2 1 := ⟨_, rfl⟩
  have ro_2_1 := inv_F hI 0 32 rfl e_2_1
  obtain ⟨u_32_1, e_32_1⟩ : ∃ w, w = s.2.2.1 32 1 := ⟨_, rfl⟩
  have ro_32_1 := inv_F hI 0 32 rfl e_32_1
  have ct25 : ∀ (sc25 : GS) , Inv sc25 → Fr fm_229_0 s sc25 → GG Z (d - 1) 229 post (gx xp) (901) 25 (fun j => xlook j [(0, .ref (A 0)), (1, .int x1), (2, .int x2)]) [] (WW Z A sc25 ++ ex) 3 18 := by
    intro sc25  hIc25 hFc25 
    refine g_iconst 0 26 (gd rfl) rfl rfl ?_
    refine g_thr (E := am_IA) (y := yX11_allow) 29 (gd rfl) rfl rfl (Or.inl ⟨rfl, rfl, rfl⟩) (by first | exact dq1 hd rfl | exact dq0 hd rfl | exact dq2 hd rfl | exact dq3 hd rfl | omega) (Nat.le_of_ble_eq_true rfl) (Nat.le_of_ble_eq_true rfl) (Nat.le_of_ble_eq_true rfl) (fun c26 => ?_) (fun c26 => ?_)
    · skip
      exact zn_ne c26 (in_c 0 rfl) rfl
    · skip
      exact (hX _ _ ⟨rfl, sc25, hIc25, hFc25, rfl⟩)
  refine g_enter2 (k := 229) (N := 1801) (by first | exact dq1 hd rfl | exact dq0 hd rfl | exact dq2 hd rfl | exact dq3 hd rfl | omega) rfl (Nat.le_of_ble_eq_true rfl) ?_
  refine g_aload_n 1 (gd rfl) rfl rfl ?_
  refine g_callv (X := _) (As := []) (r := []) (b := A 0) (q := 0) 4 (gd rfl) rfl rfl rfl rfl rfl (ww_o rfl) (Nat.le_of_ble_eq_true rfl) (mc := 0) (ms := 0) (Nat.zero_le _) (Nat.zero_le _) (P := fun v u => _) ?_ (fun e u h => h) (fun v u h => h)
  intro po1 xx1 hp1 hx1
  refine g_enter2 (k := 259) (N := 300) (by first | exact dq1 hd rfl | exact dq0 hd rfl | exact dq2 hd rfl | exact dq3 hd rfl | omega) rfl (Nat.le_of_ble_eq_true rfl) ?_
  refine g_aload_n 1 (gd rfl) rfl rfl ?_
  refine g_getI 4 (gd rfl) rfl rfl rfl (fun z1x1 e1x1 => ?_)
  have q1x1 : u_0_2 = z1x1 := (e_0_2).trans e1x1.symm
  subst q1x1
  refine g_iconst (-1) 5 (gd rfl) rfl rfl ?_
  refine g_cmp_ne 8 18 (gd rfl) rfl rfl (fun c1x5 => ?_) (fun c1x5 => ?_)
  · skip
    have i1x5 := r_ne1 0 4000 c1x5 ro_0_2 (in_c (-1) rfl) rfl
    refine g_aload_n 19 (gd rfl) rfl rfl ?_
    refine g_getA (q2 := 32) 22 (gd rfl) rfl rfl rfl rfl ?_
    refine g_areturn (gd rfl) rfl (hp1 _ _ ?_)
    show GG _ _ _ _ _ _ _ _ [.ref (A 32)] _ _ _
    refine g_astore_n 5 (gd rfl) rfl (Nat.le_of_ble_eq_true rfl) ?_
    refine g_aload_n 6 (gd rfl) rfl rfl ?_
    refine g_iload_n 7 (gd rfl) rfl rfl ?_
    refine g_callv (X := _) (As := [.int x1]) (r := []) (b := A 32) (q := 32) 10 (gd rfl) rfl rfl rfl rfl rfl (ww_o rfl) (Nat.le_of_ble_eq_true rfl) (mc := 0) (ms := 0) (Nat.zero_le _) (Nat.zero_le _) (P := fun v u => _) ?_ (fun e u h => h) (fun v u h => h)
    intro po7 xx7 hp7 hx7
    refine g_enter2 (k := 94) (N := 300) (by first | exact dq1 hd rfl | exact dq0 hd rfl | exact dq2 hd rfl | exact dq3 hd rfl | omega) rfl (Nat.le_of_ble_eq_true rfl) ?_
    refine g_iload_n 1 (gd rfl) rfl rfl ?_
    refine g_if_lt 4 16 (gd rfl) rfl rfl (fun c7x1 => ?_) (fun c7x1 => ?_)
    · skip
      have i7x1 := z_lt (-2147483648) (-1) c7x1 (i_rng x1) rfl
      refine g_iconst 0 17 (gd rfl) rfl rfl ?_
      refine g_ireturn (gd rfl) rfl (nb01 (in_w 0 1 (in_c 0 rfl) rfl)) (hp7 _ _ ?_)
      show GG _ _ _ _ _ _ _ _ [.int (Int32.ofInt 0)] _ _ _
      refine g_if_eq 13 25 (gd rfl) rfl rfl (fun c10 => ?_) (fun c10 => ?_)
      · skip
        exact gg_w (by first | exact Nat.le_of_ble_eq_true rfl | omega) (gg_f (gf_cons rfl (gf_cons rfl (gf_cons rfl gf_nil))) (ct25 s  hI fr_rf ))
      · skip
        exact zn_ne c10 (in_c 0 rfl) rfl
    · skip
      have i7x1 := z_ge 0 2147483647 c7x1 (i_rng x1) rfl
      refine g_iload_n 5 (gd rfl) rfl rfl ?_
      refine g_aload_n 6 (gd rfl) rfl rfl ?_
      refine g_getI 9 (gd rfl) rfl rfl rfl (fun z7x6 e7x6 => ?_)
      have q7x6 : u_32_1 = z7x6 := (e_32_1).trans e7x6.symm
      subst q7x6
      refine g_cmp_ge 12 16 (gd rfl) rfl rfl (fun c7x9 => ?_) (fun c7x9 => ?_)
      · skip
        refine g_iconst 0 17 (gd rfl) rfl rfl ?_
        refine g_ireturn (gd rfl) rfl (nb01 (in_w 0 1 (in_c 0 rfl) rfl)) (hp7 _ _ ?_)
        show GG _ _ _ _ _ _ _ _ [.int (Int32.ofInt 0)] _ _ _
        refine g_if_eq 13 25 (gd rfl) rfl rfl (fun c10 => ?_) (fun c10 => ?_)
        · skip
          exact gg_w (by first | exact Nat.le_of_ble_eq_true rfl | omega) (gg_f (gf_cons rfl (gf_cons rfl (gf_cons rfl gf_nil))) (ct25 s  hI fr_rf ))
        · skip
          exact zn_ne c10 (in_c 0 rfl) rfl
      · skip
        have i7x9 := r_lt1 0 31 c7x9 i7x1 ro_32_1 rfl
        have i7x9a := r_lt2 1 32 c7x9 i7x1 ro_32_1 rfl
        refine g_iconst 1 13 (gd rfl) rfl rfl ?_
        refine g_goto 17 (gd rfl) rfl ?_
        refine g_ireturn (gd rfl) rfl (nb01 (in_w 0 1 (in_c 1 rfl) rfl)) (hp7 _ _ ?_)
        show GG _ _ _ _ _ _ _ _ [.int (Int32.ofInt 1)] _ _ _
        refine g_if_eq 13 25 (gd rfl) rfl rfl (fun c10 => ?_) (fun c10 => ?_)
        · skip
          exact zn_eq c10 (in_c 1 rfl) rfl
        · skip
          refine g_aload_n 14 (gd rfl) rfl rfl ?_
          refine g_iload_n 15 (gd rfl) rfl rfl ?_
          refine g_callv (X := _) (As := [.int x2]) (r := []) (b := A 32) (q := 32) 18 (gd rfl) rfl rfl rfl rfl rfl (ww_o rfl) (Nat.le_of_ble_eq_true rfl) (mc := 0) (ms := 0) (Nat.zero_le _) (Nat.zero_le _) (P := fun v u => _) ?_ (fun e u h => h) (fun v u h => h)
          intro po15 xx15 hp15 hx15
          refine g_enter2 (k := 94) (N := 300) (by first | exact dq1 hd rfl | exact dq0 hd rfl | exact dq2 hd rfl | exact dq3 hd rfl | omega) rfl (Nat.le_of_ble_eq_true rfl) ?_
          refine g_iload_n 1 (gd rfl) rfl rfl ?_
          refine g_if_lt 4 16 (gd rfl) rfl rfl (fun c15x1 => ?_) (fun c15x1 => ?_)
          · skip
            have i15x1 := z_lt (-2147483648) (-1) c15x1 (i_rng x2) rfl
            refine g_iconst 0 17 (gd rfl) rfl rfl ?_
            refine g_ireturn (gd rfl) rfl (nb01 (in_w 0 1 (in_c 0 rfl) rfl)) (hp15 _ _ ?_)
            show GG _ _ _ _ _ _ _ _ [.int (Int32.ofInt 0)] _ _ _
            refine g_if_eq 21 25 (gd rfl) rfl rfl (fun c18 => ?_) (fun c18 => ?_)
            · skip
              exact gg_w (by first | exact Nat.le_of_ble_eq_true rfl | omega) (gg_f (gf_cons rfl (gf_cons rfl (gf_cons rfl gf_nil))) (ct25 s  hI fr_rf ))
            · skip
              exact zn_ne c18 (in_c 0 rfl) rfl
          · skip
            have i15x1 := z_ge 0 2147483647 c15x1 (i_rng x2) rfl
            refine g_iload_n 5 (gd rfl) rfl rfl ?_
            refine g_aload_n 6 (gd rfl) rfl rfl ?_
            refine g_getI 9 (gd rfl) rfl rfl rfl (fun z15x6 e15x6 => ?_)
            have q15x6 : u_32_1 = z15x6 := (e_32_1).trans e15x6.symm
            subst q15x6
            refine g_cmp_ge 12 16 (gd rfl) rfl rfl (fun c15x9 => ?_) (fun c15x9 => ?_)
            · skip
              have i15x9 := r_le2 1 2147483647 c15x9 i7x9a i15x1 rfl
              refine g_iconst 0 17 (gd rfl) rfl rfl ?_
              refine g_ireturn (gd rfl) rfl (nb01 (in_w 0 1 (in_c 0 rfl) rfl)) (hp15 _ _ ?_)
              show GG _ _ _ _ _ _ _ _ [.int (Int32.ofInt 0)] _ _ _
              refine g_if_eq 21 25 (gd rfl) rfl rfl (fun c18 => ?_) (fun c18 => ?_)
              · skip
                exact gg_w (by first | exact Nat.le_of_ble_eq_true rfl | omega) (gg_f (gf_cons rfl (gf_cons rfl (gf_cons rfl gf_nil))) (ct25 s  hI fr_rf ))
              · skip
                exact zn_ne c18 (in_c 0 rfl) rfl
            · skip
              have i15x9 := r_lt1 0 31 c15x9 i15x1 i7x9a rfl
              refine g_iconst 1 13 (gd rfl) rfl rfl ?_
              refine g_goto 17 (gd rfl) rfl ?_
              refine g_ireturn (gd rfl) rfl (nb01 (in_w 0 1 (in_c 1 rfl) rfl)) (hp15 _ _ ?_)
              show GG _ _ _ _ _ _ _ _ [.int (Int32.ofInt 1)] _ _ _
              refine g_if_eq 21 25 (gd rfl) rfl rfl (fun c18 => ?_) (fun c18 => ?_)
              · skip
                exact zn_eq c18 (in_c 1 rfl) rfl
              · skip
                refine g_iconst 1 22 (gd rfl) rfl rfl ?_
                refine g_goto 26 (gd rfl) rfl ?_
                refine g_thr (E := am_IA) (y := yX11_allow) 29 (gd rfl) rfl rfl (Or.inl ⟨rfl, rfl, rfl⟩) (by first | exact dq1 hd rfl | exact dq0 hd rfl | exact dq2 hd rfl | exact dq3 hd rfl | omega) (Nat.le_of_ble_eq_true rfl) (Nat.le_of_ble_eq_true rfl) (Nat.le_of_ble_eq_true rfl) (fun c26 => ?_) (fun c26 => ?_)
                · skip
                  refine g_aload_n 30 (gd rfl) rfl rfl ?_
                  refine g_getA (q2 := 49) 33 (gd rfl) rfl rfl rfl rfl ?_
                  refine g_aload_n 34 (gd rfl) rfl rfl ?_
                  refine g_iload_n 35 (gd rfl) rfl rfl ?_
                  refine g_iload_n 36 (gd rfl) rfl rfl ?_
                  refine g_callv (X := _) (As := [.ref (A 32), .int x1, .int x2]) (r := []) (b := A 49) (q := 49) 39 (gd rfl) rfl rfl rfl rfl rfl (ww_o rfl) (Nat.le_of_ble_eq_true rfl) (mc := 0) (ms := 0) (Nat.zero_le _) (Nat.zero_le _) (P := fun v u => _) ?_ (fun e u h => h) (fun v u h => h)
                  intro po36 xx36 hp36 hx36
                  refine g_enter2 (k := 194) (N := 300) (by first | exact dq1 hd rfl | exact dq0 hd rfl | exact dq2 hd rfl | exact dq3 hd rfl | omega) rfl (Nat.le_of_ble_eq_true rfl) ?_
                  refine g_aload_n 1 (gd rfl) rfl rfl ?_
                  refine g_aload_n 2 (gd rfl) rfl rfl ?_
                  refine g_iload_n 3 (gd rfl) rfl rfl ?_
                  refine g_callv (X := _) (As := [.ref (A 32), .int x2]) (r := []) (b := A 49) (q := 49) 6 (gd rfl) rfl rfl rfl rfl rfl (ww_o rfl) (Nat.le_of_ble_eq_true rfl) (Nat.zero_le _) (Nat.zero_le _) (k_198_49_32 (by first | exact dq1 hd rfl | exact dq0 hd rfl | exact dq2 hd rfl | exact dq3 hd rfl | omega) hI (in_w 0 31 i15x9 rfl)) (fun e u h => h) (fun v u h => ?_)
                  obtain ⟨s36x3, hI36x3, hF36x3, rfl, rfl⟩ := h
                  show GG _ _ _ _ _ _ _ _ [] _ _ _
                  refine g_aload_n 7 (gd rfl) rfl rfl ?_
                  refine g_getI 10 (gd rfl) rfl rfl rfl (fun z36x7 e36x7 => ?_)
                  refine g_iload_n 11 (gd rfl) rfl rfl ?_
                  refine g_ishr 12 (gd rfl) rfl (fun z36x11 e36x11 => ?_)
                  refine g_iconst 1 13 (gd rfl) rfl rfl ?_
                  refine g_iand 14 (gd rfl) rfl (fun z36x13 e36x13 => ?_)
                  have i36x13 := in_and2 e36x13 (in_c 1 rfl) rfl
                  refine g_if_eq 17 21 (gd rfl) rfl rfl (fun c36x14 => ?_) (fun c36x14 => ?_)
                  · skip
                    have i36x14 := z_eq 0 0 c36x14 i36x13 rfl
                    refine g_aload_n 22 (gd rfl) rfl rfl ?_
                    refine g_getA (q2 := 50) 25 (gd rfl) rfl rfl rfl rfl ?_
                    refine g_iload_n 26 (gd rfl) rfl rfl ?_
                    refine g_laload 27 (gd rfl) rfl (n := 32) rfl (in_ix i7x9 rfl) (fun z36x26 e36x26 => ?_)
                    refine g_ldc2_w 9223372036854775807 30 (gd rfl) rfl rfl ?_
                    refine g_lcmp 31 (gd rfl) rfl (fun z36x30 e36x30 => ?_)
                    have i36x30 := lc_in e36x30
                    refine g_if_ne 34 40 (gd rfl) rfl rfl (fun c36x31 => ?_) (fun c36x31 => ?_)
                    · skip
                      have c36x31a := lc_ne e36x30 c36x31
                      have i36x31 := lr_ne1 (-9223372036854775808) 9223372036854775806 c36x31a (l_rng z36x26) (l_c 9223372036854775807 rfl) rfl
                      refine g_aload_n 41 (gd rfl) rfl rfl ?_
                      refine g_getA (q2 := 50) 44 (gd rfl) rfl rfl rfl rfl ?_
                      refine g_iload_n 45 (gd rfl) rfl rfl ?_
                      refine g_laload 46 (gd rfl) rfl (n := 32) rfl (in_ix i7x9 rfl) (fun z36x45 e36x45 => ?_)
                      refine g_ldc2_w 1024 49 (gd rfl) rfl rfl ?_
                      refine g_calls (As := [.long z36x45, .long (Int64.ofInt 1024)]) (r := []) 52 (gd rfl) rfl rfl rfl rfl rfl (Nat.le_of_ble_eq_true rfl) (mc := 0) (ms := 0) (Nat.zero_le _) (Nat.zero_le _) (P := fun v u => _) ?_ (fun v u h => h)
                      intro po36x49 xx36x49 hp36x49 hx36x49
                      refine g_enter2 (k := 418) (N := 300) (by first | exact dq1 hd rfl | exact dq0 hd rfl | exact dq2 hd rfl | exact dq3 hd rfl | omega) rfl (Nat.le_of_ble_eq_true rfl) ?_
                      refine g_lload_n 1 (gd rfl) rfl rfl ?_
                      refine g_lload_n 2 (gd rfl) rfl rfl ?_
                      refine g_ldiv 3 (gd rfl) rfl (by decide) (fun z36x49x2 e36x49x2 => ?_)
                      refine g_lstore 5 (gd rfl) rfl (Nat.le_of_ble_eq_true rfl) ?_
                      refine g_lload_n 6 (gd rfl) rfl rfl ?_
                      refine g_lload_n 7 (gd rfl) rfl rfl ?_
                      refine g_lxor 8 (gd rfl) rfl (fun z36x49x7 e36x49x7 => ?_)
                      refine g_lconst 0 9 (gd rfl) rfl rfl ?_
                      refine g_lcmp 10 (gd rfl) rfl (fun z36x49x9 e36x49x9 => ?_)
                      have i36x49x9 := lc_in e36x49x9
                      refine g_if_ge 13 27 (gd rfl) rfl rfl (fun c36x49x10 => ?_) (fun c36x49x10 => ?_)
                      · skip
                        have i36x49x10 := z_ge 0 1 c36x49x10 i36x49x9 rfl
                        have c36x49x10a := lc_ge e36x49x9 c36x49x10
                        have i36x49x10a := lr_le2 0 9223372036854775807 c36x49x10a (l_c 0 rfl) (l_rng z36x49x7) rfl
                        refine g_lload 29 (gd rfl) rfl rfl ?_
                        refine g_lreturn (gd rfl) rfl (hp36x49 _ _ ?_)
                        show GG _ _ _ _ _ _ _ _ [.long z36x49x2] _ _ _
                        refine g_lreturn (gd rfl) rfl (hp36 _ _ ?_)
                        show GG _ _ _ _ _ _ _ _ [.long z36x49x2] _ _ _
                        exact g_lreturn (gd rfl) rfl (hP _ _ ⟨s36x3, hI36x3, (fr_tr rfl fr_rf hF36x3), z36x49x2, rfl, rfl⟩)
                      · skip
                        have i36x49x10 := z_lt (-1) (-1) c36x49x10 i36x49x9 rfl
                        have c36x49x10a := lc_lt e36x49x9 c36x49x10
                        have i36x49x10a := lr_lt1 (-9223372036854775808) (-1) c36x49x10a (l_rng z36x49x7) (l_c 0 rfl) rfl
                        refine g_lload 15 (gd rfl) rfl rfl ?_
                        refine g_lload_n 16 (gd rfl) rfl rfl ?_
                        refine g_lmul 17 (gd rfl) rfl (fun z36x49x16 e36x49x16 => ?_)
                        refine g_lload_n 18 (gd rfl) rfl rfl ?_
                        refine g_lcmp 19 (gd rfl) rfl (fun z36x49x18 e36x49x18 => ?_)
                        have i36x49x18 := lc_in e36x49x18
                        refine g_if_eq 22 27 (gd rfl) rfl rfl (fun c36x49x19 => ?_) (fun c36x49x19 => ?_)
                        · skip
                          have i36x49x19 := z_eq 0 0 c36x49x19 i36x49x18 rfl
                          have c36x49x19a := lc_eq e36x49x18 c36x49x19
                          refine g_lload 29 (gd rfl) rfl rfl ?_
                          refine g_lreturn (gd rfl) rfl (hp36x49 _ _ ?_)
                          show GG _ _ _ _ _ _ _ _ [.long z36x49x2] _ _ _
                          refine g_lreturn (gd rfl) rfl (hp36 _ _ ?_)
                          show GG _ _ _ _ _ _ _ _ [.long z36x49x2] _ _ _
                          exact g_lreturn (gd rfl) rfl (hP _ _ ⟨s36x3, hI36x3, (fr_tr rfl fr_rf hF36x3), z36x49x2, rfl, rfl⟩)
                        · skip
                          have c36x49x19a := lc_ne e36x49x18 c36x49x19
                          refine g_lload 24 (gd rfl) rfl rfl ?_
                          refine g_lconst 1 25 (gd rfl) rfl rfl ?_
                          refine g_lsub 26 (gd rfl) rfl (fun z36x49x25 e36x49x25 => ?_)
                          refine g_lreturn (gd rfl) rfl (hp36x49 _ _ ?_)
                          show GG _ _ _ _ _ _ _ _ [.long z36x49x25] _ _ _
                          refine g_lreturn (gd rfl) rfl (hp36 _ _ ?_)
                          show GG _ _ _ _ _ _ _ _ [.long z36x49x25] _ _ _
                          exact g_lreturn (gd rfl) rfl (hP _ _ ⟨s36x3, hI36x3, (fr_tr rfl fr_rf hF36x3), z36x49x25, rfl, rfl⟩)
                    · skip
                      have i36x31 := z_eq 0 0 c36x31 i36x30 rfl
                      have c36x31a := lc_eq e36x30 c36x31
                      have i36x31a := lr_eq1 9223372036854775807 9223372036854775807 c36x31a (l_rng z36x26) (l_c 9223372036854775807 rfl) rfl
                      refine g_ldc2_w 9000000000000000 37 (gd rfl) rfl rfl ?_
                      refine g_goto 52 (gd rfl) rfl ?_
                      refine g_lreturn (gd rfl) rfl (hp36 _ _ ?_)
                      show GG _ _ _ _ _ _ _ _ [.long (Int64.ofInt 9000000000000000)] _ _ _
                      exact g_lreturn (gd rfl) rfl (hP _ _ ⟨s36x3, hI36x3, (fr_tr rfl fr_rf hF36x3), (Int64.ofInt 9000000000000000), rfl, rfl⟩)
                  · skip
                    have i36x14 := z_ne 1 1 c36x14 i36x13 rfl
                    refine g_ldc2_w 9000000000000001 20 (gd rfl) rfl rfl ?_
                    refine g_lreturn (gd rfl) rfl (hp36 _ _ ?_)
                    show GG _ _ _ _ _ _ _ _ [.long (Int64.ofInt 9000000000000001)] _ _ _
                    exact g_lreturn (gd rfl) rfl (hP _ _ ⟨s36x3, hI36x3, (fr_tr rfl fr_rf hF36x3), (Int64.ofInt 9000000000000001), rfl, rfl⟩)
                · skip
                  exact zn_eq c26 (in_c 1 rfl) rfl
  · skip
    have i1x5 := r_eq1 (-1) (-1) c1x5 ro_0_2 (in_c (-1) rfl) rfl
    refine g_aload_n 9 (gd rfl) rfl rfl ?_
    refine g_getA (q2 := 1) 12 (gd rfl) rfl rfl rfl rfl ?_
    refine g_getA (q2 := 2) 15 (gd rfl) rfl rfl rfl rfl ?_
    refine g_goto 22 (gd rfl) rfl ?_
    refine g_areturn (gd rfl) rfl (hp1 _ _ ?_)
    show GG _ _ _ _ _ _ _ _ [.ref (A 2)] _ _ _
    refine g_astore_n 5 (gd rfl) rfl (Nat.le_of_ble_eq_true rfl) ?_
    refine g_aload_n 6 (gd rfl) rfl rfl ?_
    refine g_iload_n 7 (gd rfl) rfl rfl ?_
    refine g_callv (X := _) (As := [.int x1]) (r := []) (b := A 2) (q := 2) 10 (gd rfl) rfl rfl rfl rfl rfl (ww_o rfl) (Nat.le_of_ble_eq_true rfl) (mc := 0) (ms := 0) (Nat.zero_le _) (Nat.zero_le _) (P := fun v u => _) ?_ (fun e u h => h) (fun v u h => h)
    intro po7 xx7 hp7 hx7
    refine g_enter2 (k := 94) (N := 300) (by first | exact dq1 hd rfl | exact dq0 hd rfl | exact dq2 hd rfl | exact dq3 hd rfl | omega) rfl (Nat.le_of_ble_eq_true rfl) ?_
    refine g_iload_n 1 (gd rfl) rfl rfl ?_
    refine g_if_lt 4 16 (gd rfl) rfl rfl (fun c7x1 => ?_) (fun c7x1 => ?_)
    · skip
      have i7x1 := z_lt (-2147483648) (-1) c7x1 (i_rng x1) rfl
      refine g_iconst 0 17 (gd rfl) rfl rfl ?_
      refine g_ireturn (gd rfl) rfl (nb01 (in_w 0 1 (in_c 0 rfl) rfl)) (hp7 _ _ ?_)
      show GG _ _ _ _ _ _ _ _ [.int (Int32.ofInt 0)] _ _ _
      refine g_if_eq 13 25 (gd rfl) rfl rfl (fun c10 => ?_) (fun c10 => ?_)
      · skip
        exact gg_w (by first | exact Nat.le_of_ble_eq_true rfl | omega) (gg_f (gf_cons rfl (gf_cons rfl (gf_cons rfl gf_nil))) (ct25 s  hI fr_rf ))
      · skip
        exact zn_ne c10 (in_c 0 rfl) rfl
    · skip
      have i7x1 := z_ge 0 2147483647 c7x1 (i_rng x1) rfl
      refine g_iload_n 5 (gd rfl) rfl rfl ?_
      refine g_aload_n 6 (gd rfl) rfl rfl ?_
      refine g_getI 9 (gd rfl) rfl rfl rfl (fun z7x6 e7x6 => ?_)
      have q7x6 : u_2_1 = z7x6 := (e_2_1).trans e7x6.symm
      subst q7x6
      refine g_cmp_ge 12 16 (gd rfl) rfl rfl (fun c7x9 => ?_) (fun c7x9 => ?_)
      · skip
        refine g_iconst 0 17 (gd rfl) rfl rfl ?_
        refine g_ireturn (gd rfl) rfl (nb01 (in_w 0 1 (in_c 0 rfl) rfl)) (hp7 _ _ ?_)
        show GG _ _ _ _ _ _ _ _ [.int (Int32.ofInt 0)] _ _ _
        refine g_if_eq 13 25 (gd rfl) rfl rfl (fun c10 => ?_) (fun c10 => ?_)
        · skip
          exact gg_w (by first | exact Nat.le_of_ble_eq_true rfl | omega) (gg_f (gf_cons rfl (gf_cons rfl (gf_cons rfl gf_nil))) (ct25 s  hI fr_rf ))
        · skip
          exact zn_ne c10 (in_c 0 rfl) rfl
      · skip
        have i7x9 := r_lt1 0 31 c7x9 i7x1 ro_2_1 rfl
        have i7x9a := r_lt2 1 32 c7x9 i7x1 ro_2_1 rfl
        refine g_iconst 1 13 (gd rfl) rfl rfl ?_
        refine g_goto 17 (gd rfl) rfl ?_
        refine g_ireturn (gd rfl) rfl (nb01 (in_w 0 1 (in_c 1 rfl) rfl)) (hp7 _ _ ?_)
        show GG _ _ _ _ _ _ _ _ [.int (Int32.ofInt 1)] _ _ _
        refine g_if_eq 13 25 (gd rfl) rfl rfl (fun c10 => ?_) (fun c10 => ?_)
        · skip
          exact zn_eq c10 (in_c 1 rfl) rfl
        · skip
          refine g_aload_n 14 (gd rfl) rfl rfl ?_
          refine g_iload_n 15 (gd rfl) rfl rfl ?_
          refine g_callv (X := _) (As := [.int x2]) (r := []) (b := A 2) (q := 2) 18 (gd rfl) rfl rfl rfl rfl rfl (ww_o rfl) (Nat.le_of_ble_eq_true rfl) (mc := 0) (ms := 0) (Nat.zero_le _) (Nat.zero_le _) (P := fun v u => _) ?_ (fun e u h => h) (fun v u h => h)
          intro po15 xx15 hp15 hx15
          refine g_enter2 (k := 94) (N := 300) (by first | exact dq1 hd rfl | exact dq0 hd rfl | exact dq2 hd rfl | exact dq3 hd rfl | omega) rfl (Nat.le_of_ble_eq_true rfl) ?_
          refine g_iload_n 1 (gd rfl) rfl rfl ?_
          refine g_if_lt 4 16 (gd rfl) rfl rfl (fun c15x1 => ?_) (fun c15x1 => ?_)
          · skip
            have i15x1 := z_lt (-2147483648) (-1) c15x1 (i_rng x2) rfl
            refine g_iconst 0 17 (gd rfl) rfl rfl ?_
            refine g_ireturn (gd rfl) rfl (nb01 (in_w 0 1 (in_c 0 rfl) rfl)) (hp15 _ _ ?_)
            show GG _ _ _ _ _ _ _ _ [.int (Int32.ofInt 0)] _ _ _
            refine g_if_eq 21 25 (gd rfl) rfl rfl (fun c18 => ?_) (fun c18 => ?_)
            · skip
              exact gg_w (by first | exact Nat.le_of_ble_eq_true rfl | omega) (gg_f (gf_cons rfl (gf_cons rfl (gf_cons rfl gf_nil))) (ct25 s  hI fr_rf ))
            · skip
              exact zn_ne c18 (in_c 0 rfl) rfl
          · skip
            have i15x1 := z_ge 0 2147483647 c15x1 (i_rng x2) rfl
            refine g_iload_n 5 (gd rfl) rfl rfl ?_
            refine g_aload_n 6 (gd rfl) rfl rfl ?_
            refine g_getI 9 (gd rfl) rfl rfl rfl (fun z15x6 e15x6 => ?_)
            have q15x6 : u_2_1 = z15x6 := (e_2_1).trans e15x6.symm
            subst q15x6
            refine g_cmp_ge 12 16 (gd rfl) rfl rfl (fun c15x9 => ?_) (fun c15x9 => ?_)
            · skip
              have i15x9 := r_le2 1 2147483647 c15x9 i7x9a i15x1 rfl
              refine g_iconst 0 17 (gd rfl) rfl rfl ?_
              refine g_ireturn (gd rfl) rfl (nb01 (in_w 0 1 (in_c 0 rfl) rfl)) (hp15 _ _ ?_)
              show GG _ _ _ _ _ _ _ _ [.int (Int32.ofInt 0)] _ _ _
              refine g_if_eq 21 25 (gd rfl) rfl rfl (fun c18 => ?_) (fun c18 => ?_)
              · skip
                exact gg_w (by first | exact Nat.le_of_ble_eq_true rfl | omega) (gg_f (gf_cons rfl (gf_cons rfl (gf_cons rfl gf_nil))) (ct25 s  hI fr_rf ))
              · skip
                exact zn_ne c18 (in_c 0 rfl) rfl
            · skip
              have i15x9 := r_lt1 0 31 c15x9 i15x1 i7x9a rfl
              refine g_iconst 1 13 (gd rfl) rfl rfl ?_
              refine g_goto 17 (gd rfl) rfl ?_
              refine g_ireturn (gd rfl) rfl (nb01 (in_w 0 1 (in_c 1 rfl) rfl)) (hp15 _ _ ?_)
              show GG _ _ _ _ _ _ _ _ [.int (Int32.ofInt 1)] _ _ _
              refine g_if_eq 21 25 (gd rfl) rfl rfl (fun c18 => ?_) (fun c18 => ?_)
              · skip
                exact zn_eq c18 (in_c 1 rfl) rfl
              · skip
                refine g_iconst 1 22 (gd rfl) rfl rfl ?_
                refine g_goto 26 (gd rfl) rfl ?_
                refine g_thr (E := am_IA) (y := yX11_allow) 29 (gd rfl) rfl rfl (Or.inl ⟨rfl, rfl, rfl⟩) (by first | exact dq1 hd rfl | exact dq0 hd rfl | exact dq2 hd rfl | exact dq3 hd rfl | omega) (Nat.le_of_ble_eq_true rfl) (Nat.le_of_ble_eq_true rfl) (Nat.le_of_ble_eq_true rfl) (fun c26 => ?_) (fun c26 => ?_)
                · skip
                  refine g_aload_n 30 (gd rfl) rfl rfl ?_
                  refine g_getA (q2 := 49) 33 (gd rfl) rfl rfl rfl rfl ?_
                  refine g_aload_n 34 (gd rfl) rfl rfl ?_
                  refine g_iload_n 35 (gd rfl) rfl rfl ?_
                  refine g_iload_n 36 (gd rfl) rfl rfl ?_
                  refine g_callv (X := _) (As := [.ref (A 2), .int x1, .int x2]) (r := []) (b := A 49) (q := 49) 39 (gd rfl) rfl rfl rfl rfl rfl (ww_o rfl) (Nat.le_of_ble_eq_true rfl) (mc := 0) (ms := 0) (Nat.zero_le _) (Nat.zero_le _) (P := fun v u => _) ?_ (fun e u h => h) (fun v u h => h)
                  intro po36 xx36 hp36 hx36
                  refine g_enter2 (k := 194) (N := 300) (by first | exact dq1 hd rfl | exact dq0 hd rfl | exact dq2 hd rfl | exact dq3 hd rfl | omega) rfl (Nat.le_of_ble_eq_true rfl) ?_
                  refine g_aload_n 1 (gd rfl) rfl rfl ?_
                  refine g_aload_n 2 (gd rfl) rfl rfl ?_
                  refine g_iload_n 3 (gd rfl) rfl rfl ?_
                  refine g_callv (X := _) (As := [.ref (A 2), .int x2]) (r := []) (b := A 49) (q := 49) 6 (gd rfl) rfl rfl rfl rfl rfl (ww_o rfl) (Nat.le_of_ble_eq_true rfl) (Nat.zero_le _) (Nat.zero_le _) (k_198_49_2 (by first | exact dq1 hd rfl | exact dq0 hd rfl | exact dq2 hd rfl | exact dq3 hd rfl | omega) hI (in_w 0 31 i15x9 rfl)) (fun e u h => h) (fun v u h => ?_)
                  obtain ⟨s36x3, hI36x3, hF36x3, rfl, rfl⟩ := h
                  show GG _ _ _ _ _ _ _ _ [] _ _ _
                  refine g_aload_n 7 (gd rfl) rfl rfl ?_
                  refine g_getI 10 (gd rfl) rfl rfl rfl (fun z36x7 e36x7 => ?_)
                  refine g_iload_n 11 (gd rfl) rfl rfl ?_
                  refine g_ishr 12 (gd rfl) rfl (fun z36x11 e36x11 => ?_)
                  refine g_iconst 1 13 (gd rfl) rfl rfl ?_
                  refine g_iand 14 (gd rfl) rfl (fun z36x13 e36x13 => ?_)
                  have i36x13 := in_and2 e36x13 (in_c 1 rfl) rfl
                  refine g_if_eq 17 21 (gd rfl) rfl rfl (fun c36x14 => ?_) (fun c36x14 => ?_)
                  · skip
                    have i36x14 := z_eq 0 0 c36x14 i36x13 rfl
                    refine g_aload_n 22 (gd rfl) rfl rfl ?_
                    refine g_getA (q2 := 50) 25 (gd rfl) rfl rfl rfl rfl ?_
                    refine g_iload_n 26 (gd rfl) rfl rfl ?_
                    refine g_laload 27 (gd rfl) rfl (n := 32) rfl (in_ix i7x9 rfl) (fun z36x26 e36x26 => ?_)
                    refine g_ldc2_w 9223372036854775807 30 (gd rfl) rfl rfl ?_
                    refine g_lcmp 31 (gd rfl) rfl (fun z36x30 e36x30 => ?_)
                    have i36x30 := lc_in e36x30
                    refine g_if_ne 34 40 (gd rfl) rfl rfl (fun c36x31 => ?_) (fun c36x31 => ?_)
                    · skip
                      have c36x31a := lc_ne e36x30 c36x31
                      have i36x31 := lr_ne1 (-9223372036854775808) 9223372036854775806 c36x31a (l_rng z36x26) (l_c 9223372036854775807 rfl) rfl
                      refine g_aload_n 41 (gd rfl) rfl rfl ?_
                      refine g_getA (q2 := 50) 44 (gd rfl) rfl rfl rfl rfl ?_
                      refine g_iload_n 45 (gd rfl) rfl rfl ?_
                      refine g_laload 46 (gd rfl) rfl (n := 32) rfl (in_ix i7x9 rfl) (fun z36x45 e36x45 => ?_)
                      refine g_ldc2_w 1024 49 (gd rfl) rfl rfl ?_
                      refine g_calls (As := [.long z36x45, .long (Int64.ofInt 1024)]) (r := []) 52 (gd rfl) rfl rfl rfl rfl rfl (Nat.le_of_ble_eq_true rfl) (mc := 0) (ms := 0) (Nat.zero_le _) (Nat.zero_le _) (P := fun v u => _) ?_ (fun v u h => h)
                      intro po36x49 xx36x49 hp36x49 hx36x49
                      refine g_enter2 (k := 418) (N := 300) (by first | exact dq1 hd rfl | exact dq0 hd rfl | exact dq2 hd rfl | exact dq3 hd rfl | omega) rfl (Nat.le_of_ble_eq_true rfl) ?_
                      refine g_lload_n 1 (gd rfl) rfl rfl ?_
                      refine g_lload_n 2 (gd rfl) rfl rfl ?_
                      refine g_ldiv 3 (gd rfl) rfl (by decide) (fun z36x49x2 e36x49x2 => ?_)
                      refine g_lstore 5 (gd rfl) rfl (Nat.le_of_ble_eq_true rfl) ?_
                      refine g_lload_n 6 (gd rfl) rfl rfl ?_
                      refine g_lload_n 7 (gd rfl) rfl rfl ?_
                      refine g_lxor 8 (gd rfl) rfl (fun z36x49x7 e36x49x7 => ?_)
                      refine g_lconst 0 9 (gd rfl) rfl rfl ?_
                      refine g_lcmp 10 (gd rfl) rfl (fun z36x49x9 e36x49x9 => ?_)
                      have i36x49x9 := lc_in e36x49x9
                      refine g_if_ge 13 27 (gd rfl) rfl rfl (fun c36x49x10 => ?_) (fun c36x49x10 => ?_)
                      · skip
                        have i36x49x10 := z_ge 0 1 c36x49x10 i36x49x9 rfl
                        have c36x49x10a := lc_ge e36x49x9 c36x49x10
                        have i36x49x10a := lr_le2 0 9223372036854775807 c36x49x10a (l_c 0 rfl) (l_rng z36x49x7) rfl
                        refine g_lload 29 (gd rfl) rfl rfl ?_
                        refine g_lreturn (gd rfl) rfl (hp36x49 _ _ ?_)
                        show GG _ _ _ _ _ _ _ _ [.long z36x49x2] _ _ _
                        refine g_lreturn (gd rfl) rfl (hp36 _ _ ?_)
                        show GG _ _ _ _ _ _ _ _ [.long z36x49x2] _ _ _
                        exact g_lreturn (gd rfl) rfl (hP _ _ ⟨s36x3, hI36x3, (fr_tr rfl fr_rf hF36x3), z36x49x2, rfl, rfl⟩)
                      · skip
                        have i36x49x10 := z_lt (-1) (-1) c36x49x10 i36x49x9 rfl
                        have c36x49x10a := lc_lt e36x49x9 c36x49x10
                        have i36x49x10a := lr_lt1 (-9223372036854775808) (-1) c36x49x10a (l_rng z36x49x7) (l_c 0 rfl) rfl
                        refine g_lload 15 (gd rfl) rfl rfl ?_
                        refine g_lload_n 16 (gd rfl) rfl rfl ?_
                        refine g_lmul 17 (gd rfl) rfl (fun z36x49x16 e36x49x16 => ?_)
                        refine g_lload_n 18 (gd rfl) rfl rfl ?_
                        refine g_lcmp 19 (gd rfl) rfl (fun z36x49x18 e36x49x18 => ?_)
                        have i36x49x18 := lc_in e36x49x18
                        refine g_if_eq 22 27 (gd rfl) rfl rfl (fun c36x49x19 => ?_) (fun c36x49x19 => ?_)
                        · skip
                          have i36x49x19 := z_eq 0 0 c36x49x19 i36x49x18 rfl
                          have c36x49x19a := lc_eq e36x49x18 c36x49x19
                          refine g_lload 29 (gd rfl) rfl rfl ?_
                          refine g_lreturn (gd rfl) rfl (hp36x49 _ _ ?_)
                          show GG _ _ _ _ _ _ _ _ [.long z36x49x2] _ _ _
                          refine g_lreturn (gd rfl) rfl (hp36 _ _ ?_)
                          show GG _ _ _ _ _ _ _ _ [.long z36x49x2] _ _ _
                          exact g_lreturn (gd rfl) rfl (hP _ _ ⟨s36x3, hI36x3, (fr_tr rfl fr_rf hF36x3), z36x49x2, rfl, rfl⟩)
                        · skip
                          have c36x49x19a := lc_ne e36x49x18 c36x49x19
                          refine g_lload 24 (gd rfl) rfl rfl ?_
                          refine g_lconst 1 25 (gd rfl) rfl rfl ?_
                          refine g_lsub 26 (gd rfl) rfl (fun z36x49x25 e36x49x25 => ?_)
                          refine g_lreturn (gd rfl) rfl (hp36x49 _ _ ?_)
                          show GG _ _ _ _ _ _ _ _ [.long z36x49x25] _ _ _
                          refine g_lreturn (gd rfl) rfl (hp36 _ _ ?_)
                          show GG _ _ _ _ _ _ _ _ [.long z36x49x25] _ _ _
                          exact g_lreturn (gd rfl) rfl (hP _ _ ⟨s36x3, hI36x3, (fr_tr rfl fr_rf hF36x3), z36x49x25, rfl, rfl⟩)
                    · skip
                      have i36x31 := z_eq 0 0 c36x31 i36x30 rfl
                      have c36x31a := lc_eq e36x30 c36x31
                      have i36x31a := lr_eq1 9223372036854775807 9223372036854775807 c36x31a (l_rng z36x26) (l_c 9223372036854775807 rfl) rfl
                      refine g_ldc2_w 9000000000000000 37 (gd rfl) rfl rfl ?_
                      refine g_goto 52 (gd rfl) rfl ?_
                      refine g_lreturn (gd rfl) rfl (hp36 _ _ ?_)
                      show GG _ _ _ _ _ _ _ _ [.long (Int64.ofInt 9000000000000000)] _ _ _
                      exact g_lreturn (gd rfl) rfl (hP _ _ ⟨s36x3, hI36x3, (fr_tr rfl fr_rf hF36x3), (Int64.ofInt 9000000000000000), rfl, rfl⟩)
                  · skip
                    have i36x14 := z_ne 1 1 c36x14 i36x13 rfl
                    refine g_ldc2_w 9000000000000001 20 (gd rfl) rfl rfl ?_
                    refine g_lreturn (gd rfl) rfl (hp36 _ _ ?_)
                    show GG _ _ _ _ _ _ _ _ [.long (Int64.ofInt 9000000000000001)] _ _ _
                    exact g_lreturn (gd rfl) rfl (hP _ _ ⟨s36x3, hI36x3, (fr_tr rfl fr_rf hF36x3), (Int64.ofInt 9000000000000001), rfl, rfl⟩)
                · skip
                  exact zn_eq c26 (in_c 1 rfl) rfl

def fm_231_0 : FM := ([9, 10, 11, 12, 13, 14, 15, 39, 40, 41, 42, 43, 44, 45, 51], [], [(2, 4), (32, 4)], [])
/-- GraphHouse.width -/
theorem k_231_0 {Z : AmZ} {A : Nat → Nat} {s : GS} {ex : va_W} {d : Nat} {x1 : Int32} {x2 : Int32} (hd : 7 ≤ d) (hI : Inv s)  : GC Z d 231 [.ref (A 0), .int x1, .int x2] (WW Z A s ++ ex) 3 18 (fun v u => ∃ t : GS, Inv t ∧ Fr fm_231_0 s t ∧ ∃ z : Int32, v = some (.int z) ∧ u = WW Z A t ++ ex ∧ In z (-1) 1000001) (gE1 Z A ex fm_231_0 s) := by
  intro post xp hP hX
  obtain ⟨u_0_2, e_0_2⟩ : ∃ w, w = s.2.2.1 0 2 := ⟨_, rfl⟩
  have ro_0_2 := inv_F hI (-1) 4000 rfl e_0_2
  obtain ⟨u_2_1, e_2_1⟩ : ∃ w, w = s.2.2.1 2 1 := ⟨_, rfl⟩
  have ro_2_1 := inv_F hI 0 32 rfl e_2_1
  obtain ⟨u_32_1, e_32_1⟩ : ∃ w, w = s.2.2.1 32 1 := ⟨_, rfl⟩
  have ro_32_1 := inv_F hI 0 32 rfl e_32_1
  refine g_enter2 (k := 231) (N := 900) (by first | exact dq1 hd rfl | exact dq0 hd rfl | exact dq2 hd rfl | exact dq3 hd rfl | omega) rfl (Nat.le_of_ble_eq_true rfl) ?_
  refine g_aload_n 1 (gd rfl) rfl rfl ?_
  refine g_callv (X := _) (As := []) (r := []) (b := A 0) (q := 0) 4 (gd rfl) rfl rfl rfl rfl rfl (ww_o rfl) (Nat.le_of_ble_eq_true rfl) (mc := 0) (ms := 0) (Nat.zero_le _) (Nat.zero_le _) (P := fun v u => _) ?_ (fun e u h => h) (fun v u h => h)
  intro po1 xx1 hp1 hx1
  refine g_enter2 (k := 259) (N := 300) (by first | exact dq1 hd rfl | exact dq0 hd rfl | exact dq2 hd rfl | exact dq3 hd rfl | omega) rfl (Nat.le_of_ble_eq_true rfl) ?_
  refine g_aload_n 1 (gd rfl) rfl rfl ?_
  refine g_getI 4 (gd rfl) rfl rfl rfl (fun z1x1 e1x1 => ?_)
  have q1x1 : u_0_2 = z1x1 := (e_0_2).trans e1x1.symm
  subst q1x1
  refine g_iconst (-1) 5 (gd rfl) rfl rfl ?_
  refine g_cmp_ne 8 18 (gd rfl) rfl rfl (fun c1x5 => ?_) (fun c1x5 => ?_)
  · skip
    have i1x5 := r_ne1 0 4000 c1x5 ro_0_2 (in_c (-1) rfl) rfl
    refine g_aload_n 19 (gd rfl) rfl rfl ?_
    refine g_getA (q2 := 32) 22 (gd rfl) rfl rfl rfl rfl ?_
    refine g_areturn (gd rfl) rfl (hp1 _ _ ?_)
    show GG _ _ _ _ _ _ _ _ [.ref (A 32)] _ _ _
    refine g_astore_n 5 (gd rfl) rfl (Nat.le_of_ble_eq_true rfl) ?_
    refine g_aload_n 6 (gd rfl) rfl rfl ?_
    refine g_iload_n 7 (gd rfl) rfl rfl ?_
    refine g_callv (X := _) (As := [.int x1]) (r := []) (b := A 32) (q := 32) 10 (gd rfl) rfl rfl rfl rfl rfl (ww_o rfl) (Nat.le_of_ble_eq_true rfl) (mc := 0) (ms := 0) (Nat.zero_le _) (Nat.zero_le _) (P := fun v u => _) ?_ (fun e u h => h) (fun v u h => h)
    intro po7 xx7 hp7 hx7
    refine g_enter2 (k := 94) (N := 300) (by first | exact dq1 hd rfl | exact dq0 hd rfl | exact dq2 hd rfl | exact dq3 hd rfl | omega) rfl (Nat.le_of_ble_eq_true rfl) ?_
    refine g_iload_n 1 (gd rfl) rfl rfl ?_
    refine g_if_lt 4 16 (gd rfl) rfl rfl (fun c7x1 => ?_) (fun c7x1 => ?_)
    · skip
      have i7x1 := z_lt (-2147483648) (-1) c7x1 (i_rng x1) rfl
      refine g_iconst 0 17 (gd rfl) rfl rfl ?_
      refine g_ireturn (gd rfl) rfl (nb01 (in_w 0 1 (in_c 0 rfl) rfl)) (hp7 _ _ ?_)
      show GG _ _ _ _ _ _ _ _ [.int (Int32.ofInt 0)] _ _ _
      refine g_if_eq 13 25 (gd rfl) rfl rfl (fun c10 => ?_) (fun c10 => ?_)
      · skip
        refine g_iconst 0 26 (gd rfl) rfl rfl ?_
        refine g_thr (E := am_IA) (y := yX11_allow) 29 (gd rfl) rfl rfl (Or.inl ⟨rfl, rfl, rfl⟩) (by first | exact dq1 hd rfl | exact dq0 hd rfl | exact dq2 hd rfl | exact dq3 hd rfl | omega) (Nat.le_of_ble_eq_true rfl) (Nat.le_of_ble_eq_true rfl) (Nat.le_of_ble_eq_true rfl) (fun c26 => ?_) (fun c26 => ?_)
        · skip
          exact zn_ne c26 (in_c 0 rfl) rfl
        · skip
          exact (hX _ _ ⟨rfl, s, hI, fr_rf, rfl⟩)
      · skip
        exact zn_ne c10 (in_c 0 rfl) rfl
    · skip
      have i7x1 := z_ge 0 2147483647 c7x1 (i_rng x1) rfl
      refine g_iload_n 5 (gd rfl) rfl rfl ?_
      refine g_aload_n 6 (gd rfl) rfl rfl ?_
      refine g_getI 9 (gd rfl) rfl rfl rfl (fun z7x6 e7x6 => ?_)
      have q7x6 : u_32_1 = z7x6 := (e_32_1).trans e7x6.symm
      subst q7x6
      refine g_cmp_ge 12 16 (gd rfl) rfl rfl (fun c7x9 => ?_) (fun c7x9 => ?_)
      · skip
        refine g_iconst 0 17 (gd rfl) rfl rfl ?_
        refine g_ireturn (gd rfl) rfl (nb01 (in_w 0 1 (in_c 0 rfl) rfl)) (hp7 _ _ ?_)
        show GG _ _ _ _ _ _ _ _ [.int (Int32.ofInt 0)] _ _ _
        refine g_if_eq 13 25 (gd rfl) rfl rfl (fun c10 => ?_) (fun c10 => ?_)
        · skip
          refine g_iconst 0 26 (gd rfl) rfl rfl ?_
          refine g_thr (E := am_IA) (y := yX11_allow) 29 (gd rfl) rfl rfl (Or.inl ⟨rfl, rfl, rfl⟩) (by first | exact dq1 hd rfl | exact dq0 hd rfl | exact dq2 hd rfl | exact dq3 hd rfl | omega) (Nat.le_of_ble_eq_true rfl) (Nat.le_of_ble_eq_true rfl) (Nat.le_of_ble_eq_true rfl) (fun c26 => ?_) (fun c26 => ?_)
          · skip
            exact zn_ne c26 (in_c 0 rfl) rfl
          · skip
            exact (hX _ _ ⟨rfl, s, hI, fr_rf, rfl⟩)
        · skip
          exact zn_ne c10 (in_c 0 rfl) rfl
      · skip
        have i7x9 := r_lt1 0 31 c7x9 i7x1 ro_32_1 rfl
        have i7x9a := r_lt2 1 32 c7x9 i7x1 ro_32_1 rfl
        refine g_iconst 1 13 (gd rfl) rfl rfl ?_
        refine g_goto 17 (gd rfl) rfl ?_
        refine g_ireturn (gd rfl) rfl (nb01 (in_w 0 1 (in_c 1 rfl) rfl)) (hp7 _ _ ?_)
        show GG _ _ _ _ _ _ _ _ [.int (Int32.ofInt 1)] _ _ _
        refine g_if_eq 13 25 (gd rfl) rfl rfl (fun c10 => ?_) (fun c10 => ?_)
        · skip
          exact zn_eq c10 (in_c 1 rfl) rfl
        · skip
          refine g_aload_n 14 (gd rfl) rfl rfl ?_
          refine g_iload_n 15 (gd rfl) rfl rfl ?_
          refine g_callv (X := _) (As := [.int x2]) (r := []) (b := A 32) (q := 32) 18 (gd rfl) rfl rfl rfl rfl rfl (ww_o rfl) (Nat.le_of_ble_eq_true rfl) (mc := 0) (ms := 0) (Nat.zero_le _) (Nat.zero_le _) (P := fun v u => _) ?_ (fun e u h => h) (fun v u h => h)
          intro po15 xx15 hp15 hx15
          refine g_enter2 (k := 94) (N := 300) (by first | exact dq1 hd rfl | exact dq0 hd rfl | exact dq2 hd rfl | exact dq3 hd rfl | omega) rfl (Nat.le_of_ble_eq_true rfl) ?_
          refine g_iload_n 1 (gd rfl) rfl rfl ?_
          refine g_if_lt 4 16 (gd rfl) rfl rfl (fun c15x1 => ?_) (fun c15x1 => ?_)
          · skip
            have i15x1 := z_lt (-2147483648) (-1) c15x1 (i_rng x2) rfl
            refine g_iconst 0 17 (gd rfl) rfl rfl ?_
            refine g_ireturn (gd rfl) rfl (nb01 (in_w 0 1 (in_c 0 rfl) rfl)) (hp15 _ _ ?_)
            show GG _ _ _ _ _ _ _ _ [.int (Int32.ofInt 0)] _ _ _
            refine g_if_eq 21 25 (gd rfl) rfl rfl (fun c18 => ?_) (fun c18 => ?_)
            · skip
              refine g_iconst 0 26 (gd rfl) rfl rfl ?_
              refine g_thr (E := am_IA) (y := yX11_allow) 29 (gd rfl) rfl rfl (Or.inl ⟨rfl, rfl, rfl⟩) (by first | exact dq1 hd rfl | exact dq0 hd rfl | exact dq2 hd rfl | exact dq3 hd rfl | omega) (Nat.le_of_ble_eq_true rfl) (Nat.le_of_ble_eq_true rfl) (Nat.le_of_ble_eq_true rfl) (fun c26 => ?_) (fun c26 => ?_)
              · skip
                exact zn_ne c26 (in_c 0 rfl) rfl
              · skip
                exact (hX _ _ ⟨rfl, s, hI, fr_rf, rfl⟩)
            · skip
              exact zn_ne c18 (in_c 0 rfl) rfl
          · skip
            have i15x1 := z_ge 0 2147483647 c15x1 (i_rng x2) rfl
            refine g_iload_n 5 (gd rfl) rfl rfl ?_
            refine g_aload_n 6 (gd rfl) rfl rfl ?_
            refine g_getI 9 (gd rfl) rfl rfl rfl (fun z15x6 e15x6 => ?_)
            have q15x6 : u_32_1 = z15x6 := (e_32_1).trans e15x6.symm
            subst q15x6
            refine g_cmp_ge 12 16 (gd rfl) rfl rfl (fun c15x9 => ?_) (fun c15x9 => ?_)
            · skip
              have i15x9 := r_le2 1 2147483647 c15x9 i7x9a i15x1 rfl
              refine g_iconst 0 17 (gd rfl) rfl rfl ?_
              refine g_ireturn (gd rfl) rfl (nb01 (in_w 0 1 (in_c 0 rfl) rfl)) (hp15 _ _ ?_)
              show GG _ _ _ _ _ _ _ _ [.int (Int32.ofInt 0)] _ _ _
              refine g_if_eq 21 25 (gd rfl) rfl rfl (fun c18 => ?_) (fun c18 => ?_)
              · skip
                refine g_iconst 0 26 (gd rfl) rfl rfl ?_
                refine g_thr (E := am_IA) (y := yX11_allow) 29 (gd rfl) rfl rfl (Or.inl ⟨rfl, rfl, rfl⟩) (by first | exact dq1 hd rfl | exact dq0 hd rfl | exact dq2 hd rfl | exact dq3 hd rfl | omega) (Nat.le_of_ble_eq_true rfl) (Nat.le_of_ble_eq_true rfl) (Nat.le_of_ble_eq_true rfl) (fun c26 => ?_) (fun c26 => ?_)
                · skip
                  exact zn_ne c26 (in_c 0 rfl) rfl
                · skip
                  exact (hX _ _ ⟨rfl, s, hI, fr_rf, rfl⟩)
              · skip
                exact zn_ne c18 (in_c 0 rfl) rfl
            · skip
              have i15x9 := r_lt1 0 31 c15x9 i15x1 i7x9a rfl
              refine g_iconst 1 13 (gd rfl) rfl rfl ?_
              refine g_goto 17 (gd rfl) rfl ?_
              refine g_ireturn (gd rfl) rfl (nb01 (in_w 0 1 (in_c 1 rfl) rfl)) (hp15 _ _ ?_)
              show GG _ _ _ _ _ _ _ _ [.int (Int32.ofInt 1)] _ _ _
              refine g_if_eq 21 25 (gd rfl) rfl rfl (fun c18 => ?_) (fun c18 => ?_)
              · skip
                exact zn_eq c18 (in_c 1 rfl) rfl
              · skip
                refine g_iconst 1 22 (gd rfl) rfl rfl ?_
                refine g_goto 26 (gd rfl) rfl ?_
                refine g_thr (E := am_IA) (y := yX11_allow) 29 (gd rfl) rfl rfl (Or.inl ⟨rfl, rfl, rfl⟩) (by first | exact dq1 hd rfl | exact dq0 hd rfl | exact dq2 hd rfl | exact dq3 hd rfl | omega) (Nat.le_of_ble_eq_true rfl) (Nat.le_of_ble_eq_true rfl) (Nat.le_of_ble_eq_true rfl) (fun c26 => ?_) (fun c26 => ?_)
                · skip
                  refine g_aload_n 30 (gd rfl) rfl rfl ?_
                  refine g_getA (q2 := 49) 33 (gd rfl) rfl rfl rfl rfl ?_
                  refine g_aload_n 34 (gd rfl) rfl rfl ?_
                  refine g_iload_n 35 (gd rfl) rfl rfl ?_
                  refine g_iload_n 36 (gd rfl) rfl rfl ?_
                  refine g_callv (X := _) (As := [.ref (A 32), .int x1, .int x2]) (r := []) (b := A 49) (q := 49) 39 (gd rfl) rfl rfl rfl rfl rfl (ww_o rfl) (Nat.le_of_ble_eq_true rfl) (Nat.zero_le _) (Nat.zero_le _) (k_200_49_32 (by first | exact dq1 hd rfl | exact dq0 hd rfl | exact dq2 hd rfl | exact dq3 hd rfl | omega) hI (in_w 0 31 i7x9 rfl) (in_w 0 31 i15x9 rfl)) (fun e u h => h) (fun v u h => ?_)
                  obtain ⟨s36, hI36, hF36, z36, rfl, rfl, i36⟩ := h
                  show GG _ _ _ _ _ _ _ _ [.int z36] _ _ _
                  exact g_ireturn (gd rfl) rfl rfl (hP _ _ ⟨s36, hI36, (fr_tr rfl fr_rf hF36), z36, rfl, rfl, in_w (-1) 1000001 i36 rfl⟩)
                · skip
                  exact zn_eq c26 (in_c 1 rfl) rfl
  · skip
    have i1x5 := r_eq1 (-1) (-1) c1x5 ro_0_2 (in_c (-1) rfl) rfl
    refine g_aload_n 9 (gd rfl) rfl rfl ?_
    refine g_getA (q2 := 1) 12 (gd rfl) rfl rfl rfl rfl ?_
    refine g_getA (q2 := 2) 15 (gd rfl) rfl rfl rfl rfl ?_
    refine g_goto 22 (gd rfl) rfl ?_
    refine g_areturn (gd rfl) rfl (hp1 _ _ ?_)
    show GG _ _ _ _ _ _ _ _ [.ref (A 2)] _ _ _
    refine g_astore_n 5 (gd rfl) rfl (Nat.le_of_ble_eq_true rfl) ?_
    refine g_aload_n 6 (gd rfl) rfl rfl ?_
    refine g_iload_n 7 (gd rfl) rfl rfl ?_
    refine g_callv (X := _) (As := [.int x1]) (r := []) (b := A 2) (q := 2) 10 (gd rfl) rfl rfl rfl rfl rfl (ww_o rfl) (Nat.le_of_ble_eq_true rfl) (mc := 0) (ms := 0) (Nat.zero_le _) (Nat.zero_le _) (P := fun v u => _) ?_ (fun e u h => h) (fun v u h => h)
    intro po7 xx7 hp7 hx7
    refine g_enter2 (k := 94) (N := 300) (by first | exact dq1 hd rfl | exact dq0 hd rfl | exact dq2 hd rfl | exact dq3 hd rfl | omega) rfl (Nat.le_of_ble_eq_true rfl) ?_
    refine g_iload_n 1 (gd rfl) rfl rfl ?_
    refine g_if_lt 4 16 (gd rfl) rfl rfl (fun c7x1 => ?_) (fun c7x1 => ?_)
    · skip
      have i7x1 := z_lt (-2147483648) (-1) c7x1 (i_rng x1) rfl
      refine g_iconst 0 17 (gd rfl) rfl rfl ?_
      refine g_ireturn (gd rfl) rfl (nb01 (in_w 0 1 (in_c 0 rfl) rfl)) (hp7 _ _ ?_)
      show GG _ _ _ _ _ _ _ _ [.int (Int32.ofInt 0)] _ _ _
      refine g_if_eq 13 25 (gd rfl) rfl rfl (fun c10 => ?_) (fun c10 => ?_)
      · skip
        refine g_iconst 0 26 (gd rfl) rfl rfl ?_
        refine g_thr (E := am_IA) (y := yX11_allow) 29 (gd rfl) rfl rfl (Or.inl ⟨rfl, rfl, rfl⟩) (by first | exact dq1 hd rfl | exact dq0 hd rfl | exact dq2 hd rfl | exact dq3 hd rfl | omega) (Nat.le_of_ble_eq_true rfl) (Nat.le_of_ble_eq_true rfl) (Nat.le_of_ble_eq_true rfl) (fun c26 => ?_) (fun c26 => ?_)
        · skip
          exact zn_ne c26 (in_c 0 rfl) rfl
        · skip
          exact (hX _ _ ⟨rfl, s, hI, fr_rf, rfl⟩)
      · skip
        exact zn_ne c10 (in_c 0 rfl) rfl
    · skip
      have i7x1 := z_ge 0 2147483647 c7x1 (i_rng x1) rfl
      refine g_iload_n 5 (gd rfl) rfl rfl ?_
      refine g_aload_n 6 (gd rfl) rfl rfl ?_
      refine g_getI 9 (gd rfl) rfl rfl rfl (fun z7x6 e7x6 => ?_)
      have q7x6 : u_2_1 = z7x6 := (e_2_1).trans e7x6.symm
      subst q7x6
      refine g_cmp_ge 12 16 (gd rfl) rfl rfl (fun c7x9 => ?_) (fun c7x9 => ?_)
      · skip
        refine g_iconst 0 17 (gd rfl) rfl rfl ?_
        refine g_ireturn (gd rfl) rfl (nb01 (in_w 0 1 (in_c 0 rfl) rfl)) (hp7 _ _ ?_)
        show GG _ _ _ _ _ _ _ _ [.int (Int32.ofInt 0)] _ _ _
        refine g_if_eq 13 25 (gd rfl) rfl rfl (fun c10 => ?_) (fun c10 => ?_)
        · skip
          refine g_iconst 0 26 (gd rfl) rfl rfl ?_
          refine g_thr (E := am_IA) (y := yX11_allow) 29 (gd rfl) rfl rfl (Or.inl ⟨rfl, rfl, rfl⟩) (by first | exact dq1 hd rfl | exact dq0 hd rfl | exact dq2 hd rfl | exact dq3 hd rfl | omega) (Nat.le_of_ble_eq_true rfl) (Nat.le_of_ble_eq_true rfl) (Nat.le_of_ble_eq_true rfl) (fun c26 => ?_) (fun c26 => ?_)
          · skip
            exact zn_ne c26 (in_c 0 rfl) rfl
          · skip
            exact (hX _ _ ⟨rfl, s, hI, fr_rf, rfl⟩)
        · skip
          exact zn_ne c10 (in_c 0 rfl) rfl
      · skip
        have i7x9 := r_lt1 0 31 c7x9 i7x1 ro_2_1 rfl
        have i7x9a := r_lt2 1 32 c7x9 i7x1 ro_2_1 rfl
        refine g_iconst 1 13 (gd rfl) rfl rfl ?_
        refine g_goto 17 (gd rfl) rfl ?_
        refine g_ireturn (gd rfl) rfl (nb01 (in_w 0 1 (in_c 1 rfl) rfl)) (hp7 _ _ ?_)
        show GG _ _ _ _ _ _ _ _ [.int (Int32.ofInt 1)] _ _ _
        refine g_if_eq 13 25 (gd rfl) rfl rfl (fun c10 => ?_) (fun c10 => ?_)
        · skip
          exact zn_eq c10 (in_c 1 rfl) rfl
        · skip
          refine g_aload_n 14 (gd rfl) rfl rfl ?_
          refine g_iload_n 15 (gd rfl) rfl rfl ?_
          refine g_callv (X := _) (As := [.int x2]) (r := []) (b := A 2) (q := 2) 18 (gd rfl) rfl rfl rfl rfl rfl (ww_o rfl) (Nat.le_of_ble_eq_true rfl) (mc := 0) (ms := 0) (Nat.zero_le _) (Nat.zero_le _) (P := fun v u => _) ?_ (fun e u h => h) (fun v u h => h)
          intro po15 xx15 hp15 hx15
          refine g_enter2 (k := 94) (N := 300) (by first | exact dq1 hd rfl | exact dq0 hd rfl | exact dq2 hd rfl | exact dq3 hd rfl | omega) rfl (Nat.le_of_ble_eq_true rfl) ?_
          refine g_iload_n 1 (gd rfl) rfl rfl ?_
          refine g_if_lt 4 16 (gd rfl) rfl rfl (fun c15x1 => ?_) (fun c15x1 => ?_)
          · skip
            have i15x1 := z_lt (-2147483648) (-1) c15x1 (i_rng x2) rfl
            refine g_iconst 0 17 (gd rfl) rfl rfl ?_
            refine g_ireturn (gd rfl) rfl (nb01 (in_w 0 1 (in_c 0 rfl) rfl)) (hp15 _ _ ?_)
            show GG _ _ _ _ _ _ _ _ [.int (Int32.ofInt 0)] _ _ _
            refine g_if_eq 21 25 (gd rfl) rfl rfl (fun c18 => ?_) (fun c18 => ?_)
            · skip
              refine g_iconst 0 26 (gd rfl) rfl rfl ?_
              refine g_thr (E := am_IA) (y := yX11_allow) 29 (gd rfl) rfl rfl (Or.inl ⟨rfl, rfl, rfl⟩) (by first | exact dq1 hd rfl | exact dq0 hd rfl | exact dq2 hd rfl | exact dq3 hd rfl | omega) (Nat.le_of_ble_eq_true rfl) (Nat.le_of_ble_eq_true rfl) (Nat.le_of_ble_eq_true rfl) (fun c26 => ?_) (fun c26 => ?_)
              · skip
                exact zn_ne c26 (in_c 0 rfl) rfl
              · skip
                exact (hX _ _ ⟨rfl, s, hI, fr_rf, rfl⟩)
            · skip
              exact zn_ne c18 (in_c 0 rfl) rfl
          · skip
            have i15x1 := z_ge 0 2147483647 c15x1 (i_rng x2) rfl
            refine g_iload_n 5 (gd rfl) rfl rfl ?_
            refine g_aload_n 6 (gd rfl) rfl rfl ?_
            refine g_getI 9 (gd rfl) rfl rfl rfl (fun z15x6 e15x6 => ?_)
            have q15x6 : u_2_1 = z15x6 := (e_2_1).trans e15x6.symm
            subst q15x6
            refine g_cmp_ge 12 16 (gd rfl) rfl rfl (fun c15x9 => ?_) (fun c15x9 => ?_)
            · skip
              have i15x9 := r_le2 1 2147483647 c15x9 i7x9a i15x1 rfl
              refine g_iconst 0 17 (gd rfl) rfl rfl ?_
              refine g_ireturn (gd rfl) rfl (nb01 (in_w 0 1 (in_c 0 rfl) rfl)) (hp15 _ _ ?_)
              show GG _ _ _ _ _ _ _ _ [.int (Int32.ofInt 0)] _ _ _
              refine g_if_eq 21 25 (gd rfl) rfl rfl (fun c18 => ?_) (fun c18 => ?_)
              · skip
                refine g_iconst 0 26 (gd rfl) rfl rfl ?_
                refine g_thr (E := am_IA) (y := yX11_allow) 29 (gd rfl) rfl rfl (Or.inl ⟨rfl, rfl, rfl⟩) (by first | exact dq1 hd rfl | exact dq0 hd rfl | exact dq2 hd rfl | exact dq3 hd rfl | omega) (Nat.le_of_ble_eq_true rfl) (Nat.le_of_ble_eq_true rfl) (Nat.le_of_ble_eq_true rfl) (fun c26 => ?_) (fun c26 => ?_)
                · skip
                  exact zn_ne c26 (in_c 0 rfl) rfl
                · skip
                  exact (hX _ _ ⟨rfl, s, hI, fr_rf, rfl⟩)
              · skip
                exact zn_ne c18 (in_c 0 rfl) rfl
            · skip
              have i15x9 := r_lt1 0 31 c15x9 i15x1 i7x9a rfl
              refine g_iconst 1 13 (gd rfl) rfl rfl ?_
              refine g_goto 17 (gd rfl) rfl ?_
              refine g_ireturn (gd rfl) rfl (nb01 (in_w 0 1 (in_c 1 rfl) rfl)) (hp15 _ _ ?_)
              show GG _ _ _ _ _ _ _ _ [.int (Int32.ofInt 1)] _ _ _
              refine g_if_eq 21 25 (gd rfl) rfl rfl (fun c18 => ?_) (fun c18 => ?_)
              · skip
                exact zn_eq c18 (in_c 1 rfl) rfl
              · skip
                refine g_iconst 1 22 (gd rfl) rfl rfl ?_
                refine g_goto 26 (gd rfl) rfl ?_
                refine g_thr (E := am_IA) (y := yX11_allow) 29 (gd rfl) rfl rfl (Or.inl ⟨rfl, rfl, rfl⟩) (by first | exact dq1 hd rfl | exact dq0 hd rfl | exact dq2 hd rfl | exact dq3 hd rfl | omega) (Nat.le_of_ble_eq_true rfl) (Nat.le_of_ble_eq_true rfl) (Nat.le_of_ble_eq_true rfl) (fun c26 => ?_) (fun c26 => ?_)
                · skip
                  refine g_aload_n 30 (gd rfl) rfl rfl ?_
                  refine g_getA (q2 := 49) 33 (gd rfl) rfl rfl rfl rfl ?_
                  refine g_aload_n 34 (gd rfl) rfl rfl ?_
                  refine g_iload_n 35 (gd rfl) rfl rfl ?_
                  refine g_iload_n 36 (gd rfl) rfl rfl ?_
                  refine g_callv (X := _) (As := [.ref (A 2), .int x1, .int x2]) (r := []) (b := A 49) (q := 49) 39 (gd rfl) rfl rfl rfl rfl rfl (ww_o rfl) (Nat.le_of_ble_eq_true rfl) (Nat.zero_le _) (Nat.zero_le _) (k_200_49_2 (by first | exact dq1 hd rfl | exact dq0 hd rfl | exact dq2 hd rfl | exact dq3 hd rfl | omega) hI (in_w 0 31 i7x9 rfl) (in_w 0 31 i15x9 rfl)) (fun e u h => h) (fun v u h => ?_)
                  obtain ⟨s36, hI36, hF36, z36, rfl, rfl, i36⟩ := h
                  show GG _ _ _ _ _ _ _ _ [.int z36] _ _ _
                  exact g_ireturn (gd rfl) rfl rfl (hP _ _ ⟨s36, hI36, (fr_tr rfl fr_rf hF36), z36, rfl, rfl, in_w (-1) 1000001 i36 rfl⟩)
                · skip
                  exact zn_eq c26 (in_c 1 rfl) rfl

def fm_234_0 : FM := ([9, 10, 11, 12, 13, 14, 15, 39, 40, 41, 42, 43, 44, 45], [], [(2, 4), (32, 4)], [])
/-- GraphHouse.part -/
theorem k_234_0 {Z : AmZ} {A : Nat → Nat} {s : GS} {ex : va_W} {d : Nat} {x1 : Int32} {x2 : Int32} (hd : 7 ≤ d) (hI : Inv s)  : GC Z d 234 [.ref (A 0), .int x1, .int x2] (WW Z A s ++ ex) 3 18 (fun v u => ∃ t : GS, Inv t ∧ Fr fm_234_0 s t ∧ ∃ z : Int32, v = some (.int z) ∧ u = WW Z A t ++ ex ∧ In z 0 32) (gE1 Z A ex fm_234_0 s) := by
  intro post xp hP hX
  obtain ⟨u_0_2, e_0_2⟩ : ∃ w, w = s.2.2.1 0 2 := ⟨_, rfl⟩
  have ro_0_2 := inv_F hI (-1) 4000 rfl e_0_2
  obtain ⟨u_2_1, e_2_1⟩ : ∃ w, w = s.2.2.1 2 1 := ⟨_, rfl⟩
  have ro_2_1 := inv_F hI 0 32 rfl e_2_1
  obtain ⟨u_32_1, e_32_1⟩ : ∃ w, w = s.2.2.1 32 1 := ⟨_, rfl⟩
  have ro_32_1 := inv_F hI 0 32 rfl e_32_1
  have ct26 : ∀ (sc26 : GS) , Inv sc26 → Fr fm_234_0 s sc26 → GG Z (d - 1) 234 post (gx xp) (901) 26 (fun j => xlook j [(0, .ref (A 0)), (1, .int x1), (2, .int x2)]) [] (WW Z A sc26 ++ ex) 3 18 := by
    intro sc26  hIc26 hFc26 
    refine g_iconst 0 27 (gd rfl) rfl rfl ?_
    refine g_thr (E := am_IA) (y := yX11_allow) 30 (gd rfl) rfl rfl (Or.inl ⟨rfl, rfl, rfl⟩) (by first | exact dq1 hd rfl | exact dq0 hd rfl | exact dq2 hd rfl | exact dq3 hd rfl | omega) (Nat.le_of_ble_eq_true rfl) (Nat.le_of_ble_eq_true rfl) (Nat.le_of_ble_eq_true rfl) (fun c27 => ?_) (fun c27 => ?_)
    · skip
      exact zn_ne c27 (in_c 0 rfl) rfl
    · skip
      exact (hX _ _ ⟨rfl, sc26, hIc26, hFc26, rfl⟩)
  refine g_enter2 (k := 234) (N := 1801) (by first | exact dq1 hd rfl | exact dq0 hd rfl | exact dq2 hd rfl | exact dq3 hd rfl | omega) rfl (Nat.le_of_ble_eq_true rfl) ?_
  refine g_aload_n 1 (gd rfl) rfl rfl ?_
  refine g_callv (X := _) (As := []) (r := []) (b := A 0) (q := 0) 4 (gd rfl) rfl rfl rfl rfl rfl (ww_o rfl) (Nat.le_of_ble_eq_true rfl) (mc := 0) (ms := 0) (Nat.zero_le _) (Nat.zero_le _) (P := fun v u => _) ?_ (fun e u h => h) (fun v u h => h)
  intro po1 xx1 hp1 hx1
  refine g_enter2 (k := 259) (N := 300) (by first | exact dq1 hd rfl | exact dq0 hd rfl | exact dq2 hd rfl | exact dq3 hd rfl | omega) rfl (Nat.le_of_ble_eq_true rfl) ?_
  refine g_aload_n 1 (gd rfl) rfl rfl ?_
  refine g_getI 4 (gd rfl) rfl rfl rfl (fun z1x1 e1x1 => ?_)
  have q1x1 : u_0_2 = z1x1 := (e_0_2).trans e1x1.symm
  subst q1x1
  refine g_iconst (-1) 5 (gd rfl) rfl rfl ?_
  refine g_cmp_ne 8 18 (gd rfl) rfl rfl (fun c1x5 => ?_) (fun c1x5 => ?_)
  · skip
    have i1x5 := r_ne1 0 4000 c1x5 ro_0_2 (in_c (-1) rfl) rfl
    refine g_aload_n 19 (gd rfl) rfl rfl ?_
    refine g_getA (q2 := 32) 22 (gd rfl) rfl rfl rfl rfl ?_
    refine g_areturn (gd rfl) rfl (hp1 _ _ ?_)
    show GG _ _ _ _ _ _ _ _ [.ref (A 32)] _ _ _
    refine g_astore_n 5 (gd rfl) rfl (Nat.le_of_ble_eq_true rfl) ?_
    refine g_iload_n 6 (gd rfl) rfl rfl ?_
    refine g_if_lt 9 26 (gd rfl) rfl rfl (fun c6 => ?_) (fun c6 => ?_)
    · skip
      have i6 := z_lt (-2147483648) (-1) c6 (i_rng x1) rfl
      exact gg_w (by first | exact Nat.le_of_ble_eq_true rfl | omega) (gg_f (gf_cons rfl (gf_cons rfl (gf_cons rfl gf_nil))) (ct26 s  hI fr_rf ))
    · skip
      have i6 := z_ge 0 2147483647 c6 (i_rng x1) rfl
      refine g_iload_n 10 (gd rfl) rfl rfl ?_
      refine g_iconst 1 11 (gd rfl) rfl rfl ?_
      refine g_cmp_gt 14 26 (gd rfl) rfl rfl (fun c11 => ?_) (fun c11 => ?_)
      · skip
        have i11 := r_lt2 2 2147483647 c11 (in_c 1 rfl) i6 rfl
        exact gg_w (by first | exact Nat.le_of_ble_eq_true rfl | omega) (gg_f (gf_cons rfl (gf_cons rfl (gf_cons rfl gf_nil))) (ct26 s  hI fr_rf ))
      · skip
        have i11 := r_le1 0 1 c11 i6 (in_c 1 rfl) rfl
        refine g_aload_n 15 (gd rfl) rfl rfl ?_
        refine g_iload_n 16 (gd rfl) rfl rfl ?_
        refine g_callv (X := _) (As := [.int x2]) (r := []) (b := A 32) (q := 32) 19 (gd rfl) rfl rfl rfl rfl rfl (ww_o rfl) (Nat.le_of_ble_eq_true rfl) (mc := 0) (ms := 0) (Nat.zero_le _) (Nat.zero_le _) (P := fun v u => _) ?_ (fun e u h => h) (fun v u h => h)
        intro po16 xx16 hp16 hx16
        refine g_enter2 (k := 94) (N := 300) (by first | exact dq1 hd rfl | exact dq0 hd rfl | exact dq2 hd rfl | exact dq3 hd rfl | omega) rfl (Nat.le_of_ble_eq_true rfl) ?_
        refine g_iload_n 1 (gd rfl) rfl rfl ?_
        refine g_if_lt 4 16 (gd rfl) rfl rfl (fun c16x1 => ?_) (fun c16x1 => ?_)
        · skip
          have i16x1 := z_lt (-2147483648) (-1) c16x1 (i_rng x2) rfl
          refine g_iconst 0 17 (gd rfl) rfl rfl ?_
          refine g_ireturn (gd rfl) rfl (nb01 (in_w 0 1 (in_c 0 rfl) rfl)) (hp16 _ _ ?_)
          show GG _ _ _ _ _ _ _ _ [.int (Int32.ofInt 0)] _ _ _
          refine g_if_eq 22 26 (gd rfl) rfl rfl (fun c19 => ?_) (fun c19 => ?_)
          · skip
            exact gg_w (by first | exact Nat.le_of_ble_eq_true rfl | omega) (gg_f (gf_cons rfl (gf_cons rfl (gf_cons rfl gf_nil))) (ct26 s  hI fr_rf ))
          · skip
            exact zn_ne c19 (in_c 0 rfl) rfl
        · skip
          have i16x1 := z_ge 0 2147483647 c16x1 (i_rng x2) rfl
          refine g_iload_n 5 (gd rfl) rfl rfl ?_
          refine g_aload_n 6 (gd rfl) rfl rfl ?_
          refine g_getI 9 (gd rfl) rfl rfl rfl (fun z16x6 e16x6 => ?_)
          have q16x6 : u_32_1 = z16x6 := (e_32_1).trans e16x6.symm
          subst q16x6
          refine g_cmp_ge 12 16 (gd rfl) rfl rfl (fun c16x9 => ?_) (fun c16x9 => ?_)
          · skip
            refine g_iconst 0 17 (gd rfl) rfl rfl ?_
            refine g_ireturn (gd rfl) rfl (nb01 (in_w 0 1 (in_c 0 rfl) rfl)) (hp16 _ _ ?_)
            show GG _ _ _ _ _ _ _ _ [.int (Int32.ofInt 0)] _ _ _
            refine g_if_eq 22 26 (gd rfl) rfl rfl (fun c19 => ?_) (fun c19 => ?_)
            · skip
              exact gg_w (by first | exact Nat.le_of_ble_eq_true rfl | omega) (gg_f (gf_cons rfl (gf_cons rfl (gf_cons rfl gf_nil))) (ct26 s  hI fr_rf ))
            · skip
              exact zn_ne c19 (in_c 0 rfl) rfl
          · skip
            have i16x9 := r_lt1 0 31 c16x9 i16x1 ro_32_1 rfl
            have i16x9a := r_lt2 1 32 c16x9 i16x1 ro_32_1 rfl
            refine g_iconst 1 13 (gd rfl) rfl rfl ?_
            refine g_goto 17 (gd rfl) rfl ?_
            refine g_ireturn (gd rfl) rfl (nb01 (in_w 0 1 (in_c 1 rfl) rfl)) (hp16 _ _ ?_)
            show GG _ _ _ _ _ _ _ _ [.int (Int32.ofInt 1)] _ _ _
            refine g_if_eq 22 26 (gd rfl) rfl rfl (fun c19 => ?_) (fun c19 => ?_)
            · skip
              exact zn_eq c19 (in_c 1 rfl) rfl
            · skip
              refine g_iconst 1 23 (gd rfl) rfl rfl ?_
              refine g_goto 27 (gd rfl) rfl ?_
              refine g_thr (E := am_IA) (y := yX11_allow) 30 (gd rfl) rfl rfl (Or.inl ⟨rfl, rfl, rfl⟩) (by first | exact dq1 hd rfl | exact dq0 hd rfl | exact dq2 hd rfl | exact dq3 hd rfl | omega) (Nat.le_of_ble_eq_true rfl) (Nat.le_of_ble_eq_true rfl) (Nat.le_of_ble_eq_true rfl) (fun c27 => ?_) (fun c27 => ?_)
              · skip
                refine g_iload_n 31 (gd rfl) rfl rfl ?_
                refine g_if_ne 34 46 (gd rfl) rfl rfl (fun c31 => ?_) (fun c31 => ?_)
                · skip
                  have i31 := z_ne 1 1 c31 i11 rfl
                  refine g_aload_n 47 (gd rfl) rfl rfl ?_
                  refine g_getA (q2 := 56) 50 (gd rfl) rfl rfl rfl rfl ?_
                  refine g_aload_n 51 (gd rfl) rfl rfl ?_
                  refine g_iload_n 52 (gd rfl) rfl rfl ?_
                  refine g_callv (X := _) (As := [.ref (A 32), .int x2]) (r := []) (b := A 56) (q := 56) 55 (gd rfl) rfl rfl rfl rfl rfl (ww_o rfl) (Nat.le_of_ble_eq_true rfl) (mc := 0) (ms := 0) (Nat.zero_le _) (Nat.zero_le _) (P := fun v u => _) ?_ (fun e u h => h) (fun v u h => h)
                  intro po52 xx52 hp52 hx52
                  refine g_enter2 (k := 141) (N := 300) (by first | exact dq1 hd rfl | exact dq0 hd rfl | exact dq2 hd rfl | exact dq3 hd rfl | omega) rfl (Nat.le_of_ble_eq_true rfl) ?_
                  refine g_aload_n 1 (gd rfl) rfl rfl ?_
                  refine g_callv (X := _) (As := []) (r := []) (b := A 32) (q := 32) 4 (gd rfl) rfl rfl rfl rfl rfl (ww_o rfl) (Nat.le_of_ble_eq_true rfl) (Nat.zero_le _) (Nat.zero_le _) (k_106_32 (by first | exact dq1 hd rfl | exact dq0 hd rfl | exact dq2 hd rfl | exact dq3 hd rfl | omega) hI ) (fun e u h => h) (fun v u h => ?_)
                  obtain ⟨s52x1, hI52x1, hF52x1, n52x1, rfl, rfl⟩ := h
                  obtain ⟨z52x1a, e52x1⟩ : ∃ w, w = s52x1.2.2.1 32 4 := ⟨_, rfl⟩
                  have i52x1a := inv_F hI52x1 (-1) 4000 rfl e52x1
                  obtain ⟨z52x1b, e52x1a⟩ : ∃ w, w = s52x1.2.2.1 32 0 := ⟨_, rfl⟩
                  have i52x1b := inv_F hI52x1 0 4000 rfl e52x1a
                  rw [← (show z52x1a = s52x1.2.2.1 32 4 from e52x1)] at n52x1
                  rw [← (show z52x1b = s52x1.2.2.1 32 0 from e52x1a)] at n52x1
                  show GG _ _ _ _ _ _ _ _ [] _ _ _
                  refine g_aload_n 5 (gd rfl) rfl rfl ?_
                  refine g_getA (q2 := 39) 8 (gd rfl) rfl rfl rfl rfl ?_
                  refine g_iconst 1 9 (gd rfl) rfl rfl ?_
                  refine g_iload_n 10 (gd rfl) rfl rfl ?_
                  refine g_ishl 11 (gd rfl) rfl (fun z52x10 e52x10 => ?_)
                  refine g_iconst (-1) 12 (gd rfl) rfl rfl ?_
                  refine g_calls (As := [.ref (A 39), .int z52x10, .int (Int32.ofInt (-1))]) (r := []) 15 (gd rfl) rfl rfl rfl rfl rfl (Nat.le_of_ble_eq_true rfl) (Nat.zero_le _) (Nat.zero_le _) (k_266_39 (by first | exact dq1 hd rfl | exact dq0 hd rfl | exact dq2 hd rfl | exact dq3 hd rfl | omega) hI52x1 ) (fun v u h => ?_)
                  obtain ⟨z52x12, rfl, rfl, i52x12, p52x12⟩ := h
                  show GG _ _ _ _ _ _ _ _ [.int z52x12] _ _ _
                  refine g_calls (As := [.int z52x12]) (r := []) 18 (gd rfl) rfl rfl rfl rfl rfl (Nat.le_of_ble_eq_true rfl) (Nat.zero_le _) (Nat.zero_le _) (k_264 (by first | exact dq1 hd rfl | exact dq0 hd rfl | exact dq2 hd rfl | exact dq3 hd rfl | omega)) (fun v u h => ?_)
                  obtain ⟨z52x15, rfl, rfl, i52x15, hb52x15⟩ := h
                  show GG _ _ _ _ _ _ _ _ [.int z52x15] _ _ _
                  refine g_ireturn (gd rfl) rfl rfl (hp52 _ _ ?_)
                  show GG _ _ _ _ _ _ _ _ [.int z52x15] _ _ _
                  exact g_ireturn (gd rfl) rfl rfl (hP _ _ ⟨s52x1, hI52x1, (fr_tr rfl fr_rf hF52x1), z52x15, rfl, rfl, in_w 0 32 i52x15 rfl⟩)
                · skip
                  have i31 := z_eq 0 0 c31 i11 rfl
                  refine g_aload_n 35 (gd rfl) rfl rfl ?_
                  refine g_getA (q2 := 56) 38 (gd rfl) rfl rfl rfl rfl ?_
                  refine g_aload_n 39 (gd rfl) rfl rfl ?_
                  refine g_iload_n 40 (gd rfl) rfl rfl ?_
                  refine g_callv (X := _) (As := [.ref (A 32), .int x2]) (r := []) (b := A 56) (q := 56) 43 (gd rfl) rfl rfl rfl rfl rfl (ww_o rfl) (Nat.le_of_ble_eq_true rfl) (mc := 0) (ms := 0) (Nat.zero_le _) (Nat.zero_le _) (P := fun v u => _) ?_ (fun e u h => h) (fun v u h => h)
                  intro po40 xx40 hp40 hx40
                  refine g_enter2 (k := 140) (N := 300) (by first | exact dq1 hd rfl | exact dq0 hd rfl | exact dq2 hd rfl | exact dq3 hd rfl | omega) rfl (Nat.le_of_ble_eq_true rfl) ?_
                  refine g_aload_n 1 (gd rfl) rfl rfl ?_
                  refine g_callv (X := _) (As := []) (r := []) (b := A 32) (q := 32) 4 (gd rfl) rfl rfl rfl rfl rfl (ww_o rfl) (Nat.le_of_ble_eq_true rfl) (Nat.zero_le _) (Nat.zero_le _) (k_106_32 (by first | exact dq1 hd rfl | exact dq0 hd rfl | exact dq2 hd rfl | exact dq3 hd rfl | omega) hI ) (fun e u h => h) (fun v u h => ?_)
                  obtain ⟨s40x1, hI40x1, hF40x1, n40x1, rfl, rfl⟩ := h
                  obtain ⟨z40x1a, e40x1⟩ : ∃ w, w = s40x1.2.2.1 32 4 := ⟨_, rfl⟩
                  have i40x1a := inv_F hI40x1 (-1) 4000 rfl e40x1
                  obtain ⟨z40x1b, e40x1a⟩ : ∃ w, w = s40x1.2.2.1 32 0 := ⟨_, rfl⟩
                  have i40x1b := inv_F hI40x1 0 4000 rfl e40x1a
                  rw [← (show z40x1a = s40x1.2.2.1 32 4 from e40x1)] at n40x1
                  rw [← (show z40x1b = s40x1.2.2.1 32 0 from e40x1a)] at n40x1
                  show GG _ _ _ _ _ _ _ _ [] _ _ _
                  refine g_aload_n 5 (gd rfl) rfl rfl ?_
                  refine g_getA (q2 := 40) 8 (gd rfl) rfl rfl rfl rfl ?_
                  refine g_iconst 1 9 (gd rfl) rfl rfl ?_
                  refine g_iload_n 10 (gd rfl) rfl rfl ?_
                  refine g_ishl 11 (gd rfl) rfl (fun z40x10 e40x10 => ?_)
                  refine g_iconst (-1) 12 (gd rfl) rfl rfl ?_
                  refine g_calls (As := [.ref (A 40), .int z40x10, .int (Int32.ofInt (-1))]) (r := []) 15 (gd rfl) rfl rfl rfl rfl rfl (Nat.le_of_ble_eq_true rfl) (Nat.zero_le _) (Nat.zero_le _) (k_266_40 (by first | exact dq1 hd rfl | exact dq0 hd rfl | exact dq2 hd rfl | exact dq3 hd rfl | omega) hI40x1 (in_w (-1) (-1) (in_c (-1) rfl) rfl)) (fun v u h => ?_)
                  obtain ⟨z40x12, rfl, rfl, i40x12, p40x12⟩ := h
                  show GG _ _ _ _ _ _ _ _ [.int z40x12] _ _ _
                  refine g_aload_n 16 (gd rfl) rfl rfl ?_
                  refine g_getA (q2 := 41) 19 (gd rfl) rfl rfl rfl rfl ?_
                  refine g_iconst 1 20 (gd rfl) rfl rfl ?_
                  refine g_iload_n 21 (gd rfl) rfl rfl ?_
                  refine g_ishl 22 (gd rfl) rfl (fun z40x21 e40x21 => ?_)
                  refine g_iconst (-1) 23 (gd rfl) rfl rfl ?_
                  refine g_calls (As := [.ref (A 41), .int z40x21, .int (Int32.ofInt (-1))]) (r := [.int z40x12]) 26 (gd rfl) rfl rfl rfl rfl rfl (Nat.le_of_ble_eq_true rfl) (Nat.zero_le _) (Nat.zero_le _) (k_266_41 (by first | exact dq1 hd rfl | exact dq0 hd rfl | exact dq2 hd rfl | exact dq3 hd rfl | omega) hI40x1 (in_w (-1) (-1) (in_c (-1) rfl) rfl)) (fun v u h => ?_)
                  obtain ⟨z40x23, rfl, rfl, i40x23, p40x23⟩ := h
                  show GG _ _ _ _ _ _ _ _ [.int z40x23, .int z40x12] _ _ _
                  refine g_iand 27 (gd rfl) rfl (fun z40x26 e40x26 => ?_)
                  refine g_calls (As := [.int z40x26]) (r := []) 30 (gd rfl) rfl rfl rfl rfl rfl (Nat.le_of_ble_eq_true rfl) (Nat.zero_le _) (Nat.zero_le _) (k_264 (by first | exact dq1 hd rfl | exact dq0 hd rfl | exact dq2 hd rfl | exact dq3 hd rfl | omega)) (fun v u h => ?_)
                  obtain ⟨z40x27, rfl, rfl, i40x27, hb40x27⟩ := h
                  show GG _ _ _ _ _ _ _ _ [.int z40x27] _ _ _
                  refine g_ireturn (gd rfl) rfl rfl (hp40 _ _ ?_)
                  show GG _ _ _ _ _ _ _ _ [.int z40x27] _ _ _
                  refine g_goto 55 (gd rfl) rfl ?_
                  exact g_ireturn (gd rfl) rfl rfl (hP _ _ ⟨s40x1, hI40x1, (fr_tr rfl fr_rf hF40x1), z40x27, rfl, rfl, in_w 0 32 i40x27 rfl⟩)
              · skip
                exact zn_eq c27 (in_c 1 rfl) rfl
  · skip
    have i1x5 := r_eq1 (-1) (-1) c1x5 ro_0_2 (in_c (-1) rfl) rfl
    refine g_aload_n 9 (gd rfl) rfl rfl ?_
    refine g_getA (q2 := 1) 12 (gd rfl) rfl rfl rfl rfl ?_
    refine g_getA (q2 := 2) 15 (gd rfl) rfl rfl rfl rfl ?_
    refine g_goto 22 (gd rfl) rfl ?_
    refine g_areturn (gd rfl) rfl (hp1 _ _ ?_)
    show GG _ _ _ _ _ _ _ _ [.ref (A 2)] _ _ _
    refine g_astore_n 5 (gd rfl) rfl (Nat.le_of_ble_eq_true rfl) ?_
    refine g_iload_n 6 (gd rfl) rfl rfl ?_
    refine g_if_lt 9 26 (gd rfl) rfl rfl (fun c6 => ?_) (fun c6 => ?_)
    · skip
      have i6 := z_lt (-2147483648) (-1) c6 (i_rng x1) rfl
      exact gg_w (by first | exact Nat.le_of_ble_eq_true rfl | omega) (gg_f (gf_cons rfl (gf_cons rfl (gf_cons rfl gf_nil))) (ct26 s  hI fr_rf ))
    · skip
      have i6 := z_ge 0 2147483647 c6 (i_rng x1) rfl
      refine g_iload_n 10 (gd rfl) rfl rfl ?_
      refine g_iconst 1 11 (gd rfl) rfl rfl ?_
      refine g_cmp_gt 14 26 (gd rfl) rfl rfl (fun c11 => ?_) (fun c11 => ?_)
      · skip
        have i11 := r_lt2 2 2147483647 c11 (in_c 1 rfl) i6 rfl
        exact gg_w (by first | exact Nat.le_of_ble_eq_true rfl | omega) (gg_f (gf_cons rfl (gf_cons rfl (gf_cons rfl gf_nil))) (ct26 s  hI fr_rf ))
      · skip
        have i11 := r_le1 0 1 c11 i6 (in_c 1 rfl) rfl
        refine g_aload_n 15 (gd rfl) rfl rfl ?_
        refine g_iload_n 16 (gd rfl) rfl rfl ?_
        refine g_callv (X := _) (As := [.int x2]) (r := []) (b := A 2) (q := 2) 19 (gd rfl) rfl rfl rfl rfl rfl (ww_o rfl) (Nat.le_of_ble_eq_true rfl) (mc := 0) (ms := 0) (Nat.zero_le _) (Nat.zero_le _) (P := fun v u => _) ?_ (fun e u h => h) (fun v u h => h)
        intro po16 xx16 hp16 hx16
        refine g_enter2 (k := 94) (N := 300) (by first | exact dq1 hd rfl | exact dq0 hd rfl | exact dq2 hd rfl | exact dq3 hd rfl | omega) rfl (Nat.le_of_ble_eq_true rfl) ?_
        refine g_iload_n 1 (gd rfl) rfl rfl ?_
        refine g_if_lt 4 16 (gd rfl) rfl rfl (fun c16x1 => ?_) (fun c16x1 => ?_)
        · skip
          have i16x1 := z_lt (-2147483648) (-1) c16x1 (i_rng x2) rfl
          refine g_iconst 0 17 (gd rfl) rfl rfl ?_
          refine g_ireturn (gd rfl) rfl (nb01 (in_w 0 1 (in_c 0 rfl) rfl)) (hp16 _ _ ?_)
          show GG _ _ _ _ _ _ _ _ [.int (Int32.ofInt 0)] _ _ _
          refine g_if_eq 22 26 (gd rfl) rfl rfl (fun c19 => ?_) (fun c19 => ?_)
          · skip
            exact gg_w (by first | exact Nat.le_of_ble_eq_true rfl | omega) (gg_f (gf_cons rfl (gf_cons rfl (gf_cons rfl gf_nil))) (ct26 s  hI fr_rf ))
          · skip
            exact zn_ne c19 (in_c 0 rfl) rfl
        · skip
          have i16x1 := z_ge 0 2147483647 c16x1 (i_rng x2) rfl
          refine g_iload_n 5 (gd rfl) rfl rfl ?_
          refine g_aload_n 6 (gd rfl) rfl rfl ?_
          refine g_getI 9 (gd rfl) rfl rfl rfl (fun z16x6 e16x6 => ?_)
          have q16x6 : u_2_1 = z16x6 := (e_2_1).trans e16x6.symm
          subst q16x6
          refine g_cmp_ge 12 16 (gd rfl) rfl rfl (fun c16x9 => ?_) (fun c16x9 => ?_)
          · skip
            refine g_iconst 0 17 (gd rfl) rfl rfl ?_
            refine g_ireturn (gd rfl) rfl (nb01 (in_w 0 1 (in_c 0 rfl) rfl)) (hp16 _ _ ?_)
            show GG _ _ _ _ _ _ _ _ [.int (Int32.ofInt 0)] _ _ _
            refine g_if_eq 22 26 (gd rfl) rfl rfl (fun c19 => ?_) (fun c19 => ?_)
            · skip
              exact gg_w (by first | exact Nat.le_of_ble_eq_true rfl | omega) (gg_f (gf_cons rfl (gf_cons rfl (gf_cons rfl gf_nil))) (ct26 s  hI fr_rf ))
            · skip
              exact zn_ne c19 (in_c 0 rfl) rfl
          · skip
            have i16x9 := r_lt1 0 31 c16x9 i16x1 ro_2_1 rfl
            have i16x9a := r_lt2 1 32 c16x9 i16x1 ro_2_1 rfl
            refine g_iconst 1 13 (gd rfl) rfl rfl ?_
            refine g_goto 17 (gd rfl) rfl ?_
            refine g_ireturn (gd rfl) rfl (nb01 (in_w 0 1 (in_c 1 rfl) rfl)) (hp16 _ _ ?_)
            show GG _ _ _ _ _ _ _ _ [.int (Int32.ofInt 1)] _ _ _
            refine g_if_eq 22 26 (gd rfl) rfl rfl (fun c19 => ?_) (fun c19 => ?_)
            · skip
              exact zn_eq c19 (in_c 1 rfl) rfl
            · skip
              refine g_iconst 1 23 (gd rfl) rfl rfl ?_
              refine g_goto 27 (gd rfl) rfl ?_
              refine g_thr (E := am_IA) (y := yX11_allow) 30 (gd rfl) rfl rfl (Or.inl ⟨rfl, rfl, rfl⟩) (by first | exact dq1 hd rfl | exact dq0 hd rfl | exact dq2 hd rfl | exact dq3 hd rfl | omega) (Nat.le_of_ble_eq_true rfl) (Nat.le_of_ble_eq_true rfl) (Nat.le_of_ble_eq_true rfl) (fun c27 => ?_) (fun c27 => ?_)
              · skip
                refine g_iload_n 31 (gd rfl) rfl rfl ?_
                refine g_if_ne 34 46 (gd rfl) rfl rfl (fun c31 => ?_) (fun c31 => ?_)
                · skip
                  have i31 := z_ne 1 1 c31 i11 rfl
                  refine g_aload_n 47 (gd rfl) rfl rfl ?_
                  refine g_getA (q2 := 56) 50 (gd rfl) rfl rfl rfl rfl ?_
                  refine g_aload_n 51 (gd rfl) rfl rfl ?_
                  refine g_iload_n 52 (gd rfl) rfl rfl ?_
                  refine g_callv (X := _) (As := [.ref (A 2), .int x2]) (r := []) (b := A 56) (q := 56) 55 (gd rfl) rfl rfl rfl rfl rfl (ww_o rfl) (Nat.le_of_ble_eq_true rfl) (mc := 0) (ms := 0) (Nat.zero_le _) (Nat.zero_le _) (P := fun v u => _) ?_ (fun e u h => h) (fun v u h => h)
                  intro po52 xx52 hp52 hx52
                  refine g_enter2 (k := 141) (N := 300) (by first | exact dq1 hd rfl | exact dq0 hd rfl | exact dq2 hd rfl | exact dq3 hd rfl | omega) rfl (Nat.le_of_ble_eq_true rfl) ?_
                  refine g_aload_n 1 (gd rfl) rfl rfl ?_
                  refine g_callv (X := _) (As := []) (r := []) (b := A 2) (q := 2) 4 (gd rfl) rfl rfl rfl rfl rfl (ww_o rfl) (Nat.le_of_ble_eq_true rfl) (Nat.zero_le _) (Nat.zero_le _) (k_106_2 (by first | exact dq1 hd rfl | exact dq0 hd rfl | exact dq2 hd rfl | exact dq3 hd rfl | omega) hI ) (fun e u h => h) (fun v u h => ?_)
                  obtain ⟨s52x1, hI52x1, hF52x1, n52x1, rfl, rfl⟩ := h
                  obtain ⟨z52x1a, e52x1⟩ : ∃ w, w = s52x1.2.2.1 2 4 := ⟨_, rfl⟩
                  have i52x1a := inv_F hI52x1 (-1) 4000 rfl e52x1
                  obtain ⟨z52x1b, e52x1a⟩ : ∃ w, w = s52x1.2.2.1 2 0 := ⟨_, rfl⟩
                  have i52x1b := inv_F hI52x1 0 4000 rfl e52x1a
                  rw [← (show z52x1a = s52x1.2.2.1 2 4 from e52x1)] at n52x1
                  rw [← (show z52x1b = s52x1.2.2.1 2 0 from e52x1a)] at n52x1
                  show GG _ _ _ _ _ _ _ _ [] _ _ _
                  refine g_aload_n 5 (gd rfl) rfl rfl ?_
                  refine g_getA (q2 := 9) 8 (gd rfl) rfl rfl rfl rfl ?_
                  refine g_iconst 1 9 (gd rfl) rfl rfl ?_
                  refine g_iload_n 10 (gd rfl) rfl rfl ?_
                  refine g_ishl 11 (gd rfl) rfl (fun z52x10 e52x10 => ?_)
                  refine g_iconst (-1) 12 (gd rfl) rfl rfl ?_
                  refine g_calls (As := [.ref (A 9), .int z52x10, .int (Int32.ofInt (-1))]) (r := []) 15 (gd rfl) rfl rfl rfl rfl rfl (Nat.le_of_ble_eq_true rfl) (Nat.zero_le _) (Nat.zero_le _) (k_266_9 (by first | exact dq1 hd rfl | exact dq0 hd rfl | exact dq2 hd rfl | exact dq3 hd rfl | omega) hI52x1 ) (fun v u h => ?_)
                  obtain ⟨z52x12, rfl, rfl, i52x12, p52x12⟩ := h
                  show GG _ _ _ _ _ _ _ _ [.int z52x12] _ _ _
                  refine g_calls (As := [.int z52x12]) (r := []) 18 (gd rfl) rfl rfl rfl rfl rfl (Nat.le_of_ble_eq_true rfl) (Nat.zero_le _) (Nat.zero_le _) (k_264 (by first | exact dq1 hd rfl | exact dq0 hd rfl | exact dq2 hd rfl | exact dq3 hd rfl | omega)) (fun v u h => ?_)
                  obtain ⟨z52x15, rfl, rfl, i52x15, hb52x15⟩ := h
                  show GG _ _ _ _ _ _ _ _ [.int z52x15] _ _ _
                  refine g_ireturn (gd rfl) rfl rfl (hp52 _ _ ?_)
                  show GG _ _ _ _ _ _ _ _ [.int z52x15] _ _ _
                  exact g_ireturn (gd rfl) rfl rfl (hP _ _ ⟨s52x1, hI52x1, (fr_tr rfl fr_rf hF52x1), z52x15, rfl, rfl, in_w 0 32 i52x15 rfl⟩)
                · skip
                  have i31 := z_eq 0 0 c31 i11 rfl
                  refine g_aload_n 35 (gd rfl) rfl rfl ?_
                  refine g_getA (q2 := 56) 38 (gd rfl) rfl rfl rfl rfl ?_
                  refine g_aload_n 39 (gd rfl) rfl rfl ?_
                  refine g_iload_n 40 (gd rfl) rfl rfl ?_
                  refine g_callv (X := _) (As := [.ref (A 2), .int x2]) (r := []) (b := A 56) (q := 56) 43 (gd rfl) rfl rfl rfl rfl rfl (ww_o rfl) (Nat.le_of_ble_eq_true rfl) (mc := 0) (ms := 0) (Nat.zero_le _) (Nat.zero_le _) (P := fun v u => _) ?_ (fun e u h => h) (fun v u h => h)
                  intro po40 xx40 hp40 hx40
                  refine g_enter2 (k := 140) (N := 300) (by first | exact dq1 hd rfl | exact dq0 hd rfl | exact dq2 hd rfl | exact dq3 hd rfl | omega) rfl (Nat.le_of_ble_eq_true rfl) ?_
                  refine g_aload_n 1 (gd rfl) rfl rfl ?_
                  refine g_callv (X := _) (As := []) (r := []) (b := A 2) (q := 2) 4 (gd rfl) rfl rfl rfl rfl rfl (ww_o rfl) (Nat.le_of_ble_eq_true rfl) (Nat.zero_le _) (Nat.zero_le _) (k_106_2 (by first | exact dq1 hd rfl | exact dq0 hd rfl | exact dq2 hd rfl | exact dq3 hd rfl | omega) hI ) (fun e u h => h) (fun v u h => ?_)
                  obtain ⟨s40x1, hI40x1, hF40x1, n40x1, rfl, rfl⟩ := h
                  obtain ⟨z40x1a, e40x1⟩ : ∃ w, w = s40x1.2.2.1 2 4 := ⟨_, rfl⟩
                  have i40x1a := inv_F hI40x1 (-1) 4000 rfl e40x1
                  obtain ⟨z40x1b, e40x1a⟩ : ∃ w, w = s40x1.2.2.1 2 0 := ⟨_, rfl⟩
                  have i40x1b := inv_F hI40x1 0 4000 rfl e40x1a
                  rw [← (show z40x1a = s40x1.2.2.1 2 4 from e40x1)] at n40x1
                  rw [← (show z40x1b = s40x1.2.2.1 2 0 from e40x1a)] at n40x1
                  show GG _ _ _ _ _ _ _ _ [] _ _ _
                  refine g_aload_n 5 (gd rfl) rfl rfl ?_
                  refine g_getA (q2 := 10) 8 (gd rfl) rfl rfl rfl rfl ?_
                  refine g_iconst 1 9 (gd rfl) rfl rfl ?_
                  refine g_iload_n 10 (gd rfl) rfl rfl ?_
                  refine g_ishl 11 (gd rfl) rfl (fun z40x10 e40x10 => ?_)
                  refine g_iconst (-1) 12 (gd rfl) rfl rfl ?_
                  refine g_calls (As := [.ref (A 10), .int z40x10, .int (Int32.ofInt (-1))]) (r := []) 15 (gd rfl) rfl rfl rfl rfl rfl (Nat.le_of_ble_eq_true rfl) (Nat.zero_le _) (Nat.zero_le _) (k_266_10 (by first | exact dq1 hd rfl | exact dq0 hd rfl | exact dq2 hd rfl | exact dq3 hd rfl | omega) hI40x1 (in_w (-1) (-1) (in_c (-1) rfl) rfl)) (fun v u h => ?_)
                  obtain ⟨z40x12, rfl, rfl, i40x12, p40x12⟩ := h
                  show GG _ _ _ _ _ _ _ _ [.int z40x12] _ _ _
                  refine g_aload_n 16 (gd rfl) rfl rfl ?_
                  refine g_getA (q2 := 11) 19 (gd rfl) rfl rfl rfl rfl ?_
                  refine g_iconst 1 20 (gd rfl) rfl rfl ?_
                  refine g_iload_n 21 (gd rfl) rfl rfl ?_
                  refine g_ishl 22 (gd rfl) rfl (fun z40x21 e40x21 => ?_)
                  refine g_iconst (-1) 23 (gd rfl) rfl rfl ?_
                  refine g_calls (As := [.ref (A 11), .int z40x21, .int (Int32.ofInt (-1))]) (r := [.int z40x12]) 26 (gd rfl) rfl rfl rfl rfl rfl (Nat.le_of_ble_eq_true rfl) (Nat.zero_le _) (Nat.zero_le _) (k_266_11 (by first | exact dq1 hd rfl | exact dq0 hd rfl | exact dq2 hd rfl | exact dq3 hd rfl | omega) hI40x1 (in_w (-1) (-1) (in_c (-1) rfl) rfl)) (fun v u h => ?_)
                  obtain ⟨z40x23, rfl, rfl, i40x23, p40x23⟩ := h
                  show GG _ _ _ _ _ _ _ _ [.int z40x23, .int z40x12] _ _ _
                  refine g_iand 27 (gd rfl) rfl (fun z40x26 e40x26 => ?_)
                  refine g_calls (As := [.int z40x26]) (r := []) 30 (gd rfl) rfl rfl rfl rfl rfl (Nat.le_of_ble_eq_true rfl) (Nat.zero_le _) (Nat.zero_le _) (k_264 (by first | exact dq1 hd rfl | exact dq0 hd rfl | exact dq2 hd rfl | exact dq3 hd rfl | omega)) (fun v u h => ?_)
                  obtain ⟨z40x27, rfl, rfl, i40x27, hb40x27⟩ := h
                  show GG _ _ _ _ _ _ _ _ [.int z40x27] _ _ _
                  refine g_ireturn (gd rfl) rfl rfl (hp40 _ _ ?_)
                  show GG _ _ _ _ _ _ _ _ [.int z40x27] _ _ _
                  refine g_goto 55 (gd rfl) rfl ?_
                  exact g_ireturn (gd rfl) rfl rfl (hP _ _ ⟨s40x1, hI40x1, (fr_tr rfl fr_rf hF40x1), z40x27, rfl, rfl, in_w 0 32 i40x27 rfl⟩)
              · skip
                exact zn_eq c27 (in_c 1 rfl) rfl

def fm_235_0 : FM := ([9, 10, 11, 12, 13, 14, 15, 39, 40, 41, 42, 43, 44, 45], [], [(2, 4), (32, 4)], [])
/-- GraphHouse.bridge -/
theorem k_235_0 {Z : AmZ} {A : Nat → Nat} {s : GS} {ex : va_W} {d : Nat} {x1 : Int32} (hd : 7 ≤ d) (hI : Inv s)  : GC Z d 235 [.ref (A 0), .int x1] (WW Z A s ++ ex) 3 18 (fun v u => ∃ t : GS, Inv t ∧ Fr fm_235_0 s t ∧ ∃ z : Int32, v = some (.int z) ∧ u = WW Z A t ++ ex ∧ In z 0 1) (gE1 Z A ex fm_235_0 s) := by
  intro post xp hP hX
  obtain ⟨u_0_2, e_0_2⟩ : ∃ w, w = s.2.2.1 0 2 := ⟨_, rfl⟩
  have ro_0_2 := inv_F hI (-1) 4000 rfl e_0_2
  obtain ⟨u_2_3, e_2_3⟩ : ∃ w, w = s.2.2.1 2 3 := ⟨_, rfl⟩
  have ro_2_3 := inv_F hI 0 160 rfl e_2_3
  obtain ⟨u_32_3, e_32_3⟩ : ∃ w, w = s.2.2.1 32 3 := ⟨_, rfl⟩
  have ro_32_3 := inv_F hI 0 160 rfl e_32_3
  refine g_enter2 (k := 235) (N := 900) (by first | exact dq1 hd rfl | exact dq0 hd rfl | exact dq2 hd rfl | exact dq3 hd rfl | omega) rfl (Nat.le_of_ble_eq_true rfl) ?_
  refine g_aload_n 1 (gd rfl) rfl rfl ?_
  refine g_callv (X := _) (As := []) (r := []) (b := A 0) (q := 0) 4 (gd rfl) rfl rfl rfl rfl rfl (ww_o rfl) (Nat.le_of_ble_eq_true rfl) (mc := 0) (ms := 0) (Nat.zero_le _) (Nat.zero_le _) (P := fun v u => _) ?_ (fun e u h => h) (fun v u h => h)
  intro po1 xx1 hp1 hx1
  refine g_enter2 (k := 259) (N := 300) (by first | exact dq1 hd rfl | exact dq0 hd rfl | exact dq2 hd rfl | exact dq3 hd rfl | omega) rfl (Nat.le_of_ble_eq_true rfl) ?_
  refine g_aload_n 1 (gd rfl) rfl rfl ?_
  refine g_getI 4 (gd rfl) rfl rfl rfl (fun z1x1 e1x1 => ?_)
  have q1x1 : u_0_2 = z1x1 := (e_0_2).trans e1x1.symm
  subst q1x1
  refine g_iconst (-1) 5 (gd rfl) rfl rfl ?_
  refine g_cmp_ne 8 18 (gd rfl) rfl rfl (fun c1x5 => ?_) (fun c1x5 => ?_)
  · skip
    have i1x5 := r_ne1 0 4000 c1x5 ro_0_2 (in_c (-1) rfl) rfl
    refine g_aload_n 19 (gd rfl) rfl rfl ?_
    refine g_getA (q2 := 32) 22 (gd rfl) rfl rfl rfl rfl ?_
    refine g_areturn (gd rfl) rfl (hp1 _ _ ?_)
    show GG _ _ _ _ _ _ _ _ [.ref (A 32)] _ _ _
    refine g_astore_n 5 (gd rfl) rfl (Nat.le_of_ble_eq_true rfl) ?_
    refine g_aload_n 6 (gd rfl) rfl rfl ?_
    refine g_iload_n 7 (gd rfl) rfl rfl ?_
    refine g_callv (X := _) (As := [.int x1]) (r := []) (b := A 32) (q := 32) 10 (gd rfl) rfl rfl rfl rfl rfl (ww_o rfl) (Nat.le_of_ble_eq_true rfl) (mc := 0) (ms := 0) (Nat.zero_le _) (Nat.zero_le _) (P := fun v u => _) ?_ (fun e u h => h) (fun v u h => h)
    intro po7 xx7 hp7 hx7
    refine g_enter2 (k := 96) (N := 300) (by first | exact dq1 hd rfl | exact dq0 hd rfl | exact dq2 hd rfl | exact dq3 hd rfl | omega) rfl (Nat.le_of_ble_eq_true rfl) ?_
    refine g_iload_n 1 (gd rfl) rfl rfl ?_
    refine g_if_lt 4 26 (gd rfl) rfl rfl (fun c7x1 => ?_) (fun c7x1 => ?_)
    · skip
      have i7x1 := z_lt (-2147483648) (-1) c7x1 (i_rng x1) rfl
      refine g_iconst 0 27 (gd rfl) rfl rfl ?_
      refine g_ireturn (gd rfl) rfl (nb01 (in_w 0 1 (in_c 0 rfl) rfl)) (hp7 _ _ ?_)
      show GG _ _ _ _ _ _ _ _ [.int (Int32.ofInt 0)] _ _ _
      refine g_thr (E := am_IA) (y := yX11_allow) 13 (gd rfl) rfl rfl (Or.inl ⟨rfl, rfl, rfl⟩) (by first | exact dq1 hd rfl | exact dq0 hd rfl | exact dq2 hd rfl | exact dq3 hd rfl | omega) (Nat.le_of_ble_eq_true rfl) (Nat.le_of_ble_eq_true rfl) (Nat.le_of_ble_eq_true rfl) (fun c10 => ?_) (fun c10 => ?_)
      · skip
        exact zn_ne c10 (in_c 0 rfl) rfl
      · skip
        exact (hX _ _ ⟨rfl, s, hI, fr_rf, rfl⟩)
    · skip
      have i7x1 := z_ge 0 2147483647 c7x1 (i_rng x1) rfl
      refine g_iload_n 5 (gd rfl) rfl rfl ?_
      refine g_aload_n 6 (gd rfl) rfl rfl ?_
      refine g_getI 9 (gd rfl) rfl rfl rfl (fun z7x6 e7x6 => ?_)
      have q7x6 : u_32_3 = z7x6 := (e_32_3).trans e7x6.symm
      subst q7x6
      refine g_cmp_ge 12 26 (gd rfl) rfl rfl (fun c7x9 => ?_) (fun c7x9 => ?_)
      · skip
        refine g_iconst 0 27 (gd rfl) rfl rfl ?_
        refine g_ireturn (gd rfl) rfl (nb01 (in_w 0 1 (in_c 0 rfl) rfl)) (hp7 _ _ ?_)
        show GG _ _ _ _ _ _ _ _ [.int (Int32.ofInt 0)] _ _ _
        refine g_thr (E := am_IA) (y := yX11_allow) 13 (gd rfl) rfl rfl (Or.inl ⟨rfl, rfl, rfl⟩) (by first | exact dq1 hd rfl | exact dq0 hd rfl | exact dq2 hd rfl | exact dq3 hd rfl | omega) (Nat.le_of_ble_eq_true rfl) (Nat.le_of_ble_eq_true rfl) (Nat.le_of_ble_eq_true rfl) (fun c10 => ?_) (fun c10 => ?_)
        · skip
          exact zn_ne c10 (in_c 0 rfl) rfl
        · skip
          exact (hX _ _ ⟨rfl, s, hI, fr_rf, rfl⟩)
      · skip
        have i7x9 := r_lt1 0 159 c7x9 i7x1 ro_32_3 rfl
        have i7x9a := r_lt2 1 160 c7x9 i7x1 ro_32_3 rfl
        refine g_aload_n 13 (gd rfl) rfl rfl ?_
        refine g_getA (q2 := 34) 16 (gd rfl) rfl rfl rfl rfl ?_
        refine g_iload_n 17 (gd rfl) rfl rfl ?_
        refine g_iaload 18 (gd rfl) rfl (n := 160) rfl (in_ix i7x9 rfl) (fun z7x17 e7x17 => ?_)
        have i7x17 := inv_I hI (n := 160) (t := 0) (-1) 31 rfl (in_ix i7x9 rfl) rfl e7x17
        refine g_iconst (-1) 19 (gd rfl) rfl rfl ?_
        refine g_cmp_eq 22 26 (gd rfl) rfl rfl (fun c7x19 => ?_) (fun c7x19 => ?_)
        · skip
          have i7x19 := r_eq1 (-1) (-1) c7x19 i7x17 (in_c (-1) rfl) rfl
          refine g_iconst 0 27 (gd rfl) rfl rfl ?_
          refine g_ireturn (gd rfl) rfl (nb01 (in_w 0 1 (in_c 0 rfl) rfl)) (hp7 _ _ ?_)
          show GG _ _ _ _ _ _ _ _ [.int (Int32.ofInt 0)] _ _ _
          refine g_thr (E := am_IA) (y := yX11_allow) 13 (gd rfl) rfl rfl (Or.inl ⟨rfl, rfl, rfl⟩) (by first | exact dq1 hd rfl | exact dq0 hd rfl | exact dq2 hd rfl | exact dq3 hd rfl | omega) (Nat.le_of_ble_eq_true rfl) (Nat.le_of_ble_eq_true rfl) (Nat.le_of_ble_eq_true rfl) (fun c10 => ?_) (fun c10 => ?_)
          · skip
            exact zn_ne c10 (in_c 0 rfl) rfl
          · skip
            exact (hX _ _ ⟨rfl, s, hI, fr_rf, rfl⟩)
        · skip
          have i7x19 := r_ne1 0 31 c7x19 i7x17 (in_c (-1) rfl) rfl
          refine g_iconst 1 23 (gd rfl) rfl rfl ?_
          refine g_goto 27 (gd rfl) rfl ?_
          refine g_ireturn (gd rfl) rfl (nb01 (in_w 0 1 (in_c 1 rfl) rfl)) (hp7 _ _ ?_)
          show GG _ _ _ _ _ _ _ _ [.int (Int32.ofInt 1)] _ _ _
          refine g_thr (E := am_IA) (y := yX11_allow) 13 (gd rfl) rfl rfl (Or.inl ⟨rfl, rfl, rfl⟩) (by first | exact dq1 hd rfl | exact dq0 hd rfl | exact dq2 hd rfl | exact dq3 hd rfl | omega) (Nat.le_of_ble_eq_true rfl) (Nat.le_of_ble_eq_true rfl) (Nat.le_of_ble_eq_true rfl) (fun c10 => ?_) (fun c10 => ?_)
          · skip
            refine g_aload_n 14 (gd rfl) rfl rfl ?_
            refine g_getA (q2 := 56) 17 (gd rfl) rfl rfl rfl rfl ?_
            refine g_aload_n 18 (gd rfl) rfl rfl ?_
            refine g_iload_n 19 (gd rfl) rfl rfl ?_
            refine g_callv (X := _) (As := [.ref (A 32), .int x1]) (r := []) (b := A 56) (q := 56) 22 (gd rfl) rfl rfl rfl rfl rfl (ww_o rfl) (Nat.le_of_ble_eq_true rfl) (Nat.zero_le _) (Nat.zero_le _) (k_142_56_32 (by first | exact dq1 hd rfl | exact dq0 hd rfl | exact dq2 hd rfl | exact dq3 hd rfl | omega) hI (in_w 0 159 i7x9 rfl)) (fun e u h => h) (fun v u h => ?_)
            obtain ⟨s19, hI19, hF19, z19, rfl, rfl, i19⟩ := h
            show GG _ _ _ _ _ _ _ _ [.int z19] _ _ _
            exact g_ireturn (gd rfl) rfl (nb01 (in_w 0 1 i19 rfl)) (hP _ _ ⟨s19, hI19, (fr_tr rfl fr_rf hF19), z19, rfl, rfl, in_w 0 1 i19 rfl⟩)
          · skip
            exact zn_eq c10 (in_c 1 rfl) rfl
  · skip
    have i1x5 := r_eq1 (-1) (-1) c1x5 ro_0_2 (in_c (-1) rfl) rfl
    refine g_aload_n 9 (gd rfl) rfl rfl ?_
    refine g_getA (q2 := 1) 12 (gd rfl) rfl rfl rfl rfl ?_
    refine g_getA (q2 := 2) 15 (gd rfl) rfl rfl rfl rfl ?_
    refine g_goto 22 (gd rfl) rfl ?_
    refine g_areturn (gd rfl) rfl (hp1 _ _ ?_)
    show GG _ _ _ _ _ _ _ _ [.ref (A 2)] _ _ _
    refine g_astore_n 5 (gd rfl) rfl (Nat.le_of_ble_eq_true rfl) ?_
    refine g_aload_n 6 (gd rfl) rfl rfl ?_
    refine g_iload_n 7 (gd rfl) rfl rfl ?_
    refine g_callv (X := _) (As := [.int x1]) (r := []) (b := A 2) (q := 2) 10 (gd rfl) rfl rfl rfl rfl rfl (ww_o rfl) (Nat.le_of_ble_eq_true rfl) (mc := 0) (ms := 0) (Nat.zero_le _) (Nat.zero_le _) (P := fun v u => _) ?_ (fun e u h => h) (fun v u h => h)
    intro po7 xx7 hp7 hx7
    refine g_enter2 (k := 96) (N := 300) (by first | exact dq1 hd rfl | exact dq0 hd rfl | exact dq2 hd rfl | exact dq3 hd rfl | omega) rfl (Nat.le_of_ble_eq_true rfl) ?_
    refine g_iload_n 1 (gd rfl) rfl rfl ?_
    refine g_if_lt 4 26 (gd rfl) rfl rfl (fun c7x1 => ?_) (fun c7x1 => ?_)
    · skip
      have i7x1 := z_lt (-2147483648) (-1) c7x1 (i_rng x1) rfl
      refine g_iconst 0 27 (gd rfl) rfl rfl ?_
      refine g_ireturn (gd rfl) rfl (nb01 (in_w 0 1 (in_c 0 rfl) rfl)) (hp7 _ _ ?_)
      show GG _ _ _ _ _ _ _ _ [.int (Int32.ofInt 0)] _ _ _
      refine g_thr (E := am_IA) (y := yX11_allow) 13 (gd rfl) rfl rfl (Or.inl ⟨rfl, rfl, rfl⟩) (by first | exact dq1 hd rfl | exact dq0 hd rfl | exact dq2 hd rfl | exact dq3 hd rfl | omega) (Nat.le_of_ble_eq_true rfl) (Nat.le_of_ble_eq_true rfl) (Nat.le_of_ble_eq_true rfl) (fun c10 => ?_) (fun c10 => ?_)
      · skip
        exact zn_ne c10 (in_c 0 rfl) rfl
      · skip
        exact (hX _ _ ⟨rfl, s, hI, fr_rf, rfl⟩)
    · skip
      have i7x1 := z_ge 0 2147483647 c7x1 (i_rng x1) rfl
      refine g_iload_n 5 (gd rfl) rfl rfl ?_
      refine g_aload_n 6 (gd rfl) rfl rfl ?_
      refine g_getI 9 (gd rfl) rfl rfl rfl (fun z7x6 e7x6 => ?_)
      have q7x6 : u_2_3 = z7x6 := (e_2_3).trans e7x6.symm
      subst q7x6
      refine g_cmp_ge 12 26 (gd rfl) rfl rfl (fun c7x9 => ?_) (fun c7x9 => ?_)
      · skip
        refine g_iconst 0 27 (gd rfl) rfl rfl ?_
        refine g_ireturn (gd rfl) rfl (nb01 (in_w 0 1 (in_c 0 rfl) rfl)) (hp7 _ _ ?_)
        show GG _ _ _ _ _ _ _ _ [.int (Int32.ofInt 0)] _ _ _
        refine g_thr (E := am_IA) (y := yX11_allow) 13 (gd rfl) rfl rfl (Or.inl ⟨rfl, rfl, rfl⟩) (by first | exact dq1 hd rfl | exact dq0 hd rfl | exact dq2 hd rfl | exact dq3 hd rfl | omega) (Nat.le_of_ble_eq_true rfl) (Nat.le_of_ble_eq_true rfl) (Nat.le_of_ble_eq_true rfl) (fun c10 => ?_) (fun c10 => ?_)
        · skip
          exact zn_ne c10 (in_c 0 rfl) rfl
        · skip
          exact (hX _ _ ⟨rfl, s, hI, fr_rf, rfl⟩)
      · skip
        have i7x9 := r_lt1 0 159 c7x9 i7x1 ro_2_3 rfl
        have i7x9a := r_lt2 1 160 c7x9 i7x1 ro_2_3 rfl
        refine g_aload_n 13 (gd rfl) rfl rfl ?_
        refine g_getA (q2 := 4) 16 (gd rfl) rfl rfl rfl rfl ?_
        refine g_iload_n 17 (gd rfl) rfl rfl ?_
        refine g_iaload 18 (gd rfl) rfl (n := 160) rfl (in_ix i7x9 rfl) (fun z7x17 e7x17 => ?_)
        have i7x17 := inv_I hI (n := 160) (t := 0) (-1) 31 rfl (in_ix i7x9 rfl) rfl e7x17
        refine g_iconst (-1) 19 (gd rfl) rfl rfl ?_
        refine g_cmp_eq 22 26 (gd rfl) rfl rfl (fun c7x19 => ?_) (fun c7x19 => ?_)
        · skip
          have i7x19 := r_eq1 (-1) (-1) c7x19 i7x17 (in_c (-1) rfl) rfl
          refine g_iconst 0 27 (gd rfl) rfl rfl ?_
          refine g_ireturn (gd rfl) rfl (nb01 (in_w 0 1 (in_c 0 rfl) rfl)) (hp7 _ _ ?_)
          show GG _ _ _ _ _ _ _ _ [.int (Int32.ofInt 0)] _ _ _
          refine g_thr (E := am_IA) (y := yX11_allow) 13 (gd rfl) rfl rfl (Or.inl ⟨rfl, rfl, rfl⟩) (by first | exact dq1 hd rfl | exact dq0 hd rfl | exact dq2 hd rfl | exact dq3 hd rfl | omega) (Nat.le_of_ble_eq_true rfl) (Nat.le_of_ble_eq_true rfl) (Nat.le_of_ble_eq_true rfl) (fun c10 => ?_) (fun c10 => ?_)
          · skip
            exact zn_ne c10 (in_c 0 rfl) rfl
          · skip
            exact (hX _ _ ⟨rfl, s, hI, fr_rf, rfl⟩)
        · skip
          have i7x19 := r_ne1 0 31 c7x19 i7x17 (in_c (-1) rfl) rfl
          refine g_iconst 1 23 (gd rfl) rfl rfl ?_
          refine g_goto 27 (gd rfl) rfl ?_
          refine g_ireturn (gd rfl) rfl (nb01 (in_w 0 1 (in_c 1 rfl) rfl)) (hp7 _ _ ?_)
          show GG _ _ _ _ _ _ _ _ [.int (Int32.ofInt 1)] _ _ _
          refine g_thr (E := am_IA) (y := yX11_allow) 13 (gd rfl) rfl rfl (Or.inl ⟨rfl, rfl, rfl⟩) (by first | exact dq1 hd rfl | exact dq0 hd rfl | exact dq2 hd rfl | exact dq3 hd rfl | omega) (Nat.le_of_ble_eq_true rfl) (Nat.le_of_ble_eq_true rfl) (Nat.le_of_ble_eq_true rfl) (fun c10 => ?_) (fun c10 => ?_)
          · skip
            refine g_aload_n 14 (gd rfl) rfl rfl ?_
            refine g_getA (q2 := 56) 17 (gd rfl) rfl rfl rfl rfl ?_
            refine g_aload_n 18 (gd rfl) rfl rfl ?_
            refine g_iload_n 19 (gd rfl) rfl rfl ?_
            refine g_callv (X := _) (As := [.ref (A 2), .int x1]) (r := []) (b := A 56) (q := 56) 22 (gd rfl) rfl rfl rfl rfl rfl (ww_o rfl) (Nat.le_of_ble_eq_true rfl) (Nat.zero_le _) (Nat.zero_le _) (k_142_56_2 (by first | exact dq1 hd rfl | exact dq0 hd rfl | exact dq2 hd rfl | exact dq3 hd rfl | omega) hI (in_w 0 159 i7x9 rfl)) (fun e u h => h) (fun v u h => ?_)
            obtain ⟨s19, hI19, hF19, z19, rfl, rfl, i19⟩ := h
            show GG _ _ _ _ _ _ _ _ [.int z19] _ _ _
            exact g_ireturn (gd rfl) rfl (nb01 (in_w 0 1 i19 rfl)) (hP _ _ ⟨s19, hI19, (fr_tr rfl fr_rf hF19), z19, rfl, rfl, in_w 0 1 i19 rfl⟩)
          · skip
            exact zn_eq c10 (in_c 1 rfl) rfl

def fm_236_0 : FM := ([9, 10, 11, 12, 13, 14, 15, 39, 40, 41, 42, 43, 44, 45], [], [(2, 4), (32, 4)], [])
/-- GraphHouse.cut -/
theorem k_236_0 {Z : AmZ} {A : Nat → Nat} {s : GS} {ex : va_W} {d : Nat} {x1 : Int32} (hd : 7 ≤ d) (hI : Inv s)  : GC Z d 236 [.ref (A 0), .int x1] (WW Z A s ++ ex) 3 18 (fun v u => ∃ t : GS, Inv t ∧ Fr fm_236_0 s t ∧ ∃ z : Int32, v = some (.int z) ∧ u = WW Z A t ++ ex ∧ In z 0 1) (gE1 Z A ex fm_236_0 s) := by
  intro post xp hP hX
  obtain ⟨u_0_2, e_0_2⟩ : ∃ w, w = s.2.2.1 0 2 := ⟨_, rfl⟩
  have ro_0_2 := inv_F hI (-1) 4000 rfl e_0_2
  obtain ⟨u_2_1, e_2_1⟩ : ∃ w, w = s.2.2.1 2 1 := ⟨_, rfl⟩
  have ro_2_1 := inv_F hI 0 32 rfl e_2_1
  obtain ⟨u_32_1, e_32_1⟩ : ∃ w, w = s.2.2.1 32 1 := ⟨_, rfl⟩
  have ro_32_1 := inv_F hI 0 32 rfl e_32_1
  refine g_enter2 (k := 236) (N := 900) (by first | exact dq1 hd rfl | exact dq0 hd rfl | exact dq2 hd rfl | exact dq3 hd rfl | omega) rfl (Nat.le_of_ble_eq_true rfl) ?_
  refine g_aload_n 1 (gd rfl) rfl rfl ?_
  refine g_callv (X := _) (As := []) (r := []) (b := A 0) (q := 0) 4 (gd rfl) rfl rfl rfl rfl rfl (ww_o rfl) (Nat.le_of_ble_eq_true rfl) (mc := 0) (ms := 0) (Nat.zero_le _) (Nat.zero_le _) (P := fun v u => _) ?_ (fun e u h => h) (fun v u h => h)
  intro po1 xx1 hp1 hx1
  refine g_enter2 (k := 259) (N := 300) (by first | exact dq1 hd rfl | exact dq0 hd rfl | exact dq2 hd rfl | exact dq3 hd rfl | omega) rfl (Nat.le_of_ble_eq_true rfl) ?_
  refine g_aload_n 1 (gd rfl) rfl rfl ?_
  refine g_getI 4 (gd rfl) rfl rfl rfl (fun z1x1 e1x1 => ?_)
  have q1x1 : u_0_2 = z1x1 := (e_0_2).trans e1x1.symm
  subst q1x1
  refine g_iconst (-1) 5 (gd rfl) rfl rfl ?_
  refine g_cmp_ne 8 18 (gd rfl) rfl rfl (fun c1x5 => ?_) (fun c1x5 => ?_)
  · skip
    have i1x5 := r_ne1 0 4000 c1x5 ro_0_2 (in_c (-1) rfl) rfl
    refine g_aload_n 19 (gd rfl) rfl rfl ?_
    refine g_getA (q2 := 32) 22 (gd rfl) rfl rfl rfl rfl ?_
    refine g_areturn (gd rfl) rfl (hp1 _ _ ?_)
    show GG _ _ _ _ _ _ _ _ [.ref (A 32)] _ _ _
    refine g_astore_n 5 (gd rfl) rfl (Nat.le_of_ble_eq_true rfl) ?_
    refine g_aload_n 6 (gd rfl) rfl rfl ?_
    refine g_iload_n 7 (gd rfl) rfl rfl ?_
    refine g_callv (X := _) (As := [.int x1]) (r := []) (b := A 32) (q := 32) 10 (gd rfl) rfl rfl rfl rfl rfl (ww_o rfl) (Nat.le_of_ble_eq_true rfl) (mc := 0) (ms := 0) (Nat.zero_le _) (Nat.zero_le _) (P := fun v u => _) ?_ (fun e u h => h) (fun v u h => h)
    intro po7 xx7 hp7 hx7
    refine g_enter2 (k := 94) (N := 300) (by first | exact dq1 hd rfl | exact dq0 hd rfl | exact dq2 hd rfl | exact dq3 hd rfl | omega) rfl (Nat.le_of_ble_eq_true rfl) ?_
    refine g_iload_n 1 (gd rfl) rfl rfl ?_
    refine g_if_lt 4 16 (gd rfl) rfl rfl (fun c7x1 => ?_) (fun c7x1 => ?_)
    · skip
      have i7x1 := z_lt (-2147483648) (-1) c7x1 (i_rng x1) rfl
      refine g_iconst 0 17 (gd rfl) rfl rfl ?_
      refine g_ireturn (gd rfl) rfl (nb01 (in_w 0 1 (in_c 0 rfl) rfl)) (hp7 _ _ ?_)
      show GG _ _ _ _ _ _ _ _ [.int (Int32.ofInt 0)] _ _ _
      refine g_thr (E := am_IA) (y := yX11_allow) 13 (gd rfl) rfl rfl (Or.inl ⟨rfl, rfl, rfl⟩) (by first | exact dq1 hd rfl | exact dq0 hd rfl | exact dq2 hd rfl | exact dq3 hd rfl | omega) (Nat.le_of_ble_eq_true rfl) (Nat.le_of_ble_eq_true rfl) (Nat.le_of_ble_eq_true rfl) (fun c10 => ?_) (fun c10 => ?_)
      · skip
        exact zn_ne c10 (in_c 0 rfl) rfl
      · skip
        exact (hX _ _ ⟨rfl, s, hI, fr_rf, rfl⟩)
    · skip
      have i7x1 := z_ge 0 2147483647 c7x1 (i_rng x1) rfl
      refine g_iload_n 5 (gd rfl) rfl rfl ?_
      refine g_aload_n 6 (gd rfl) rfl rfl ?_
      refine g_getI 9 (gd rfl) rfl rfl rfl (fun z7x6 e7x6 => ?_)
      have q7x6 : u_32_1 = z7x6 := (e_32_1).trans e7x6.symm
      subst q7x6
      refine g_cmp_ge 12 16 (gd rfl) rfl rfl (fun c7x9 => ?_) (fun c7x9 => ?_)
      · skip
        refine g_iconst 0 17 (gd rfl) rfl rfl ?_
        refine g_ireturn (gd rfl) rfl (nb01 (in_w 0 1 (in_c 0 rfl) rfl)) (hp7 _ _ ?_)
        show GG _ _ _ _ _ _ _ _ [.int (Int32.ofInt 0)] _ _ _
        refine g_thr (E := am_IA) (y := yX11_allow) 13 (gd rfl) rfl rfl (Or.inl ⟨rfl, rfl, rfl⟩) (by first | exact dq1 hd rfl | exact dq0 hd rfl | exact dq2 hd rfl | exact dq3 hd rfl | omega) (Nat.le_of_ble_eq_true rfl) (Nat.le_of_ble_eq_true rfl) (Nat.le_of_ble_eq_true rfl) (fun c10 => ?_) (fun c10 => ?_)
        · skip
          exact zn_ne c10 (in_c 0 rfl) rfl
        · skip
          exact (hX _ _ ⟨rfl, s, hI, fr_rf, rfl⟩)
      · skip
        have i7x9 := r_lt1 0 31 c7x9 i7x1 ro_32_1 rfl
        have i7x9a := r_lt2 1 32 c7x9 i7x1 ro_32_1 rfl
        refine g_iconst 1 13 (gd rfl) rfl rfl ?_
        refine g_goto 17 (gd rfl) rfl ?_
        refine g_ireturn (gd rfl) rfl (nb01 (in_w 0 1 (in_c 1 rfl) rfl)) (hp7 _ _ ?_)
        show GG _ _ _ _ _ _ _ _ [.int (Int32.ofInt 1)] _ _ _
        refine g_thr (E := am_IA) (y := yX11_allow) 13 (gd rfl) rfl rfl (Or.inl ⟨rfl, rfl, rfl⟩) (by first | exact dq1 hd rfl | exact dq0 hd rfl | exact dq2 hd rfl | exact dq3 hd rfl | omega) (Nat.le_of_ble_eq_true rfl) (Nat.le_of_ble_eq_true rfl) (Nat.le_of_ble_eq_true rfl) (fun c10 => ?_) (fun c10 => ?_)
        · skip
          refine g_aload_n 14 (gd rfl) rfl rfl ?_
          refine g_getA (q2 := 56) 17 (gd rfl) rfl rfl rfl rfl ?_
          refine g_aload_n 18 (gd rfl) rfl rfl ?_
          refine g_iload_n 19 (gd rfl) rfl rfl ?_
          refine g_callv (X := _) (As := [.ref (A 32), .int x1]) (r := []) (b := A 56) (q := 56) 22 (gd rfl) rfl rfl rfl rfl rfl (ww_o rfl) (Nat.le_of_ble_eq_true rfl) (mc := 0) (ms := 0) (Nat.zero_le _) (Nat.zero_le _) (P := fun v u => _) ?_ (fun e u h => h) (fun v u h => h)
          intro po19 xx19 hp19 hx19
          refine g_enter2 (k := 143) (N := 300) (by first | exact dq1 hd rfl | exact dq0 hd rfl | exact dq2 hd rfl | exact dq3 hd rfl | omega) rfl (Nat.le_of_ble_eq_true rfl) ?_
          refine g_aload_n 1 (gd rfl) rfl rfl ?_
          refine g_callv (X := _) (As := []) (r := []) (b := A 32) (q := 32) 4 (gd rfl) rfl rfl rfl rfl rfl (ww_o rfl) (Nat.le_of_ble_eq_true rfl) (Nat.zero_le _) (Nat.zero_le _) (k_106_32 (by first | exact dq1 hd rfl | exact dq0 hd rfl | exact dq2 hd rfl | exact dq3 hd rfl | omega) hI ) (fun e u h => h) (fun v u h => ?_)
          obtain ⟨s19x1, hI19x1, hF19x1, n19x1, rfl, rfl⟩ := h
          obtain ⟨z19x1a, e19x1⟩ : ∃ w, w = s19x1.2.2.1 32 4 := ⟨_, rfl⟩
          have i19x1a := inv_F hI19x1 (-1) 4000 rfl e19x1
          obtain ⟨z19x1b, e19x1a⟩ : ∃ w, w = s19x1.2.2.1 32 0 := ⟨_, rfl⟩
          have i19x1b := inv_F hI19x1 0 4000 rfl e19x1a
          rw [← (show z19x1a = s19x1.2.2.1 32 4 from e19x1)] at n19x1
          rw [← (show z19x1b = s19x1.2.2.1 32 0 from e19x1a)] at n19x1
          show GG _ _ _ _ _ _ _ _ [] _ _ _
          refine g_aload_n 5 (gd rfl) rfl rfl ?_
          refine g_getA (q2 := 39) 8 (gd rfl) rfl rfl rfl rfl ?_
          refine g_iload_n 9 (gd rfl) rfl rfl ?_
          refine g_iaload 10 (gd rfl) rfl (n := 32) rfl (in_ix i7x9 rfl) (fun z19x9 e19x9 => ?_)
          refine g_istore_n 11 (gd rfl) rfl (Nat.le_of_ble_eq_true rfl) ?_
          refine g_aload_n 12 (gd rfl) rfl rfl ?_
          refine g_getA (q2 := 39) 15 (gd rfl) rfl rfl rfl rfl ?_
          refine g_iload_n 16 (gd rfl) rfl rfl ?_
          refine g_iload_n 17 (gd rfl) rfl rfl ?_
          refine g_ineg 18 (gd rfl) rfl (fun z19x17 e19x17 => ?_)
          refine g_iand 19 (gd rfl) rfl (fun z19x18 e19x18 => ?_)
          refine g_iconst 1 20 (gd rfl) rfl rfl ?_
          refine g_iload_n 21 (gd rfl) rfl rfl ?_
          refine g_ishl 22 (gd rfl) rfl (fun z19x21 e19x21 => ?_)
          refine g_iconst (-1) 23 (gd rfl) rfl rfl ?_
          refine g_ixor 24 (gd rfl) rfl (fun z19x23 e19x23 => ?_)
          refine g_calls (As := [.ref (A 39), .int z19x18, .int z19x23]) (r := []) 27 (gd rfl) rfl rfl rfl rfl rfl (Nat.le_of_ble_eq_true rfl) (Nat.zero_le _) (Nat.zero_le _) (k_266_39 (by first | exact dq1 hd rfl | exact dq0 hd rfl | exact dq2 hd rfl | exact dq3 hd rfl | omega) hI19x1 ) (fun v u h => ?_)
          obtain ⟨z19x24, rfl, rfl, i19x24, p19x24⟩ := h
          show GG _ _ _ _ _ _ _ _ [.int z19x24] _ _ _
          refine g_istore 29 (gd rfl) rfl (Nat.le_of_ble_eq_true rfl) ?_
          refine g_iload_n 30 (gd rfl) rfl rfl ?_
          refine g_iload 32 (gd rfl) rfl rfl ?_
          refine g_iconst (-1) 33 (gd rfl) rfl rfl ?_
          refine g_ixor 34 (gd rfl) rfl (fun z19x33 e19x33 => ?_)
          refine g_iand 35 (gd rfl) rfl (fun z19x34 e19x34 => ?_)
          refine g_if_eq 38 42 (gd rfl) rfl rfl (fun c19x35 => ?_) (fun c19x35 => ?_)
          · skip
            have i19x35 := z_eq 0 0 c19x35 (i_rng z19x34) rfl
            refine g_iconst 0 43 (gd rfl) rfl rfl ?_
            refine g_ireturn (gd rfl) rfl (nb01 (in_w 0 1 (in_c 0 rfl) rfl)) (hp19 _ _ ?_)
            show GG _ _ _ _ _ _ _ _ [.int (Int32.ofInt 0)] _ _ _
            exact g_ireturn (gd rfl) rfl (nb01 (in_w 0 1 (in_c 0 rfl) rfl)) (hP _ _ ⟨s19x1, hI19x1, (fr_tr rfl fr_rf hF19x1), (Int32.ofInt 0), rfl, rfl, in_w 0 1 (in_c 0 rfl) rfl⟩)
          · skip
            refine g_iconst 1 39 (gd rfl) rfl rfl ?_
            refine g_goto 43 (gd rfl) rfl ?_
            refine g_ireturn (gd rfl) rfl (nb01 (in_w 0 1 (in_c 1 rfl) rfl)) (hp19 _ _ ?_)
            show GG _ _ _ _ _ _ _ _ [.int (Int32.ofInt 1)] _ _ _
            exact g_ireturn (gd rfl) rfl (nb01 (in_w 0 1 (in_c 1 rfl) rfl)) (hP _ _ ⟨s19x1, hI19x1, (fr_tr rfl fr_rf hF19x1), (Int32.ofInt 1), rfl, rfl, in_w 0 1 (in_c 1 rfl) rfl⟩)
        · skip
          exact zn_eq c10 (in_c 1 rfl) rfl
  · skip
    have i1x5 := r_eq1 (-1) (-1) c1x5 ro_0_2 (in_c (-1) rfl) rfl
    refine g_aload_n 9 (gd rfl) rfl rfl ?_
    refine g_getA (q2 := 1) 12 (gd rfl) rfl rfl rfl rfl ?_
    refine g_getA (q2 := 2) 15 (gd rfl) rfl rfl rfl rfl ?_
    refine g_goto 22 (gd rfl) rfl ?_
    refine g_areturn (gd rfl) rfl (hp1 _ _ ?_)
    show GG _ _ _ _ _ _ _ _ [.ref (A 2)] _ _ _
    refine g_astore_n 5 (gd rfl) rfl (Nat.le_of_ble_eq_true rfl) ?_
    refine g_aload_n 6 (gd rfl) rfl rfl ?_
    refine g_iload_n 7 (gd rfl) rfl rfl ?_
    refine g_callv (X := _) (As := [.int x1]) (r := []) (b := A 2) (q := 2) 10 (gd rfl) rfl rfl rfl rfl rfl (ww_o rfl) (Nat.le_of_ble_eq_true rfl) (mc := 0) (ms := 0) (Nat.zero_le _) (Nat.zero_le _) (P := fun v u => _) ?_ (fun e u h => h) (fun v u h => h)
    intro po7 xx7 hp7 hx7
    refine g_enter2 (k := 94) (N := 300) (by first | exact dq1 hd rfl | exact dq0 hd rfl | exact dq2 hd rfl | exact dq3 hd rfl | omega) rfl (Nat.le_of_ble_eq_true rfl) ?_
    refine g_iload_n 1 (gd rfl) rfl rfl ?_
    refine g_if_lt 4 16 (gd rfl) rfl rfl (fun c7x1 => ?_) (fun c7x1 => ?_)
    · skip
      have i7x1 := z_lt (-2147483648) (-1) c7x1 (i_rng x1) rfl
      refine g_iconst 0 17 (gd rfl) rfl rfl ?_
      refine g_ireturn (gd rfl) rfl (nb01 (in_w 0 1 (in_c 0 rfl) rfl)) (hp7 _ _ ?_)
      show GG _ _ _ _ _ _ _ _ [.int (Int32.ofInt 0)] _ _ _
      refine g_thr (E := am_IA) (y := yX11_allow) 13 (gd rfl) rfl rfl (Or.inl ⟨rfl, rfl, rfl⟩) (by first | exact dq1 hd rfl | exact dq0 hd rfl | exact dq2 hd rfl | exact dq3 hd rfl | omega) (Nat.le_of_ble_eq_true rfl) (Nat.le_of_ble_eq_true rfl) (Nat.le_of_ble_eq_true rfl) (fun c10 => ?_) (fun c10 => ?_)
      · skip
        exact zn_ne c10 (in_c 0 rfl) rfl
      · skip
        exact (hX _ _ ⟨rfl, s, hI, fr_rf, rfl⟩)
    · skip
      have i7x1 := z_ge 0 2147483647 c7x1 (i_rng x1) rfl
      refine g_iload_n 5 (gd rfl) rfl rfl ?_
      refine g_aload_n 6 (gd rfl) rfl rfl ?_
      refine g_getI 9 (gd rfl) rfl rfl rfl (fun z7x6 e7x6 => ?_)
      have q7x6 : u_2_1 = z7x6 := (e_2_1).trans e7x6.symm
      subst q7x6
      refine g_cmp_ge 12 16 (gd rfl) rfl rfl (fun c7x9 => ?_) (fun c7x9 => ?_)
      · skip
        refine g_iconst 0 17 (gd rfl) rfl rfl ?_
        refine g_ireturn (gd rfl) rfl (nb01 (in_w 0 1 (in_c 0 rfl) rfl)) (hp7 _ _ ?_)
        show GG _ _ _ _ _ _ _ _ [.int (Int32.ofInt 0)] _ _ _
        refine g_thr (E := am_IA) (y := yX11_allow) 13 (gd rfl) rfl rfl (Or.inl ⟨rfl, rfl, rfl⟩) (by first | exact dq1 hd rfl | exact dq0 hd rfl | exact dq2 hd rfl | exact dq3 hd rfl | omega) (Nat.le_of_ble_eq_true rfl) (Nat.le_of_ble_eq_true rfl) (Nat.le_of_ble_eq_true rfl) (fun c10 => ?_) (fun c10 => ?_)
        · skip
          exact zn_ne c10 (in_c 0 rfl) rfl
        · skip
          exact (hX _ _ ⟨rfl, s, hI, fr_rf, rfl⟩)
      · skip
        have i7x9 := r_lt1 0 31 c7x9 i7x1 ro_2_1 rfl
        have i7x9a := r_lt2 1 32 c7x9 i7x1 ro_2_1 rfl
        refine g_iconst 1 13 (gd rfl) rfl rfl ?_
        refine g_goto 17 (gd rfl) rfl ?_
        refine g_ireturn (gd rfl) rfl (nb01 (in_w 0 1 (in_c 1 rfl) rfl)) (hp7 _ _ ?_)
        show GG _ _ _ _ _ _ _ _ [.int (Int32.ofInt 1)] _ _ _
        refine g_thr (E := am_IA) (y := yX11_allow) 13 (gd rfl) rfl rfl (Or.inl ⟨rfl, rfl, rfl⟩) (by first | exact dq1 hd rfl | exact dq0 hd rfl | exact dq2 hd rfl | exact dq3 hd rfl | omega) (Nat.le_of_ble_eq_true rfl) (Nat.le_of_ble_eq_true rfl) (Nat.le_of_ble_eq_true rfl) (fun c10 => ?_) (fun c10 => ?_)
        · skip
          refine g_aload_n 14 (gd rfl) rfl rfl ?_
          refine g_getA (q2 := 56) 17 (gd rfl) rfl rfl rfl rfl ?_
          refine g_aload_n 18 (gd rfl) rfl rfl ?_
          refine g_iload_n 19 (gd rfl) rfl rfl ?_
          refine g_callv (X := _) (As := [.ref (A 2), .int x1]) (r := []) (b := A 56) (q := 56) 22 (gd rfl) rfl rfl rfl rfl rfl (ww_o rfl) (Nat.le_of_ble_eq_true rfl) (mc := 0) (ms := 0) (Nat.zero_le _) (Nat.zero_le _) (P := fun v u => _) ?_ (fun e u h => h) (fun v u h => h)
          intro po19 xx19 hp19 hx19
          refine g_enter2 (k := 143) (N := 300) (by first | exact dq1 hd rfl | exact dq0 hd rfl | exact dq2 hd rfl | exact dq3 hd rfl | omega) rfl (Nat.le_of_ble_eq_true rfl) ?_
          refine g_aload_n 1 (gd rfl) rfl rfl ?_
          refine g_callv (X := _) (As := []) (r := []) (b := A 2) (q := 2) 4 (gd rfl) rfl rfl rfl rfl rfl (ww_o rfl) (Nat.le_of_ble_eq_true rfl) (Nat.zero_le _) (Nat.zero_le _) (k_106_2 (by first | exact dq1 hd rfl | exact dq0 hd rfl | exact dq2 hd rfl | exact dq3 hd rfl | omega) hI ) (fun e u h => h) (fun v u h => ?_)
          obtain ⟨s19x1, hI19x1, hF19x1, n19x1, rfl, rfl⟩ := h
          obtain ⟨z19x1a, e19x1⟩ : ∃ w, w = s19x1.2.2.1 2 4 := ⟨_, rfl⟩
          have i19x1a := inv_F hI19x1 (-1) 4000 rfl e19x1
          obtain ⟨z19x1b, e19x1a⟩ : ∃ w, w = s19x1.2.2.1 2 0 := ⟨_, rfl⟩
          have i19x1b := inv_F hI19x1 0 4000 rfl e19x1a
          rw [← (show z19x1a = s19x1.2.2.1 2 4 from e19x1)] at n19x1
          rw [← (show z19x1b = s19x1.2.2.1 2 0 from e19x1a)] at n19x1
          show GG _ _ _ _ _ _ _ _ [] _ _ _
          refine g_aload_n 5 (gd rfl) rfl rfl ?_
          refine g_getA (q2 := 9) 8 (gd rfl) rfl rfl rfl rfl ?_
          refine g_iload_n 9 (gd rfl) rfl rfl ?_
          refine g_iaload 10 (gd rfl) rfl (n := 32) rfl (in_ix i7x9 rfl) (fun z19x9 e19x9 => ?_)
          refine g_istore_n 11 (gd rfl) rfl (Nat.le_of_ble_eq_true rfl) ?_
          refine g_aload_n 12 (gd rfl) rfl rfl ?_
          refine g_getA (q2 := 9) 15 (gd rfl) rfl rfl rfl rfl ?_
          refine g_iload_n 16 (gd rfl) rfl rfl ?_
          refine g_iload_n 17 (gd rfl) rfl rfl ?_
          refine g_ineg 18 (gd rfl) rfl (fun z19x17 e19x17 => ?_)
          refine g_iand 19 (gd rfl) rfl (fun z19x18 e19x18 => ?_)
          refine g_iconst 1 20 (gd rfl) rfl rfl ?_
          refine g_iload_n 21 (gd rfl) rfl rfl ?_
          refine g_ishl 22 (gd rfl) rfl (fun z19x21 e19x21 => ?_)
          refine g_iconst (-1) 23 (gd rfl) rfl rfl ?_
          refine g_ixor 24 (gd rfl) rfl (fun z19x23 e19x23 => ?_)
          refine g_calls (As := [.ref (A 9), .int z19x18, .int z19x23]) (r := []) 27 (gd rfl) rfl rfl rfl rfl rfl (Nat.le_of_ble_eq_true rfl) (Nat.zero_le _) (Nat.zero_le _) (k_266_9 (by first | exact dq1 hd rfl | exact dq0 hd rfl | exact dq2 hd rfl | exact dq3 hd rfl | omega) hI19x1 ) (fun v u h => ?_)
          obtain ⟨z19x24, rfl, rfl, i19x24, p19x24⟩ := h
          show GG _ _ _ _ _ _ _ _ [.int z19x24] _ _ _
          refine g_istore 29 (gd rfl) rfl (Nat.le_of_ble_eq_true rfl) ?_
          refine g_iload_n 30 (gd rfl) rfl rfl ?_
          refine g_iload 32 (gd rfl) rfl rfl ?_
          refine g_iconst (-1) 33 (gd rfl) rfl rfl ?_
          refine g_ixor 34 (gd rfl) rfl (fun z19x33 e19x33 => ?_)
          refine g_iand 35 (gd rfl) rfl (fun z19x34 e19x34 => ?_)
          refine g_if_eq 38 42 (gd rfl) rfl rfl (fun c19x35 => ?_) (fun c19x35 => ?_)
          · skip
            have i19x35 := z_eq 0 0 c19x35 (i_rng z19x34) rfl
            refine g_iconst 0 43 (gd rfl) rfl rfl ?_
            refine g_ireturn (gd rfl) rfl (nb01 (in_w 0 1 (in_c 0 rfl) rfl)) (hp19 _ _ ?_)
            show GG _ _ _ _ _ _ _ _ [.int (Int32.ofInt 0)] _ _ _
            exact g_ireturn (gd rfl) rfl (nb01 (in_w 0 1 (in_c 0 rfl) rfl)) (hP _ _ ⟨s19x1, hI19x1, (fr_tr rfl fr_rf hF19x1), (Int32.ofInt 0), rfl, rfl, in_w 0 1 (in_c 0 rfl) rfl⟩)
          · skip
            refine g_iconst 1 39 (gd rfl) rfl rfl ?_
            refine g_goto 43 (gd rfl) rfl ?_
            refine g_ireturn (gd rfl) rfl (nb01 (in_w 0 1 (in_c 1 rfl) rfl)) (hp19 _ _ ?_)
            show GG _ _ _ _ _ _ _ _ [.int (Int32.ofInt 1)] _ _ _
            exact g_ireturn (gd rfl) rfl (nb01 (in_w 0 1 (in_c 1 rfl) rfl)) (hP _ _ ⟨s19x1, hI19x1, (fr_tr rfl fr_rf hF19x1), (Int32.ofInt 1), rfl, rfl, in_w 0 1 (in_c 1 rfl) rfl⟩)
        · skip
          exact zn_eq c10 (in_c 1 rfl) rfl

def fm_237_0 : FM := ([9, 10, 11, 12, 13, 14, 15, 39, 40, 41, 42, 43, 44, 45, 57], [], [(2, 4), (32, 4), (56, 0), (56, 1)], [])
/-- GraphHouse.order -/
theorem k_237_0 {Z : AmZ} {A : Nat → Nat} {s : GS} {ex : va_W} {d : Nat} {x1 : Int32} (hd : 7 ≤ d) (hI : Inv s)  : GC Z d 237 [.ref (A 0), .int x1] (WW Z A s ++ ex) 3 18 (fun v u => ∃ t : GS, Inv t ∧ Fr fm_237_0 s t ∧ ∃ z : Int32, v = some (.int z) ∧ u = WW Z A t ++ ex ∧ In z (-1) 31) (gE1 Z A ex fm_237_0 s) := by
  intro post xp hP hX
  obtain ⟨u_0_2, e_0_2⟩ : ∃ w, w = s.2.2.1 0 2 := ⟨_, rfl⟩
  have ro_0_2 := inv_F hI (-1) 4000 rfl e_0_2
  obtain ⟨u_2_0, e_2_0⟩ : ∃ w, w = s.2.2.1 2 0 := ⟨_, rfl⟩
  have ro_2_0 := inv_F hI 0 4000 rfl e_2_0
  obtain ⟨u_32_0, e_32_0⟩ : ∃ w, w = s.2.2.1 32 0 := ⟨_, rfl⟩
  have ro_32_0 := inv_F hI 0 4000 rfl e_32_0
  refine g_enter2 (k := 237) (N := 900) (by first | exact dq1 hd rfl | exact dq0 hd rfl | exact dq2 hd rfl | exact dq3 hd rfl | omega) rfl (Nat.le_of_ble_eq_true rfl) ?_
  refine g_iload_n 1 (gd rfl) rfl rfl ?_
  refine g_if_lt 4 8 (gd rfl) rfl rfl (fun c1 => ?_) (fun c1 => ?_)
  · skip
    have i1 := z_lt (-2147483648) (-1) c1 (i_rng x1) rfl
    refine g_iconst 0 9 (gd rfl) rfl rfl ?_
    refine g_thr (E := am_IA) (y := yX11_allow) 12 (gd rfl) rfl rfl (Or.inl ⟨rfl, rfl, rfl⟩) (by first | exact dq1 hd rfl | exact dq0 hd rfl | exact dq2 hd rfl | exact dq3 hd rfl | omega) (Nat.le_of_ble_eq_true rfl) (Nat.le_of_ble_eq_true rfl) (Nat.le_of_ble_eq_true rfl) (fun c9 => ?_) (fun c9 => ?_)
    · skip
      exact zn_ne c9 (in_c 0 rfl) rfl
    · skip
      exact (hX _ _ ⟨rfl, s, hI, fr_rf, rfl⟩)
  · skip
    have i1 := z_ge 0 2147483647 c1 (i_rng x1) rfl
    refine g_iconst 1 5 (gd rfl) rfl rfl ?_
    refine g_goto 9 (gd rfl) rfl ?_
    refine g_thr (E := am_IA) (y := yX11_allow) 12 (gd rfl) rfl rfl (Or.inl ⟨rfl, rfl, rfl⟩) (by first | exact dq1 hd rfl | exact dq0 hd rfl | exact dq2 hd rfl | exact dq3 hd rfl | omega) (Nat.le_of_ble_eq_true rfl) (Nat.le_of_ble_eq_true rfl) (Nat.le_of_ble_eq_true rfl) (fun c9 => ?_) (fun c9 => ?_)
    · skip
      refine g_aload_n 13 (gd rfl) rfl rfl ?_
      refine g_getA (q2 := 56) 16 (gd rfl) rfl rfl rfl rfl ?_
      refine g_aload_n 17 (gd rfl) rfl rfl ?_
      refine g_callv (X := _) (As := []) (r := [.ref (A 56)]) (b := A 0) (q := 0) 20 (gd rfl) rfl rfl rfl rfl rfl (ww_o rfl) (Nat.le_of_ble_eq_true rfl) (mc := 0) (ms := 0) (Nat.zero_le _) (Nat.zero_le _) (P := fun v u => _) ?_ (fun e u h => h) (fun v u h => h)
      intro po17 xx17 hp17 hx17
      refine g_enter2 (k := 259) (N := 300) (by first | exact dq1 hd rfl | exact dq0 hd rfl | exact dq2 hd rfl | exact dq3 hd rfl | omega) rfl (Nat.le_of_ble_eq_true rfl) ?_
      refine g_aload_n 1 (gd rfl) rfl rfl ?_
      refine g_getI 4 (gd rfl) rfl rfl rfl (fun z17x1 e17x1 => ?_)
      have q17x1 : u_0_2 = z17x1 := (e_0_2).trans e17x1.symm
      subst q17x1
      refine g_iconst (-1) 5 (gd rfl) rfl rfl ?_
      refine g_cmp_ne 8 18 (gd rfl) rfl rfl (fun c17x5 => ?_) (fun c17x5 => ?_)
      · skip
        have i17x5 := r_ne1 0 4000 c17x5 ro_0_2 (in_c (-1) rfl) rfl
        refine g_aload_n 19 (gd rfl) rfl rfl ?_
        refine g_getA (q2 := 32) 22 (gd rfl) rfl rfl rfl rfl ?_
        refine g_areturn (gd rfl) rfl (hp17 _ _ ?_)
        show GG _ _ _ _ _ _ _ _ [.ref (A 32), .ref (A 56)] _ _ _
        refine g_iload_n 21 (gd rfl) rfl rfl ?_
        refine g_callv (X := _) (As := [.ref (A 32), .int x1]) (r := []) (b := A 56) (q := 56) 24 (gd rfl) rfl rfl rfl rfl rfl (ww_o rfl) (Nat.le_of_ble_eq_true rfl) (mc := 0) (ms := 0) (Nat.zero_le _) (Nat.zero_le _) (P := fun v u => _) ?_ (fun e u h => h) (fun v u h => h)
        intro po21 xx21 hp21 hx21
        refine g_enter2 (k := 144) (N := 300) (by first | exact dq1 hd rfl | exact dq0 hd rfl | exact dq2 hd rfl | exact dq3 hd rfl | omega) rfl (Nat.le_of_ble_eq_true rfl) ?_
        refine g_aload_n 1 (gd rfl) rfl rfl ?_
        refine g_getI 4 (gd rfl) rfl rfl rfl (fun z21x1 e21x1 => ?_)
        have i21x1 := inv_F hI (-1) 4000 rfl e21x1
        refine g_aload_n 5 (gd rfl) rfl rfl ?_
        refine g_getI 8 (gd rfl) rfl rfl rfl (fun z21x5 e21x5 => ?_)
        have q21x5 : u_32_0 = z21x5 := (e_32_0).trans e21x5.symm
        subst q21x5
        refine g_cmp_eq 11 24 (gd rfl) rfl rfl (fun c21x8 => ?_) (fun c21x8 => ?_)
        · skip
          have i21x8 := r_eq1 0 4000 c21x8 i21x1 ro_32_0 rfl
          refine g_iload_n 25 (gd rfl) rfl rfl ?_
          refine g_aload_n 26 (gd rfl) rfl rfl ?_
          refine g_getI 29 (gd rfl) rfl rfl rfl (fun z21x26 e21x26 => ?_)
          have i21x26 := inv_F hI 0 32 rfl e21x26
          refine g_cmp_ge 32 41 (gd rfl) rfl rfl (fun c21x29 => ?_) (fun c21x29 => ?_)
          · skip
            refine g_iconst (-1) 42 (gd rfl) rfl rfl ?_
            refine g_ireturn (gd rfl) rfl rfl (hp21 _ _ ?_)
            show GG _ _ _ _ _ _ _ _ [.int (Int32.ofInt (-1))] _ _ _
            exact g_ireturn (gd rfl) rfl rfl (hP _ _ ⟨s, hI, fr_rf, (Int32.ofInt (-1)), rfl, rfl, in_w (-1) 31 (in_c (-1) rfl) rfl⟩)
          · skip
            have i21x29 := r_lt1 0 31 c21x29 i1 i21x26 rfl
            have i21x29a := r_lt2 1 32 c21x29 i1 i21x26 rfl
            refine g_aload_n 33 (gd rfl) rfl rfl ?_
            refine g_getA (q2 := 57) 36 (gd rfl) rfl rfl rfl rfl ?_
            refine g_iload_n 37 (gd rfl) rfl rfl ?_
            refine g_iaload 38 (gd rfl) rfl (n := 32) rfl (in_ix i21x29 rfl) (fun z21x37 e21x37 => ?_)
            have i21x37 := inv_I hI (n := 32) (t := 0) 0 31 rfl (in_ix i21x29 rfl) rfl e21x37
            refine g_goto 42 (gd rfl) rfl ?_
            refine g_ireturn (gd rfl) rfl rfl (hp21 _ _ ?_)
            show GG _ _ _ _ _ _ _ _ [.int z21x37] _ _ _
            exact g_ireturn (gd rfl) rfl rfl (hP _ _ ⟨s, hI, fr_rf, z21x37, rfl, rfl, in_w (-1) 31 i21x37 rfl⟩)
        · skip
          refine g_aload_n 12 (gd rfl) rfl rfl ?_
          refine g_aload_n 13 (gd rfl) rfl rfl ?_
          refine g_getI 16 (gd rfl) rfl rfl rfl (fun z21x13 e21x13 => ?_)
          have q21x13 : u_32_0 = z21x13 := (e_32_0).trans e21x13.symm
          subst q21x13
          refine g_putI 19 (gd rfl) rfl rfl rfl rfl ?_
          have hI21x16 := inv_sF (q := 56) (j := 0) hI rfl (in_w (-1) 4000 ro_32_0 rfl)
          refine g_aload_n 20 (gd rfl) rfl rfl ?_
          refine g_aload_n 21 (gd rfl) rfl rfl ?_
          refine g_callv (X := _) (As := [.ref (A 32)]) (r := []) (b := A 56) (q := 56) 24 (gd rfl) rfl rfl rfl rfl rfl (ww_o rfl) (Nat.le_of_ble_eq_true rfl) (Nat.zero_le _) (Nat.zero_le _) (k_145_56_32 (by first | exact dq1 hd rfl | exact dq0 hd rfl | exact dq2 hd rfl | exact dq3 hd rfl | omega) hI21x16 ) (fun e u h => h) (fun v u h => ?_)
          obtain ⟨s21x21, hI21x21, hF21x21, rfl, rfl⟩ := h
          show GG _ _ _ _ _ _ _ _ [] _ _ _
          refine g_iload_n 25 (gd rfl) rfl rfl ?_
          refine g_aload_n 26 (gd rfl) rfl rfl ?_
          refine g_getI 29 (gd rfl) rfl rfl rfl (fun z21x26 e21x26 => ?_)
          have i21x26 := inv_F hI21x21 0 32 rfl e21x26
          refine g_cmp_ge 32 41 (gd rfl) rfl rfl (fun c21x29 => ?_) (fun c21x29 => ?_)
          · skip
            refine g_iconst (-1) 42 (gd rfl) rfl rfl ?_
            refine g_ireturn (gd rfl) rfl rfl (hp21 _ _ ?_)
            show GG _ _ _ _ _ _ _ _ [.int (Int32.ofInt (-1))] _ _ _
            exact g_ireturn (gd rfl) rfl rfl (hP _ _ ⟨s21x21, hI21x21, (fr_tr rfl (fr_sF rfl fr_rf) hF21x21), (Int32.ofInt (-1)), rfl, rfl, in_w (-1) 31 (in_c (-1) rfl) rfl⟩)
          · skip
            have i21x29 := r_lt1 0 31 c21x29 i1 i21x26 rfl
            have i21x29a := r_lt2 1 32 c21x29 i1 i21x26 rfl
            refine g_aload_n 33 (gd rfl) rfl rfl ?_
            refine g_getA (q2 := 57) 36 (gd rfl) rfl rfl rfl rfl ?_
            refine g_iload_n 37 (gd rfl) rfl rfl ?_
            refine g_iaload 38 (gd rfl) rfl (n := 32) rfl (in_ix i21x29 rfl) (fun z21x37 e21x37 => ?_)
            have i21x37 := inv_I hI21x21 (n := 32) (t := 0) 0 31 rfl (in_ix i21x29 rfl) rfl e21x37
            refine g_goto 42 (gd rfl) rfl ?_
            refine g_ireturn (gd rfl) rfl rfl (hp21 _ _ ?_)
            show GG _ _ _ _ _ _ _ _ [.int z21x37] _ _ _
            exact g_ireturn (gd rfl) rfl rfl (hP _ _ ⟨s21x21, hI21x21, (fr_tr rfl (fr_sF rfl fr_rf) hF21x21), z21x37, rfl, rfl, in_w (-1) 31 i21x37 rfl⟩)
      · skip
        have i17x5 := r_eq1 (-1) (-1) c17x5 ro_0_2 (in_c (-1) rfl) rfl
        refine g_aload_n 9 (gd rfl) rfl rfl ?_
        refine g_getA (q2 := 1) 12 (gd rfl) rfl rfl rfl rfl ?_
        refine g_getA (q2 := 2) 15 (gd rfl) rfl rfl rfl rfl ?_
        refine g_goto 22 (gd rfl) rfl ?_
        refine g_areturn (gd rfl) rfl (hp17 _ _ ?_)
        show GG _ _ _ _ _ _ _ _ [.ref (A 2), .ref (A 56)] _ _ _
        refine g_iload_n 21 (gd rfl) rfl rfl ?_
        refine g_callv (X := _) (As := [.ref (A 2), .int x1]) (r := []) (b := A 56) (q := 56) 24 (gd rfl) rfl rfl rfl rfl rfl (ww_o rfl) (Nat.le_of_ble_eq_true rfl) (mc := 0) (ms := 0) (Nat.zero_le _) (Nat.zero_le _) (P := fun v u => _) ?_ (fun e u h => h) (fun v u h => h)
        intro po21 xx21 hp21 hx21
        refine g_enter2 (k := 144) (N := 300) (by first | exact dq1 hd rfl | exact dq0 hd rfl | exact dq2 hd rfl | exact dq3 hd rfl | omega) rfl (Nat.le_of_ble_eq_true rfl) ?_
        refine g_aload_n 1 (gd rfl) rfl rfl ?_
        refine g_getI 4 (gd rfl) rfl rfl rfl (fun z21x1 e21x1 => ?_)
        have i21x1 := inv_F hI (-1) 4000 rfl e21x1
        refine g_aload_n 5 (gd rfl) rfl rfl ?_
        refine g_getI 8 (gd rfl) rfl rfl rfl (fun z21x5 e21x5 => ?_)
        have q21x5 : u_2_0 = z21x5 := (e_2_0).trans e21x5.symm
        subst q21x5
        refine g_cmp_eq 11 24 (gd rfl) rfl rfl (fun c21x8 => ?_) (fun c21x8 => ?_)
        · skip
          have i21x8 := r_eq1 0 4000 c21x8 i21x1 ro_2_0 rfl
          refine g_iload_n 25 (gd rfl) rfl rfl ?_
          refine g_aload_n 26 (gd rfl) rfl rfl ?_
          refine g_getI 29 (gd rfl) rfl rfl rfl (fun z21x26 e21x26 => ?_)
          have i21x26 := inv_F hI 0 32 rfl e21x26
          refine g_cmp_ge 32 41 (gd rfl) rfl rfl (fun c21x29 => ?_) (fun c21x29 => ?_)
          · skip
            refine g_iconst (-1) 42 (gd rfl) rfl rfl ?_
            refine g_ireturn (gd rfl) rfl rfl (hp21 _ _ ?_)
            show GG _ _ _ _ _ _ _ _ [.int (Int32.ofInt (-1))] _ _ _
            exact g_ireturn (gd rfl) rfl rfl (hP _ _ ⟨s, hI, fr_rf, (Int32.ofInt (-1)), rfl, rfl, in_w (-1) 31 (in_c (-1) rfl) rfl⟩)
          · skip
            have i21x29 := r_lt1 0 31 c21x29 i1 i21x26 rfl
            have i21x29a := r_lt2 1 32 c21x29 i1 i21x26 rfl
            refine g_aload_n 33 (gd rfl) rfl rfl ?_
            refine g_getA (q2 := 57) 36 (gd rfl) rfl rfl rfl rfl ?_
            refine g_iload_n 37 (gd rfl) rfl rfl ?_
            refine g_iaload 38 (gd rfl) rfl (n := 32) rfl (in_ix i21x29 rfl) (fun z21x37 e21x37 => ?_)
            have i21x37 := inv_I hI (n := 32) (t := 0) 0 31 rfl (in_ix i21x29 rfl) rfl e21x37
            refine g_goto 42 (gd rfl) rfl ?_
            refine g_ireturn (gd rfl) rfl rfl (hp21 _ _ ?_)
            show GG _ _ _ _ _ _ _ _ [.int z21x37] _ _ _
            exact g_ireturn (gd rfl) rfl rfl (hP _ _ ⟨s, hI, fr_rf, z21x37, rfl, rfl, in_w (-1) 31 i21x37 rfl⟩)
        · skip
          refine g_aload_n 12 (gd rfl) rfl rfl ?_
          refine g_aload_n 13 (gd rfl) rfl rfl ?_
          refine g_getI 16 (gd rfl) rfl rfl rfl (fun z21x13 e21x13 => ?_)
          have q21x13 : u_2_0 = z21x13 := (e_2_0).trans e21x13.symm
          subst q21x13
          refine g_putI 19 (gd rfl) rfl rfl rfl rfl ?_
          have hI21x16 := inv_sF (q := 56) (j := 0) hI rfl (in_w (-1) 4000 ro_2_0 rfl)
          refine g_aload_n 20 (gd rfl) rfl rfl ?_
          refine g_aload_n 21 (gd rfl) rfl rfl ?_
          refine g_callv (X := _) (As := [.ref (A 2)]) (r := []) (b := A 56) (q := 56) 24 (gd rfl) rfl rfl rfl rfl rfl (ww_o rfl) (Nat.le_of_ble_eq_true rfl) (Nat.zero_le _) (Nat.zero_le _) (k_145_56_2 (by first | exact dq1 hd rfl | exact dq0 hd rfl | exact dq2 hd rfl | exact dq3 hd rfl | omega) hI21x16 ) (fun e u h => h) (fun v u h => ?_)
          obtain ⟨s21x21, hI21x21, hF21x21, rfl, rfl⟩ := h
          show GG _ _ _ _ _ _ _ _ [] _ _ _
          refine g_iload_n 25 (gd rfl) rfl rfl ?_
          refine g_aload_n 26 (gd rfl) rfl rfl ?_
          refine g_getI 29 (gd rfl) rfl rfl rfl (fun z21x26 e21x26 => ?_)
          have i21x26 := inv_F hI21x21 0 32 rfl e21x26
          refine g_cmp_ge 32 41 (gd rfl) rfl rfl (fun c21x29 => ?_) (fun c21x29 => ?_)
          · skip
            refine g_iconst (-1) 42 (gd rfl) rfl rfl ?_
            refine g_ireturn (gd rfl) rfl rfl (hp21 _ _ ?_)
            show GG _ _ _ _ _ _ _ _ [.int (Int32.ofInt (-1))] _ _ _
            exact g_ireturn (gd rfl) rfl rfl (hP _ _ ⟨s21x21, hI21x21, (fr_tr rfl (fr_sF rfl fr_rf) hF21x21), (Int32.ofInt (-1)), rfl, rfl, in_w (-1) 31 (in_c (-1) rfl) rfl⟩)
          · skip
            have i21x29 := r_lt1 0 31 c21x29 i1 i21x26 rfl
            have i21x29a := r_lt2 1 32 c21x29 i1 i21x26 rfl
            refine g_aload_n 33 (gd rfl) rfl rfl ?_
            refine g_getA (q2 := 57) 36 (gd rfl) rfl rfl rfl rfl ?_
            refine g_iload_n 37 (gd rfl) rfl rfl ?_
            refine g_iaload 38 (gd rfl) rfl (n := 32) rfl (in_ix i21x29 rfl) (fun z21x37 e21x37 => ?_)
            have i21x37 := inv_I hI21x21 (n := 32) (t := 0) 0 31 rfl (in_ix i21x29 rfl) rfl e21x37
            refine g_goto 42 (gd rfl) rfl ?_
            refine g_ireturn (gd rfl) rfl rfl (hp21 _ _ ?_)
            show GG _ _ _ _ _ _ _ _ [.int z21x37] _ _ _
            exact g_ireturn (gd rfl) rfl rfl (hP _ _ ⟨s21x21, hI21x21, (fr_tr rfl (fr_sF rfl fr_rf) hF21x21), z21x37, rfl, rfl, in_w (-1) 31 i21x37 rfl⟩)
    · skip
      exact zn_eq c9 (in_c 1 rfl) rfl
end
section
/-! methods, by vc.py -/
def fm_238_0 : FM := ([9, 10, 11, 12, 13, 14, 15, 39, 40, 41, 42, 43, 44, 45, 58, 59], [], [(2, 4), (32, 4), (56, 3)], [])
/-- GraphHouse.core -/
theorem k_238_0 {Z : AmZ} {A : Nat → Nat} {s : GS} {ex : va_W} {d : Nat} {x1 : Int32} (hd : 7 ≤ d) (hI : Inv s)  : GC Z d 238 [.ref (A 0), .int x1] (WW Z A s ++ ex) 3 18 (fun v u => ∃ t : GS, Inv t ∧ Fr fm_238_0 s t ∧ ∃ z : Int32, v = some (.int z) ∧ u = WW Z A t ++ ex ∧ In z (-2147483648) 2147483647) (gE1 Z A ex fm_238_0 s) := by
  intro post xp hP hX
  obtain ⟨u_0_2, e_0_2⟩ : ∃ w, w = s.2.2.1 0 2 := ⟨_, rfl⟩
  have ro_0_2 := inv_F hI (-1) 4000 rfl e_0_2
  obtain ⟨u_2_0, e_2_0⟩ : ∃ w, w = s.2.2.1 2 0 := ⟨_, rfl⟩
  have ro_2_0 := inv_F hI 0 4000 rfl e_2_0
  obtain ⟨u_2_1, e_2_1⟩ : ∃ w, w = s.2.2.1 2 1 := ⟨_, rfl⟩
  have ro_2_1 := inv_F hI 0 32 rfl e_2_1
  obtain ⟨u_32_0, e_32_0⟩ : ∃ w, w = s.2.2.1 32 0 := ⟨_, rfl⟩
  have ro_32_0 := inv_F hI 0 4000 rfl e_32_0
  obtain ⟨u_32_1, e_32_1⟩ : ∃ w, w = s.2.2.1 32 1 := ⟨_, rfl⟩
  have ro_32_1 := inv_F hI 0 32 rfl e_32_1
  refine g_enter2 (k := 238) (N := 900) (by first | exact dq1 hd rfl | exact dq0 hd rfl | exact dq2 hd rfl | exact dq3 hd rfl | omega) rfl (Nat.le_of_ble_eq_true rfl) ?_
  refine g_aload_n 1 (gd rfl) rfl rfl ?_
  refine g_callv (X := _) (As := []) (r := []) (b := A 0) (q := 0) 4 (gd rfl) rfl rfl rfl rfl rfl (ww_o rfl) (Nat.le_of_ble_eq_true rfl) (mc := 0) (ms := 0) (Nat.zero_le _) (Nat.zero_le _) (P := fun v u => _) ?_ (fun e u h => h) (fun v u h => h)
  intro po1 xx1 hp1 hx1
  refine g_enter2 (k := 259) (N := 300) (by first | exact dq1 hd rfl | exact dq0 hd rfl | exact dq2 hd rfl | exact dq3 hd rfl | omega) rfl (Nat.le_of_ble_eq_true rfl) ?_
  refine g_aload_n 1 (gd rfl) rfl rfl ?_
  refine g_getI 4 (gd rfl) rfl rfl rfl (fun z1x1 e1x1 => ?_)
  have q1x1 : u_0_2 = z1x1 := (e_0_2).trans e1x1.symm
  subst q1x1
  refine g_iconst (-1) 5 (gd rfl) rfl rfl ?_
  refine g_cmp_ne 8 18 (gd rfl) rfl rfl (fun c1x5 => ?_) (fun c1x5 => ?_)
  · skip
    have i1x5 := r_ne1 0 4000 c1x5 ro_0_2 (in_c (-1) rfl) rfl
    refine g_aload_n 19 (gd rfl) rfl rfl ?_
    refine g_getA (q2 := 32) 22 (gd rfl) rfl rfl rfl rfl ?_
    refine g_areturn (gd rfl) rfl (hp1 _ _ ?_)
    show GG _ _ _ _ _ _ _ _ [.ref (A 32)] _ _ _
    refine g_astore_n 5 (gd rfl) rfl (Nat.le_of_ble_eq_true rfl) ?_
    refine g_aload_n 6 (gd rfl) rfl rfl ?_
    refine g_iload_n 7 (gd rfl) rfl rfl ?_
    refine g_callv (X := _) (As := [.int x1]) (r := []) (b := A 32) (q := 32) 10 (gd rfl) rfl rfl rfl rfl rfl (ww_o rfl) (Nat.le_of_ble_eq_true rfl) (mc := 0) (ms := 0) (Nat.zero_le _) (Nat.zero_le _) (P := fun v u => _) ?_ (fun e u h => h) (fun v u h => h)
    intro po7 xx7 hp7 hx7
    refine g_enter2 (k := 94) (N := 300) (by first | exact dq1 hd rfl | exact dq0 hd rfl | exact dq2 hd rfl | exact dq3 hd rfl | omega) rfl (Nat.le_of_ble_eq_true rfl) ?_
    refine g_iload_n 1 (gd rfl) rfl rfl ?_
    refine g_if_lt 4 16 (gd rfl) rfl rfl (fun c7x1 => ?_) (fun c7x1 => ?_)
    · skip
      have i7x1 := z_lt (-2147483648) (-1) c7x1 (i_rng x1) rfl
      refine g_iconst 0 17 (gd rfl) rfl rfl ?_
      refine g_ireturn (gd rfl) rfl (nb01 (in_w 0 1 (in_c 0 rfl) rfl)) (hp7 _ _ ?_)
      show GG _ _ _ _ _ _ _ _ [.int (Int32.ofInt 0)] _ _ _
      refine g_thr (E := am_IA) (y := yX11_allow) 13 (gd rfl) rfl rfl (Or.inl ⟨rfl, rfl, rfl⟩) (by first | exact dq1 hd rfl | exact dq0 hd rfl | exact dq2 hd rfl | exact dq3 hd rfl | omega) (Nat.le_of_ble_eq_true rfl) (Nat.le_of_ble_eq_true rfl) (Nat.le_of_ble_eq_true rfl) (fun c10 => ?_) (fun c10 => ?_)
      · skip
        exact zn_ne c10 (in_c 0 rfl) rfl
      · skip
        exact (hX _ _ ⟨rfl, s, hI, fr_rf, rfl⟩)
    · skip
      have i7x1 := z_ge 0 2147483647 c7x1 (i_rng x1) rfl
      refine g_iload_n 5 (gd rfl) rfl rfl ?_
      refine g_aload_n 6 (gd rfl) rfl rfl ?_
      refine g_getI 9 (gd rfl) rfl rfl rfl (fun z7x6 e7x6 => ?_)
      have q7x6 : u_32_1 = z7x6 := (e_32_1).trans e7x6.symm
      subst q7x6
      refine g_cmp_ge 12 16 (gd rfl) rfl rfl (fun c7x9 => ?_) (fun c7x9 => ?_)
      · skip
        refine g_iconst 0 17 (gd rfl) rfl rfl ?_
        refine g_ireturn (gd rfl) rfl (nb01 (in_w 0 1 (in_c 0 rfl) rfl)) (hp7 _ _ ?_)
        show GG _ _ _ _ _ _ _ _ [.int (Int32.ofInt 0)] _ _ _
        refine g_thr (E := am_IA) (y := yX11_allow) 13 (gd rfl) rfl rfl (Or.inl ⟨rfl, rfl, rfl⟩) (by first | exact dq1 hd rfl | exact dq0 hd rfl | exact dq2 hd rfl | exact dq3 hd rfl | omega) (Nat.le_of_ble_eq_true rfl) (Nat.le_of_ble_eq_true rfl) (Nat.le_of_ble_eq_true rfl) (fun c10 => ?_) (fun c10 => ?_)
        · skip
          exact zn_ne c10 (in_c 0 rfl) rfl
        · skip
          exact (hX _ _ ⟨rfl, s, hI, fr_rf, rfl⟩)
      · skip
        have i7x9 := r_lt1 0 31 c7x9 i7x1 ro_32_1 rfl
        have i7x9a := r_lt2 1 32 c7x9 i7x1 ro_32_1 rfl
        refine g_iconst 1 13 (gd rfl) rfl rfl ?_
        refine g_goto 17 (gd rfl) rfl ?_
        refine g_ireturn (gd rfl) rfl (nb01 (in_w 0 1 (in_c 1 rfl) rfl)) (hp7 _ _ ?_)
        show GG _ _ _ _ _ _ _ _ [.int (Int32.ofInt 1)] _ _ _
        refine g_thr (E := am_IA) (y := yX11_allow) 13 (gd rfl) rfl rfl (Or.inl ⟨rfl, rfl, rfl⟩) (by first | exact dq1 hd rfl | exact dq0 hd rfl | exact dq2 hd rfl | exact dq3 hd rfl | omega) (Nat.le_of_ble_eq_true rfl) (Nat.le_of_ble_eq_true rfl) (Nat.le_of_ble_eq_true rfl) (fun c10 => ?_) (fun c10 => ?_)
        · skip
          refine g_aload_n 14 (gd rfl) rfl rfl ?_
          refine g_getA (q2 := 56) 17 (gd rfl) rfl rfl rfl rfl ?_
          refine g_aload_n 18 (gd rfl) rfl rfl ?_
          refine g_iload_n 19 (gd rfl) rfl rfl ?_
          refine g_callv (X := _) (As := [.ref (A 32), .int x1]) (r := []) (b := A 56) (q := 56) 22 (gd rfl) rfl rfl rfl rfl rfl (ww_o rfl) (Nat.le_of_ble_eq_true rfl) (mc := 0) (ms := 0) (Nat.zero_le _) (Nat.zero_le _) (P := fun v u => _) ?_ (fun e u h => h) (fun v u h => h)
          intro po19 xx19 hp19 hx19
          refine g_enter2 (k := 147) (N := 300) (by first | exact dq1 hd rfl | exact dq0 hd rfl | exact dq2 hd rfl | exact dq3 hd rfl | omega) rfl (Nat.le_of_ble_eq_true rfl) ?_
          refine g_aload_n 1 (gd rfl) rfl rfl ?_
          refine g_getI 4 (gd rfl) rfl rfl rfl (fun z19x1 e19x1 => ?_)
          have i19x1 := inv_F hI (-1) 4000 rfl e19x1
          refine g_aload_n 5 (gd rfl) rfl rfl ?_
          refine g_getI 8 (gd rfl) rfl rfl rfl (fun z19x5 e19x5 => ?_)
          have q19x5 : u_32_0 = z19x5 := (e_32_0).trans e19x5.symm
          subst q19x5
          refine g_cmp_eq 11 24 (gd rfl) rfl rfl (fun c19x8 => ?_) (fun c19x8 => ?_)
          · skip
            have i19x8 := r_eq1 0 4000 c19x8 i19x1 ro_32_0 rfl
            refine g_aload_n 25 (gd rfl) rfl rfl ?_
            refine g_getA (q2 := 58) 28 (gd rfl) rfl rfl rfl rfl ?_
            refine g_iload_n 29 (gd rfl) rfl rfl ?_
            refine g_iaload 30 (gd rfl) rfl (n := 32) rfl (in_ix i7x9 rfl) (fun z19x29 e19x29 => ?_)
            refine g_ireturn (gd rfl) rfl rfl (hp19 _ _ ?_)
            show GG _ _ _ _ _ _ _ _ [.int z19x29] _ _ _
            exact g_ireturn (gd rfl) rfl rfl (hP _ _ ⟨s, hI, fr_rf, z19x29, rfl, rfl, in_w (-2147483648) 2147483647 (i_rng z19x29) rfl⟩)
          · skip
            refine g_aload_n 12 (gd rfl) rfl rfl ?_
            refine g_aload_n 13 (gd rfl) rfl rfl ?_
            refine g_getI 16 (gd rfl) rfl rfl rfl (fun z19x13 e19x13 => ?_)
            have q19x13 : u_32_0 = z19x13 := (e_32_0).trans e19x13.symm
            subst q19x13
            refine g_putI 19 (gd rfl) rfl rfl rfl rfl ?_
            have hI19x16 := inv_sF (q := 56) (j := 3) hI rfl (in_w (-1) 4000 ro_32_0 rfl)
            refine g_aload_n 20 (gd rfl) rfl rfl ?_
            refine g_aload_n 21 (gd rfl) rfl rfl ?_
            refine g_callv (X := _) (As := [.ref (A 32)]) (r := []) (b := A 56) (q := 56) 24 (gd rfl) rfl rfl rfl rfl rfl (ww_o rfl) (Nat.le_of_ble_eq_true rfl) (Nat.zero_le _) (Nat.zero_le _) (k_148_56_32 (by first | exact dq1 hd rfl | exact dq0 hd rfl | exact dq2 hd rfl | exact dq3 hd rfl | omega) hI19x16 ) (fun e u h => h) (fun v u h => ?_)
            obtain ⟨s19x21, hI19x21, hF19x21, rfl, rfl⟩ := h
            show GG _ _ _ _ _ _ _ _ [] _ _ _
            refine g_aload_n 25 (gd rfl) rfl rfl ?_
            refine g_getA (q2 := 58) 28 (gd rfl) rfl rfl rfl rfl ?_
            refine g_iload_n 29 (gd rfl) rfl rfl ?_
            refine g_iaload 30 (gd rfl) rfl (n := 32) rfl (in_ix i7x9 rfl) (fun z19x29 e19x29 => ?_)
            refine g_ireturn (gd rfl) rfl rfl (hp19 _ _ ?_)
            show GG _ _ _ _ _ _ _ _ [.int z19x29] _ _ _
            exact g_ireturn (gd rfl) rfl rfl (hP _ _ ⟨s19x21, hI19x21, (fr_tr rfl (fr_sF rfl fr_rf) hF19x21), z19x29, rfl, rfl, in_w (-2147483648) 2147483647 (i_rng z19x29) rfl⟩)
        · skip
          exact zn_eq c10 (in_c 1 rfl) rfl
  · skip
    have i1x5 := r_eq1 (-1) (-1) c1x5 ro_0_2 (in_c (-1) rfl) rfl
    refine g_aload_n 9 (gd rfl) rfl rfl ?_
    refine g_getA (q2 := 1) 12 (gd rfl) rfl rfl rfl rfl ?_
    refine g_getA (q2 := 2) 15 (gd rfl) rfl rfl rfl rfl ?_
    refine g_goto 22 (gd rfl) rfl ?_
    refine g_areturn (gd rfl) rfl (hp1 _ _ ?_)
    show GG _ _ _ _ _ _ _ _ [.ref (A 2)] _ _ _
    refine g_astore_n 5 (gd rfl) rfl (Nat.le_of_ble_eq_true rfl) ?_
    refine g_aload_n 6 (gd rfl) rfl rfl ?_
    refine g_iload_n 7 (gd rfl) rfl rfl ?_
    refine g_callv (X := _) (As := [.int x1]) (r := []) (b := A 2) (q := 2) 10 (gd rfl) rfl rfl rfl rfl rfl (ww_o rfl) (Nat.le_of_ble_eq_true rfl) (mc := 0) (ms := 0) (Nat.zero_le _) (Nat.zero_le _) (P := fun v u => _) ?_ (fun e u h => h) (fun v u h => h)
    intro po7 xx7 hp7 hx7
    refine g_enter2 (k := 94) (N := 300) (by first | exact dq1 hd rfl | exact dq0 hd rfl | exact dq2 hd rfl | exact dq3 hd rfl | omega) rfl (Nat.le_of_ble_eq_true rfl) ?_
    refine g_iload_n 1 (gd rfl) rfl rfl ?_
    refine g_if_lt 4 16 (gd rfl) rfl rfl (fun c7x1 => ?_) (fun c7x1 => ?_)
    · skip
      have i7x1 := z_lt (-2147483648) (-1) c7x1 (i_rng x1) rfl
      refine g_iconst 0 17 (gd rfl) rfl rfl ?_
      refine g_ireturn (gd rfl) rfl (nb01 (in_w 0 1 (in_c 0 rfl) rfl)) (hp7 _ _ ?_)
      show GG _ _ _ _ _ _ _ _ [.int (Int32.ofInt 0)] _ _ _
      refine g_thr (E := am_IA) (y := yX11_allow) 13 (gd rfl) rfl rfl (Or.inl ⟨rfl, rfl, rfl⟩) (by first | exact dq1 hd rfl | exact dq0 hd rfl | exact dq2 hd rfl | exact dq3 hd rfl | omega) (Nat.le_of_ble_eq_true rfl) (Nat.le_of_ble_eq_true rfl) (Nat.le_of_ble_eq_true rfl) (fun c10 => ?_) (fun c10 => ?_)
      · skip
        exact zn_ne c10 (in_c 0 rfl) rfl
      · skip
        exact (hX _ _ ⟨rfl, s, hI, fr_rf, rfl⟩)
    · skip
      have i7x1 := z_ge 0 2147483647 c7x1 (i_rng x1) rfl
      refine g_iload_n 5 (gd rfl) rfl rfl ?_
      refine g_aload_n 6 (gd rfl) rfl rfl ?_
      refine g_getI 9 (gd rfl) rfl rfl rfl (fun z7x6 e7x6 => ?_)
      have q7x6 : u_2_1 = z7x6 := (e_2_1).trans e7x6.symm
      subst q7x6
      refine g_cmp_ge 12 16 (gd rfl) rfl rfl (fun c7x9 => ?_) (fun c7x9 => ?_)
      · skip
        refine g_iconst 0 17 (gd rfl) rfl rfl ?_
        refine g_ireturn (gd rfl) rfl (nb01 (in_w 0 1 (in_c 0 rfl) rfl)) (hp7 _ _ ?_)
        show GG _ _ _ _ _ _ _ _ [.int (Int32.ofInt 0)] _ _ _
        refine g_thr (E := am_IA) (y := yX11_allow) 13 (gd rfl) rfl rfl (Or.inl ⟨rfl, rfl, rfl⟩) (by first | exact dq1 hd rfl | exact dq0 hd rfl | exact dq2 hd rfl | exact dq3 hd rfl | omega) (Nat.le_of_ble_eq_true rfl) (Nat.le_of_ble_eq_true rfl) (Nat.le_of_ble_eq_true rfl) (fun c10 => ?_) (fun c10 => ?_)
        · skip
          exact zn_ne c10 (in_c 0 rfl) rfl
        · skip
          exact (hX _ _ ⟨rfl, s, hI, fr_rf, rfl⟩)
      · skip
        have i7x9 := r_lt1 0 31 c7x9 i7x1 ro_2_1 rfl
        have i7x9a := r_lt2 1 32 c7x9 i7x1 ro_2_1 rfl
        refine g_iconst 1 13 (gd rfl) rfl rfl ?_
        refine g_goto 17 (gd rfl) rfl ?_
        refine g_ireturn (gd rfl) rfl (nb01 (in_w 0 1 (in_c 1 rfl) rfl)) (hp7 _ _ ?_)
        show GG _ _ _ _ _ _ _ _ [.int (Int32.ofInt 1)] _ _ _
        refine g_thr (E := am_IA) (y := yX11_allow) 13 (gd rfl) rfl rfl (Or.inl ⟨rfl, rfl, rfl⟩) (by first | exact dq1 hd rfl | exact dq0 hd rfl | exact dq2 hd rfl | exact dq3 hd rfl | omega) (Nat.le_of_ble_eq_true rfl) (Nat.le_of_ble_eq_true rfl) (Nat.le_of_ble_eq_true rfl) (fun c10 => ?_) (fun c10 => ?_)
        · skip
          refine g_aload_n 14 (gd rfl) rfl rfl ?_
          refine g_getA (q2 := 56) 17 (gd rfl) rfl rfl rfl rfl ?_
          refine g_aload_n 18 (gd rfl) rfl rfl ?_
          refine g_iload_n 19 (gd rfl) rfl rfl ?_
          refine g_callv (X := _) (As := [.ref (A 2), .int x1]) (r := []) (b := A 56) (q := 56) 22 (gd rfl) rfl rfl rfl rfl rfl (ww_o rfl) (Nat.le_of_ble_eq_true rfl) (mc := 0) (ms := 0) (Nat.zero_le _) (Nat.zero_le _) (P := fun v u => _) ?_ (fun e u h => h) (fun v u h => h)
          intro po19 xx19 hp19 hx19
          refine g_enter2 (k := 147) (N := 300) (by first | exact dq1 hd rfl | exact dq0 hd rfl | exact dq2 hd rfl | exact dq3 hd rfl | omega) rfl (Nat.le_of_ble_eq_true rfl) ?_
          refine g_aload_n 1 (gd rfl) rfl rfl ?_
          refine g_getI 4 (gd rfl) rfl rfl rfl (fun z19x1 e19x1 => ?_)
          have i19x1 := inv_F hI (-1) 4000 rfl e19x1
          refine g_aload_n 5 (gd rfl) rfl rfl ?_
          refine g_getI 8 (gd rfl) rfl rfl rfl (fun z19x5 e19x5 => ?_)
          have q19x5 : u_2_0 = z19x5 := (e_2_0).trans e19x5.symm
          subst q19x5
          refine g_cmp_eq 11 24 (gd rfl) rfl rfl (fun c19x8 => ?_) (fun c19x8 => ?_)
          · skip
            have i19x8 := r_eq1 0 4000 c19x8 i19x1 ro_2_0 rfl
            refine g_aload_n 25 (gd rfl) rfl rfl ?_
            refine g_getA (q2 := 58) 28 (gd rfl) rfl rfl rfl rfl ?_
            refine g_iload_n 29 (gd rfl) rfl rfl ?_
            refine g_iaload 30 (gd rfl) rfl (n := 32) rfl (in_ix i7x9 rfl) (fun z19x29 e19x29 => ?_)
            refine g_ireturn (gd rfl) rfl rfl (hp19 _ _ ?_)
            show GG _ _ _ _ _ _ _ _ [.int z19x29] _ _ _
            exact g_ireturn (gd rfl) rfl rfl (hP _ _ ⟨s, hI, fr_rf, z19x29, rfl, rfl, in_w (-2147483648) 2147483647 (i_rng z19x29) rfl⟩)
          · skip
            refine g_aload_n 12 (gd rfl) rfl rfl ?_
            refine g_aload_n 13 (gd rfl) rfl rfl ?_
            refine g_getI 16 (gd rfl) rfl rfl rfl (fun z19x13 e19x13 => ?_)
            have q19x13 : u_2_0 = z19x13 := (e_2_0).trans e19x13.symm
            subst q19x13
            refine g_putI 19 (gd rfl) rfl rfl rfl rfl ?_
            have hI19x16 := inv_sF (q := 56) (j := 3) hI rfl (in_w (-1) 4000 ro_2_0 rfl)
            refine g_aload_n 20 (gd rfl) rfl rfl ?_
            refine g_aload_n 21 (gd rfl) rfl rfl ?_
            refine g_callv (X := _) (As := [.ref (A 2)]) (r := []) (b := A 56) (q := 56) 24 (gd rfl) rfl rfl rfl rfl rfl (ww_o rfl) (Nat.le_of_ble_eq_true rfl) (Nat.zero_le _) (Nat.zero_le _) (k_148_56_2 (by first | exact dq1 hd rfl | exact dq0 hd rfl | exact dq2 hd rfl | exact dq3 hd rfl | omega) hI19x16 ) (fun e u h => h) (fun v u h => ?_)
            obtain ⟨s19x21, hI19x21, hF19x21, rfl, rfl⟩ := h
            show GG _ _ _ _ _ _ _ _ [] _ _ _
            refine g_aload_n 25 (gd rfl) rfl rfl ?_
            refine g_getA (q2 := 58) 28 (gd rfl) rfl rfl rfl rfl ?_
            refine g_iload_n 29 (gd rfl) rfl rfl ?_
            refine g_iaload 30 (gd rfl) rfl (n := 32) rfl (in_ix i7x9 rfl) (fun z19x29 e19x29 => ?_)
            refine g_ireturn (gd rfl) rfl rfl (hp19 _ _ ?_)
            show GG _ _ _ _ _ _ _ _ [.int z19x29] _ _ _
            exact g_ireturn (gd rfl) rfl rfl (hP _ _ ⟨s19x21, hI19x21, (fr_tr rfl (fr_sF rfl fr_rf) hF19x21), z19x29, rfl, rfl, in_w (-2147483648) 2147483647 (i_rng z19x29) rfl⟩)
        · skip
          exact zn_eq c10 (in_c 1 rfl) rfl

def fm_241_0 : FM := ([66, 67, 68], [], [(65, 0), (65, 1), (65, 2), (65, 4)], [(65, 3)])
/-- GraphHouse.flow -/
theorem k_241_0 {Z : AmZ} {A : Nat → Nat} {s : GS} {ex : va_W} {d : Nat} {x1 : Int32} {x2 : Int32} (hd : 7 ≤ d) (hI : Inv s)  : GC Z d 241 [.ref (A 0), .int x1, .int x2] (WW Z A s ++ ex) 3 18 (fun v u => ∃ t : GS, Inv t ∧ Fr fm_241_0 s t ∧ ∃ z : Int64, v = some (.long z) ∧ u = WW Z A t ++ ex) (gE1 Z A ex fm_241_0 s) := by
  intro post xp hP hX
  obtain ⟨u_0_2, e_0_2⟩ : ∃ w, w = s.2.2.1 0 2 := ⟨_, rfl⟩
  have ro_0_2 := inv_F hI (-1) 4000 rfl e_0_2
  obtain ⟨u_2_1, e_2_1⟩ : ∃ w, w = s.2.2.1 2 1 := ⟨_, rfl⟩
  have ro_2_1 := inv_F hI 0 32 rfl e_2_1
  obtain ⟨u_32_1, e_32_1⟩ : ∃ w, w = s.2.2.1 32 1 := ⟨_, rfl⟩
  have ro_32_1 := inv_F hI 0 32 rfl e_32_1
  refine g_enter2 (k := 241) (N := 900) (by first | exact dq1 hd rfl | exact dq0 hd rfl | exact dq2 hd rfl | exact dq3 hd rfl | omega) rfl (Nat.le_of_ble_eq_true rfl) ?_
  refine g_aload_n 1 (gd rfl) rfl rfl ?_
  refine g_callv (X := _) (As := []) (r := []) (b := A 0) (q := 0) 4 (gd rfl) rfl rfl rfl rfl rfl (ww_o rfl) (Nat.le_of_ble_eq_true rfl) (mc := 0) (ms := 0) (Nat.zero_le _) (Nat.zero_le _) (P := fun v u => _) ?_ (fun e u h => h) (fun v u h => h)
  intro po1 xx1 hp1 hx1
  refine g_enter2 (k := 259) (N := 300) (by first | exact dq1 hd rfl | exact dq0 hd rfl | exact dq2 hd rfl | exact dq3 hd rfl | omega) rfl (Nat.le_of_ble_eq_true rfl) ?_
  refine g_aload_n 1 (gd rfl) rfl rfl ?_
  refine g_getI 4 (gd rfl) rfl rfl rfl (fun z1x1 e1x1 => ?_)
  have q1x1 : u_0_2 = z1x1 := (e_0_2).trans e1x1.symm
  subst q1x1
  refine g_iconst (-1) 5 (gd rfl) rfl rfl ?_
  refine g_cmp_ne 8 18 (gd rfl) rfl rfl (fun c1x5 => ?_) (fun c1x5 => ?_)
  · skip
    have i1x5 := r_ne1 0 4000 c1x5 ro_0_2 (in_c (-1) rfl) rfl
    refine g_aload_n 19 (gd rfl) rfl rfl ?_
    refine g_getA (q2 := 32) 22 (gd rfl) rfl rfl rfl rfl ?_
    refine g_areturn (gd rfl) rfl (hp1 _ _ ?_)
    show GG _ _ _ _ _ _ _ _ [.ref (A 32)] _ _ _
    refine g_astore_n 5 (gd rfl) rfl (Nat.le_of_ble_eq_true rfl) ?_
    refine g_aload_n 6 (gd rfl) rfl rfl ?_
    refine g_iload_n 7 (gd rfl) rfl rfl ?_
    refine g_iload_n 8 (gd rfl) rfl rfl ?_
    refine g_callv (X := _) (As := [.int x1, .int x2]) (r := []) (b := A 32) (q := 32) 11 (gd rfl) rfl rfl rfl rfl rfl (ww_o rfl) (Nat.le_of_ble_eq_true rfl) (mc := 0) (ms := 0) (Nat.zero_le _) (Nat.zero_le _) (P := fun v u => _) ?_ (fun e u h => h) (fun v u h => h)
    intro po8 xx8 hp8 hx8
    refine g_enter2 (k := 95) (N := 300) (by first | exact dq1 hd rfl | exact dq0 hd rfl | exact dq2 hd rfl | exact dq3 hd rfl | omega) rfl (Nat.le_of_ble_eq_true rfl) ?_
    refine g_aload_n 1 (gd rfl) rfl rfl ?_
    refine g_iload_n 2 (gd rfl) rfl rfl ?_
    refine g_callv (X := _) (As := [.int x1]) (r := []) (b := A 32) (q := 32) 5 (gd rfl) rfl rfl rfl rfl rfl (ww_o rfl) (Nat.le_of_ble_eq_true rfl) (mc := 0) (ms := 0) (Nat.zero_le _) (Nat.zero_le _) (P := fun v u => _) ?_ (fun e u h => h) (fun v u h => h)
    intro po8x2 xx8x2 hp8x2 hx8x2
    refine g_enter2 (k := 94) (N := 300) (by first | exact dq1 hd rfl | exact dq0 hd rfl | exact dq2 hd rfl | exact dq3 hd rfl | omega) rfl (Nat.le_of_ble_eq_true rfl) ?_
    refine g_iload_n 1 (gd rfl) rfl rfl ?_
    refine g_if_lt 4 16 (gd rfl) rfl rfl (fun c8x2x1 => ?_) (fun c8x2x1 => ?_)
    · skip
      have i8x2x1 := z_lt (-2147483648) (-1) c8x2x1 (i_rng x1) rfl
      refine g_iconst 0 17 (gd rfl) rfl rfl ?_
      refine g_ireturn (gd rfl) rfl (nb01 (in_w 0 1 (in_c 0 rfl) rfl)) (hp8x2 _ _ ?_)
      show GG _ _ _ _ _ _ _ _ [.int (Int32.ofInt 0)] _ _ _
      refine g_if_eq 8 25 (gd rfl) rfl rfl (fun c8x5 => ?_) (fun c8x5 => ?_)
      · skip
        refine g_iconst 0 26 (gd rfl) rfl rfl ?_
        refine g_ireturn (gd rfl) rfl (nb01 (in_w 0 1 (in_c 0 rfl) rfl)) (hp8 _ _ ?_)
        show GG _ _ _ _ _ _ _ _ [.int (Int32.ofInt 0)] _ _ _
        refine g_thr (E := am_IA) (y := yX11_allow) 14 (gd rfl) rfl rfl (Or.inl ⟨rfl, rfl, rfl⟩) (by first | exact dq1 hd rfl | exact dq0 hd rfl | exact dq2 hd rfl | exact dq3 hd rfl | omega) (Nat.le_of_ble_eq_true rfl) (Nat.le_of_ble_eq_true rfl) (Nat.le_of_ble_eq_true rfl) (fun c11 => ?_) (fun c11 => ?_)
        · skip
          exact zn_ne c11 (in_c 0 rfl) rfl
        · skip
          exact (hX _ _ ⟨rfl, s, hI, fr_rf, rfl⟩)
      · skip
        exact zn_ne c8x5 (in_c 0 rfl) rfl
    · skip
      have i8x2x1 := z_ge 0 2147483647 c8x2x1 (i_rng x1) rfl
      refine g_iload_n 5 (gd rfl) rfl rfl ?_
      refine g_aload_n 6 (gd rfl) rfl rfl ?_
      refine g_getI 9 (gd rfl) rfl rfl rfl (fun z8x2x6 e8x2x6 => ?_)
      have q8x2x6 : u_32_1 = z8x2x6 := (e_32_1).trans e8x2x6.symm
      subst q8x2x6
      refine g_cmp_ge 12 16 (gd rfl) rfl rfl (fun c8x2x9 => ?_) (fun c8x2x9 => ?_)
      · skip
        refine g_iconst 0 17 (gd rfl) rfl rfl ?_
        refine g_ireturn (gd rfl) rfl (nb01 (in_w 0 1 (in_c 0 rfl) rfl)) (hp8x2 _ _ ?_)
        show GG _ _ _ _ _ _ _ _ [.int (Int32.ofInt 0)] _ _ _
        refine g_if_eq 8 25 (gd rfl) rfl rfl (fun c8x5 => ?_) (fun c8x5 => ?_)
        · skip
          refine g_iconst 0 26 (gd rfl) rfl rfl ?_
          refine g_ireturn (gd rfl) rfl (nb01 (in_w 0 1 (in_c 0 rfl) rfl)) (hp8 _ _ ?_)
          show GG _ _ _ _ _ _ _ _ [.int (Int32.ofInt 0)] _ _ _
          refine g_thr (E := am_IA) (y := yX11_allow) 14 (gd rfl) rfl rfl (Or.inl ⟨rfl, rfl, rfl⟩) (by first | exact dq1 hd rfl | exact dq0 hd rfl | exact dq2 hd rfl | exact dq3 hd rfl | omega) (Nat.le_of_ble_eq_true rfl) (Nat.le_of_ble_eq_true rfl) (Nat.le_of_ble_eq_true rfl) (fun c11 => ?_) (fun c11 => ?_)
          · skip
            exact zn_ne c11 (in_c 0 rfl) rfl
          · skip
            exact (hX _ _ ⟨rfl, s, hI, fr_rf, rfl⟩)
        · skip
          exact zn_ne c8x5 (in_c 0 rfl) rfl
      · skip
        have i8x2x9 := r_lt1 0 31 c8x2x9 i8x2x1 ro_32_1 rfl
        have i8x2x9a := r_lt2 1 32 c8x2x9 i8x2x1 ro_32_1 rfl
        refine g_iconst 1 13 (gd rfl) rfl rfl ?_
        refine g_goto 17 (gd rfl) rfl ?_
        refine g_ireturn (gd rfl) rfl (nb01 (in_w 0 1 (in_c 1 rfl) rfl)) (hp8x2 _ _ ?_)
        show GG _ _ _ _ _ _ _ _ [.int (Int32.ofInt 1)] _ _ _
        refine g_if_eq 8 25 (gd rfl) rfl rfl (fun c8x5 => ?_) (fun c8x5 => ?_)
        · skip
          exact zn_eq c8x5 (in_c 1 rfl) rfl
        · skip
          refine g_aload_n 9 (gd rfl) rfl rfl ?_
          refine g_iload_n 10 (gd rfl) rfl rfl ?_
          refine g_callv (X := _) (As := [.int x2]) (r := []) (b := A 32) (q := 32) 13 (gd rfl) rfl rfl rfl rfl rfl (ww_o rfl) (Nat.le_of_ble_eq_true rfl) (mc := 0) (ms := 0) (Nat.zero_le _) (Nat.zero_le _) (P := fun v u => _) ?_ (fun e u h => h) (fun v u h => h)
          intro po8x10 xx8x10 hp8x10 hx8x10
          refine g_enter2 (k := 94) (N := 300) (by first | exact dq1 hd rfl | exact dq0 hd rfl | exact dq2 hd rfl | exact dq3 hd rfl | omega) rfl (Nat.le_of_ble_eq_true rfl) ?_
          refine g_iload_n 1 (gd rfl) rfl rfl ?_
          refine g_if_lt 4 16 (gd rfl) rfl rfl (fun c8x10x1 => ?_) (fun c8x10x1 => ?_)
          · skip
            have i8x10x1 := z_lt (-2147483648) (-1) c8x10x1 (i_rng x2) rfl
            refine g_iconst 0 17 (gd rfl) rfl rfl ?_
            refine g_ireturn (gd rfl) rfl (nb01 (in_w 0 1 (in_c 0 rfl) rfl)) (hp8x10 _ _ ?_)
            show GG _ _ _ _ _ _ _ _ [.int (Int32.ofInt 0)] _ _ _
            refine g_if_eq 16 25 (gd rfl) rfl rfl (fun c8x13 => ?_) (fun c8x13 => ?_)
            · skip
              refine g_iconst 0 26 (gd rfl) rfl rfl ?_
              refine g_ireturn (gd rfl) rfl (nb01 (in_w 0 1 (in_c 0 rfl) rfl)) (hp8 _ _ ?_)
              show GG _ _ _ _ _ _ _ _ [.int (Int32.ofInt 0)] _ _ _
              refine g_thr (E := am_IA) (y := yX11_allow) 14 (gd rfl) rfl rfl (Or.inl ⟨rfl, rfl, rfl⟩) (by first | exact dq1 hd rfl | exact dq0 hd rfl | exact dq2 hd rfl | exact dq3 hd rfl | omega) (Nat.le_of_ble_eq_true rfl) (Nat.le_of_ble_eq_true rfl) (Nat.le_of_ble_eq_true rfl) (fun c11 => ?_) (fun c11 => ?_)
              · skip
                exact zn_ne c11 (in_c 0 rfl) rfl
              · skip
                exact (hX _ _ ⟨rfl, s, hI, fr_rf, rfl⟩)
            · skip
              exact zn_ne c8x13 (in_c 0 rfl) rfl
          · skip
            have i8x10x1 := z_ge 0 2147483647 c8x10x1 (i_rng x2) rfl
            refine g_iload_n 5 (gd rfl) rfl rfl ?_
            refine g_aload_n 6 (gd rfl) rfl rfl ?_
            refine g_getI 9 (gd rfl) rfl rfl rfl (fun z8x10x6 e8x10x6 => ?_)
            have q8x10x6 : u_32_1 = z8x10x6 := (e_32_1).trans e8x10x6.symm
            subst q8x10x6
            refine g_cmp_ge 12 16 (gd rfl) rfl rfl (fun c8x10x9 => ?_) (fun c8x10x9 => ?_)
            · skip
              have i8x10x9 := r_le2 1 2147483647 c8x10x9 i8x2x9a i8x10x1 rfl
              refine g_iconst 0 17 (gd rfl) rfl rfl ?_
              refine g_ireturn (gd rfl) rfl (nb01 (in_w 0 1 (in_c 0 rfl) rfl)) (hp8x10 _ _ ?_)
              show GG _ _ _ _ _ _ _ _ [.int (Int32.ofInt 0)] _ _ _
              refine g_if_eq 16 25 (gd rfl) rfl rfl (fun c8x13 => ?_) (fun c8x13 => ?_)
              · skip
                refine g_iconst 0 26 (gd rfl) rfl rfl ?_
                refine g_ireturn (gd rfl) rfl (nb01 (in_w 0 1 (in_c 0 rfl) rfl)) (hp8 _ _ ?_)
                show GG _ _ _ _ _ _ _ _ [.int (Int32.ofInt 0)] _ _ _
                refine g_thr (E := am_IA) (y := yX11_allow) 14 (gd rfl) rfl rfl (Or.inl ⟨rfl, rfl, rfl⟩) (by first | exact dq1 hd rfl | exact dq0 hd rfl | exact dq2 hd rfl | exact dq3 hd rfl | omega) (Nat.le_of_ble_eq_true rfl) (Nat.le_of_ble_eq_true rfl) (Nat.le_of_ble_eq_true rfl) (fun c11 => ?_) (fun c11 => ?_)
                · skip
                  exact zn_ne c11 (in_c 0 rfl) rfl
                · skip
                  exact (hX _ _ ⟨rfl, s, hI, fr_rf, rfl⟩)
              · skip
                exact zn_ne c8x13 (in_c 0 rfl) rfl
            · skip
              have i8x10x9 := r_lt1 0 31 c8x10x9 i8x10x1 i8x2x9a rfl
              refine g_iconst 1 13 (gd rfl) rfl rfl ?_
              refine g_goto 17 (gd rfl) rfl ?_
              refine g_ireturn (gd rfl) rfl (nb01 (in_w 0 1 (in_c 1 rfl) rfl)) (hp8x10 _ _ ?_)
              show GG _ _ _ _ _ _ _ _ [.int (Int32.ofInt 1)] _ _ _
              refine g_if_eq 16 25 (gd rfl) rfl rfl (fun c8x13 => ?_) (fun c8x13 => ?_)
              · skip
                exact zn_eq c8x13 (in_c 1 rfl) rfl
              · skip
                refine g_iload_n 17 (gd rfl) rfl rfl ?_
                refine g_iload_n 18 (gd rfl) rfl rfl ?_
                refine g_cmp_eq 21 25 (gd rfl) rfl rfl (fun c8x18 => ?_) (fun c8x18 => ?_)
                · skip
                  refine g_iconst 0 26 (gd rfl) rfl rfl ?_
                  refine g_ireturn (gd rfl) rfl (nb01 (in_w 0 1 (in_c 0 rfl) rfl)) (hp8 _ _ ?_)
                  show GG _ _ _ _ _ _ _ _ [.int (Int32.ofInt 0)] _ _ _
                  refine g_thr (E := am_IA) (y := yX11_allow) 14 (gd rfl) rfl rfl (Or.inl ⟨rfl, rfl, rfl⟩) (by first | exact dq1 hd rfl | exact dq0 hd rfl | exact dq2 hd rfl | exact dq3 hd rfl | omega) (Nat.le_of_ble_eq_true rfl) (Nat.le_of_ble_eq_true rfl) (Nat.le_of_ble_eq_true rfl) (fun c11 => ?_) (fun c11 => ?_)
                  · skip
                    exact zn_ne c11 (in_c 0 rfl) rfl
                  · skip
                    exact (hX _ _ ⟨rfl, s, hI, fr_rf, rfl⟩)
                · skip
                  refine g_iconst 1 22 (gd rfl) rfl rfl ?_
                  refine g_goto 26 (gd rfl) rfl ?_
                  refine g_ireturn (gd rfl) rfl (nb01 (in_w 0 1 (in_c 1 rfl) rfl)) (hp8 _ _ ?_)
                  show GG _ _ _ _ _ _ _ _ [.int (Int32.ofInt 1)] _ _ _
                  refine g_thr (E := am_IA) (y := yX11_allow) 14 (gd rfl) rfl rfl (Or.inl ⟨rfl, rfl, rfl⟩) (by first | exact dq1 hd rfl | exact dq0 hd rfl | exact dq2 hd rfl | exact dq3 hd rfl | omega) (Nat.le_of_ble_eq_true rfl) (Nat.le_of_ble_eq_true rfl) (Nat.le_of_ble_eq_true rfl) (fun c11 => ?_) (fun c11 => ?_)
                  · skip
                    refine g_aload_n 15 (gd rfl) rfl rfl ?_
                    refine g_getA (q2 := 65) 18 (gd rfl) rfl rfl rfl rfl ?_
                    refine g_aload_n 19 (gd rfl) rfl rfl ?_
                    refine g_iload_n 20 (gd rfl) rfl rfl ?_
                    refine g_iload_n 21 (gd rfl) rfl rfl ?_
                    refine g_callv (X := _) (As := [.ref (A 32), .int x1, .int x2]) (r := []) (b := A 65) (q := 65) 24 (gd rfl) rfl rfl rfl rfl rfl (ww_o rfl) (Nat.le_of_ble_eq_true rfl) (Nat.zero_le _) (Nat.zero_le _) (k_75_65_32 (by first | exact dq1 hd rfl | exact dq0 hd rfl | exact dq2 hd rfl | exact dq3 hd rfl | omega) hI (in_w 0 31 i8x2x9 rfl) (in_w 0 31 i8x10x9 rfl)) (fun e u h => h) (fun v u h => ?_)
                    obtain ⟨s21, hI21, hF21, z21, rfl, rfl⟩ := h
                    show GG _ _ _ _ _ _ _ _ [.long z21] _ _ _
                    exact g_lreturn (gd rfl) rfl (hP _ _ ⟨s21, hI21, (fr_tr rfl fr_rf hF21), z21, rfl, rfl⟩)
                  · skip
                    exact zn_eq c11 (in_c 1 rfl) rfl
  · skip
    have i1x5 := r_eq1 (-1) (-1) c1x5 ro_0_2 (in_c (-1) rfl) rfl
    refine g_aload_n 9 (gd rfl) rfl rfl ?_
    refine g_getA (q2 := 1) 12 (gd rfl) rfl rfl rfl rfl ?_
    refine g_getA (q2 := 2) 15 (gd rfl) rfl rfl rfl rfl ?_
    refine g_goto 22 (gd rfl) rfl ?_
    refine g_areturn (gd rfl) rfl (hp1 _ _ ?_)
    show GG _ _ _ _ _ _ _ _ [.ref (A 2)] _ _ _
    refine g_astore_n 5 (gd rfl) rfl (Nat.le_of_ble_eq_true rfl) ?_
    refine g_aload_n 6 (gd rfl) rfl rfl ?_
    refine g_iload_n 7 (gd rfl) rfl rfl ?_
    refine g_iload_n 8 (gd rfl) rfl rfl ?_
    refine g_callv (X := _) (As := [.int x1, .int x2]) (r := []) (b := A 2) (q := 2) 11 (gd rfl) rfl rfl rfl rfl rfl (ww_o rfl) (Nat.le_of_ble_eq_true rfl) (mc := 0) (ms := 0) (Nat.zero_le _) (Nat.zero_le _) (P := fun v u => _) ?_ (fun e u h => h) (fun v u h => h)
    intro po8 xx8 hp8 hx8
    refine g_enter2 (k := 95) (N := 300) (by first | exact dq1 hd rfl | exact dq0 hd rfl | exact dq2 hd rfl | exact dq3 hd rfl | omega) rfl (Nat.le_of_ble_eq_true rfl) ?_
    refine g_aload_n 1 (gd rfl) rfl rfl ?_
    refine g_iload_n 2 (gd rfl) rfl rfl ?_
    refine g_callv (X := _) (As := [.int x1]) (r := []) (b := A 2) (q := 2) 5 (gd rfl) rfl rfl rfl rfl rfl (ww_o rfl) (Nat.le_of_ble_eq_true rfl) (mc := 0) (ms := 0) (Nat.zero_le _) (Nat.zero_le _) (P := fun v u => _) ?_ (fun e u h => h) (fun v u h => h)
    intro po8x2 xx8x2 hp8x2 hx8x2
    refine g_enter2 (k := 94) (N := 300) (by first | exact dq1 hd rfl | exact dq0 hd rfl | exact dq2 hd rfl | exact dq3 hd rfl | omega) rfl (Nat.le_of_ble_eq_true rfl) ?_
    refine g_iload_n 1 (gd rfl) rfl rfl ?_
    refine g_if_lt 4 16 (gd rfl) rfl rfl (fun c8x2x1 => ?_) (fun c8x2x1 => ?_)
    · skip
      have i8x2x1 := z_lt (-2147483648) (-1) c8x2x1 (i_rng x1) rfl
      refine g_iconst 0 17 (gd rfl) rfl rfl ?_
      refine g_ireturn (gd rfl) rfl (nb01 (in_w 0 1 (in_c 0 rfl) rfl)) (hp8x2 _ _ ?_)
      show GG _ _ _ _ _ _ _ _ [.int (Int32.ofInt 0)] _ _ _
      refine g_if_eq 8 25 (gd rfl) rfl rfl (fun c8x5 => ?_) (fun c8x5 => ?_)
      · skip
        refine g_iconst 0 26 (gd rfl) rfl rfl ?_
        refine g_ireturn (gd rfl) rfl (nb01 (in_w 0 1 (in_c 0 rfl) rfl)) (hp8 _ _ ?_)
        show GG _ _ _ _ _ _ _ _ [.int (Int32.ofInt 0)] _ _ _
        refine g_thr (E := am_IA) (y := yX11_allow) 14 (gd rfl) rfl rfl (Or.inl ⟨rfl, rfl, rfl⟩) (by first | exact dq1 hd rfl | exact dq0 hd rfl | exact dq2 hd rfl | exact dq3 hd rfl | omega) (Nat.le_of_ble_eq_true rfl) (Nat.le_of_ble_eq_true rfl) (Nat.le_of_ble_eq_true rfl) (fun c11 => ?_) (fun c11 => ?_)
        · skip
          exact zn_ne c11 (in_c 0 rfl) rfl
        · skip
          exact (hX _ _ ⟨rfl, s, hI, fr_rf, rfl⟩)
      · skip
        exact zn_ne c8x5 (in_c 0 rfl) rfl
    · skip
      have i8x2x1 := z_ge 0 2147483647 c8x2x1 (i_rng x1) rfl
      refine g_iload_n 5 (gd rfl) rfl rfl ?_
      refine g_aload_n 6 (gd rfl) rfl rfl ?_
      refine g_getI 9 (gd rfl) rfl rfl rfl (fun z8x2x6 e8x2x6 => ?_)
      have q8x2x6 : u_2_1 = z8x2x6 := (e_2_1).trans e8x2x6.symm
      subst q8x2x6
      refine g_cmp_ge 12 16 (gd rfl) rfl rfl (fun c8x2x9 => ?_) (fun c8x2x9 => ?_)
      · skip
        refine g_iconst 0 17 (gd rfl) rfl rfl ?_
        refine g_ireturn (gd rfl) rfl (nb01 (in_w 0 1 (in_c 0 rfl) rfl)) (hp8x2 _ _ ?_)
        show GG _ _ _ _ _ _ _ _ [.int (Int32.ofInt 0)] _ _ _
        refine g_if_eq 8 25 (gd rfl) rfl rfl (fun c8x5 => ?_) (fun c8x5 => ?_)
        · skip
          refine g_iconst 0 26 (gd rfl) rfl rfl ?_
          refine g_ireturn (gd rfl) rfl (nb01 (in_w 0 1 (in_c 0 rfl) rfl)) (hp8 _ _ ?_)
          show GG _ _ _ _ _ _ _ _ [.int (Int32.ofInt 0)] _ _ _
          refine g_thr (E := am_IA) (y := yX11_allow) 14 (gd rfl) rfl rfl (Or.inl ⟨rfl, rfl, rfl⟩) (by first | exact dq1 hd rfl | exact dq0 hd rfl | exact dq2 hd rfl | exact dq3 hd rfl | omega) (Nat.le_of_ble_eq_true rfl) (Nat.le_of_ble_eq_true rfl) (Nat.le_of_ble_eq_true rfl) (fun c11 => ?_) (fun c11 => ?_)
          · skip
            exact zn_ne c11 (in_c 0 rfl) rfl
          · skip
            exact (hX _ _ ⟨rfl, s, hI, fr_rf, rfl⟩)
        · skip
          exact zn_ne c8x5 (in_c 0 rfl) rfl
      · skip
        have i8x2x9 := r_lt1 0 31 c8x2x9 i8x2x1 ro_2_1 rfl
        have i8x2x9a := r_lt2 1 32 c8x2x9 i8x2x1 ro_2_1 rfl
        refine g_iconst 1 13 (gd rfl) rfl rfl ?_
        refine g_goto 17 (gd rfl) rfl ?_
        refine g_ireturn (gd rfl) rfl (nb01 (in_w 0 1 (in_c 1 rfl) rfl)) (hp8x2 _ _ ?_)
        show GG _ _ _ _ _ _ _ _ [.int (Int32.ofInt 1)] _ _ _
        refine g_if_eq 8 25 (gd rfl) rfl rfl (fun c8x5 => ?_) (fun c8x5 => ?_)
        · skip
          exact zn_eq c8x5 (in_c 1 rfl) rfl
        · skip
          refine g_aload_n 9 (gd rfl) rfl rfl ?_
          refine g_iload_n 10 (gd rfl) rfl rfl ?_
          refine g_callv (X := _) (As := [.int x2]) (r := []) (b := A 2) (q := 2) 13 (gd rfl) rfl rfl rfl rfl rfl (ww_o rfl) (Nat.le_of_ble_eq_true rfl) (mc := 0) (ms := 0) (Nat.zero_le _) (Nat.zero_le _) (P := fun v u => _) ?_ (fun e u h => h) (fun v u h => h)
          intro po8x10 xx8x10 hp8x10 hx8x10
          refine g_enter2 (k := 94) (N := 300) (by first | exact dq1 hd rfl | exact dq0 hd rfl | exact dq2 hd rfl | exact dq3 hd rfl | omega) rfl (Nat.le_of_ble_eq_true rfl) ?_
          refine g_iload_n 1 (gd rfl) rfl rfl ?_
          refine g_if_lt 4 16 (gd rfl) rfl rfl (fun c8x10x1 => ?_) (fun c8x10x1 => ?_)
          · skip
            have i8x10x1 := z_lt (-2147483648) (-1) c8x10x1 (i_rng x2) rfl
            refine g_iconst 0 17 (gd rfl) rfl rfl ?_
            refine g_ireturn (gd rfl) rfl (nb01 (in_w 0 1 (in_c 0 rfl) rfl)) (hp8x10 _ _ ?_)
            show GG _ _ _ _ _ _ _ _ [.int (Int32.ofInt 0)] _ _ _
            refine g_if_eq 16 25 (gd rfl) rfl rfl (fun c8x13 => ?_) (fun c8x13 => ?_)
            · skip
              refine g_iconst 0 26 (gd rfl) rfl rfl ?_
              refine g_ireturn (gd rfl) rfl (nb01 (in_w 0 1 (in_c 0 rfl) rfl)) (hp8 _ _ ?_)
              show GG _ _ _ _ _ _ _ _ [.int (Int32.ofInt 0)] _ _ _
              refine g_thr (E := am_IA) (y := yX11_allow) 14 (gd rfl) rfl rfl (Or.inl ⟨rfl, rfl, rfl⟩) (by first | exact dq1 hd rfl | exact dq0 hd rfl | exact dq2 hd rfl | exact dq3 hd rfl | omega) (Nat.le_of_ble_eq_true rfl) (Nat.le_of_ble_eq_true rfl) (Nat.le_of_ble_eq_true rfl) (fun c11 => ?_) (fun c11 => ?_)
              · skip
                exact zn_ne c11 (in_c 0 rfl) rfl
              · skip
                exact (hX _ _ ⟨rfl, s, hI, fr_rf, rfl⟩)
            · skip
              exact zn_ne c8x13 (in_c 0 rfl) rfl
          · skip
            have i8x10x1 := z_ge 0 2147483647 c8x10x1 (i_rng x2) rfl
            refine g_iload_n 5 (gd rfl) rfl rfl ?_
            refine g_aload_n 6 (gd rfl) rfl rfl ?_
            refine g_getI 9 (gd rfl) rfl rfl rfl (fun z8x10x6 e8x10x6 => ?_)
            have q8x10x6 : u_2_1 = z8x10x6 := (e_2_1).trans e8x10x6.symm
            subst q8x10x6
            refine g_cmp_ge 12 16 (gd rfl) rfl rfl (fun c8x10x9 => ?_) (fun c8x10x9 => ?_)
            · skip
              have i8x10x9 := r_le2 1 2147483647 c8x10x9 i8x2x9a i8x10x1 rfl
              refine g_iconst 0 17 (gd rfl) rfl rfl ?_
              refine g_ireturn (gd rfl) rfl (nb01 (in_w 0 1 (in_c 0 rfl) rfl)) (hp8x10 _ _ ?_)
              show GG _ _ _ _ _ _ _ _ [.int (Int32.ofInt 0)] _ _ _
              refine g_if_eq 16 25 (gd rfl) rfl rfl (fun c8x13 => ?_) (fun c8x13 => ?_)
              · skip
                refine g_iconst 0 26 (gd rfl) rfl rfl ?_
                refine g_ireturn (gd rfl) rfl (nb01 (in_w 0 1 (in_c 0 rfl) rfl)) (hp8 _ _ ?_)
                show GG _ _ _ _ _ _ _ _ [.int (Int32.ofInt 0)] _ _ _
                refine g_thr (E := am_IA) (y := yX11_allow) 14 (gd rfl) rfl rfl (Or.inl ⟨rfl, rfl, rfl⟩) (by first | exact dq1 hd rfl | exact dq0 hd rfl | exact dq2 hd rfl | exact dq3 hd rfl | omega) (Nat.le_of_ble_eq_true rfl) (Nat.le_of_ble_eq_true rfl) (Nat.le_of_ble_eq_true rfl) (fun c11 => ?_) (fun c11 => ?_)
                · skip
                  exact zn_ne c11 (in_c 0 rfl) rfl
                · skip
                  exact (hX _ _ ⟨rfl, s, hI, fr_rf, rfl⟩)
              · skip
                exact zn_ne c8x13 (in_c 0 rfl) rfl
            · skip
              have i8x10x9 := r_lt1 0 31 c8x10x9 i8x10x1 i8x2x9a rfl
              refine g_iconst 1 13 (gd rfl) rfl rfl ?_
              refine g_goto 17 (gd rfl) rfl ?_
              refine g_ireturn (gd rfl) rfl (nb01 (in_w 0 1 (in_c 1 rfl) rfl)) (hp8x10 _ _ ?_)
              show GG _ _ _ _ _ _ _ _ [.int (Int32.ofInt 1)] _ _ _
              refine g_if_eq 16 25 (gd rfl) rfl rfl (fun c8x13 => ?_) (fun c8x13 => ?_)
              · skip
                exact zn_eq c8x13 (in_c 1 rfl) rfl
              · skip
                refine g_iload_n 17 (gd rfl) rfl rfl ?_
                refine g_iload_n 18 (gd rfl) rfl rfl ?_
                refine g_cmp_eq 21 25 (gd rfl) rfl rfl (fun c8x18 => ?_) (fun c8x18 => ?_)
                · skip
                  refine g_iconst 0 26 (gd rfl) rfl rfl ?_
                  refine g_ireturn (gd rfl) rfl (nb01 (in_w 0 1 (in_c 0 rfl) rfl)) (hp8 _ _ ?_)
                  show GG _ _ _ _ _ _ _ _ [.int (Int32.ofInt 0)] _ _ _
                  refine g_thr (E := am_IA) (y := yX11_allow) 14 (gd rfl) rfl rfl (Or.inl ⟨rfl, rfl, rfl⟩) (by first | exact dq1 hd rfl | exact dq0 hd rfl | exact dq2 hd rfl | exact dq3 hd rfl | omega) (Nat.le_of_ble_eq_true rfl) (Nat.le_of_ble_eq_true rfl) (Nat.le_of_ble_eq_true rfl) (fun c11 => ?_) (fun c11 => ?_)
                  · skip
                    exact zn_ne c11 (in_c 0 rfl) rfl
                  · skip
                    exact (hX _ _ ⟨rfl, s, hI, fr_rf, rfl⟩)
                · skip
                  refine g_iconst 1 22 (gd rfl) rfl rfl ?_
                  refine g_goto 26 (gd rfl) rfl ?_
                  refine g_ireturn (gd rfl) rfl (nb01 (in_w 0 1 (in_c 1 rfl) rfl)) (hp8 _ _ ?_)
                  show GG _ _ _ _ _ _ _ _ [.int (Int32.ofInt 1)] _ _ _
                  refine g_thr (E := am_IA) (y := yX11_allow) 14 (gd rfl) rfl rfl (Or.inl ⟨rfl, rfl, rfl⟩) (by first | exact dq1 hd rfl | exact dq0 hd rfl | exact dq2 hd rfl | exact dq3 hd rfl | omega) (Nat.le_of_ble_eq_true rfl) (Nat.le_of_ble_eq_true rfl) (Nat.le_of_ble_eq_true rfl) (fun c11 => ?_) (fun c11 => ?_)
                  · skip
                    refine g_aload_n 15 (gd rfl) rfl rfl ?_
                    refine g_getA (q2 := 65) 18 (gd rfl) rfl rfl rfl rfl ?_
                    refine g_aload_n 19 (gd rfl) rfl rfl ?_
                    refine g_iload_n 20 (gd rfl) rfl rfl ?_
                    refine g_iload_n 21 (gd rfl) rfl rfl ?_
                    refine g_callv (X := _) (As := [.ref (A 2), .int x1, .int x2]) (r := []) (b := A 65) (q := 65) 24 (gd rfl) rfl rfl rfl rfl rfl (ww_o rfl) (Nat.le_of_ble_eq_true rfl) (Nat.zero_le _) (Nat.zero_le _) (k_75_65_2 (by first | exact dq1 hd rfl | exact dq0 hd rfl | exact dq2 hd rfl | exact dq3 hd rfl | omega) hI (in_w 0 31 i8x2x9 rfl) (in_w 0 31 i8x10x9 rfl)) (fun e u h => h) (fun v u h => ?_)
                    obtain ⟨s21, hI21, hF21, z21, rfl, rfl⟩ := h
                    show GG _ _ _ _ _ _ _ _ [.long z21] _ _ _
                    exact g_lreturn (gd rfl) rfl (hP _ _ ⟨s21, hI21, (fr_tr rfl fr_rf hF21), z21, rfl, rfl⟩)
                  · skip
                    exact zn_eq c11 (in_c 1 rfl) rfl

def fm_242_0 : FM := ([66, 67, 68], [], [(65, 0), (65, 1), (65, 2), (65, 4)], [(65, 3)])
/-- GraphHouse.side -/
theorem k_242_0 {Z : AmZ} {A : Nat → Nat} {s : GS} {ex : va_W} {d : Nat} {x1 : Int32} {x2 : Int32} {x3 : Int32} (hd : 7 ≤ d) (hI : Inv s)  : GC Z d 242 [.ref (A 0), .int x1, .int x2, .int x3] (WW Z A s ++ ex) 3 18 (fun v u => ∃ t : GS, Inv t ∧ Fr fm_242_0 s t ∧ ∃ z : Int32, v = some (.int z) ∧ u = WW Z A t ++ ex ∧ In z 0 1) (gE1 Z A ex fm_242_0 s) := by
  intro post xp hP hX
  obtain ⟨u_0_2, e_0_2⟩ : ∃ w, w = s.2.2.1 0 2 := ⟨_, rfl⟩
  have ro_0_2 := inv_F hI (-1) 4000 rfl e_0_2
  obtain ⟨u_2_1, e_2_1⟩ : ∃ w, w = s.2.2.1 2 1 := ⟨_, rfl⟩
  have ro_2_1 := inv_F hI 0 32 rfl e_2_1
  obtain ⟨u_32_1, e_32_1⟩ : ∃ w, w = s.2.2.1 32 1 := ⟨_, rfl⟩
  have ro_32_1 := inv_F hI 0 32 rfl e_32_1
  have ct29 : ∀ (sc29 : GS) , Inv sc29 → Fr fm_242_0 s sc29 → GG Z (d - 1) 242 post (gx xp) (901) 29 (fun j => xlook j [(0, .ref (A 0)), (1, .int x1), (2, .int x2), (3, .int x3)]) [] (WW Z A sc29 ++ ex) 3 18 := by
    intro sc29  hIc29 hFc29 
    refine g_iconst 0 30 (gd rfl) rfl rfl ?_
    refine g_thr (E := am_IA) (y := yX11_allow) 33 (gd rfl) rfl rfl (Or.inl ⟨rfl, rfl, rfl⟩) (by first | exact dq1 hd rfl | exact dq0 hd rfl | exact dq2 hd rfl | exact dq3 hd rfl | omega) (Nat.le_of_ble_eq_true rfl) (Nat.le_of_ble_eq_true rfl) (Nat.le_of_ble_eq_true rfl) (fun c30 => ?_) (fun c30 => ?_)
    · skip
      exact zn_ne c30 (in_c 0 rfl) rfl
    · skip
      exact (hX _ _ ⟨rfl, sc29, hIc29, hFc29, rfl⟩)
  refine g_enter2 (k := 242) (N := 1801) (by first | exact dq1 hd rfl | exact dq0 hd rfl | exact dq2 hd rfl | exact dq3 hd rfl | omega) rfl (Nat.le_of_ble_eq_true rfl) ?_
  refine g_aload_n 1 (gd rfl) rfl rfl ?_
  refine g_callv (X := _) (As := []) (r := []) (b := A 0) (q := 0) 4 (gd rfl) rfl rfl rfl rfl rfl (ww_o rfl) (Nat.le_of_ble_eq_true rfl) (mc := 0) (ms := 0) (Nat.zero_le _) (Nat.zero_le _) (P := fun v u => _) ?_ (fun e u h => h) (fun v u h => h)
  intro po1 xx1 hp1 hx1
  refine g_enter2 (k := 259) (N := 300) (by first | exact dq1 hd rfl | exact dq0 hd rfl | exact dq2 hd rfl | exact dq3 hd rfl | omega) rfl (Nat.le_of_ble_eq_true rfl) ?_
  refine g_aload_n 1 (gd rfl) rfl rfl ?_
  refine g_getI 4 (gd rfl) rfl rfl rfl (fun z1x1 e1x1 => ?_)
  have q1x1 : u_0_2 = z1x1 := (e_0_2).trans e1x1.symm
  subst q1x1
  refine g_iconst (-1) 5 (gd rfl) rfl rfl ?_
  refine g_cmp_ne 8 18 (gd rfl) rfl rfl (fun c1x5 => ?_) (fun c1x5 => ?_)
  · skip
    have i1x5 := r_ne1 0 4000 c1x5 ro_0_2 (in_c (-1) rfl) rfl
    refine g_aload_n 19 (gd rfl) rfl rfl ?_
    refine g_getA (q2 := 32) 22 (gd rfl) rfl rfl rfl rfl ?_
    refine g_areturn (gd rfl) rfl (hp1 _ _ ?_)
    show GG _ _ _ _ _ _ _ _ [.ref (A 32)] _ _ _
    refine g_astore 6 (gd rfl) rfl (Nat.le_of_ble_eq_true rfl) ?_
    refine g_aload 8 (gd rfl) rfl rfl ?_
    refine g_iload_n 9 (gd rfl) rfl rfl ?_
    refine g_iload_n 10 (gd rfl) rfl rfl ?_
    refine g_callv (X := _) (As := [.int x1, .int x2]) (r := []) (b := A 32) (q := 32) 13 (gd rfl) rfl rfl rfl rfl rfl (ww_o rfl) (Nat.le_of_ble_eq_true rfl) (mc := 0) (ms := 0) (Nat.zero_le _) (Nat.zero_le _) (P := fun v u => _) ?_ (fun e u h => h) (fun v u h => h)
    intro po10 xx10 hp10 hx10
    refine g_enter2 (k := 95) (N := 300) (by first | exact dq1 hd rfl | exact dq0 hd rfl | exact dq2 hd rfl | exact dq3 hd rfl | omega) rfl (Nat.le_of_ble_eq_true rfl) ?_
    refine g_aload_n 1 (gd rfl) rfl rfl ?_
    refine g_iload_n 2 (gd rfl) rfl rfl ?_
    refine g_callv (X := _) (As := [.int x1]) (r := []) (b := A 32) (q := 32) 5 (gd rfl) rfl rfl rfl rfl rfl (ww_o rfl) (Nat.le_of_ble_eq_true rfl) (mc := 0) (ms := 0) (Nat.zero_le _) (Nat.zero_le _) (P := fun v u => _) ?_ (fun e u h => h) (fun v u h => h)
    intro po10x2 xx10x2 hp10x2 hx10x2
    refine g_enter2 (k := 94) (N := 300) (by first | exact dq1 hd rfl | exact dq0 hd rfl | exact dq2 hd rfl | exact dq3 hd rfl | omega) rfl (Nat.le_of_ble_eq_true rfl) ?_
    refine g_iload_n 1 (gd rfl) rfl rfl ?_
    refine g_if_lt 4 16 (gd rfl) rfl rfl (fun c10x2x1 => ?_) (fun c10x2x1 => ?_)
    · skip
      have i10x2x1 := z_lt (-2147483648) (-1) c10x2x1 (i_rng x1) rfl
      refine g_iconst 0 17 (gd rfl) rfl rfl ?_
      refine g_ireturn (gd rfl) rfl (nb01 (in_w 0 1 (in_c 0 rfl) rfl)) (hp10x2 _ _ ?_)
      show GG _ _ _ _ _ _ _ _ [.int (Int32.ofInt 0)] _ _ _
      refine g_if_eq 8 25 (gd rfl) rfl rfl (fun c10x5 => ?_) (fun c10x5 => ?_)
      · skip
        refine g_iconst 0 26 (gd rfl) rfl rfl ?_
        refine g_ireturn (gd rfl) rfl (nb01 (in_w 0 1 (in_c 0 rfl) rfl)) (hp10 _ _ ?_)
        show GG _ _ _ _ _ _ _ _ [.int (Int32.ofInt 0)] _ _ _
        refine g_if_eq 16 29 (gd rfl) rfl rfl (fun c13 => ?_) (fun c13 => ?_)
        · skip
          exact gg_w (by first | exact Nat.le_of_ble_eq_true rfl | omega) (gg_f (gf_cons rfl (gf_cons rfl (gf_cons rfl (gf_cons rfl gf_nil)))) (ct29 s  hI fr_rf ))
        · skip
          exact zn_ne c13 (in_c 0 rfl) rfl
      · skip
        exact zn_ne c10x5 (in_c 0 rfl) rfl
    · skip
      have i10x2x1 := z_ge 0 2147483647 c10x2x1 (i_rng x1) rfl
      refine g_iload_n 5 (gd rfl) rfl rfl ?_
      refine g_aload_n 6 (gd rfl) rfl rfl ?_
      refine g_getI 9 (gd rfl) rfl rfl rfl (fun z10x2x6 e10x2x6 => ?_)
      have q10x2x6 : u_32_1 = z10x2x6 := (e_32_1).trans e10x2x6.symm
      subst q10x2x6
      refine g_cmp_ge 12 16 (gd rfl) rfl rfl (fun c10x2x9 => ?_) (fun c10x2x9 => ?_)
      · skip
        refine g_iconst 0 17 (gd rfl) rfl rfl ?_
        refine g_ireturn (gd rfl) rfl (nb01 (in_w 0 1 (in_c 0 rfl) rfl)) (hp10x2 _ _ ?_)
        show GG _ _ _ _ _ _ _ _ [.int (Int32.ofInt 0)] _ _ _
        refine g_if_eq 8 25 (gd rfl) rfl rfl (fun c10x5 => ?_) (fun c10x5 => ?_)
        · skip
          refine g_iconst 0 26 (gd rfl) rfl rfl ?_
          refine g_ireturn (gd rfl) rfl (nb01 (in_w 0 1 (in_c 0 rfl) rfl)) (hp10 _ _ ?_)
          show GG _ _ _ _ _ _ _ _ [.int (Int32.ofInt 0)] _ _ _
          refine g_if_eq 16 29 (gd rfl) rfl rfl (fun c13 => ?_) (fun c13 => ?_)
          · skip
            exact gg_w (by first | exact Nat.le_of_ble_eq_true rfl | omega) (gg_f (gf_cons rfl (gf_cons rfl (gf_cons rfl (gf_cons rfl gf_nil)))) (ct29 s  hI fr_rf ))
          · skip
            exact zn_ne c13 (in_c 0 rfl) rfl
        · skip
          exact zn_ne c10x5 (in_c 0 rfl) rfl
      · skip
        have i10x2x9 := r_lt1 0 31 c10x2x9 i10x2x1 ro_32_1 rfl
        have i10x2x9a := r_lt2 1 32 c10x2x9 i10x2x1 ro_32_1 rfl
        refine g_iconst 1 13 (gd rfl) rfl rfl ?_
        refine g_goto 17 (gd rfl) rfl ?_
        refine g_ireturn (gd rfl) rfl (nb01 (in_w 0 1 (in_c 1 rfl) rfl)) (hp10x2 _ _ ?_)
        show GG _ _ _ _ _ _ _ _ [.int (Int32.ofInt 1)] _ _ _
        refine g_if_eq 8 25 (gd rfl) rfl rfl (fun c10x5 => ?_) (fun c10x5 => ?_)
        · skip
          exact zn_eq c10x5 (in_c 1 rfl) rfl
        · skip
          refine g_aload_n 9 (gd rfl) rfl rfl ?_
          refine g_iload_n 10 (gd rfl) rfl rfl ?_
          refine g_callv (X := _) (As := [.int x2]) (r := []) (b := A 32) (q := 32) 13 (gd rfl) rfl rfl rfl rfl rfl (ww_o rfl) (Nat.le_of_ble_eq_true rfl) (mc := 0) (ms := 0) (Nat.zero_le _) (Nat.zero_le _) (P := fun v u => _) ?_ (fun e u h => h) (fun v u h => h)
          intro po10x10 xx10x10 hp10x10 hx10x10
          refine g_enter2 (k := 94) (N := 300) (by first | exact dq1 hd rfl | exact dq0 hd rfl | exact dq2 hd rfl | exact dq3 hd rfl | omega) rfl (Nat.le_of_ble_eq_true rfl) ?_
          refine g_iload_n 1 (gd rfl) rfl rfl ?_
          refine g_if_lt 4 16 (gd rfl) rfl rfl (fun c10x10x1 => ?_) (fun c10x10x1 => ?_)
          · skip
            have i10x10x1 := z_lt (-2147483648) (-1) c10x10x1 (i_rng x2) rfl
            refine g_iconst 0 17 (gd rfl) rfl rfl ?_
            refine g_ireturn (gd rfl) rfl (nb01 (in_w 0 1 (in_c 0 rfl) rfl)) (hp10x10 _ _ ?_)
            show GG _ _ _ _ _ _ _ _ [.int (Int32.ofInt 0)] _ _ _
            refine g_if_eq 16 25 (gd rfl) rfl rfl (fun c10x13 => ?_) (fun c10x13 => ?_)
            · skip
              refine g_iconst 0 26 (gd rfl) rfl rfl ?_
              refine g_ireturn (gd rfl) rfl (nb01 (in_w 0 1 (in_c 0 rfl) rfl)) (hp10 _ _ ?_)
              show GG _ _ _ _ _ _ _ _ [.int (Int32.ofInt 0)] _ _ _
              refine g_if_eq 16 29 (gd rfl) rfl rfl (fun c13 => ?_) (fun c13 => ?_)
              · skip
                exact gg_w (by first | exact Nat.le_of_ble_eq_true rfl | omega) (gg_f (gf_cons rfl (gf_cons rfl (gf_cons rfl (gf_cons rfl gf_nil)))) (ct29 s  hI fr_rf ))
              · skip
                exact zn_ne c13 (in_c 0 rfl) rfl
            · skip
              exact zn_ne c10x13 (in_c 0 rfl) rfl
          · skip
            have i10x10x1 := z_ge 0 2147483647 c10x10x1 (i_rng x2) rfl
            refine g_iload_n 5 (gd rfl) rfl rfl ?_
            refine g_aload_n 6 (gd rfl) rfl rfl ?_
            refine g_getI 9 (gd rfl) rfl rfl rfl (fun z10x10x6 e10x10x6 => ?_)
            have q10x10x6 : u_32_1 = z10x10x6 := (e_32_1).trans e10x10x6.symm
            subst q10x10x6
            refine g_cmp_ge 12 16 (gd rfl) rfl rfl (fun c10x10x9 => ?_) (fun c10x10x9 => ?_)
            · skip
              have i10x10x9 := r_le2 1 2147483647 c10x10x9 i10x2x9a i10x10x1 rfl
              refine g_iconst 0 17 (gd rfl) rfl rfl ?_
              refine g_ireturn (gd rfl) rfl (nb01 (in_w 0 1 (in_c 0 rfl) rfl)) (hp10x10 _ _ ?_)
              show GG _ _ _ _ _ _ _ _ [.int (Int32.ofInt 0)] _ _ _
              refine g_if_eq 16 25 (gd rfl) rfl rfl (fun c10x13 => ?_) (fun c10x13 => ?_)
              · skip
                refine g_iconst 0 26 (gd rfl) rfl rfl ?_
                refine g_ireturn (gd rfl) rfl (nb01 (in_w 0 1 (in_c 0 rfl) rfl)) (hp10 _ _ ?_)
                show GG _ _ _ _ _ _ _ _ [.int (Int32.ofInt 0)] _ _ _
                refine g_if_eq 16 29 (gd rfl) rfl rfl (fun c13 => ?_) (fun c13 => ?_)
                · skip
                  exact gg_w (by first | exact Nat.le_of_ble_eq_true rfl | omega) (gg_f (gf_cons rfl (gf_cons rfl (gf_cons rfl (gf_cons rfl gf_nil)))) (ct29 s  hI fr_rf ))
                · skip
                  exact zn_ne c13 (in_c 0 rfl) rfl
              · skip
                exact zn_ne c10x13 (in_c 0 rfl) rfl
            · skip
              have i10x10x9 := r_lt1 0 31 c10x10x9 i10x10x1 i10x2x9a rfl
              refine g_iconst 1 13 (gd rfl) rfl rfl ?_
              refine g_goto 17 (gd rfl) rfl ?_
              refine g_ireturn (gd rfl) rfl (nb01 (in_w 0 1 (in_c 1 rfl) rfl)) (hp10x10 _ _ ?_)
              show GG _ _ _ _ _ _ _ _ [.int (Int32.ofInt 1)] _ _ _
              refine g_if_eq 16 25 (gd rfl) rfl rfl (fun c10x13 => ?_) (fun c10x13 => ?_)
              · skip
                exact zn_eq c10x13 (in_c 1 rfl) rfl
              · skip
                refine g_iload_n 17 (gd rfl) rfl rfl ?_
                refine g_iload_n 18 (gd rfl) rfl rfl ?_
                refine g_cmp_eq 21 25 (gd rfl) rfl rfl (fun c10x18 => ?_) (fun c10x18 => ?_)
                · skip
                  refine g_iconst 0 26 (gd rfl) rfl rfl ?_
                  refine g_ireturn (gd rfl) rfl (nb01 (in_w 0 1 (in_c 0 rfl) rfl)) (hp10 _ _ ?_)
                  show GG _ _ _ _ _ _ _ _ [.int (Int32.ofInt 0)] _ _ _
                  refine g_if_eq 16 29 (gd rfl) rfl rfl (fun c13 => ?_) (fun c13 => ?_)
                  · skip
                    exact gg_w (by first | exact Nat.le_of_ble_eq_true rfl | omega) (gg_f (gf_cons rfl (gf_cons rfl (gf_cons rfl (gf_cons rfl gf_nil)))) (ct29 s  hI fr_rf ))
                  · skip
                    exact zn_ne c13 (in_c 0 rfl) rfl
                · skip
                  refine g_iconst 1 22 (gd rfl) rfl rfl ?_
                  refine g_goto 26 (gd rfl) rfl ?_
                  refine g_ireturn (gd rfl) rfl (nb01 (in_w 0 1 (in_c 1 rfl) rfl)) (hp10 _ _ ?_)
                  show GG _ _ _ _ _ _ _ _ [.int (Int32.ofInt 1)] _ _ _
                  refine g_if_eq 16 29 (gd rfl) rfl rfl (fun c13 => ?_) (fun c13 => ?_)
                  · skip
                    exact zn_eq c13 (in_c 1 rfl) rfl
                  · skip
                    refine g_aload 18 (gd rfl) rfl rfl ?_
                    refine g_iload_n 19 (gd rfl) rfl rfl ?_
                    refine g_callv (X := _) (As := [.int x3]) (r := []) (b := A 32) (q := 32) 22 (gd rfl) rfl rfl rfl rfl rfl (ww_o rfl) (Nat.le_of_ble_eq_true rfl) (mc := 0) (ms := 0) (Nat.zero_le _) (Nat.zero_le _) (P := fun v u => _) ?_ (fun e u h => h) (fun v u h => h)
                    intro po19 xx19 hp19 hx19
                    refine g_enter2 (k := 94) (N := 300) (by first | exact dq1 hd rfl | exact dq0 hd rfl | exact dq2 hd rfl | exact dq3 hd rfl | omega) rfl (Nat.le_of_ble_eq_true rfl) ?_
                    refine g_iload_n 1 (gd rfl) rfl rfl ?_
                    refine g_if_lt 4 16 (gd rfl) rfl rfl (fun c19x1 => ?_) (fun c19x1 => ?_)
                    · skip
                      have i19x1 := z_lt (-2147483648) (-1) c19x1 (i_rng x3) rfl
                      refine g_iconst 0 17 (gd rfl) rfl rfl ?_
                      refine g_ireturn (gd rfl) rfl (nb01 (in_w 0 1 (in_c 0 rfl) rfl)) (hp19 _ _ ?_)
                      show GG _ _ _ _ _ _ _ _ [.int (Int32.ofInt 0)] _ _ _
                      refine g_if_eq 25 29 (gd rfl) rfl rfl (fun c22 => ?_) (fun c22 => ?_)
                      · skip
                        exact gg_w (by first | exact Nat.le_of_ble_eq_true rfl | omega) (gg_f (gf_cons rfl (gf_cons rfl (gf_cons rfl (gf_cons rfl gf_nil)))) (ct29 s  hI fr_rf ))
                      · skip
                        exact zn_ne c22 (in_c 0 rfl) rfl
                    · skip
                      have i19x1 := z_ge 0 2147483647 c19x1 (i_rng x3) rfl
                      refine g_iload_n 5 (gd rfl) rfl rfl ?_
                      refine g_aload_n 6 (gd rfl) rfl rfl ?_
                      refine g_getI 9 (gd rfl) rfl rfl rfl (fun z19x6 e19x6 => ?_)
                      have q19x6 : u_32_1 = z19x6 := (e_32_1).trans e19x6.symm
                      subst q19x6
                      refine g_cmp_ge 12 16 (gd rfl) rfl rfl (fun c19x9 => ?_) (fun c19x9 => ?_)
                      · skip
                        have i19x9 := r_le2 1 2147483647 c19x9 i10x2x9a i19x1 rfl
                        refine g_iconst 0 17 (gd rfl) rfl rfl ?_
                        refine g_ireturn (gd rfl) rfl (nb01 (in_w 0 1 (in_c 0 rfl) rfl)) (hp19 _ _ ?_)
                        show GG _ _ _ _ _ _ _ _ [.int (Int32.ofInt 0)] _ _ _
                        refine g_if_eq 25 29 (gd rfl) rfl rfl (fun c22 => ?_) (fun c22 => ?_)
                        · skip
                          exact gg_w (by first | exact Nat.le_of_ble_eq_true rfl | omega) (gg_f (gf_cons rfl (gf_cons rfl (gf_cons rfl (gf_cons rfl gf_nil)))) (ct29 s  hI fr_rf ))
                        · skip
                          exact zn_ne c22 (in_c 0 rfl) rfl
                      · skip
                        have i19x9 := r_lt1 0 31 c19x9 i19x1 i10x2x9a rfl
                        refine g_iconst 1 13 (gd rfl) rfl rfl ?_
                        refine g_goto 17 (gd rfl) rfl ?_
                        refine g_ireturn (gd rfl) rfl (nb01 (in_w 0 1 (in_c 1 rfl) rfl)) (hp19 _ _ ?_)
                        show GG _ _ _ _ _ _ _ _ [.int (Int32.ofInt 1)] _ _ _
                        refine g_if_eq 25 29 (gd rfl) rfl rfl (fun c22 => ?_) (fun c22 => ?_)
                        · skip
                          exact zn_eq c22 (in_c 1 rfl) rfl
                        · skip
                          refine g_iconst 1 26 (gd rfl) rfl rfl ?_
                          refine g_goto 30 (gd rfl) rfl ?_
                          refine g_thr (E := am_IA) (y := yX11_allow) 33 (gd rfl) rfl rfl (Or.inl ⟨rfl, rfl, rfl⟩) (by first | exact dq1 hd rfl | exact dq0 hd rfl | exact dq2 hd rfl | exact dq3 hd rfl | omega) (Nat.le_of_ble_eq_true rfl) (Nat.le_of_ble_eq_true rfl) (Nat.le_of_ble_eq_true rfl) (fun c30 => ?_) (fun c30 => ?_)
                          · skip
                            refine g_aload_n 34 (gd rfl) rfl rfl ?_
                            refine g_getA (q2 := 65) 37 (gd rfl) rfl rfl rfl rfl ?_
                            refine g_aload 39 (gd rfl) rfl rfl ?_
                            refine g_iload_n 40 (gd rfl) rfl rfl ?_
                            refine g_iload_n 41 (gd rfl) rfl rfl ?_
                            refine g_callv (X := _) (As := [.ref (A 32), .int x1, .int x2]) (r := []) (b := A 65) (q := 65) 44 (gd rfl) rfl rfl rfl rfl rfl (ww_o rfl) (Nat.le_of_ble_eq_true rfl) (Nat.zero_le _) (Nat.zero_le _) (k_75_65_32 (by first | exact dq1 hd rfl | exact dq0 hd rfl | exact dq2 hd rfl | exact dq3 hd rfl | omega) hI (in_w 0 31 i10x2x9 rfl) (in_w 0 31 i10x10x9 rfl)) (fun e u h => h) (fun v u h => ?_)
                            obtain ⟨s41, hI41, hF41, z41, rfl, rfl⟩ := h
                            show GG _ _ _ _ _ _ _ _ [.long z41] _ _ _
                            refine g_pop2 45 (gd rfl) rfl rfl ?_
                            refine g_aload_n 46 (gd rfl) rfl rfl ?_
                            refine g_getA (q2 := 65) 49 (gd rfl) rfl rfl rfl rfl ?_
                            refine g_getI 52 (gd rfl) rfl rfl rfl (fun z49 e49 => ?_)
                            refine g_iload_n 53 (gd rfl) rfl rfl ?_
                            refine g_ishr 54 (gd rfl) rfl (fun z53 e53 => ?_)
                            refine g_iconst 1 55 (gd rfl) rfl rfl ?_
                            refine g_iand 56 (gd rfl) rfl (fun z55 e55 => ?_)
                            have i55 := in_and2 e55 (in_c 1 rfl) rfl
                            refine g_if_eq 59 63 (gd rfl) rfl rfl (fun c56 => ?_) (fun c56 => ?_)
                            · skip
                              have i56 := z_eq 0 0 c56 i55 rfl
                              refine g_iconst 0 64 (gd rfl) rfl rfl ?_
                              exact g_ireturn (gd rfl) rfl (nb01 (in_w 0 1 (in_c 0 rfl) rfl)) (hP _ _ ⟨s41, hI41, (fr_tr rfl fr_rf hF41), (Int32.ofInt 0), rfl, rfl, in_w 0 1 (in_c 0 rfl) rfl⟩)
                            · skip
                              have i56 := z_ne 1 1 c56 i55 rfl
                              refine g_iconst 1 60 (gd rfl) rfl rfl ?_
                              refine g_goto 64 (gd rfl) rfl ?_
                              exact g_ireturn (gd rfl) rfl (nb01 (in_w 0 1 (in_c 1 rfl) rfl)) (hP _ _ ⟨s41, hI41, (fr_tr rfl fr_rf hF41), (Int32.ofInt 1), rfl, rfl, in_w 0 1 (in_c 1 rfl) rfl⟩)
                          · skip
                            exact zn_eq c30 (in_c 1 rfl) rfl
  · skip
    have i1x5 := r_eq1 (-1) (-1) c1x5 ro_0_2 (in_c (-1) rfl) rfl
    refine g_aload_n 9 (gd rfl) rfl rfl ?_
    refine g_getA (q2 := 1) 12 (gd rfl) rfl rfl rfl rfl ?_
    refine g_getA (q2 := 2) 15 (gd rfl) rfl rfl rfl rfl ?_
    refine g_goto 22 (gd rfl) rfl ?_
    refine g_areturn (gd rfl) rfl (hp1 _ _ ?_)
    show GG _ _ _ _ _ _ _ _ [.ref (A 2)] _ _ _
    refine g_astore 6 (gd rfl) rfl (Nat.le_of_ble_eq_true rfl) ?_
    refine g_aload 8 (gd rfl) rfl rfl ?_
    refine g_iload_n 9 (gd rfl) rfl rfl ?_
    refine g_iload_n 10 (gd rfl) rfl rfl ?_
    refine g_callv (X := _) (As := [.int x1, .int x2]) (r := []) (b := A 2) (q := 2) 13 (gd rfl) rfl rfl rfl rfl rfl (ww_o rfl) (Nat.le_of_ble_eq_true rfl) (mc := 0) (ms := 0) (Nat.zero_le _) (Nat.zero_le _) (P := fun v u => _) ?_ (fun e u h => h) (fun v u h => h)
    intro po10 xx10 hp10 hx10
    refine g_enter2 (k := 95) (N := 300) (by first | exact dq1 hd rfl | exact dq0 hd rfl | exact dq2 hd rfl | exact dq3 hd rfl | omega) rfl (Nat.le_of_ble_eq_true rfl) ?_
    refine g_aload_n 1 (gd rfl) rfl rfl ?_
    refine g_iload_n 2 (gd rfl) rfl rfl ?_
    refine g_callv (X := _) (As := [.int x1]) (r := []) (b := A 2) (q := 2) 5 (gd rfl) rfl rfl rfl rfl rfl (ww_o rfl) (Nat.le_of_ble_eq_true rfl) (mc := 0) (ms := 0) (Nat.zero_le _) (Nat.zero_le _) (P := fun v u => _) ?_ (fun e u h => h) (fun v u h => h)
    intro po10x2 xx10x2 hp10x2 hx10x2
    refine g_enter2 (k := 94) (N := 300) (by first | exact dq1 hd rfl | exact dq0 hd rfl | exact dq2 hd rfl | exact dq3 hd rfl | omega) rfl (Nat.le_of_ble_eq_true rfl) ?_
    refine g_iload_n 1 (gd rfl) rfl rfl ?_
    refine g_if_lt 4 16 (gd rfl) rfl rfl (fun c10x2x1 => ?_) (fun c10x2x1 => ?_)
    · skip
      have i10x2x1 := z_lt (-2147483648) (-1) c10x2x1 (i_rng x1) rfl
      refine g_iconst 0 17 (gd rfl) rfl rfl ?_
      refine g_ireturn (gd rfl) rfl (nb01 (in_w 0 1 (in_c 0 rfl) rfl)) (hp10x2 _ _ ?_)
      show GG _ _ _ _ _ _ _ _ [.int (Int32.ofInt 0)] _ _ _
      refine g_if_eq 8 25 (gd rfl) rfl rfl (fun c10x5 => ?_) (fun c10x5 => ?_)
      · skip
        refine g_iconst 0 26 (gd rfl) rfl rfl ?_
        refine g_ireturn (gd rfl) rfl (nb01 (in_w 0 1 (in_c 0 rfl) rfl)) (hp10 _ _ ?_)
        show GG _ _ _ _ _ _ _ _ [.int (Int32.ofInt 0)] _ _ _
        refine g_if_eq 16 29 (gd rfl) rfl rfl (fun c13 => ?_) (fun c13 => ?_)
        · skip
          exact gg_w (by first | exact Nat.le_of_ble_eq_true rfl | omega) (gg_f (gf_cons rfl (gf_cons rfl (gf_cons rfl (gf_cons rfl gf_nil)))) (ct29 s  hI fr_rf ))
        · skip
          exact zn_ne c13 (in_c 0 rfl) rfl
      · skip
        exact zn_ne c10x5 (in_c 0 rfl) rfl
    · skip
      have i10x2x1 := z_ge 0 2147483647 c10x2x1 (i_rng x1) rfl
      refine g_iload_n 5 (gd rfl) rfl rfl ?_
      refine g_aload_n 6 (gd rfl) rfl rfl ?_
      refine g_getI 9 (gd rfl) rfl rfl rfl (fun z10x2x6 e10x2x6 => ?_)
      have q10x2x6 : u_2_1 = z10x2x6 := (e_2_1).trans e10x2x6.symm
      subst q10x2x6
      refine g_cmp_ge 12 16 (gd rfl) rfl rfl (fun c10x2x9 => ?_) (fun c10x2x9 => ?_)
      · skip
        refine g_iconst 0 17 (gd rfl) rfl rfl ?_
        refine g_ireturn (gd rfl) rfl (nb01 (in_w 0 1 (in_c 0 rfl) rfl)) (hp10x2 _ _ ?_)
        show GG _ _ _ _ _ _ _ _ [.int (Int32.ofInt 0)] _ _ _
        refine g_if_eq 8 25 (gd rfl) rfl rfl (fun c10x5 => ?_) (fun c10x5 => ?_)
        · skip
          refine g_iconst 0 26 (gd rfl) rfl rfl ?_
          refine g_ireturn (gd rfl) rfl (nb01 (in_w 0 1 (in_c 0 rfl) rfl)) (hp10 _ _ ?_)
          show GG _ _ _ _ _ _ _ _ [.int (Int32.ofInt 0)] _ _ _
          refine g_if_eq 16 29 (gd rfl) rfl rfl (fun c13 => ?_) (fun c13 => ?_)
          · skip
            exact gg_w (by first | exact Nat.le_of_ble_eq_true rfl | omega) (gg_f (gf_cons rfl (gf_cons rfl (gf_cons rfl (gf_cons rfl gf_nil)))) (ct29 s  hI fr_rf ))
          · skip
            exact zn_ne c13 (in_c 0 rfl) rfl
        · skip
          exact zn_ne c10x5 (in_c 0 rfl) rfl
      · skip
        have i10x2x9 := r_lt1 0 31 c10x2x9 i10x2x1 ro_2_1 rfl
        have i10x2x9a := r_lt2 1 32 c10x2x9 i10x2x1 ro_2_1 rfl
        refine g_iconst 1 13 (gd rfl) rfl rfl ?_
        refine g_goto 17 (gd rfl) rfl ?_
        refine g_ireturn (gd rfl) rfl (nb01 (in_w 0 1 (in_c 1 rfl) rfl)) (hp10x2 _ _ ?_)
        show GG _ _ _ _ _ _ _ _ [.int (Int32.ofInt 1)] _ _ _
        refine g_if_eq 8 25 (gd rfl) rfl rfl (fun c10x5 => ?_) (fun c10x5 => ?_)
        · skip
          exact zn_eq c10x5 (in_c 1 rfl) rfl
        · skip
          refine g_aload_n 9 (gd rfl) rfl rfl ?_
          refine g_iload_n 10 (gd rfl) rfl rfl ?_
          refine g_callv (X := _) (As := [.int x2]) (r := []) (b := A 2) (q := 2) 13 (gd rfl) rfl rfl rfl rfl rfl (ww_o rfl) (Nat.le_of_ble_eq_true rfl) (mc := 0) (ms := 0) (Nat.zero_le _) (Nat.zero_le _) (P := fun v u => _) ?_ (fun e u h => h) (fun v u h => h)
          intro po10x10 xx10x10 hp10x10 hx10x10
          refine g_enter2 (k := 94) (N := 300) (by first | exact dq1 hd rfl | exact dq0 hd rfl | exact dq2 hd rfl | exact dq3 hd rfl | omega) rfl (Nat.le_of_ble_eq_true rfl) ?_
          refine g_iload_n 1 (gd rfl) rfl rfl ?_
          refine g_if_lt 4 16 (gd rfl) rfl rfl (fun c10x10x1 => ?_) (fun c10x10x1 => ?_)
          · skip
            have i10x10x1 := z_lt (-2147483648) (-1) c10x10x1 (i_rng x2) rfl
            refine g_iconst 0 17 (gd rfl) rfl rfl ?_
            refine g_ireturn (gd rfl) rfl (nb01 (in_w 0 1 (in_c 0 rfl) rfl)) (hp10x10 _ _ ?_)
            show GG _ _ _ _ _ _ _ _ [.int (Int32.ofInt 0)] _ _ _
            refine g_if_eq 16 25 (gd rfl) rfl rfl (fun c10x13 => ?_) (fun c10x13 => ?_)
            · skip
              refine g_iconst 0 26 (gd rfl) rfl rfl ?_
              refine g_ireturn (gd rfl) rfl (nb01 (in_w 0 1 (in_c 0 rfl) rfl)) (hp10 _ _ ?_)
              show GG _ _ _ _ _ _ _ _ [.int (Int32.ofInt 0)] _ _ _
              refine g_if_eq 16 29 (gd rfl) rfl rfl (fun c13 => ?_) (fun c13 => ?_)
              · skip
                exact gg_w (by first | exact Nat.le_of_ble_eq_true rfl | omega) (gg_f (gf_cons rfl (gf_cons rfl (gf_cons rfl (gf_cons rfl gf_nil)))) (ct29 s  hI fr_rf ))
              · skip
                exact zn_ne c13 (in_c 0 rfl) rfl
            · skip
              exact zn_ne c10x13 (in_c 0 rfl) rfl
          · skip
            have i10x10x1 := z_ge 0 2147483647 c10x10x1 (i_rng x2) rfl
            refine g_iload_n 5 (gd rfl) rfl rfl ?_
            refine g_aload_n 6 (gd rfl) rfl rfl ?_
            refine g_getI 9 (gd rfl) rfl rfl rfl (fun z10x10x6 e10x10x6 => ?_)
            have q10x10x6 : u_2_1 = z10x10x6 := (e_2_1).trans e10x10x6.symm
            subst q10x10x6
            refine g_cmp_ge 12 16 (gd rfl) rfl rfl (fun c10x10x9 => ?_) (fun c10x10x9 => ?_)
            · skip
              have i10x10x9 := r_le2 1 2147483647 c10x10x9 i10x2x9a i10x10x1 rfl
              refine g_iconst 0 17 (gd rfl) rfl rfl ?_
              refine g_ireturn (gd rfl) rfl (nb01 (in_w 0 1 (in_c 0 rfl) rfl)) (hp10x10 _ _ ?_)
              show GG _ _ _ _ _ _ _ _ [.int (Int32.ofInt 0)] _ _ _
              refine g_if_eq 16 25 (gd rfl) rfl rfl (fun c10x13 => ?_) (fun c10x13 => ?_)
              · skip
                refine g_iconst 0 26 (gd rfl) rfl rfl ?_
                refine g_ireturn (gd rfl) rfl (nb01 (in_w 0 1 (in_c 0 rfl) rfl)) (hp10 _ _ ?_)
                show GG _ _ _ _ _ _ _ _ [.int (Int32.ofInt 0)] _ _ _
                refine g_if_eq 16 29 (gd rfl) rfl rfl (fun c13 => ?_) (fun c13 => ?_)
                · skip
                  exact gg_w (by first | exact Nat.le_of_ble_eq_true rfl | omega) (gg_f (gf_cons rfl (gf_cons rfl (gf_cons rfl (gf_cons rfl gf_nil)))) (ct29 s  hI fr_rf ))
                · skip
                  exact zn_ne c13 (in_c 0 rfl) rfl
              · skip
                exact zn_ne c10x13 (in_c 0 rfl) rfl
            · skip
              have i10x10x9 := r_lt1 0 31 c10x10x9 i10x10x1 i10x2x9a rfl
              refine g_iconst 1 13 (gd rfl) rfl rfl ?_
              refine g_goto 17 (gd rfl) rfl ?_
              refine g_ireturn (gd rfl) rfl (nb01 (in_w 0 1 (in_c 1 rfl) rfl)) (hp10x10 _ _ ?_)
              show GG _ _ _ _ _ _ _ _ [.int (Int32.ofInt 1)] _ _ _
              refine g_if_eq 16 25 (gd rfl) rfl rfl (fun c10x13 => ?_) (fun c10x13 => ?_)
              · skip
                exact zn_eq c10x13 (in_c 1 rfl) rfl
              · skip
                refine g_iload_n 17 (gd rfl) rfl rfl ?_
                refine g_iload_n 18 (gd rfl) rfl rfl ?_
                refine g_cmp_eq 21 25 (gd rfl) rfl rfl (fun c10x18 => ?_) (fun c10x18 => ?_)
                · skip
                  refine g_iconst 0 26 (gd rfl) rfl rfl ?_
                  refine g_ireturn (gd rfl) rfl (nb01 (in_w 0 1 (in_c 0 rfl) rfl)) (hp10 _ _ ?_)
                  show GG _ _ _ _ _ _ _ _ [.int (Int32.ofInt 0)] _ _ _
                  refine g_if_eq 16 29 (gd rfl) rfl rfl (fun c13 => ?_) (fun c13 => ?_)
                  · skip
                    exact gg_w (by first | exact Nat.le_of_ble_eq_true rfl | omega) (gg_f (gf_cons rfl (gf_cons rfl (gf_cons rfl (gf_cons rfl gf_nil)))) (ct29 s  hI fr_rf ))
                  · skip
                    exact zn_ne c13 (in_c 0 rfl) rfl
                · skip
                  refine g_iconst 1 22 (gd rfl) rfl rfl ?_
                  refine g_goto 26 (gd rfl) rfl ?_
                  refine g_ireturn (gd rfl) rfl (nb01 (in_w 0 1 (in_c 1 rfl) rfl)) (hp10 _ _ ?_)
                  show GG _ _ _ _ _ _ _ _ [.int (Int32.ofInt 1)] _ _ _
                  refine g_if_eq 16 29 (gd rfl) rfl rfl (fun c13 => ?_) (fun c13 => ?_)
                  · skip
                    exact zn_eq c13 (in_c 1 rfl) rfl
                  · skip
                    refine g_aload 18 (gd rfl) rfl rfl ?_
                    refine g_iload_n 19 (gd rfl) rfl rfl ?_
                    refine g_callv (X := _) (As := [.int x3]) (r := []) (b := A 2) (q := 2) 22 (gd rfl) rfl rfl rfl rfl rfl (ww_o rfl) (Nat.le_of_ble_eq_true rfl) (mc := 0) (ms := 0) (Nat.zero_le _) (Nat.zero_le _) (P := fun v u => _) ?_ (fun e u h => h) (fun v u h => h)
                    intro po19 xx19 hp19 hx19
                    refine g_enter2 (k := 94) (N := 300) (by first | exact dq1 hd rfl | exact dq0 hd rfl | exact dq2 hd rfl | exact dq3 hd rfl | omega) rfl (Nat.le_of_ble_eq_true rfl) ?_
                    refine g_iload_n 1 (gd rfl) rfl rfl ?_
                    refine g_if_lt 4 16 (gd rfl) rfl rfl (fun c19x1 => ?_) (fun c19x1 => ?_)
                    · skip
                      have i19x1 := z_lt (-2147483648) (-1) c19x1 (i_rng x3) rfl
                      refine g_iconst 0 17 (gd rfl) rfl rfl ?_
                      refine g_ireturn (gd rfl) rfl (nb01 (in_w 0 1 (in_c 0 rfl) rfl)) (hp19 _ _ ?_)
                      show GG _ _ _ _ _ _ _ _ [.int (Int32.ofInt 0)] _ _ _
                      refine g_if_eq 25 29 (gd rfl) rfl rfl (fun c22 => ?_) (fun c22 => ?_)
                      · skip
                        exact gg_w (by first | exact Nat.le_of_ble_eq_true rfl | omega) (gg_f (gf_cons rfl (gf_cons rfl (gf_cons rfl (gf_cons rfl gf_nil)))) (ct29 s  hI fr_rf ))
                      · skip
                        exact zn_ne c22 (in_c 0 rfl) rfl
                    · skip
                      have i19x1 := z_ge 0 2147483647 c19x1 (i_rng x3) rfl
                      refine g_iload_n 5 (gd rfl) rfl rfl ?_
                      refine g_aload_n 6 (gd rfl) rfl rfl ?_
                      refine g_getI 9 (gd rfl) rfl rfl rfl (fun z19x6 e19x6 => ?_)
                      have q19x6 : u_2_1 = z19x6 := (e_2_1).trans e19x6.symm
                      subst q19x6
                      refine g_cmp_ge 12 16 (gd rfl) rfl rfl (fun c19x9 => ?_) (fun c19x9 => ?_)
                      · skip
                        have i19x9 := r_le2 1 2147483647 c19x9 i10x2x9a i19x1 rfl
                        refine g_iconst 0 17 (gd rfl) rfl rfl ?_
                        refine g_ireturn (gd rfl) rfl (nb01 (in_w 0 1 (in_c 0 rfl) rfl)) (hp19 _ _ ?_)
                        show GG _ _ _ _ _ _ _ _ [.int (Int32.ofInt 0)] _ _ _
                        refine g_if_eq 25 29 (gd rfl) rfl rfl (fun c22 => ?_) (fun c22 => ?_)
                        · skip
                          exact gg_w (by first | exact Nat.le_of_ble_eq_true rfl | omega) (gg_f (gf_cons rfl (gf_cons rfl (gf_cons rfl (gf_cons rfl gf_nil)))) (ct29 s  hI fr_rf ))
                        · skip
                          exact zn_ne c22 (in_c 0 rfl) rfl
                      · skip
                        have i19x9 := r_lt1 0 31 c19x9 i19x1 i10x2x9a rfl
                        refine g_iconst 1 13 (gd rfl) rfl rfl ?_
                        refine g_goto 17 (gd rfl) rfl ?_
                        refine g_ireturn (gd rfl) rfl (nb01 (in_w 0 1 (in_c 1 rfl) rfl)) (hp19 _ _ ?_)
                        show GG _ _ _ _ _ _ _ _ [.int (Int32.ofInt 1)] _ _ _
                        refine g_if_eq 25 29 (gd rfl) rfl rfl (fun c22 => ?_) (fun c22 => ?_)
                        · skip
                          exact zn_eq c22 (in_c 1 rfl) rfl
                        · skip
                          refine g_iconst 1 26 (gd rfl) rfl rfl ?_
                          refine g_goto 30 (gd rfl) rfl ?_
                          refine g_thr (E := am_IA) (y := yX11_allow) 33 (gd rfl) rfl rfl (Or.inl ⟨rfl, rfl, rfl⟩) (by first | exact dq1 hd rfl | exact dq0 hd rfl | exact dq2 hd rfl | exact dq3 hd rfl | omega) (Nat.le_of_ble_eq_true rfl) (Nat.le_of_ble_eq_true rfl) (Nat.le_of_ble_eq_true rfl) (fun c30 => ?_) (fun c30 => ?_)
                          · skip
                            refine g_aload_n 34 (gd rfl) rfl rfl ?_
                            refine g_getA (q2 := 65) 37 (gd rfl) rfl rfl rfl rfl ?_
                            refine g_aload 39 (gd rfl) rfl rfl ?_
                            refine g_iload_n 40 (gd rfl) rfl rfl ?_
                            refine g_iload_n 41 (gd rfl) rfl rfl ?_
                            refine g_callv (X := _) (As := [.ref (A 2), .int x1, .int x2]) (r := []) (b := A 65) (q := 65) 44 (gd rfl) rfl rfl rfl rfl rfl (ww_o rfl) (Nat.le_of_ble_eq_true rfl) (Nat.zero_le _) (Nat.zero_le _) (k_75_65_2 (by first | exact dq1 hd rfl | exact dq0 hd rfl | exact dq2 hd rfl | exact dq3 hd rfl | omega) hI (in_w 0 31 i10x2x9 rfl) (in_w 0 31 i10x10x9 rfl)) (fun e u h => h) (fun v u h => ?_)
                            obtain ⟨s41, hI41, hF41, z41, rfl, rfl⟩ := h
                            show GG _ _ _ _ _ _ _ _ [.long z41] _ _ _
                            refine g_pop2 45 (gd rfl) rfl rfl ?_
                            refine g_aload_n 46 (gd rfl) rfl rfl ?_
                            refine g_getA (q2 := 65) 49 (gd rfl) rfl rfl rfl rfl ?_
                            refine g_getI 52 (gd rfl) rfl rfl rfl (fun z49 e49 => ?_)
                            refine g_iload_n 53 (gd rfl) rfl rfl ?_
                            refine g_ishr 54 (gd rfl) rfl (fun z53 e53 => ?_)
                            refine g_iconst 1 55 (gd rfl) rfl rfl ?_
                            refine g_iand 56 (gd rfl) rfl (fun z55 e55 => ?_)
                            have i55 := in_and2 e55 (in_c 1 rfl) rfl
                            refine g_if_eq 59 63 (gd rfl) rfl rfl (fun c56 => ?_) (fun c56 => ?_)
                            · skip
                              have i56 := z_eq 0 0 c56 i55 rfl
                              refine g_iconst 0 64 (gd rfl) rfl rfl ?_
                              exact g_ireturn (gd rfl) rfl (nb01 (in_w 0 1 (in_c 0 rfl) rfl)) (hP _ _ ⟨s41, hI41, (fr_tr rfl fr_rf hF41), (Int32.ofInt 0), rfl, rfl, in_w 0 1 (in_c 0 rfl) rfl⟩)
                            · skip
                              have i56 := z_ne 1 1 c56 i55 rfl
                              refine g_iconst 1 60 (gd rfl) rfl rfl ?_
                              refine g_goto 64 (gd rfl) rfl ?_
                              exact g_ireturn (gd rfl) rfl (nb01 (in_w 0 1 (in_c 1 rfl) rfl)) (hP _ _ ⟨s41, hI41, (fr_tr rfl fr_rf hF41), (Int32.ofInt 1), rfl, rfl, in_w 0 1 (in_c 1 rfl) rfl⟩)
                          · skip
                            exact zn_eq c30 (in_c 1 rfl) rfl

def fm_245_0 : FM := ([77, 78, 81, 82, 83], [79, 80], [(76, 0)], [])
/-- GraphHouse.tree -/
theorem k_245_0 {Z : AmZ} {A : Nat → Nat} {s : GS} {ex : va_W} {d : Nat} {x1 : Int32} {u_2_1 : Int32} {u_32_1 : Int32} (hd : 7 ≤ d) (hI : Inv s) (e_2_1 : u_2_1 = s.2.2.1 2 1) (e_32_1 : u_32_1 = s.2.2.1 32 1) (q_0 : KL s) : GC Z d 245 [.ref (A 0), .int x1] (WW Z A s ++ ex) 3 18 (fun v u => ∃ t : GS, Inv t ∧ Fr fm_245_0 s t ∧ ∃ z : Int64, v = some (.long z) ∧ u = WW Z A t ++ ex) (gE1 Z A ex ([], [], [], []) s) := by
  intro post xp hP hX
  obtain ⟨u_0_2, e_0_2⟩ : ∃ w, w = s.2.2.1 0 2 := ⟨_, rfl⟩
  have ro_0_2 := inv_F hI (-1) 4000 rfl e_0_2
  have ro_2_1 := inv_F hI 0 32 rfl e_2_1
  have ro_32_1 := inv_F hI 0 32 rfl e_32_1
  refine g_enter2 (k := 245) (N := 900) (by first | exact dq1 hd rfl | exact dq0 hd rfl | exact dq2 hd rfl | exact dq3 hd rfl | omega) rfl (Nat.le_of_ble_eq_true rfl) ?_
  refine g_aload_n 1 (gd rfl) rfl rfl ?_
  refine g_callv (X := _) (As := []) (r := []) (b := A 0) (q := 0) 4 (gd rfl) rfl rfl rfl rfl rfl (ww_o rfl) (Nat.le_of_ble_eq_true rfl) (mc := 0) (ms := 0) (Nat.zero_le _) (Nat.zero_le _) (P := fun v u => _) ?_ (fun e u h => h) (fun v u h => h)
  intro po1 xx1 hp1 hx1
  refine g_enter2 (k := 259) (N := 300) (by first | exact dq1 hd rfl | exact dq0 hd rfl | exact dq2 hd rfl | exact dq3 hd rfl | omega) rfl (Nat.le_of_ble_eq_true rfl) ?_
  refine g_aload_n 1 (gd rfl) rfl rfl ?_
  refine g_getI 4 (gd rfl) rfl rfl rfl (fun z1x1 e1x1 => ?_)
  have q1x1 : u_0_2 = z1x1 := (e_0_2).trans e1x1.symm
  subst q1x1
  refine g_iconst (-1) 5 (gd rfl) rfl rfl ?_
  refine g_cmp_ne 8 18 (gd rfl) rfl rfl (fun c1x5 => ?_) (fun c1x5 => ?_)
  · skip
    have i1x5 := r_ne1 0 4000 c1x5 ro_0_2 (in_c (-1) rfl) rfl
    refine g_aload_n 19 (gd rfl) rfl rfl ?_
    refine g_getA (q2 := 32) 22 (gd rfl) rfl rfl rfl rfl ?_
    refine g_areturn (gd rfl) rfl (hp1 _ _ ?_)
    show GG _ _ _ _ _ _ _ _ [.ref (A 32)] _ _ _
    refine g_astore_n 5 (gd rfl) rfl (Nat.le_of_ble_eq_true rfl) ?_
    refine g_aload_n 6 (gd rfl) rfl rfl ?_
    refine g_iload_n 7 (gd rfl) rfl rfl ?_
    refine g_callv (X := _) (As := [.int x1]) (r := []) (b := A 32) (q := 32) 10 (gd rfl) rfl rfl rfl rfl rfl (ww_o rfl) (Nat.le_of_ble_eq_true rfl) (mc := 0) (ms := 0) (Nat.zero_le _) (Nat.zero_le _) (P := fun v u => _) ?_ (fun e u h => h) (fun v u h => h)
    intro po7 xx7 hp7 hx7
    refine g_enter2 (k := 94) (N := 300) (by first | exact dq1 hd rfl | exact dq0 hd rfl | exact dq2 hd rfl | exact dq3 hd rfl | omega) rfl (Nat.le_of_ble_eq_true rfl) ?_
    refine g_iload_n 1 (gd rfl) rfl rfl ?_
    refine g_if_lt 4 16 (gd rfl) rfl rfl (fun c7x1 => ?_) (fun c7x1 => ?_)
    · skip
      have i7x1 := z_lt (-2147483648) (-1) c7x1 (i_rng x1) rfl
      refine g_iconst 0 17 (gd rfl) rfl rfl ?_
      refine g_ireturn (gd rfl) rfl (nb01 (in_w 0 1 (in_c 0 rfl) rfl)) (hp7 _ _ ?_)
      show GG _ _ _ _ _ _ _ _ [.int (Int32.ofInt 0)] _ _ _
      refine g_thr (E := am_IA) (y := yX11_allow) 13 (gd rfl) rfl rfl (Or.inl ⟨rfl, rfl, rfl⟩) (by first | exact dq1 hd rfl | exact dq0 hd rfl | exact dq2 hd rfl | exact dq3 hd rfl | omega) (Nat.le_of_ble_eq_true rfl) (Nat.le_of_ble_eq_true rfl) (Nat.le_of_ble_eq_true rfl) (fun c10 => ?_) (fun c10 => ?_)
      · skip
        exact zn_ne c10 (in_c 0 rfl) rfl
      · skip
        exact (hX _ _ ⟨rfl, s, hI, fr_rf, rfl⟩)
    · skip
      have i7x1 := z_ge 0 2147483647 c7x1 (i_rng x1) rfl
      refine g_iload_n 5 (gd rfl) rfl rfl ?_
      refine g_aload_n 6 (gd rfl) rfl rfl ?_
      refine g_getI 9 (gd rfl) rfl rfl rfl (fun z7x6 e7x6 => ?_)
      have q7x6 : u_32_1 = z7x6 := (e_32_1).trans e7x6.symm
      subst q7x6
      refine g_cmp_ge 12 16 (gd rfl) rfl rfl (fun c7x9 => ?_) (fun c7x9 => ?_)
      · skip
        refine g_iconst 0 17 (gd rfl) rfl rfl ?_
        refine g_ireturn (gd rfl) rfl (nb01 (in_w 0 1 (in_c 0 rfl) rfl)) (hp7 _ _ ?_)
        show GG _ _ _ _ _ _ _ _ [.int (Int32.ofInt 0)] _ _ _
        refine g_thr (E := am_IA) (y := yX11_allow) 13 (gd rfl) rfl rfl (Or.inl ⟨rfl, rfl, rfl⟩) (by first | exact dq1 hd rfl | exact dq0 hd rfl | exact dq2 hd rfl | exact dq3 hd rfl | omega) (Nat.le_of_ble_eq_true rfl) (Nat.le_of_ble_eq_true rfl) (Nat.le_of_ble_eq_true rfl) (fun c10 => ?_) (fun c10 => ?_)
        · skip
          exact zn_ne c10 (in_c 0 rfl) rfl
        · skip
          exact (hX _ _ ⟨rfl, s, hI, fr_rf, rfl⟩)
      · skip
        have i7x9 := r_lt1 0 31 c7x9 i7x1 (inv_F hI 0 32 rfl e_32_1) rfl
        have i7x9a := r_lt2 1 32 c7x9 i7x1 (inv_F hI 0 32 rfl e_32_1) rfl
        refine g_iconst 1 13 (gd rfl) rfl rfl ?_
        refine g_goto 17 (gd rfl) rfl ?_
        refine g_ireturn (gd rfl) rfl (nb01 (in_w 0 1 (in_c 1 rfl) rfl)) (hp7 _ _ ?_)
        show GG _ _ _ _ _ _ _ _ [.int (Int32.ofInt 1)] _ _ _
        refine g_thr (E := am_IA) (y := yX11_allow) 13 (gd rfl) rfl rfl (Or.inl ⟨rfl, rfl, rfl⟩) (by first | exact dq1 hd rfl | exact dq0 hd rfl | exact dq2 hd rfl | exact dq3 hd rfl | omega) (Nat.le_of_ble_eq_true rfl) (Nat.le_of_ble_eq_true rfl) (Nat.le_of_ble_eq_true rfl) (fun c10 => ?_) (fun c10 => ?_)
        · skip
          refine g_aload_n 14 (gd rfl) rfl rfl ?_
          refine g_getA (q2 := 76) 17 (gd rfl) rfl rfl rfl rfl ?_
          refine g_aload_n 18 (gd rfl) rfl rfl ?_
          refine g_iload_n 19 (gd rfl) rfl rfl ?_
          have n19 : (x1).toInt < (u_32_1).toInt := by have a0 := oa4 i7x9 i1x5 i7x9a ((inv_F hI 0 32 rfl e_2_1)); omega
          have p19 : KN (s.1 34) (s.1 35) (s.2.2.1 32 1) := by first | exact q_0.2.2.2.1.2 | exact q_0.2.2.2.2.2
          refine g_callv (X := _) (As := [.ref (A 32), .int x1]) (r := []) (b := A 76) (q := 76) 22 (gd rfl) rfl rfl rfl rfl rfl (ww_o rfl) (Nat.le_of_ble_eq_true rfl) (Nat.zero_le _) (Nat.zero_le _) (k_180_76_32 (by first | exact dq1 hd rfl | exact dq0 hd rfl | exact dq2 hd rfl | exact dq3 hd rfl | omega) hI (in_w 0 31 i7x9 rfl) e_32_1 n19 p19) (fun e u h => h) (fun v u h => ?_)
          obtain ⟨s19, hI19, hF19, z19, rfl, rfl⟩ := h
          show GG _ _ _ _ _ _ _ _ [.long z19] _ _ _
          exact g_lreturn (gd rfl) rfl (hP _ _ ⟨s19, hI19, (fr_tr rfl fr_rf hF19), z19, rfl, rfl⟩)
        · skip
          exact zn_eq c10 (in_c 1 rfl) rfl
  · skip
    have i1x5 := r_eq1 (-1) (-1) c1x5 ro_0_2 (in_c (-1) rfl) rfl
    refine g_aload_n 9 (gd rfl) rfl rfl ?_
    refine g_getA (q2 := 1) 12 (gd rfl) rfl rfl rfl rfl ?_
    refine g_getA (q2 := 2) 15 (gd rfl) rfl rfl rfl rfl ?_
    refine g_goto 22 (gd rfl) rfl ?_
    refine g_areturn (gd rfl) rfl (hp1 _ _ ?_)
    show GG _ _ _ _ _ _ _ _ [.ref (A 2)] _ _ _
    refine g_astore_n 5 (gd rfl) rfl (Nat.le_of_ble_eq_true rfl) ?_
    refine g_aload_n 6 (gd rfl) rfl rfl ?_
    refine g_iload_n 7 (gd rfl) rfl rfl ?_
    refine g_callv (X := _) (As := [.int x1]) (r := []) (b := A 2) (q := 2) 10 (gd rfl) rfl rfl rfl rfl rfl (ww_o rfl) (Nat.le_of_ble_eq_true rfl) (mc := 0) (ms := 0) (Nat.zero_le _) (Nat.zero_le _) (P := fun v u => _) ?_ (fun e u h => h) (fun v u h => h)
    intro po7 xx7 hp7 hx7
    refine g_enter2 (k := 94) (N := 300) (by first | exact dq1 hd rfl | exact dq0 hd rfl | exact dq2 hd rfl | exact dq3 hd rfl | omega) rfl (Nat.le_of_ble_eq_true rfl) ?_
    refine g_iload_n 1 (gd rfl) rfl rfl ?_
    refine g_if_lt 4 16 (gd rfl) rfl rfl (fun c7x1 => ?_) (fun c7x1 => ?_)
    · skip
      have i7x1 := z_lt (-2147483648) (-1) c7x1 (i_rng x1) rfl
      refine g_iconst 0 17 (gd rfl) rfl rfl ?_
      refine g_ireturn (gd rfl) rfl (nb01 (in_w 0 1 (in_c 0 rfl) rfl)) (hp7 _ _ ?_)
      show GG _ _ _ _ _ _ _ _ [.int (Int32.ofInt 0)] _ _ _
      refine g_thr (E := am_IA) (y := yX11_allow) 13 (gd rfl) rfl rfl (Or.inl ⟨rfl, rfl, rfl⟩) (by first | exact dq1 hd rfl | exact dq0 hd rfl | exact dq2 hd rfl | exact dq3 hd rfl | omega) (Nat.le_of_ble_eq_true rfl) (Nat.le_of_ble_eq_true rfl) (Nat.le_of_ble_eq_true rfl) (fun c10 => ?_) (fun c10 => ?_)
      · skip
        exact zn_ne c10 (in_c 0 rfl) rfl
      · skip
        exact (hX _ _ ⟨rfl, s, hI, fr_rf, rfl⟩)
    · skip
      have i7x1 := z_ge 0 2147483647 c7x1 (i_rng x1) rfl
      refine g_iload_n 5 (gd rfl) rfl rfl ?_
      refine g_aload_n 6 (gd rfl) rfl rfl ?_
      refine g_getI 9 (gd rfl) rfl rfl rfl (fun z7x6 e7x6 => ?_)
      have q7x6 : u_2_1 = z7x6 := (e_2_1).trans e7x6.symm
      subst q7x6
      refine g_cmp_ge 12 16 (gd rfl) rfl rfl (fun c7x9 => ?_) (fun c7x9 => ?_)
      · skip
        refine g_iconst 0 17 (gd rfl) rfl rfl ?_
        refine g_ireturn (gd rfl) rfl (nb01 (in_w 0 1 (in_c 0 rfl) rfl)) (hp7 _ _ ?_)
        show GG _ _ _ _ _ _ _ _ [.int (Int32.ofInt 0)] _ _ _
        refine g_thr (E := am_IA) (y := yX11_allow) 13 (gd rfl) rfl rfl (Or.inl ⟨rfl, rfl, rfl⟩) (by first | exact dq1 hd rfl | exact dq0 hd rfl | exact dq2 hd rfl | exact dq3 hd rfl | omega) (Nat.le_of_ble_eq_true rfl) (Nat.le_of_ble_eq_true rfl) (Nat.le_of_ble_eq_true rfl) (fun c10 => ?_) (fun c10 => ?_)
        · skip
          exact zn_ne c10 (in_c 0 rfl) rfl
        · skip
          exact (hX _ _ ⟨rfl, s, hI, fr_rf, rfl⟩)
      · skip
        have i7x9 := r_lt1 0 31 c7x9 i7x1 (inv_F hI 0 32 rfl e_2_1) rfl
        have i7x9a := r_lt2 1 32 c7x9 i7x1 (inv_F hI 0 32 rfl e_2_1) rfl
        refine g_iconst 1 13 (gd rfl) rfl rfl ?_
        refine g_goto 17 (gd rfl) rfl ?_
        refine g_ireturn (gd rfl) rfl (nb01 (in_w 0 1 (in_c 1 rfl) rfl)) (hp7 _ _ ?_)
        show GG _ _ _ _ _ _ _ _ [.int (Int32.ofInt 1)] _ _ _
        refine g_thr (E := am_IA) (y := yX11_allow) 13 (gd rfl) rfl rfl (Or.inl ⟨rfl, rfl, rfl⟩) (by first | exact dq1 hd rfl | exact dq0 hd rfl | exact dq2 hd rfl | exact dq3 hd rfl | omega) (Nat.le_of_ble_eq_true rfl) (Nat.le_of_ble_eq_true rfl) (Nat.le_of_ble_eq_true rfl) (fun c10 => ?_) (fun c10 => ?_)
        · skip
          refine g_aload_n 14 (gd rfl) rfl rfl ?_
          refine g_getA (q2 := 76) 17 (gd rfl) rfl rfl rfl rfl ?_
          refine g_aload_n 18 (gd rfl) rfl rfl ?_
          refine g_iload_n 19 (gd rfl) rfl rfl ?_
          have n19 : (x1).toInt < (u_2_1).toInt := by have a0 := oa4 i7x9 i1x5 ((inv_F hI 0 32 rfl e_32_1)) i7x9a; omega
          have p19 : KN (s.1 4) (s.1 5) (s.2.2.1 2 1) := by first | exact q_0.2.2.2.1.2 | exact q_0.2.2.2.2.2
          refine g_callv (X := _) (As := [.ref (A 2), .int x1]) (r := []) (b := A 76) (q := 76) 22 (gd rfl) rfl rfl rfl rfl rfl (ww_o rfl) (Nat.le_of_ble_eq_true rfl) (Nat.zero_le _) (Nat.zero_le _) (k_180_76_2 (by first | exact dq1 hd rfl | exact dq0 hd rfl | exact dq2 hd rfl | exact dq3 hd rfl | omega) hI (in_w 0 31 i7x9 rfl) e_2_1 n19 p19) (fun e u h => h) (fun v u h => ?_)
          obtain ⟨s19, hI19, hF19, z19, rfl, rfl⟩ := h
          show GG _ _ _ _ _ _ _ _ [.long z19] _ _ _
          exact g_lreturn (gd rfl) rfl (hP _ _ ⟨s19, hI19, (fr_tr rfl fr_rf hF19), z19, rfl, rfl⟩)
        · skip
          exact zn_eq c10 (in_c 1 rfl) rfl

def fm_246_0 : FM := ([84], [], [], [])
/-- GraphHouse.span -/
theorem k_246_0 {Z : AmZ} {A : Nat → Nat} {s : GS} {ex : va_W} {d : Nat} {x1 : Int32} (hd : 7 ≤ d) (hI : Inv s)  : GC Z d 246 [.ref (A 0), .int x1] (WW Z A s ++ ex) 3 18 (fun v u => ∃ t : GS, Inv t ∧ Fr fm_246_0 s t ∧ ∃ z : Int32, v = some (.int z) ∧ u = WW Z A t ++ ex ∧ In z 0 1) (gE1 Z A ex fm_246_0 s) := by
  intro post xp hP hX
  obtain ⟨u_0_2, e_0_2⟩ : ∃ w, w = s.2.2.1 0 2 := ⟨_, rfl⟩
  have ro_0_2 := inv_F hI (-1) 4000 rfl e_0_2
  obtain ⟨u_2_3, e_2_3⟩ : ∃ w, w = s.2.2.1 2 3 := ⟨_, rfl⟩
  have ro_2_3 := inv_F hI 0 160 rfl e_2_3
  obtain ⟨u_32_3, e_32_3⟩ : ∃ w, w = s.2.2.1 32 3 := ⟨_, rfl⟩
  have ro_32_3 := inv_F hI 0 160 rfl e_32_3
  refine g_enter2 (k := 246) (N := 900) (by first | exact dq1 hd rfl | exact dq0 hd rfl | exact dq2 hd rfl | exact dq3 hd rfl | omega) rfl (Nat.le_of_ble_eq_true rfl) ?_
  refine g_aload_n 1 (gd rfl) rfl rfl ?_
  refine g_callv (X := _) (As := []) (r := []) (b := A 0) (q := 0) 4 (gd rfl) rfl rfl rfl rfl rfl (ww_o rfl) (Nat.le_of_ble_eq_true rfl) (mc := 0) (ms := 0) (Nat.zero_le _) (Nat.zero_le _) (P := fun v u => _) ?_ (fun e u h => h) (fun v u h => h)
  intro po1 xx1 hp1 hx1
  refine g_enter2 (k := 259) (N := 300) (by first | exact dq1 hd rfl | exact dq0 hd rfl | exact dq2 hd rfl | exact dq3 hd rfl | omega) rfl (Nat.le_of_ble_eq_true rfl) ?_
  refine g_aload_n 1 (gd rfl) rfl rfl ?_
  refine g_getI 4 (gd rfl) rfl rfl rfl (fun z1x1 e1x1 => ?_)
  have q1x1 : u_0_2 = z1x1 := (e_0_2).trans e1x1.symm
  subst q1x1
  refine g_iconst (-1) 5 (gd rfl) rfl rfl ?_
  refine g_cmp_ne 8 18 (gd rfl) rfl rfl (fun c1x5 => ?_) (fun c1x5 => ?_)
  · skip
    have i1x5 := r_ne1 0 4000 c1x5 ro_0_2 (in_c (-1) rfl) rfl
    refine g_aload_n 19 (gd rfl) rfl rfl ?_
    refine g_getA (q2 := 32) 22 (gd rfl) rfl rfl rfl rfl ?_
    refine g_areturn (gd rfl) rfl (hp1 _ _ ?_)
    show GG _ _ _ _ _ _ _ _ [.ref (A 32)] _ _ _
    refine g_astore_n 5 (gd rfl) rfl (Nat.le_of_ble_eq_true rfl) ?_
    refine g_aload_n 6 (gd rfl) rfl rfl ?_
    refine g_iload_n 7 (gd rfl) rfl rfl ?_
    refine g_callv (X := _) (As := [.int x1]) (r := []) (b := A 32) (q := 32) 10 (gd rfl) rfl rfl rfl rfl rfl (ww_o rfl) (Nat.le_of_ble_eq_true rfl) (mc := 0) (ms := 0) (Nat.zero_le _) (Nat.zero_le _) (P := fun v u => _) ?_ (fun e u h => h) (fun v u h => h)
    intro po7 xx7 hp7 hx7
    refine g_enter2 (k := 96) (N := 300) (by first | exact dq1 hd rfl | exact dq0 hd rfl | exact dq2 hd rfl | exact dq3 hd rfl | omega) rfl (Nat.le_of_ble_eq_true rfl) ?_
    refine g_iload_n 1 (gd rfl) rfl rfl ?_
    refine g_if_lt 4 26 (gd rfl) rfl rfl (fun c7x1 => ?_) (fun c7x1 => ?_)
    · skip
      have i7x1 := z_lt (-2147483648) (-1) c7x1 (i_rng x1) rfl
      refine g_iconst 0 27 (gd rfl) rfl rfl ?_
      refine g_ireturn (gd rfl) rfl (nb01 (in_w 0 1 (in_c 0 rfl) rfl)) (hp7 _ _ ?_)
      show GG _ _ _ _ _ _ _ _ [.int (Int32.ofInt 0)] _ _ _
      refine g_thr (E := am_IA) (y := yX11_allow) 13 (gd rfl) rfl rfl (Or.inl ⟨rfl, rfl, rfl⟩) (by first | exact dq1 hd rfl | exact dq0 hd rfl | exact dq2 hd rfl | exact dq3 hd rfl | omega) (Nat.le_of_ble_eq_true rfl) (Nat.le_of_ble_eq_true rfl) (Nat.le_of_ble_eq_true rfl) (fun c10 => ?_) (fun c10 => ?_)
      · skip
        exact zn_ne c10 (in_c 0 rfl) rfl
      · skip
        exact (hX _ _ ⟨rfl, s, hI, fr_rf, rfl⟩)
    · skip
      have i7x1 := z_ge 0 2147483647 c7x1 (i_rng x1) rfl
      refine g_iload_n 5 (gd rfl) rfl rfl ?_
      refine g_aload_n 6 (gd rfl) rfl rfl ?_
      refine g_getI 9 (gd rfl) rfl rfl rfl (fun z7x6 e7x6 => ?_)
      have q7x6 : u_32_3 = z7x6 := (e_32_3).trans e7x6.symm
      subst q7x6
      refine g_cmp_ge 12 26 (gd rfl) rfl rfl (fun c7x9 => ?_) (fun c7x9 => ?_)
      · skip
        refine g_iconst 0 27 (gd rfl) rfl rfl ?_
        refine g_ireturn (gd rfl) rfl (nb01 (in_w 0 1 (in_c 0 rfl) rfl)) (hp7 _ _ ?_)
        show GG _ _ _ _ _ _ _ _ [.int (Int32.ofInt 0)] _ _ _
        refine g_thr (E := am_IA) (y := yX11_allow) 13 (gd rfl) rfl rfl (Or.inl ⟨rfl, rfl, rfl⟩) (by first | exact dq1 hd rfl | exact dq0 hd rfl | exact dq2 hd rfl | exact dq3 hd rfl | omega) (Nat.le_of_ble_eq_true rfl) (Nat.le_of_ble_eq_true rfl) (Nat.le_of_ble_eq_true rfl) (fun c10 => ?_) (fun c10 => ?_)
        · skip
          exact zn_ne c10 (in_c 0 rfl) rfl
        · skip
          exact (hX _ _ ⟨rfl, s, hI, fr_rf, rfl⟩)
      · skip
        have i7x9 := r_lt1 0 159 c7x9 i7x1 ro_32_3 rfl
        have i7x9a := r_lt2 1 160 c7x9 i7x1 ro_32_3 rfl
        refine g_aload_n 13 (gd rfl) rfl rfl ?_
        refine g_getA (q2 := 34) 16 (gd rfl) rfl rfl rfl rfl ?_
        refine g_iload_n 17 (gd rfl) rfl rfl ?_
        refine g_iaload 18 (gd rfl) rfl (n := 160) rfl (in_ix i7x9 rfl) (fun z7x17 e7x17 => ?_)
        have i7x17 := inv_I hI (n := 160) (t := 0) (-1) 31 rfl (in_ix i7x9 rfl) rfl e7x17
        refine g_iconst (-1) 19 (gd rfl) rfl rfl ?_
        refine g_cmp_eq 22 26 (gd rfl) rfl rfl (fun c7x19 => ?_) (fun c7x19 => ?_)
        · skip
          have i7x19 := r_eq1 (-1) (-1) c7x19 i7x17 (in_c (-1) rfl) rfl
          refine g_iconst 0 27 (gd rfl) rfl rfl ?_
          refine g_ireturn (gd rfl) rfl (nb01 (in_w 0 1 (in_c 0 rfl) rfl)) (hp7 _ _ ?_)
          show GG _ _ _ _ _ _ _ _ [.int (Int32.ofInt 0)] _ _ _
          refine g_thr (E := am_IA) (y := yX11_allow) 13 (gd rfl) rfl rfl (Or.inl ⟨rfl, rfl, rfl⟩) (by first | exact dq1 hd rfl | exact dq0 hd rfl | exact dq2 hd rfl | exact dq3 hd rfl | omega) (Nat.le_of_ble_eq_true rfl) (Nat.le_of_ble_eq_true rfl) (Nat.le_of_ble_eq_true rfl) (fun c10 => ?_) (fun c10 => ?_)
          · skip
            exact zn_ne c10 (in_c 0 rfl) rfl
          · skip
            exact (hX _ _ ⟨rfl, s, hI, fr_rf, rfl⟩)
        · skip
          have i7x19 := r_ne1 0 31 c7x19 i7x17 (in_c (-1) rfl) rfl
          refine g_iconst 1 23 (gd rfl) rfl rfl ?_
          refine g_goto 27 (gd rfl) rfl ?_
          refine g_ireturn (gd rfl) rfl (nb01 (in_w 0 1 (in_c 1 rfl) rfl)) (hp7 _ _ ?_)
          show GG _ _ _ _ _ _ _ _ [.int (Int32.ofInt 1)] _ _ _
          refine g_thr (E := am_IA) (y := yX11_allow) 13 (gd rfl) rfl rfl (Or.inl ⟨rfl, rfl, rfl⟩) (by first | exact dq1 hd rfl | exact dq0 hd rfl | exact dq2 hd rfl | exact dq3 hd rfl | omega) (Nat.le_of_ble_eq_true rfl) (Nat.le_of_ble_eq_true rfl) (Nat.le_of_ble_eq_true rfl) (fun c10 => ?_) (fun c10 => ?_)
          · skip
            refine g_aload_n 14 (gd rfl) rfl rfl ?_
            refine g_getA (q2 := 76) 17 (gd rfl) rfl rfl rfl rfl ?_
            refine g_aload_n 18 (gd rfl) rfl rfl ?_
            refine g_iload_n 19 (gd rfl) rfl rfl ?_
            refine g_callv (X := _) (As := [.ref (A 32), .int x1]) (r := []) (b := A 76) (q := 76) 22 (gd rfl) rfl rfl rfl rfl rfl (ww_o rfl) (Nat.le_of_ble_eq_true rfl) (Nat.zero_le _) (Nat.zero_le _) (k_186_76_32 (by first | exact dq1 hd rfl | exact dq0 hd rfl | exact dq2 hd rfl | exact dq3 hd rfl | omega) hI (in_w 0 159 i7x9 rfl)) (fun e u h => h) (fun v u h => ?_)
            obtain ⟨s19, hI19, hF19, z19, rfl, rfl, i19⟩ := h
            show GG _ _ _ _ _ _ _ _ [.int z19] _ _ _
            exact g_ireturn (gd rfl) rfl (nb01 (in_w 0 1 i19 rfl)) (hP _ _ ⟨s19, hI19, (fr_tr rfl fr_rf hF19), z19, rfl, rfl, in_w 0 1 i19 rfl⟩)
          · skip
            exact zn_eq c10 (in_c 1 rfl) rfl
  · skip
    have i1x5 := r_eq1 (-1) (-1) c1x5 ro_0_2 (in_c (-1) rfl) rfl
    refine g_aload_n 9 (gd rfl) rfl rfl ?_
    refine g_getA (q2 := 1) 12 (gd rfl) rfl rfl rfl rfl ?_
    refine g_getA (q2 := 2) 15 (gd rfl) rfl rfl rfl rfl ?_
    refine g_goto 22 (gd rfl) rfl ?_
    refine g_areturn (gd rfl) rfl (hp1 _ _ ?_)
    show GG _ _ _ _ _ _ _ _ [.ref (A 2)] _ _ _
    refine g_astore_n 5 (gd rfl) rfl (Nat.le_of_ble_eq_true rfl) ?_
    refine g_aload_n 6 (gd rfl) rfl rfl ?_
    refine g_iload_n 7 (gd rfl) rfl rfl ?_
    refine g_callv (X := _) (As := [.int x1]) (r := []) (b := A 2) (q := 2) 10 (gd rfl) rfl rfl rfl rfl rfl (ww_o rfl) (Nat.le_of_ble_eq_true rfl) (mc := 0) (ms := 0) (Nat.zero_le _) (Nat.zero_le _) (P := fun v u => _) ?_ (fun e u h => h) (fun v u h => h)
    intro po7 xx7 hp7 hx7
    refine g_enter2 (k := 96) (N := 300) (by first | exact dq1 hd rfl | exact dq0 hd rfl | exact dq2 hd rfl | exact dq3 hd rfl | omega) rfl (Nat.le_of_ble_eq_true rfl) ?_
    refine g_iload_n 1 (gd rfl) rfl rfl ?_
    refine g_if_lt 4 26 (gd rfl) rfl rfl (fun c7x1 => ?_) (fun c7x1 => ?_)
    · skip
      have i7x1 := z_lt (-2147483648) (-1) c7x1 (i_rng x1) rfl
      refine g_iconst 0 27 (gd rfl) rfl rfl ?_
      refine g_ireturn (gd rfl) rfl (nb01 (in_w 0 1 (in_c 0 rfl) rfl)) (hp7 _ _ ?_)
      show GG _ _ _ _ _ _ _ _ [.int (Int32.ofInt 0)] _ _ _
      refine g_thr (E := am_IA) (y := yX11_allow) 13 (gd rfl) rfl rfl (Or.inl ⟨rfl, rfl, rfl⟩) (by first | exact dq1 hd rfl | exact dq0 hd rfl | exact dq2 hd rfl | exact dq3 hd rfl | omega) (Nat.le_of_ble_eq_true rfl) (Nat.le_of_ble_eq_true rfl) (Nat.le_of_ble_eq_true rfl) (fun c10 => ?_) (fun c10 => ?_)
      · skip
        exact zn_ne c10 (in_c 0 rfl) rfl
      · skip
        exact (hX _ _ ⟨rfl, s, hI, fr_rf, rfl⟩)
    · skip
      have i7x1 := z_ge 0 2147483647 c7x1 (i_rng x1) rfl
      refine g_iload_n 5 (gd rfl) rfl rfl ?_
      refine g_aload_n 6 (gd rfl) rfl rfl ?_
      refine g_getI 9 (gd rfl) rfl rfl rfl (fun z7x6 e7x6 => ?_)
      have q7x6 : u_2_3 = z7x6 := (e_2_3).trans e7x6.symm
      subst q7x6
      refine g_cmp_ge 12 26 (gd rfl) rfl rfl (fun c7x9 => ?_) (fun c7x9 => ?_)
      · skip
        refine g_iconst 0 27 (gd rfl) rfl rfl ?_
        refine g_ireturn (gd rfl) rfl (nb01 (in_w 0 1 (in_c 0 rfl) rfl)) (hp7 _ _ ?_)
        show GG _ _ _ _ _ _ _ _ [.int (Int32.ofInt 0)] _ _ _
        refine g_thr (E := am_IA) (y := yX11_allow) 13 (gd rfl) rfl rfl (Or.inl ⟨rfl, rfl, rfl⟩) (by first | exact dq1 hd rfl | exact dq0 hd rfl | exact dq2 hd rfl | exact dq3 hd rfl | omega) (Nat.le_of_ble_eq_true rfl) (Nat.le_of_ble_eq_true rfl) (Nat.le_of_ble_eq_true rfl) (fun c10 => ?_) (fun c10 => ?_)
        · skip
          exact zn_ne c10 (in_c 0 rfl) rfl
        · skip
          exact (hX _ _ ⟨rfl, s, hI, fr_rf, rfl⟩)
      · skip
        have i7x9 := r_lt1 0 159 c7x9 i7x1 ro_2_3 rfl
        have i7x9a := r_lt2 1 160 c7x9 i7x1 ro_2_3 rfl
        refine g_aload_n 13 (gd rfl) rfl rfl ?_
        refine g_getA (q2 := 4) 16 (gd rfl) rfl rfl rfl rfl ?_
        refine g_iload_n 17 (gd rfl) rfl rfl ?_
        refine g_iaload 18 (gd rfl) rfl (n := 160) rfl (in_ix i7x9 rfl) (fun z7x17 e7x17 => ?_)
        have i7x17 := inv_I hI (n := 160) (t := 0) (-1) 31 rfl (in_ix i7x9 rfl) rfl e7x17
        refine g_iconst (-1) 19 (gd rfl) rfl rfl ?_
        refine g_cmp_eq 22 26 (gd rfl) rfl rfl (fun c7x19 => ?_) (fun c7x19 => ?_)
        · skip
          have i7x19 := r_eq1 (-1) (-1) c7x19 i7x17 (in_c (-1) rfl) rfl
          refine g_iconst 0 27 (gd rfl) rfl rfl ?_
          refine g_ireturn (gd rfl) rfl (nb01 (in_w 0 1 (in_c 0 rfl) rfl)) (hp7 _ _ ?_)
          show GG _ _ _ _ _ _ _ _ [.int (Int32.ofInt 0)] _ _ _
          refine g_thr (E := am_IA) (y := yX11_allow) 13 (gd rfl) rfl rfl (Or.inl ⟨rfl, rfl, rfl⟩) (by first | exact dq1 hd rfl | exact dq0 hd rfl | exact dq2 hd rfl | exact dq3 hd rfl | omega) (Nat.le_of_ble_eq_true rfl) (Nat.le_of_ble_eq_true rfl) (Nat.le_of_ble_eq_true rfl) (fun c10 => ?_) (fun c10 => ?_)
          · skip
            exact zn_ne c10 (in_c 0 rfl) rfl
          · skip
            exact (hX _ _ ⟨rfl, s, hI, fr_rf, rfl⟩)
        · skip
          have i7x19 := r_ne1 0 31 c7x19 i7x17 (in_c (-1) rfl) rfl
          refine g_iconst 1 23 (gd rfl) rfl rfl ?_
          refine g_goto 27 (gd rfl) rfl ?_
          refine g_ireturn (gd rfl) rfl (nb01 (in_w 0 1 (in_c 1 rfl) rfl)) (hp7 _ _ ?_)
          show GG _ _ _ _ _ _ _ _ [.int (Int32.ofInt 1)] _ _ _
          refine g_thr (E := am_IA) (y := yX11_allow) 13 (gd rfl) rfl rfl (Or.inl ⟨rfl, rfl, rfl⟩) (by first | exact dq1 hd rfl | exact dq0 hd rfl | exact dq2 hd rfl | exact dq3 hd rfl | omega) (Nat.le_of_ble_eq_true rfl) (Nat.le_of_ble_eq_true rfl) (Nat.le_of_ble_eq_true rfl) (fun c10 => ?_) (fun c10 => ?_)
          · skip
            refine g_aload_n 14 (gd rfl) rfl rfl ?_
            refine g_getA (q2 := 76) 17 (gd rfl) rfl rfl rfl rfl ?_
            refine g_aload_n 18 (gd rfl) rfl rfl ?_
            refine g_iload_n 19 (gd rfl) rfl rfl ?_
            refine g_callv (X := _) (As := [.ref (A 2), .int x1]) (r := []) (b := A 76) (q := 76) 22 (gd rfl) rfl rfl rfl rfl rfl (ww_o rfl) (Nat.le_of_ble_eq_true rfl) (Nat.zero_le _) (Nat.zero_le _) (k_186_76_2 (by first | exact dq1 hd rfl | exact dq0 hd rfl | exact dq2 hd rfl | exact dq3 hd rfl | omega) hI (in_w 0 159 i7x9 rfl)) (fun e u h => h) (fun v u h => ?_)
            obtain ⟨s19, hI19, hF19, z19, rfl, rfl, i19⟩ := h
            show GG _ _ _ _ _ _ _ _ [.int z19] _ _ _
            exact g_ireturn (gd rfl) rfl (nb01 (in_w 0 1 i19 rfl)) (hP _ _ ⟨s19, hI19, (fr_tr rfl fr_rf hF19), z19, rfl, rfl, in_w 0 1 i19 rfl⟩)
          · skip
            exact zn_eq c10 (in_c 1 rfl) rfl

def fm_248_0 : FM := ([9, 10, 11, 12, 13, 14, 15, 39, 40, 41, 42, 43, 44, 45], [87, 88], [(2, 4), (32, 4), (86, 0), (86, 1)], [])
/-- GraphHouse.rank -/
theorem k_248_0 {Z : AmZ} {A : Nat → Nat} {s : GS} {ex : va_W} {d : Nat} {x1 : Int32} {x2 : Int32} (hd : 7 ≤ d) (hI : Inv s)  : GC Z d 248 [.ref (A 0), .int x1, .int x2] (WW Z A s ++ ex) 3 18 (fun v u => ∃ xa ya : Nat, ∃ t : GS, Inv t ∧ Fr fm_248_0 s t ∧ ∃ z : Int64, v = some (.long z) ∧ u = WW Z (a2 A xa ya) t ++ ex) (gE1 Z A ex fm_248_0 s) := by
  intro post xp hP hX
  obtain ⟨u_0_2, e_0_2⟩ : ∃ w, w = s.2.2.1 0 2 := ⟨_, rfl⟩
  have ro_0_2 := inv_F hI (-1) 4000 rfl e_0_2
  obtain ⟨u_2_1, e_2_1⟩ : ∃ w, w = s.2.2.1 2 1 := ⟨_, rfl⟩
  have ro_2_1 := inv_F hI 0 32 rfl e_2_1
  obtain ⟨u_32_1, e_32_1⟩ : ∃ w, w = s.2.2.1 32 1 := ⟨_, rfl⟩
  have ro_32_1 := inv_F hI 0 32 rfl e_32_1
  refine g_enter2 (k := 248) (N := 900) (by first | exact dq1 hd rfl | exact dq0 hd rfl | exact dq2 hd rfl | exact dq3 hd rfl | omega) rfl (Nat.le_of_ble_eq_true rfl) ?_
  refine g_aload_n 1 (gd rfl) rfl rfl ?_
  refine g_callv (X := _) (As := []) (r := []) (b := A 0) (q := 0) 4 (gd rfl) rfl rfl rfl rfl rfl (ww_o rfl) (Nat.le_of_ble_eq_true rfl) (mc := 0) (ms := 0) (Nat.zero_le _) (Nat.zero_le _) (P := fun v u => _) ?_ (fun e u h => h) (fun v u h => h)
  intro po1 xx1 hp1 hx1
  refine g_enter2 (k := 259) (N := 300) (by first | exact dq1 hd rfl | exact dq0 hd rfl | exact dq2 hd rfl | exact dq3 hd rfl | omega) rfl (Nat.le_of_ble_eq_true rfl) ?_
  refine g_aload_n 1 (gd rfl) rfl rfl ?_
  refine g_getI 4 (gd rfl) rfl rfl rfl (fun z1x1 e1x1 => ?_)
  have q1x1 : u_0_2 = z1x1 := (e_0_2).trans e1x1.symm
  subst q1x1
  refine g_iconst (-1) 5 (gd rfl) rfl rfl ?_
  refine g_cmp_ne 8 18 (gd rfl) rfl rfl (fun c1x5 => ?_) (fun c1x5 => ?_)
  · skip
    have i1x5 := r_ne1 0 4000 c1x5 ro_0_2 (in_c (-1) rfl) rfl
    refine g_aload_n 19 (gd rfl) rfl rfl ?_
    refine g_getA (q2 := 32) 22 (gd rfl) rfl rfl rfl rfl ?_
    refine g_areturn (gd rfl) rfl (hp1 _ _ ?_)
    show GG _ _ _ _ _ _ _ _ [.ref (A 32)] _ _ _
    refine g_astore_n 5 (gd rfl) rfl (Nat.le_of_ble_eq_true rfl) ?_
    refine g_aload_n 6 (gd rfl) rfl rfl ?_
    refine g_iload_n 7 (gd rfl) rfl rfl ?_
    refine g_callv (X := _) (As := [.int x1]) (r := []) (b := A 32) (q := 32) 10 (gd rfl) rfl rfl rfl rfl rfl (ww_o rfl) (Nat.le_of_ble_eq_true rfl) (mc := 0) (ms := 0) (Nat.zero_le _) (Nat.zero_le _) (P := fun v u => _) ?_ (fun e u h => h) (fun v u h => h)
    intro po7 xx7 hp7 hx7
    refine g_enter2 (k := 94) (N := 300) (by first | exact dq1 hd rfl | exact dq0 hd rfl | exact dq2 hd rfl | exact dq3 hd rfl | omega) rfl (Nat.le_of_ble_eq_true rfl) ?_
    refine g_iload_n 1 (gd rfl) rfl rfl ?_
    refine g_if_lt 4 16 (gd rfl) rfl rfl (fun c7x1 => ?_) (fun c7x1 => ?_)
    · skip
      have i7x1 := z_lt (-2147483648) (-1) c7x1 (i_rng x1) rfl
      refine g_iconst 0 17 (gd rfl) rfl rfl ?_
      refine g_ireturn (gd rfl) rfl (nb01 (in_w 0 1 (in_c 0 rfl) rfl)) (hp7 _ _ ?_)
      show GG _ _ _ _ _ _ _ _ [.int (Int32.ofInt 0)] _ _ _
      refine g_if_eq 13 27 (gd rfl) rfl rfl (fun c10 => ?_) (fun c10 => ?_)
      · skip
        refine g_iconst 0 28 (gd rfl) rfl rfl ?_
        refine g_thr (E := am_IA) (y := yX11_allow) 31 (gd rfl) rfl rfl (Or.inl ⟨rfl, rfl, rfl⟩) (by first | exact dq1 hd rfl | exact dq0 hd rfl | exact dq2 hd rfl | exact dq3 hd rfl | omega) (Nat.le_of_ble_eq_true rfl) (Nat.le_of_ble_eq_true rfl) (Nat.le_of_ble_eq_true rfl) (fun c28 => ?_) (fun c28 => ?_)
        · skip
          exact zn_ne c28 (in_c 0 rfl) rfl
        · skip
          exact (hX _ _ ⟨rfl, s, hI, fr_rf, rfl⟩)
      · skip
        exact zn_ne c10 (in_c 0 rfl) rfl
    · skip
      have i7x1 := z_ge 0 2147483647 c7x1 (i_rng x1) rfl
      refine g_iload_n 5 (gd rfl) rfl rfl ?_
      refine g_aload_n 6 (gd rfl) rfl rfl ?_
      refine g_getI 9 (gd rfl) rfl rfl rfl (fun z7x6 e7x6 => ?_)
      have q7x6 : u_32_1 = z7x6 := (e_32_1).trans e7x6.symm
      subst q7x6
      refine g_cmp_ge 12 16 (gd rfl) rfl rfl (fun c7x9 => ?_) (fun c7x9 => ?_)
      · skip
        refine g_iconst 0 17 (gd rfl) rfl rfl ?_
        refine g_ireturn (gd rfl) rfl (nb01 (in_w 0 1 (in_c 0 rfl) rfl)) (hp7 _ _ ?_)
        show GG _ _ _ _ _ _ _ _ [.int (Int32.ofInt 0)] _ _ _
        refine g_if_eq 13 27 (gd rfl) rfl rfl (fun c10 => ?_) (fun c10 => ?_)
        · skip
          refine g_iconst 0 28 (gd rfl) rfl rfl ?_
          refine g_thr (E := am_IA) (y := yX11_allow) 31 (gd rfl) rfl rfl (Or.inl ⟨rfl, rfl, rfl⟩) (by first | exact dq1 hd rfl | exact dq0 hd rfl | exact dq2 hd rfl | exact dq3 hd rfl | omega) (Nat.le_of_ble_eq_true rfl) (Nat.le_of_ble_eq_true rfl) (Nat.le_of_ble_eq_true rfl) (fun c28 => ?_) (fun c28 => ?_)
          · skip
            exact zn_ne c28 (in_c 0 rfl) rfl
          · skip
            exact (hX _ _ ⟨rfl, s, hI, fr_rf, rfl⟩)
        · skip
          exact zn_ne c10 (in_c 0 rfl) rfl
      · skip
        have i7x9 := r_lt1 0 31 c7x9 i7x1 ro_32_1 rfl
        have i7x9a := r_lt2 1 32 c7x9 i7x1 ro_32_1 rfl
        refine g_iconst 1 13 (gd rfl) rfl rfl ?_
        refine g_goto 17 (gd rfl) rfl ?_
        refine g_ireturn (gd rfl) rfl (nb01 (in_w 0 1 (in_c 1 rfl) rfl)) (hp7 _ _ ?_)
        show GG _ _ _ _ _ _ _ _ [.int (Int32.ofInt 1)] _ _ _
        refine g_if_eq 13 27 (gd rfl) rfl rfl (fun c10 => ?_) (fun c10 => ?_)
        · skip
          exact zn_eq c10 (in_c 1 rfl) rfl
        · skip
          refine g_iload_n 14 (gd rfl) rfl rfl ?_
          refine g_if_lt 17 27 (gd rfl) rfl rfl (fun c14 => ?_) (fun c14 => ?_)
          · skip
            have i14 := z_lt (-2147483648) (-1) c14 (i_rng x2) rfl
            refine g_iconst 0 28 (gd rfl) rfl rfl ?_
            refine g_thr (E := am_IA) (y := yX11_allow) 31 (gd rfl) rfl rfl (Or.inl ⟨rfl, rfl, rfl⟩) (by first | exact dq1 hd rfl | exact dq0 hd rfl | exact dq2 hd rfl | exact dq3 hd rfl | omega) (Nat.le_of_ble_eq_true rfl) (Nat.le_of_ble_eq_true rfl) (Nat.le_of_ble_eq_true rfl) (fun c28 => ?_) (fun c28 => ?_)
            · skip
              exact zn_ne c28 (in_c 0 rfl) rfl
            · skip
              exact (hX _ _ ⟨rfl, s, hI, fr_rf, rfl⟩)
          · skip
            have i14 := z_ge 0 2147483647 c14 (i_rng x2) rfl
            refine g_iload_n 18 (gd rfl) rfl rfl ?_
            refine g_bipush 40 20 (gd rfl) rfl rfl ?_
            refine g_cmp_gt 23 27 (gd rfl) rfl rfl (fun c20 => ?_) (fun c20 => ?_)
            · skip
              have i20 := r_lt2 41 2147483647 c20 (in_c 40 rfl) i14 rfl
              refine g_iconst 0 28 (gd rfl) rfl rfl ?_
              refine g_thr (E := am_IA) (y := yX11_allow) 31 (gd rfl) rfl rfl (Or.inl ⟨rfl, rfl, rfl⟩) (by first | exact dq1 hd rfl | exact dq0 hd rfl | exact dq2 hd rfl | exact dq3 hd rfl | omega) (Nat.le_of_ble_eq_true rfl) (Nat.le_of_ble_eq_true rfl) (Nat.le_of_ble_eq_true rfl) (fun c28 => ?_) (fun c28 => ?_)
              · skip
                exact zn_ne c28 (in_c 0 rfl) rfl
              · skip
                exact (hX _ _ ⟨rfl, s, hI, fr_rf, rfl⟩)
            · skip
              have i20 := r_le1 0 40 c20 i14 (in_c 40 rfl) rfl
              refine g_iconst 1 24 (gd rfl) rfl rfl ?_
              refine g_goto 28 (gd rfl) rfl ?_
              refine g_thr (E := am_IA) (y := yX11_allow) 31 (gd rfl) rfl rfl (Or.inl ⟨rfl, rfl, rfl⟩) (by first | exact dq1 hd rfl | exact dq0 hd rfl | exact dq2 hd rfl | exact dq3 hd rfl | omega) (Nat.le_of_ble_eq_true rfl) (Nat.le_of_ble_eq_true rfl) (Nat.le_of_ble_eq_true rfl) (fun c28 => ?_) (fun c28 => ?_)
              · skip
                refine g_aload_n 32 (gd rfl) rfl rfl ?_
                refine g_getA (q2 := 86) 35 (gd rfl) rfl rfl rfl rfl ?_
                refine g_aload_n 36 (gd rfl) rfl rfl ?_
                refine g_iload_n 37 (gd rfl) rfl rfl ?_
                refine g_iload_n 38 (gd rfl) rfl rfl ?_
                refine g_callv (X := _) (As := [.ref (A 32), .int x1, .int x2]) (r := []) (b := A 86) (q := 86) 41 (gd rfl) rfl rfl rfl rfl rfl (ww_o rfl) (Nat.le_of_ble_eq_true rfl) (Nat.zero_le _) (Nat.zero_le _) (k_109_86_32 (by first | exact dq1 hd rfl | exact dq0 hd rfl | exact dq2 hd rfl | exact dq3 hd rfl | omega) hI (in_w 0 31 i7x9 rfl) (in_w 0 40 i20 rfl)) (fun e u h => h) (fun v u h => ?_)
                obtain ⟨xa38, ya38, s38, hI38, hF38, z38, rfl, rfl⟩ := h
                show GG _ _ _ _ _ _ _ _ [.long z38] _ _ _
                exact g_lreturn (gd rfl) rfl (hP _ _ ⟨xa38, ya38, s38, hI38, (fr_tr rfl fr_rf hF38), z38, rfl, rfl⟩)
              · skip
                exact zn_eq c28 (in_c 1 rfl) rfl
  · skip
    have i1x5 := r_eq1 (-1) (-1) c1x5 ro_0_2 (in_c (-1) rfl) rfl
    refine g_aload_n 9 (gd rfl) rfl rfl ?_
    refine g_getA (q2 := 1) 12 (gd rfl) rfl rfl rfl rfl ?_
    refine g_getA (q2 := 2) 15 (gd rfl) rfl rfl rfl rfl ?_
    refine g_goto 22 (gd rfl) rfl ?_
    refine g_areturn (gd rfl) rfl (hp1 _ _ ?_)
    show GG _ _ _ _ _ _ _ _ [.ref (A 2)] _ _ _
    refine g_astore_n 5 (gd rfl) rfl (Nat.le_of_ble_eq_true rfl) ?_
    refine g_aload_n 6 (gd rfl) rfl rfl ?_
    refine g_iload_n 7 (gd rfl) rfl rfl ?_
    refine g_callv (X := _) (As := [.int x1]) (r := []) (b := A 2) (q := 2) 10 (gd rfl) rfl rfl rfl rfl rfl (ww_o rfl) (Nat.le_of_ble_eq_true rfl) (mc := 0) (ms := 0) (Nat.zero_le _) (Nat.zero_le _) (P := fun v u => _) ?_ (fun e u h => h) (fun v u h => h)
    intro po7 xx7 hp7 hx7
    refine g_enter2 (k := 94) (N := 300) (by first | exact dq1 hd rfl | exact dq0 hd rfl | exact dq2 hd rfl | exact dq3 hd rfl | omega) rfl (Nat.le_of_ble_eq_true rfl) ?_
    refine g_iload_n 1 (gd rfl) rfl rfl ?_
    refine g_if_lt 4 16 (gd rfl) rfl rfl (fun c7x1 => ?_) (fun c7x1 => ?_)
    · skip
      have i7x1 := z_lt (-2147483648) (-1) c7x1 (i_rng x1) rfl
      refine g_iconst 0 17 (gd rfl) rfl rfl ?_
      refine g_ireturn (gd rfl) rfl (nb01 (in_w 0 1 (in_c 0 rfl) rfl)) (hp7 _ _ ?_)
      show GG _ _ _ _ _ _ _ _ [.int (Int32.ofInt 0)] _ _ _
      refine g_if_eq 13 27 (gd rfl) rfl rfl (fun c10 => ?_) (fun c10 => ?_)
      · skip
        refine g_iconst 0 28 (gd rfl) rfl rfl ?_
        refine g_thr (E := am_IA) (y := yX11_allow) 31 (gd rfl) rfl rfl (Or.inl ⟨rfl, rfl, rfl⟩) (by first | exact dq1 hd rfl | exact dq0 hd rfl | exact dq2 hd rfl | exact dq3 hd rfl | omega) (Nat.le_of_ble_eq_true rfl) (Nat.le_of_ble_eq_true rfl) (Nat.le_of_ble_eq_true rfl) (fun c28 => ?_) (fun c28 => ?_)
        · skip
          exact zn_ne c28 (in_c 0 rfl) rfl
        · skip
          exact (hX _ _ ⟨rfl, s, hI, fr_rf, rfl⟩)
      · skip
        exact zn_ne c10 (in_c 0 rfl) rfl
    · skip
      have i7x1 := z_ge 0 2147483647 c7x1 (i_rng x1) rfl
      refine g_iload_n 5 (gd rfl) rfl rfl ?_
      refine g_aload_n 6 (gd rfl) rfl rfl ?_
      refine g_getI 9 (gd rfl) rfl rfl rfl (fun z7x6 e7x6 => ?_)
      have q7x6 : u_2_1 = z7x6 := (e_2_1).trans e7x6.symm
      subst q7x6
      refine g_cmp_ge 12 16 (gd rfl) rfl rfl (fun c7x9 => ?_) (fun c7x9 => ?_)
      · skip
        refine g_iconst 0 17 (gd rfl) rfl rfl ?_
        refine g_ireturn (gd rfl) rfl (nb01 (in_w 0 1 (in_c 0 rfl) rfl)) (hp7 _ _ ?_)
        show GG _ _ _ _ _ _ _ _ [.int (Int32.ofInt 0)] _ _ _
        refine g_if_eq 13 27 (gd rfl) rfl rfl (fun c10 => ?_) (fun c10 => ?_)
        · skip
          refine g_iconst 0 28 (gd rfl) rfl rfl ?_
          refine g_thr (E := am_IA) (y := yX11_allow) 31 (gd rfl) rfl rfl (Or.inl ⟨rfl, rfl, rfl⟩) (by first | exact dq1 hd rfl | exact dq0 hd rfl | exact dq2 hd rfl | exact dq3 hd rfl | omega) (Nat.le_of_ble_eq_true rfl) (Nat.le_of_ble_eq_true rfl) (Nat.le_of_ble_eq_true rfl) (fun c28 => ?_) (fun c28 => ?_)
          · skip
            exact zn_ne c28 (in_c 0 rfl) rfl
          · skip
            exact (hX _ _ ⟨rfl, s, hI, fr_rf, rfl⟩)
        · skip
          exact zn_ne c10 (in_c 0 rfl) rfl
      · skip
        have i7x9 := r_lt1 0 31 c7x9 i7x1 ro_2_1 rfl
        have i7x9a := r_lt2 1 32 c7x9 i7x1 ro_2_1 rfl
        refine g_iconst 1 13 (gd rfl) rfl rfl ?_
        refine g_goto 17 (gd rfl) rfl ?_
        refine g_ireturn (gd rfl) rfl (nb01 (in_w 0 1 (in_c 1 rfl) rfl)) (hp7 _ _ ?_)
        show GG _ _ _ _ _ _ _ _ [.int (Int32.ofInt 1)] _ _ _
        refine g_if_eq 13 27 (gd rfl) rfl rfl (fun c10 => ?_) (fun c10 => ?_)
        · skip
          exact zn_eq c10 (in_c 1 rfl) rfl
        · skip
          refine g_iload_n 14 (gd rfl) rfl rfl ?_
          refine g_if_lt 17 27 (gd rfl) rfl rfl (fun c14 => ?_) (fun c14 => ?_)
          · skip
            have i14 := z_lt (-2147483648) (-1) c14 (i_rng x2) rfl
            refine g_iconst 0 28 (gd rfl) rfl rfl ?_
            refine g_thr (E := am_IA) (y := yX11_allow) 31 (gd rfl) rfl rfl (Or.inl ⟨rfl, rfl, rfl⟩) (by first | exact dq1 hd rfl | exact dq0 hd rfl | exact dq2 hd rfl | exact dq3 hd rfl | omega) (Nat.le_of_ble_eq_true rfl) (Nat.le_of_ble_eq_true rfl) (Nat.le_of_ble_eq_true rfl) (fun c28 => ?_) (fun c28 => ?_)
            · skip
              exact zn_ne c28 (in_c 0 rfl) rfl
            · skip
              exact (hX _ _ ⟨rfl, s, hI, fr_rf, rfl⟩)
          · skip
            have i14 := z_ge 0 2147483647 c14 (i_rng x2) rfl
            refine g_iload_n 18 (gd rfl) rfl rfl ?_
            refine g_bipush 40 20 (gd rfl) rfl rfl ?_
            refine g_cmp_gt 23 27 (gd rfl) rfl rfl (fun c20 => ?_) (fun c20 => ?_)
            · skip
              have i20 := r_lt2 41 2147483647 c20 (in_c 40 rfl) i14 rfl
              refine g_iconst 0 28 (gd rfl) rfl rfl ?_
              refine g_thr (E := am_IA) (y := yX11_allow) 31 (gd rfl) rfl rfl (Or.inl ⟨rfl, rfl, rfl⟩) (by first | exact dq1 hd rfl | exact dq0 hd rfl | exact dq2 hd rfl | exact dq3 hd rfl | omega) (Nat.le_of_ble_eq_true rfl) (Nat.le_of_ble_eq_true rfl) (Nat.le_of_ble_eq_true rfl) (fun c28 => ?_) (fun c28 => ?_)
              · skip
                exact zn_ne c28 (in_c 0 rfl) rfl
              · skip
                exact (hX _ _ ⟨rfl, s, hI, fr_rf, rfl⟩)
            · skip
              have i20 := r_le1 0 40 c20 i14 (in_c 40 rfl) rfl
              refine g_iconst 1 24 (gd rfl) rfl rfl ?_
              refine g_goto 28 (gd rfl) rfl ?_
              refine g_thr (E := am_IA) (y := yX11_allow) 31 (gd rfl) rfl rfl (Or.inl ⟨rfl, rfl, rfl⟩) (by first | exact dq1 hd rfl | exact dq0 hd rfl | exact dq2 hd rfl | exact dq3 hd rfl | omega) (Nat.le_of_ble_eq_true rfl) (Nat.le_of_ble_eq_true rfl) (Nat.le_of_ble_eq_true rfl) (fun c28 => ?_) (fun c28 => ?_)
              · skip
                refine g_aload_n 32 (gd rfl) rfl rfl ?_
                refine g_getA (q2 := 86) 35 (gd rfl) rfl rfl rfl rfl ?_
                refine g_aload_n 36 (gd rfl) rfl rfl ?_
                refine g_iload_n 37 (gd rfl) rfl rfl ?_
                refine g_iload_n 38 (gd rfl) rfl rfl ?_
                refine g_callv (X := _) (As := [.ref (A 2), .int x1, .int x2]) (r := []) (b := A 86) (q := 86) 41 (gd rfl) rfl rfl rfl rfl rfl (ww_o rfl) (Nat.le_of_ble_eq_true rfl) (Nat.zero_le _) (Nat.zero_le _) (k_109_86_2 (by first | exact dq1 hd rfl | exact dq0 hd rfl | exact dq2 hd rfl | exact dq3 hd rfl | omega) hI (in_w 0 31 i7x9 rfl) (in_w 0 40 i20 rfl)) (fun e u h => h) (fun v u h => ?_)
                obtain ⟨xa38, ya38, s38, hI38, hF38, z38, rfl, rfl⟩ := h
                show GG _ _ _ _ _ _ _ _ [.long z38] _ _ _
                exact g_lreturn (gd rfl) rfl (hP _ _ ⟨xa38, ya38, s38, hI38, (fr_tr rfl fr_rf hF38), z38, rfl, rfl⟩)
              · skip
                exact zn_eq c28 (in_c 1 rfl) rfl

def fm_249_0 : FM := ([9, 10, 11, 12, 13, 14, 15, 39, 40, 41, 42, 43, 44, 45, 52, 54], [53], [(2, 4), (32, 4)], [])
/-- GraphHouse.shortest -/
theorem k_249_0 {Z : AmZ} {A : Nat → Nat} {s : GS} {ex : va_W} {d : Nat} {x1 : Int32} {x2 : Int32} {x3 : Int32} {x4 : Int32} (hd : 7 ≤ d) (hI : Inv s)  : GC Z d 249 [.ref (A 0), .int x1, .int x2, .int x3, .int x4] (WW Z A s ++ ex) 3 18 (fun v u => ∃ t : GS, Inv t ∧ Fr fm_249_0 s t ∧ ∃ z : Int32, v = some (.int z) ∧ u = WW Z A t ++ ex ∧ In z (-2147483648) 2147483647) (gE1 Z A ex fm_249_0 s) := by
  intro post xp hP hX
  obtain ⟨u_0_2, e_0_2⟩ : ∃ w, w = s.2.2.1 0 2 := ⟨_, rfl⟩
  have ro_0_2 := inv_F hI (-1) 4000 rfl e_0_2
  obtain ⟨u_2_1, e_2_1⟩ : ∃ w, w = s.2.2.1 2 1 := ⟨_, rfl⟩
  have ro_2_1 := inv_F hI 0 32 rfl e_2_1
  obtain ⟨u_32_1, e_32_1⟩ : ∃ w, w = s.2.2.1 32 1 := ⟨_, rfl⟩
  have ro_32_1 := inv_F hI 0 32 rfl e_32_1
  have ct47 : ∀ (sc47 : GS) , Inv sc47 → Fr fm_249_0 s sc47 → GG Z (d - 1) 249 post (gx xp) (901) 47 (fun j => xlook j [(0, .ref (A 0)), (1, .int x1), (2, .int x2), (3, .int x3), (4, .int x4)]) [] (WW Z A sc47 ++ ex) 3 18 := by
    intro sc47  hIc47 hFc47 
    refine g_iconst 0 48 (gd rfl) rfl rfl ?_
    refine g_thr (E := am_IA) (y := yX11_allow) 51 (gd rfl) rfl rfl (Or.inl ⟨rfl, rfl, rfl⟩) (by first | exact dq1 hd rfl | exact dq0 hd rfl | exact dq2 hd rfl | exact dq3 hd rfl | omega) (Nat.le_of_ble_eq_true rfl) (Nat.le_of_ble_eq_true rfl) (Nat.le_of_ble_eq_true rfl) (fun c48 => ?_) (fun c48 => ?_)
    · skip
      exact zn_ne c48 (in_c 0 rfl) rfl
    · skip
      exact (hX _ _ ⟨rfl, sc47, hIc47, hFc47, rfl⟩)
  refine g_enter2 (k := 249) (N := 1801) (by first | exact dq1 hd rfl | exact dq0 hd rfl | exact dq2 hd rfl | exact dq3 hd rfl | omega) rfl (Nat.le_of_ble_eq_true rfl) ?_
  refine g_aload_n 1 (gd rfl) rfl rfl ?_
  refine g_callv (X := _) (As := []) (r := []) (b := A 0) (q := 0) 4 (gd rfl) rfl rfl rfl rfl rfl (ww_o rfl) (Nat.le_of_ble_eq_true rfl) (mc := 0) (ms := 0) (Nat.zero_le _) (Nat.zero_le _) (P := fun v u => _) ?_ (fun e u h => h) (fun v u h => h)
  intro po1 xx1 hp1 hx1
  refine g_enter2 (k := 259) (N := 300) (by first | exact dq1 hd rfl | exact dq0 hd rfl | exact dq2 hd rfl | exact dq3 hd rfl | omega) rfl (Nat.le_of_ble_eq_true rfl) ?_
  refine g_aload_n 1 (gd rfl) rfl rfl ?_
  refine g_getI 4 (gd rfl) rfl rfl rfl (fun z1x1 e1x1 => ?_)
  have q1x1 : u_0_2 = z1x1 := (e_0_2).trans e1x1.symm
  subst q1x1
  refine g_iconst (-1) 5 (gd rfl) rfl rfl ?_
  refine g_cmp_ne 8 18 (gd rfl) rfl rfl (fun c1x5 => ?_) (fun c1x5 => ?_)
  · skip
    have i1x5 := r_ne1 0 4000 c1x5 ro_0_2 (in_c (-1) rfl) rfl
    refine g_aload_n 19 (gd rfl) rfl rfl ?_
    refine g_getA (q2 := 32) 22 (gd rfl) rfl rfl rfl rfl ?_
    refine g_areturn (gd rfl) rfl (hp1 _ _ ?_)
    show GG _ _ _ _ _ _ _ _ [.ref (A 32)] _ _ _
    refine g_astore 6 (gd rfl) rfl (Nat.le_of_ble_eq_true rfl) ?_
    refine g_aload 8 (gd rfl) rfl rfl ?_
    refine g_iload_n 9 (gd rfl) rfl rfl ?_
    refine g_callv (X := _) (As := [.int x1]) (r := []) (b := A 32) (q := 32) 12 (gd rfl) rfl rfl rfl rfl rfl (ww_o rfl) (Nat.le_of_ble_eq_true rfl) (mc := 0) (ms := 0) (Nat.zero_le _) (Nat.zero_le _) (P := fun v u => _) ?_ (fun e u h => h) (fun v u h => h)
    intro po9 xx9 hp9 hx9
    refine g_enter2 (k := 94) (N := 300) (by first | exact dq1 hd rfl | exact dq0 hd rfl | exact dq2 hd rfl | exact dq3 hd rfl | omega) rfl (Nat.le_of_ble_eq_true rfl) ?_
    refine g_iload_n 1 (gd rfl) rfl rfl ?_
    refine g_if_lt 4 16 (gd rfl) rfl rfl (fun c9x1 => ?_) (fun c9x1 => ?_)
    · skip
      have i9x1 := z_lt (-2147483648) (-1) c9x1 (i_rng x1) rfl
      refine g_iconst 0 17 (gd rfl) rfl rfl ?_
      refine g_ireturn (gd rfl) rfl (nb01 (in_w 0 1 (in_c 0 rfl) rfl)) (hp9 _ _ ?_)
      show GG _ _ _ _ _ _ _ _ [.int (Int32.ofInt 0)] _ _ _
      refine g_if_eq 15 47 (gd rfl) rfl rfl (fun c12 => ?_) (fun c12 => ?_)
      · skip
        exact gg_w (by first | exact Nat.le_of_ble_eq_true rfl | omega) (gg_f (gf_cons rfl (gf_cons rfl (gf_cons rfl (gf_cons rfl (gf_cons rfl gf_nil))))) (ct47 s  hI fr_rf ))
      · skip
        exact zn_ne c12 (in_c 0 rfl) rfl
    · skip
      have i9x1 := z_ge 0 2147483647 c9x1 (i_rng x1) rfl
      refine g_iload_n 5 (gd rfl) rfl rfl ?_
      refine g_aload_n 6 (gd rfl) rfl rfl ?_
      refine g_getI 9 (gd rfl) rfl rfl rfl (fun z9x6 e9x6 => ?_)
      have q9x6 : u_32_1 = z9x6 := (e_32_1).trans e9x6.symm
      subst q9x6
      refine g_cmp_ge 12 16 (gd rfl) rfl rfl (fun c9x9 => ?_) (fun c9x9 => ?_)
      · skip
        refine g_iconst 0 17 (gd rfl) rfl rfl ?_
        refine g_ireturn (gd rfl) rfl (nb01 (in_w 0 1 (in_c 0 rfl) rfl)) (hp9 _ _ ?_)
        show GG _ _ _ _ _ _ _ _ [.int (Int32.ofInt 0)] _ _ _
        refine g_if_eq 15 47 (gd rfl) rfl rfl (fun c12 => ?_) (fun c12 => ?_)
        · skip
          exact gg_w (by first | exact Nat.le_of_ble_eq_true rfl | omega) (gg_f (gf_cons rfl (gf_cons rfl (gf_cons rfl (gf_cons rfl (gf_cons rfl gf_nil))))) (ct47 s  hI fr_rf ))
        · skip
          exact zn_ne c12 (in_c 0 rfl) rfl
      · skip
        have i9x9 := r_lt1 0 31 c9x9 i9x1 ro_32_1 rfl
        have i9x9a := r_lt2 1 32 c9x9 i9x1 ro_32_1 rfl
        refine g_iconst 1 13 (gd rfl) rfl rfl ?_
        refine g_goto 17 (gd rfl) rfl ?_
        refine g_ireturn (gd rfl) rfl (nb01 (in_w 0 1 (in_c 1 rfl) rfl)) (hp9 _ _ ?_)
        show GG _ _ _ _ _ _ _ _ [.int (Int32.ofInt 1)] _ _ _
        refine g_if_eq 15 47 (gd rfl) rfl rfl (fun c12 => ?_) (fun c12 => ?_)
        · skip
          exact zn_eq c12 (in_c 1 rfl) rfl
        · skip
          refine g_aload 17 (gd rfl) rfl rfl ?_
          refine g_iload_n 18 (gd rfl) rfl rfl ?_
          refine g_callv (X := _) (As := [.int x2]) (r := []) (b := A 32) (q := 32) 21 (gd rfl) rfl rfl rfl rfl rfl (ww_o rfl) (Nat.le_of_ble_eq_true rfl) (mc := 0) (ms := 0) (Nat.zero_le _) (Nat.zero_le _) (P := fun v u => _) ?_ (fun e u h => h) (fun v u h => h)
          intro po18 xx18 hp18 hx18
          refine g_enter2 (k := 94) (N := 300) (by first | exact dq1 hd rfl | exact dq0 hd rfl | exact dq2 hd rfl | exact dq3 hd rfl | omega) rfl (Nat.le_of_ble_eq_true rfl) ?_
          refine g_iload_n 1 (gd rfl) rfl rfl ?_
          refine g_if_lt 4 16 (gd rfl) rfl rfl (fun c18x1 => ?_) (fun c18x1 => ?_)
          · skip
            have i18x1 := z_lt (-2147483648) (-1) c18x1 (i_rng x2) rfl
            refine g_iconst 0 17 (gd rfl) rfl rfl ?_
            refine g_ireturn (gd rfl) rfl (nb01 (in_w 0 1 (in_c 0 rfl) rfl)) (hp18 _ _ ?_)
            show GG _ _ _ _ _ _ _ _ [.int (Int32.ofInt 0)] _ _ _
            refine g_if_eq 24 47 (gd rfl) rfl rfl (fun c21 => ?_) (fun c21 => ?_)
            · skip
              exact gg_w (by first | exact Nat.le_of_ble_eq_true rfl | omega) (gg_f (gf_cons rfl (gf_cons rfl (gf_cons rfl (gf_cons rfl (gf_cons rfl gf_nil))))) (ct47 s  hI fr_rf ))
            · skip
              exact zn_ne c21 (in_c 0 rfl) rfl
          · skip
            have i18x1 := z_ge 0 2147483647 c18x1 (i_rng x2) rfl
            refine g_iload_n 5 (gd rfl) rfl rfl ?_
            refine g_aload_n 6 (gd rfl) rfl rfl ?_
            refine g_getI 9 (gd rfl) rfl rfl rfl (fun z18x6 e18x6 => ?_)
            have q18x6 : u_32_1 = z18x6 := (e_32_1).trans e18x6.symm
            subst q18x6
            refine g_cmp_ge 12 16 (gd rfl) rfl rfl (fun c18x9 => ?_) (fun c18x9 => ?_)
            · skip
              have i18x9 := r_le2 1 2147483647 c18x9 i9x9a i18x1 rfl
              refine g_iconst 0 17 (gd rfl) rfl rfl ?_
              refine g_ireturn (gd rfl) rfl (nb01 (in_w 0 1 (in_c 0 rfl) rfl)) (hp18 _ _ ?_)
              show GG _ _ _ _ _ _ _ _ [.int (Int32.ofInt 0)] _ _ _
              refine g_if_eq 24 47 (gd rfl) rfl rfl (fun c21 => ?_) (fun c21 => ?_)
              · skip
                exact gg_w (by first | exact Nat.le_of_ble_eq_true rfl | omega) (gg_f (gf_cons rfl (gf_cons rfl (gf_cons rfl (gf_cons rfl (gf_cons rfl gf_nil))))) (ct47 s  hI fr_rf ))
              · skip
                exact zn_ne c21 (in_c 0 rfl) rfl
            · skip
              have i18x9 := r_lt1 0 31 c18x9 i18x1 i9x9a rfl
              refine g_iconst 1 13 (gd rfl) rfl rfl ?_
              refine g_goto 17 (gd rfl) rfl ?_
              refine g_ireturn (gd rfl) rfl (nb01 (in_w 0 1 (in_c 1 rfl) rfl)) (hp18 _ _ ?_)
              show GG _ _ _ _ _ _ _ _ [.int (Int32.ofInt 1)] _ _ _
              refine g_if_eq 24 47 (gd rfl) rfl rfl (fun c21 => ?_) (fun c21 => ?_)
              · skip
                exact zn_eq c21 (in_c 1 rfl) rfl
              · skip
                refine g_iload_n 25 (gd rfl) rfl rfl ?_
                refine g_if_lt 28 47 (gd rfl) rfl rfl (fun c25 => ?_) (fun c25 => ?_)
                · skip
                  have i25 := z_lt (-2147483648) (-1) c25 (i_rng x3) rfl
                  exact gg_w (by first | exact Nat.le_of_ble_eq_true rfl | omega) (gg_f (gf_cons rfl (gf_cons rfl (gf_cons rfl (gf_cons rfl (gf_cons rfl gf_nil))))) (ct47 s  hI fr_rf ))
                · skip
                  have i25 := z_ge 0 2147483647 c25 (i_rng x3) rfl
                  refine g_iload_n 29 (gd rfl) rfl rfl ?_
                  refine g_iconst 2 30 (gd rfl) rfl rfl ?_
                  refine g_cmp_gt 33 47 (gd rfl) rfl rfl (fun c30 => ?_) (fun c30 => ?_)
                  · skip
                    have i30 := r_lt2 3 2147483647 c30 (in_c 2 rfl) i25 rfl
                    exact gg_w (by first | exact Nat.le_of_ble_eq_true rfl | omega) (gg_f (gf_cons rfl (gf_cons rfl (gf_cons rfl (gf_cons rfl (gf_cons rfl gf_nil))))) (ct47 s  hI fr_rf ))
                  · skip
                    have i30 := r_le1 0 2 c30 i25 (in_c 2 rfl) rfl
                    refine g_aload 35 (gd rfl) rfl rfl ?_
                    refine g_iload 37 (gd rfl) rfl rfl ?_
                    refine g_callv (X := _) (As := [.int x4]) (r := []) (b := A 32) (q := 32) 40 (gd rfl) rfl rfl rfl rfl rfl (ww_o rfl) (Nat.le_of_ble_eq_true rfl) (mc := 0) (ms := 0) (Nat.zero_le _) (Nat.zero_le _) (P := fun v u => _) ?_ (fun e u h => h) (fun v u h => h)
                    intro po37 xx37 hp37 hx37
                    refine g_enter2 (k := 94) (N := 300) (by first | exact dq1 hd rfl | exact dq0 hd rfl | exact dq2 hd rfl | exact dq3 hd rfl | omega) rfl (Nat.le_of_ble_eq_true rfl) ?_
                    refine g_iload_n 1 (gd rfl) rfl rfl ?_
                    refine g_if_lt 4 16 (gd rfl) rfl rfl (fun c37x1 => ?_) (fun c37x1 => ?_)
                    · skip
                      have i37x1 := z_lt (-2147483648) (-1) c37x1 (i_rng x4) rfl
                      refine g_iconst 0 17 (gd rfl) rfl rfl ?_
                      refine g_ireturn (gd rfl) rfl (nb01 (in_w 0 1 (in_c 0 rfl) rfl)) (hp37 _ _ ?_)
                      show GG _ _ _ _ _ _ _ _ [.int (Int32.ofInt 0)] _ _ _
                      refine g_if_eq 43 47 (gd rfl) rfl rfl (fun c40 => ?_) (fun c40 => ?_)
                      · skip
                        exact gg_w (by first | exact Nat.le_of_ble_eq_true rfl | omega) (gg_f (gf_cons rfl (gf_cons rfl (gf_cons rfl (gf_cons rfl (gf_cons rfl gf_nil))))) (ct47 s  hI fr_rf ))
                      · skip
                        exact zn_ne c40 (in_c 0 rfl) rfl
                    · skip
                      have i37x1 := z_ge 0 2147483647 c37x1 (i_rng x4) rfl
                      refine g_iload_n 5 (gd rfl) rfl rfl ?_
                      refine g_aload_n 6 (gd rfl) rfl rfl ?_
                      refine g_getI 9 (gd rfl) rfl rfl rfl (fun z37x6 e37x6 => ?_)
                      have q37x6 : u_32_1 = z37x6 := (e_32_1).trans e37x6.symm
                      subst q37x6
                      refine g_cmp_ge 12 16 (gd rfl) rfl rfl (fun c37x9 => ?_) (fun c37x9 => ?_)
                      · skip
                        have i37x9 := r_le2 1 2147483647 c37x9 i9x9a i37x1 rfl
                        refine g_iconst 0 17 (gd rfl) rfl rfl ?_
                        refine g_ireturn (gd rfl) rfl (nb01 (in_w 0 1 (in_c 0 rfl) rfl)) (hp37 _ _ ?_)
                        show GG _ _ _ _ _ _ _ _ [.int (Int32.ofInt 0)] _ _ _
                        refine g_if_eq 43 47 (gd rfl) rfl rfl (fun c40 => ?_) (fun c40 => ?_)
                        · skip
                          exact gg_w (by first | exact Nat.le_of_ble_eq_true rfl | omega) (gg_f (gf_cons rfl (gf_cons rfl (gf_cons rfl (gf_cons rfl (gf_cons rfl gf_nil))))) (ct47 s  hI fr_rf ))
                        · skip
                          exact zn_ne c40 (in_c 0 rfl) rfl
                      · skip
                        have i37x9 := r_lt1 0 31 c37x9 i37x1 i9x9a rfl
                        refine g_iconst 1 13 (gd rfl) rfl rfl ?_
                        refine g_goto 17 (gd rfl) rfl ?_
                        refine g_ireturn (gd rfl) rfl (nb01 (in_w 0 1 (in_c 1 rfl) rfl)) (hp37 _ _ ?_)
                        show GG _ _ _ _ _ _ _ _ [.int (Int32.ofInt 1)] _ _ _
                        refine g_if_eq 43 47 (gd rfl) rfl rfl (fun c40 => ?_) (fun c40 => ?_)
                        · skip
                          exact zn_eq c40 (in_c 1 rfl) rfl
                        · skip
                          refine g_iconst 1 44 (gd rfl) rfl rfl ?_
                          refine g_goto 48 (gd rfl) rfl ?_
                          refine g_thr (E := am_IA) (y := yX11_allow) 51 (gd rfl) rfl rfl (Or.inl ⟨rfl, rfl, rfl⟩) (by first | exact dq1 hd rfl | exact dq0 hd rfl | exact dq2 hd rfl | exact dq3 hd rfl | omega) (Nat.le_of_ble_eq_true rfl) (Nat.le_of_ble_eq_true rfl) (Nat.le_of_ble_eq_true rfl) (fun c48 => ?_) (fun c48 => ?_)
                          · skip
                            refine g_iload_n 52 (gd rfl) rfl rfl ?_
                            refine g_if_ne 55 67 (gd rfl) rfl rfl (fun c52 => ?_) (fun c52 => ?_)
                            · skip
                              have i52 := z_ne 1 2 c52 i30 rfl
                              refine g_iload_n 68 (gd rfl) rfl rfl ?_
                              refine g_iconst 1 69 (gd rfl) rfl rfl ?_
                              refine g_cmp_ne 72 87 (gd rfl) rfl rfl (fun c69 => ?_) (fun c69 => ?_)
                              · skip
                                have i69 := r_ne1 2 2 c69 i52 (in_c 1 rfl) rfl
                                refine g_aload_n 88 (gd rfl) rfl rfl ?_
                                refine g_getA (q2 := 49) 91 (gd rfl) rfl rfl rfl rfl ?_
                                refine g_aload 93 (gd rfl) rfl rfl ?_
                                refine g_iload_n 94 (gd rfl) rfl rfl ?_
                                refine g_iload_n 95 (gd rfl) rfl rfl ?_
                                refine g_iload 97 (gd rfl) rfl rfl ?_
                                refine g_callv (X := _) (As := [.ref (A 32), .int x1, .int x2, .int x4]) (r := []) (b := A 49) (q := 49) 100 (gd rfl) rfl rfl rfl rfl rfl (ww_o rfl) (Nat.le_of_ble_eq_true rfl) (Nat.zero_le _) (Nat.zero_le _) (k_203_49_32 (by first | exact dq1 hd rfl | exact dq0 hd rfl | exact dq2 hd rfl | exact dq3 hd rfl | omega) hI (in_w 0 31 i9x9 rfl) (in_w 0 31 i18x9 rfl) (in_w 0 31 i37x9 rfl)) (fun e u h => h) (fun v u h => ?_)
                                obtain ⟨s97, hI97, hF97, z97, rfl, rfl, i97⟩ := h
                                show GG _ _ _ _ _ _ _ _ [.int z97] _ _ _
                                exact g_ireturn (gd rfl) rfl rfl (hP _ _ ⟨s97, hI97, (fr_tr rfl fr_rf hF97), z97, rfl, rfl, in_w (-2147483648) 2147483647 i97 rfl⟩)
                              · skip
                                have i69 := r_eq1 1 1 c69 i52 (in_c 1 rfl) rfl
                                refine g_aload_n 73 (gd rfl) rfl rfl ?_
                                refine g_getA (q2 := 49) 76 (gd rfl) rfl rfl rfl rfl ?_
                                refine g_aload 78 (gd rfl) rfl rfl ?_
                                refine g_iload_n 79 (gd rfl) rfl rfl ?_
                                refine g_iload_n 80 (gd rfl) rfl rfl ?_
                                refine g_iload_n 81 (gd rfl) rfl rfl ?_
                                refine g_callv (X := _) (As := [.ref (A 32), .int x1, .int x2, .int x1]) (r := []) (b := A 49) (q := 49) 84 (gd rfl) rfl rfl rfl rfl rfl (ww_o rfl) (Nat.le_of_ble_eq_true rfl) (Nat.zero_le _) (Nat.zero_le _) (k_203_49_32 (by first | exact dq1 hd rfl | exact dq0 hd rfl | exact dq2 hd rfl | exact dq3 hd rfl | omega) hI (in_w 0 31 i9x9 rfl) (in_w 0 31 i18x9 rfl) (in_w 0 31 i9x9 rfl)) (fun e u h => h) (fun v u h => ?_)
                                obtain ⟨s81, hI81, hF81, z81, rfl, rfl, i81⟩ := h
                                show GG _ _ _ _ _ _ _ _ [.int z81] _ _ _
                                refine g_goto 100 (gd rfl) rfl ?_
                                exact g_ireturn (gd rfl) rfl rfl (hP _ _ ⟨s81, hI81, (fr_tr rfl fr_rf hF81), z81, rfl, rfl, in_w (-2147483648) 2147483647 i81 rfl⟩)
                            · skip
                              have i52 := z_eq 0 0 c52 i30 rfl
                              refine g_aload_n 56 (gd rfl) rfl rfl ?_
                              refine g_getA (q2 := 49) 59 (gd rfl) rfl rfl rfl rfl ?_
                              refine g_aload 61 (gd rfl) rfl rfl ?_
                              refine g_iload_n 62 (gd rfl) rfl rfl ?_
                              refine g_iload_n 63 (gd rfl) rfl rfl ?_
                              refine g_callv (X := _) (As := [.ref (A 32), .int x1, .int x2]) (r := []) (b := A 49) (q := 49) 66 (gd rfl) rfl rfl rfl rfl rfl (ww_o rfl) (Nat.le_of_ble_eq_true rfl) (mc := 0) (ms := 0) (Nat.zero_le _) (Nat.zero_le _) (P := fun v u => _) ?_ (fun e u h => h) (fun v u h => h)
                              intro po63 xx63 hp63 hx63
                              refine g_enter2 (k := 202) (N := 300) (by first | exact dq1 hd rfl | exact dq0 hd rfl | exact dq2 hd rfl | exact dq3 hd rfl | omega) rfl (Nat.le_of_ble_eq_true rfl) ?_
                              refine g_aload_n 1 (gd rfl) rfl rfl ?_
                              refine g_aload_n 2 (gd rfl) rfl rfl ?_
                              refine g_iload_n 3 (gd rfl) rfl rfl ?_
                              refine g_callv (X := _) (As := [.ref (A 32), .int x1]) (r := []) (b := A 49) (q := 49) 6 (gd rfl) rfl rfl rfl rfl rfl (ww_o rfl) (Nat.le_of_ble_eq_true rfl) (Nat.zero_le _) (Nat.zero_le _) (k_204_49_32 (by first | exact dq1 hd rfl | exact dq0 hd rfl | exact dq2 hd rfl | exact dq3 hd rfl | omega) hI (in_w 0 31 i9x9 rfl)) (fun e u h => h) (fun v u h => ?_)
                              obtain ⟨s63x3, hI63x3, hF63x3, rfl, rfl⟩ := h
                              show GG _ _ _ _ _ _ _ _ [] _ _ _
                              refine g_aload_n 7 (gd rfl) rfl rfl ?_
                              refine g_getA (q2 := 52) 10 (gd rfl) rfl rfl rfl rfl ?_
                              refine g_iload_n 11 (gd rfl) rfl rfl ?_
                              refine g_iaload 12 (gd rfl) rfl (n := 32) rfl (in_ix i18x9 rfl) (fun z63x11 e63x11 => ?_)
                              refine g_ireturn (gd rfl) rfl rfl (hp63 _ _ ?_)
                              show GG _ _ _ _ _ _ _ _ [.int z63x11] _ _ _
                              exact g_ireturn (gd rfl) rfl rfl (hP _ _ ⟨s63x3, hI63x3, (fr_tr rfl fr_rf hF63x3), z63x11, rfl, rfl, in_w (-2147483648) 2147483647 (i_rng z63x11) rfl⟩)
                          · skip
                            exact zn_eq c48 (in_c 1 rfl) rfl
  · skip
    have i1x5 := r_eq1 (-1) (-1) c1x5 ro_0_2 (in_c (-1) rfl) rfl
    refine g_aload_n 9 (gd rfl) rfl rfl ?_
    refine g_getA (q2 := 1) 12 (gd rfl) rfl rfl rfl rfl ?_
    refine g_getA (q2 := 2) 15 (gd rfl) rfl rfl rfl rfl ?_
    refine g_goto 22 (gd rfl) rfl ?_
    refine g_areturn (gd rfl) rfl (hp1 _ _ ?_)
    show GG _ _ _ _ _ _ _ _ [.ref (A 2)] _ _ _
    refine g_astore 6 (gd rfl) rfl (Nat.le_of_ble_eq_true rfl) ?_
    refine g_aload 8 (gd rfl) rfl rfl ?_
    refine g_iload_n 9 (gd rfl) rfl rfl ?_
    refine g_callv (X := _) (As := [.int x1]) (r := []) (b := A 2) (q := 2) 12 (gd rfl) rfl rfl rfl rfl rfl (ww_o rfl) (Nat.le_of_ble_eq_true rfl) (mc := 0) (ms := 0) (Nat.zero_le _) (Nat.zero_le _) (P := fun v u => _) ?_ (fun e u h => h) (fun v u h => h)
    intro po9 xx9 hp9 hx9
    refine g_enter2 (k := 94) (N := 300) (by first | exact dq1 hd rfl | exact dq0 hd rfl | exact dq2 hd rfl | exact dq3 hd rfl | omega) rfl (Nat.le_of_ble_eq_true rfl) ?_
    refine g_iload_n 1 (gd rfl) rfl rfl ?_
    refine g_if_lt 4 16 (gd rfl) rfl rfl (fun c9x1 => ?_) (fun c9x1 => ?_)
    · skip
      have i9x1 := z_lt (-2147483648) (-1) c9x1 (i_rng x1) rfl
      refine g_iconst 0 17 (gd rfl) rfl rfl ?_
      refine g_ireturn (gd rfl) rfl (nb01 (in_w 0 1 (in_c 0 rfl) rfl)) (hp9 _ _ ?_)
      show GG _ _ _ _ _ _ _ _ [.int (Int32.ofInt 0)] _ _ _
      refine g_if_eq 15 47 (gd rfl) rfl rfl (fun c12 => ?_) (fun c12 => ?_)
      · skip
        exact gg_w (by first | exact Nat.le_of_ble_eq_true rfl | omega) (gg_f (gf_cons rfl (gf_cons rfl (gf_cons rfl (gf_cons rfl (gf_cons rfl gf_nil))))) (ct47 s  hI fr_rf ))
      · skip
        exact zn_ne c12 (in_c 0 rfl) rfl
    · skip
      have i9x1 := z_ge 0 2147483647 c9x1 (i_rng x1) rfl
      refine g_iload_n 5 (gd rfl) rfl rfl ?_
      refine g_aload_n 6 (gd rfl) rfl rfl ?_
      refine g_getI 9 (gd rfl) rfl rfl rfl (fun z9x6 e9x6 => ?_)
      have q9x6 : u_2_1 = z9x6 := (e_2_1).trans e9x6.symm
      subst q9x6
      refine g_cmp_ge 12 16 (gd rfl) rfl rfl (fun c9x9 => ?_) (fun c9x9 => ?_)
      · skip
        refine g_iconst 0 17 (gd rfl) rfl rfl ?_
        refine g_ireturn (gd rfl) rfl (nb01 (in_w 0 1 (in_c 0 rfl) rfl)) (hp9 _ _ ?_)
        show GG _ _ _ _ _ _ _ _ [.int (Int32.ofInt 0)] _ _ _
        refine g_if_eq 15 47 (gd rfl) rfl rfl (fun c12 => ?_) (fun c12 => ?_)
        · skip
          exact gg_w (by first | exact Nat.le_of_ble_eq_true rfl | omega) (gg_f (gf_cons rfl (gf_cons rfl (gf_cons rfl (gf_cons rfl (gf_cons rfl gf_nil))))) (ct47 s  hI fr_rf ))
        · skip
          exact zn_ne c12 (in_c 0 rfl) rfl
      · skip
        have i9x9 := r_lt1 0 31 c9x9 i9x1 ro_2_1 rfl
        have i9x9a := r_lt2 1 32 c9x9 i9x1 ro_2_1 rfl
        refine g_iconst 1 13 (gd rfl) rfl rfl ?_
        refine g_goto 17 (gd rfl) rfl ?_
        refine g_ireturn (gd rfl) rfl (nb01 (in_w 0 1 (in_c 1 rfl) rfl)) (hp9 _ _ ?_)
        show GG _ _ _ _ _ _ _ _ [.int (Int32.ofInt 1)] _ _ _
        refine g_if_eq 15 47 (gd rfl) rfl rfl (fun c12 => ?_) (fun c12 => ?_)
        · skip
          exact zn_eq c12 (in_c 1 rfl) rfl
        · skip
          refine g_aload 17 (gd rfl) rfl rfl ?_
          refine g_iload_n 18 (gd rfl) rfl rfl ?_
          refine g_callv (X := _) (As := [.int x2]) (r := []) (b := A 2) (q := 2) 21 (gd rfl) rfl rfl rfl rfl rfl (ww_o rfl) (Nat.le_of_ble_eq_true rfl) (mc := 0) (ms := 0) (Nat.zero_le _) (Nat.zero_le _) (P := fun v u => _) ?_ (fun e u h => h) (fun v u h => h)
          intro po18 xx18 hp18 hx18
          refine g_enter2 (k := 94) (N := 300) (by first | exact dq1 hd rfl | exact dq0 hd rfl | exact dq2 hd rfl | exact dq3 hd rfl | omega) rfl (Nat.le_of_ble_eq_true rfl) ?_
          refine g_iload_n 1 (gd rfl) rfl rfl ?_
          refine g_if_lt 4 16 (gd rfl) rfl rfl (fun c18x1 => ?_) (fun c18x1 => ?_)
          · skip
            have i18x1 := z_lt (-2147483648) (-1) c18x1 (i_rng x2) rfl
            refine g_iconst 0 17 (gd rfl) rfl rfl ?_
            refine g_ireturn (gd rfl) rfl (nb01 (in_w 0 1 (in_c 0 rfl) rfl)) (hp18 _ _ ?_)
            show GG _ _ _ _ _ _ _ _ [.int (Int32.ofInt 0)] _ _ _
            refine g_if_eq 24 47 (gd rfl) rfl rfl (fun c21 => ?_) (fun c21 => ?_)
            · skip
              exact gg_w (by first | exact Nat.le_of_ble_eq_true rfl | omega) (gg_f (gf_cons rfl (gf_cons rfl (gf_cons rfl (gf_cons rfl (gf_cons rfl gf_nil))))) (ct47 s  hI fr_rf ))
            · skip
              exact zn_ne c21 (in_c 0 rfl) rfl
          · skip
            have i18x1 := z_ge 0 2147483647 c18x1 (i_rng x2) rfl
            refine g_iload_n 5 (gd rfl) rfl rfl ?_
            refine g_aload_n 6 (gd rfl) rfl rfl ?_
            refine g_getI 9 (gd rfl) rfl rfl rfl (fun z18x6 e18x6 => ?_)
            have q18x6 : u_2_1 = z18x6 := (e_2_1).trans e18x6.symm
            subst q18x6
            refine g_cmp_ge 12 16 (gd rfl) rfl rfl (fun c18x9 => ?_) (fun c18x9 => ?_)
            · skip
              have i18x9 := r_le2 1 2147483647 c18x9 i9x9a i18x1 rfl
              refine g_iconst 0 17 (gd rfl) rfl rfl ?_
              refine g_ireturn (gd rfl) rfl (nb01 (in_w 0 1 (in_c 0 rfl) rfl)) (hp18 _ _ ?_)
              show GG _ _ _ _ _ _ _ _ [.int (Int32.ofInt 0)] _ _ _
              refine g_if_eq 24 47 (gd rfl) rfl rfl (fun c21 => ?_) (fun c21 => ?_)
              · skip
                exact gg_w (by first | exact Nat.le_of_ble_eq_true rfl | omega) (gg_f (gf_cons rfl (gf_cons rfl (gf_cons rfl (gf_cons rfl (gf_cons rfl gf_nil))))) (ct47 s  hI fr_rf ))
              · skip
                exact zn_ne c21 (in_c 0 rfl) rfl
            · skip
              have i18x9 := r_lt1 0 31 c18x9 i18x1 i9x9a rfl
              refine g_iconst 1 13 (gd rfl) rfl rfl ?_
              refine g_goto 17 (gd rfl) rfl ?_
              refine g_ireturn (gd rfl) rfl (nb01 (in_w 0 1 (in_c 1 rfl) rfl)) (hp18 _ _ ?_)
              show GG _ _ _ _ _ _ _ _ [.int (Int32.ofInt 1)] _ _ _
              refine g_if_eq 24 47 (gd rfl) rfl rfl (fun c21 => ?_) (fun c21 => ?_)
              · skip
                exact zn_eq c21 (in_c 1 rfl) rfl
              · skip
                refine g_iload_n 25 (gd rfl) rfl rfl ?_
                refine g_if_lt 28 47 (gd rfl) rfl rfl (fun c25 => ?_) (fun c25 => ?_)
                · skip
                  have i25 := z_lt (-2147483648) (-1) c25 (i_rng x3) rfl
                  exact gg_w (by first | exact Nat.le_of_ble_eq_true rfl | omega) (gg_f (gf_cons rfl (gf_cons rfl (gf_cons rfl (gf_cons rfl (gf_cons rfl gf_nil))))) (ct47 s  hI fr_rf ))
                · skip
                  have i25 := z_ge 0 2147483647 c25 (i_rng x3) rfl
                  refine g_iload_n 29 (gd rfl) rfl rfl ?_
                  refine g_iconst 2 30 (gd rfl) rfl rfl ?_
                  refine g_cmp_gt 33 47 (gd rfl) rfl rfl (fun c30 => ?_) (fun c30 => ?_)
                  · skip
                    have i30 := r_lt2 3 2147483647 c30 (in_c 2 rfl) i25 rfl
                    exact gg_w (by first | exact Nat.le_of_ble_eq_true rfl | omega) (gg_f (gf_cons rfl (gf_cons rfl (gf_cons rfl (gf_cons rfl (gf_cons rfl gf_nil))))) (ct47 s  hI fr_rf ))
                  · skip
                    have i30 := r_le1 0 2 c30 i25 (in_c 2 rfl) rfl
                    refine g_aload 35 (gd rfl) rfl rfl ?_
                    refine g_iload 37 (gd rfl) rfl rfl ?_
                    refine g_callv (X := _) (As := [.int x4]) (r := []) (b := A 2) (q := 2) 40 (gd rfl) rfl rfl rfl rfl rfl (ww_o rfl) (Nat.le_of_ble_eq_true rfl) (mc := 0) (ms := 0) (Nat.zero_le _) (Nat.zero_le _) (P := fun v u => _) ?_ (fun e u h => h) (fun v u h => h)
                    intro po37 xx37 hp37 hx37
                    refine g_enter2 (k := 94) (N := 300) (by first | exact dq1 hd rfl | exact dq0 hd rfl | exact dq2 hd rfl | exact dq3 hd rfl | omega) rfl (Nat.le_of_ble_eq_true rfl) ?_
                    refine g_iload_n 1 (gd rfl) rfl rfl ?_
                    refine g_if_lt 4 16 (gd rfl) rfl rfl (fun c37x1 => ?_) (fun c37x1 => ?_)
                    · skip
                      have i37x1 := z_lt (-2147483648) (-1) c37x1 (i_rng x4) rfl
                      refine g_iconst 0 17 (gd rfl) rfl rfl ?_
                      refine g_ireturn (gd rfl) rfl (nb01 (in_w 0 1 (in_c 0 rfl) rfl)) (hp37 _ _ ?_)
                      show GG _ _ _ _ _ _ _ _ [.int (Int32.ofInt 0)] _ _ _
                      refine g_if_eq 43 47 (gd rfl) rfl rfl (fun c40 => ?_) (fun c40 => ?_)
                      · skip
                        exact gg_w (by first | exact Nat.le_of_ble_eq_true rfl | omega) (gg_f (gf_cons rfl (gf_cons rfl (gf_cons rfl (gf_cons rfl (gf_cons rfl gf_nil))))) (ct47 s  hI fr_rf ))
                      · skip
                        exact zn_ne c40 (in_c 0 rfl) rfl
                    · skip
                      have i37x1 := z_ge 0 2147483647 c37x1 (i_rng x4) rfl
                      refine g_iload_n 5 (gd rfl) rfl rfl ?_
                      refine g_aload_n 6 (gd rfl) rfl rfl ?_
                      refine g_getI 9 (gd rfl) rfl rfl rfl (fun z37x6 e37x6 => ?_)
                      have q37x6 : u_2_1 = z37x6 := (e_2_1).trans e37x6.symm
                      subst q37x6
                      refine g_cmp_ge 12 16 (gd rfl) rfl rfl (fun c37x9 => ?_) (fun c37x9 => ?_)
                      · skip
                        have i37x9 := r_le2 1 2147483647 c37x9 i9x9a i37x1 rfl
                        refine g_iconst 0 17 (gd rfl) rfl rfl ?_
                        refine g_ireturn (gd rfl) rfl (nb01 (in_w 0 1 (in_c 0 rfl) rfl)) (hp37 _ _ ?_)
                        show GG _ _ _ _ _ _ _ _ [.int (Int32.ofInt 0)] _ _ _
                        refine g_if_eq 43 47 (gd rfl) rfl rfl (fun c40 => ?_) (fun c40 => ?_)
                        · skip
                          exact gg_w (by first | exact Nat.le_of_ble_eq_true rfl | omega) (gg_f (gf_cons rfl (gf_cons rfl (gf_cons rfl (gf_cons rfl (gf_cons rfl gf_nil))))) (ct47 s  hI fr_rf ))
                        · skip
                          exact zn_ne c40 (in_c 0 rfl) rfl
                      · skip
                        have i37x9 := r_lt1 0 31 c37x9 i37x1 i9x9a rfl
                        refine g_iconst 1 13 (gd rfl) rfl rfl ?_
                        refine g_goto 17 (gd rfl) rfl ?_
                        refine g_ireturn (gd rfl) rfl (nb01 (in_w 0 1 (in_c 1 rfl) rfl)) (hp37 _ _ ?_)
                        show GG _ _ _ _ _ _ _ _ [.int (Int32.ofInt 1)] _ _ _
                        refine g_if_eq 43 47 (gd rfl) rfl rfl (fun c40 => ?_) (fun c40 => ?_)
                        · skip
                          exact zn_eq c40 (in_c 1 rfl) rfl
                        · skip
                          refine g_iconst 1 44 (gd rfl) rfl rfl ?_
                          refine g_goto 48 (gd rfl) rfl ?_
                          refine g_thr (E := am_IA) (y := yX11_allow) 51 (gd rfl) rfl rfl (Or.inl ⟨rfl, rfl, rfl⟩) (by first | exact dq1 hd rfl | exact dq0 hd rfl | exact dq2 hd rfl | exact dq3 hd rfl | omega) (Nat.le_of_ble_eq_true rfl) (Nat.le_of_ble_eq_true rfl) (Nat.le_of_ble_eq_true rfl) (fun c48 => ?_) (fun c48 => ?_)
                          · skip
                            refine g_iload_n 52 (gd rfl) rfl rfl ?_
                            refine g_if_ne 55 67 (gd rfl) rfl rfl (fun c52 => ?_) (fun c52 => ?_)
                            · skip
                              have i52 := z_ne 1 2 c52 i30 rfl
                              refine g_iload_n 68 (gd rfl) rfl rfl ?_
                              refine g_iconst 1 69 (gd rfl) rfl rfl ?_
                              refine g_cmp_ne 72 87 (gd rfl) rfl rfl (fun c69 => ?_) (fun c69 => ?_)
                              · skip
                                have i69 := r_ne1 2 2 c69 i52 (in_c 1 rfl) rfl
                                refine g_aload_n 88 (gd rfl) rfl rfl ?_
                                refine g_getA (q2 := 49) 91 (gd rfl) rfl rfl rfl rfl ?_
                                refine g_aload 93 (gd rfl) rfl rfl ?_
                                refine g_iload_n 94 (gd rfl) rfl rfl ?_
                                refine g_iload_n 95 (gd rfl) rfl rfl ?_
                                refine g_iload 97 (gd rfl) rfl rfl ?_
                                refine g_callv (X := _) (As := [.ref (A 2), .int x1, .int x2, .int x4]) (r := []) (b := A 49) (q := 49) 100 (gd rfl) rfl rfl rfl rfl rfl (ww_o rfl) (Nat.le_of_ble_eq_true rfl) (Nat.zero_le _) (Nat.zero_le _) (k_203_49_2 (by first | exact dq1 hd rfl | exact dq0 hd rfl | exact dq2 hd rfl | exact dq3 hd rfl | omega) hI (in_w 0 31 i9x9 rfl) (in_w 0 31 i18x9 rfl) (in_w 0 31 i37x9 rfl)) (fun e u h => h) (fun v u h => ?_)
                                obtain ⟨s97, hI97, hF97, z97, rfl, rfl, i97⟩ := h
                                show GG _ _ _ _ _ _ _ _ [.int z97] _ _ _
                                exact g_ireturn (gd rfl) rfl rfl (hP _ _ ⟨s97, hI97, (fr_tr rfl fr_rf hF97), z97, rfl, rfl, in_w (-2147483648) 2147483647 i97 rfl⟩)
                              · skip
                                have i69 := r_eq1 1 1 c69 i52 (in_c 1 rfl) rfl
                                refine g_aload_n 73 (gd rfl) rfl rfl ?_
                                refine g_getA (q2 := 49) 76 (gd rfl) rfl rfl rfl rfl ?_
                                refine g_aload 78 (gd rfl) rfl rfl ?_
                                refine g_iload_n 79 (gd rfl) rfl rfl ?_
                                refine g_iload_n 80 (gd rfl) rfl rfl ?_
                                refine g_iload_n 81 (gd rfl) rfl rfl ?_
                                refine g_callv (X := _) (As := [.ref (A 2), .int x1, .int x2, .int x1]) (r := []) (b := A 49) (q := 49) 84 (gd rfl) rfl rfl rfl rfl rfl (ww_o rfl) (Nat.le_of_ble_eq_true rfl) (Nat.zero_le _) (Nat.zero_le _) (k_203_49_2 (by first | exact dq1 hd rfl | exact dq0 hd rfl | exact dq2 hd rfl | exact dq3 hd rfl | omega) hI (in_w 0 31 i9x9 rfl) (in_w 0 31 i18x9 rfl) (in_w 0 31 i9x9 rfl)) (fun e u h => h) (fun v u h => ?_)
                                obtain ⟨s81, hI81, hF81, z81, rfl, rfl, i81⟩ := h
                                show GG _ _ _ _ _ _ _ _ [.int z81] _ _ _
                                refine g_goto 100 (gd rfl) rfl ?_
                                exact g_ireturn (gd rfl) rfl rfl (hP _ _ ⟨s81, hI81, (fr_tr rfl fr_rf hF81), z81, rfl, rfl, in_w (-2147483648) 2147483647 i81 rfl⟩)
                            · skip
                              have i52 := z_eq 0 0 c52 i30 rfl
                              refine g_aload_n 56 (gd rfl) rfl rfl ?_
                              refine g_getA (q2 := 49) 59 (gd rfl) rfl rfl rfl rfl ?_
                              refine g_aload 61 (gd rfl) rfl rfl ?_
                              refine g_iload_n 62 (gd rfl) rfl rfl ?_
                              refine g_iload_n 63 (gd rfl) rfl rfl ?_
                              refine g_callv (X := _) (As := [.ref (A 2), .int x1, .int x2]) (r := []) (b := A 49) (q := 49) 66 (gd rfl) rfl rfl rfl rfl rfl (ww_o rfl) (Nat.le_of_ble_eq_true rfl) (mc := 0) (ms := 0) (Nat.zero_le _) (Nat.zero_le _) (P := fun v u => _) ?_ (fun e u h => h) (fun v u h => h)
                              intro po63 xx63 hp63 hx63
                              refine g_enter2 (k := 202) (N := 300) (by first | exact dq1 hd rfl | exact dq0 hd rfl | exact dq2 hd rfl | exact dq3 hd rfl | omega) rfl (Nat.le_of_ble_eq_true rfl) ?_
                              refine g_aload_n 1 (gd rfl) rfl rfl ?_
                              refine g_aload_n 2 (gd rfl) rfl rfl ?_
                              refine g_iload_n 3 (gd rfl) rfl rfl ?_
                              refine g_callv (X := _) (As := [.ref (A 2), .int x1]) (r := []) (b := A 49) (q := 49) 6 (gd rfl) rfl rfl rfl rfl rfl (ww_o rfl) (Nat.le_of_ble_eq_true rfl) (Nat.zero_le _) (Nat.zero_le _) (k_204_49_2 (by first | exact dq1 hd rfl | exact dq0 hd rfl | exact dq2 hd rfl | exact dq3 hd rfl | omega) hI (in_w 0 31 i9x9 rfl)) (fun e u h => h) (fun v u h => ?_)
                              obtain ⟨s63x3, hI63x3, hF63x3, rfl, rfl⟩ := h
                              show GG _ _ _ _ _ _ _ _ [] _ _ _
                              refine g_aload_n 7 (gd rfl) rfl rfl ?_
                              refine g_getA (q2 := 52) 10 (gd rfl) rfl rfl rfl rfl ?_
                              refine g_iload_n 11 (gd rfl) rfl rfl ?_
                              refine g_iaload 12 (gd rfl) rfl (n := 32) rfl (in_ix i18x9 rfl) (fun z63x11 e63x11 => ?_)
                              refine g_ireturn (gd rfl) rfl rfl (hp63 _ _ ?_)
                              show GG _ _ _ _ _ _ _ _ [.int z63x11] _ _ _
                              exact g_ireturn (gd rfl) rfl rfl (hP _ _ ⟨s63x3, hI63x3, (fr_tr rfl fr_rf hF63x3), z63x11, rfl, rfl, in_w (-2147483648) 2147483647 (i_rng z63x11) rfl⟩)
                          · skip
                            exact zn_eq c48 (in_c 1 rfl) rfl

def fm_253_0 : FM := ([97], [95, 96, 98], [(46, 2), (46, 6), (46, 7)], [(94, 0), (94, 1)])
/-- GraphHouse.pattern -/
theorem k_253_0 {Z : AmZ} {A : Nat → Nat} {s : GS} {ex : va_W} {d : Nat} {X : AmX}  (hd : 7 ≤ d) (hI : Inv s)  : GC Z d 253 [.ref (A 0)] (WW Z A s ++ ex) 3 18 (fun v u => ∃ t : GS, Inv t ∧ Fr fm_253_0 s t ∧ ∃ z : Int32, v = some (.int z) ∧ u = WW Z A t ++ ex ∧ In z (-4) 0) X := by
  intro post xp hP hX
  obtain ⟨u_46_1, e_46_1⟩ : ∃ w, w = s.2.2.1 46 1 := ⟨_, rfl⟩
  have ro_46_1 := inv_F hI 0 1000 rfl e_46_1
  refine g_enter2 (k := 253) (N := 900) (by first | exact dq1 hd rfl | exact dq0 hd rfl | exact dq2 hd rfl | exact dq3 hd rfl | omega) rfl (Nat.le_of_ble_eq_true rfl) ?_
  refine g_aload_n 1 (gd rfl) rfl rfl ?_
  refine g_getA (q2 := 94) 4 (gd rfl) rfl rfl rfl rfl ?_
  refine g_aload_n 5 (gd rfl) rfl rfl ?_
  refine g_getA (q2 := 46) 8 (gd rfl) rfl rfl rfl rfl ?_
  refine g_callv (X := _) (As := [.ref (A 46)]) (r := []) (b := A 94) (q := 94) 11 (gd rfl) rfl rfl rfl rfl rfl (ww_o rfl) (Nat.le_of_ble_eq_true rfl) (mc := 0) (ms := 0) (Nat.zero_le _) (Nat.zero_le _) (P := fun v u => _) ?_ (fun e u h => h) (fun v u h => h)
  intro po8 xx8 hp8 hx8
  refine g_enter2 (k := 154) (N := 300) (by first | exact dq1 hd rfl | exact dq0 hd rfl | exact dq2 hd rfl | exact dq3 hd rfl | omega) rfl (Nat.le_of_ble_eq_true rfl) ?_
  refine g_aload_n 1 (gd rfl) rfl rfl ?_
  refine g_callv (X := _) (As := []) (r := []) (b := A 46) (q := 46) 4 (gd rfl) rfl rfl rfl rfl rfl (ww_o rfl) (Nat.le_of_ble_eq_true rfl) (mc := 0) (ms := 0) (Nat.zero_le _) (Nat.zero_le _) (P := fun v u => _) ?_ (fun e u h => h) (fun v u h => h)
  intro po8x1 xx8x1 hp8x1 hx8x1
  refine g_enter2 (k := 167) (N := 300) (by first | exact dq1 hd rfl | exact dq0 hd rfl | exact dq2 hd rfl | exact dq3 hd rfl | omega) rfl (Nat.le_of_ble_eq_true rfl) ?_
  refine g_aload_n 1 (gd rfl) rfl rfl ?_
  refine g_iconst 0 2 (gd rfl) rfl rfl ?_
  refine g_putI 5 (gd rfl) rfl rfl rfl rfl ?_
  have hI8x1x2 := inv_sF (q := 46) (j := 2) hI rfl (in_w 0 1000 (in_c 0 rfl) rfl)
  refine g_aload_n 6 (gd rfl) rfl rfl ?_
  refine g_iconst (-1) 7 (gd rfl) rfl rfl ?_
  refine g_putI 10 (gd rfl) rfl rfl rfl rfl ?_
  have hI8x1x7 := inv_sF (q := 46) (j := 6) hI8x1x2 rfl (in_w (-1) 5 (in_c (-1) rfl) rfl)
  refine g_aload_n 11 (gd rfl) rfl rfl ?_
  refine g_iconst (-1) 12 (gd rfl) rfl rfl ?_
  refine g_putI 15 (gd rfl) rfl rfl rfl rfl ?_
  have hI8x1x12 := inv_sF (q := 46) (j := 7) hI8x1x7 rfl (in_w (-1) 1000 (in_c (-1) rfl) rfl)
  refine g_return (gd rfl) rfl (hp8x1 _ _ ?_)
  show GG _ _ _ _ _ _ _ _ [] _ _ _
  refine g_aload_n 5 (gd rfl) rfl rfl ?_
  refine g_getI 8 (gd rfl) rfl rfl rfl (fun z8x5 e8x5 => ?_)
  have q8x5 : u_46_1 = z8x5 := (sF_ne rfl (sF_ne rfl (sF_ne rfl (e_46_1)))).trans e8x5.symm
  subst q8x5
  refine g_bipush 60 10 (gd rfl) rfl rfl ?_
  refine g_cmp_le 13 21 (gd rfl) rfl rfl (fun c8x10 => ?_) (fun c8x10 => ?_)
  · skip
    have i8x10 := r_le1 0 60 c8x10 ro_46_1 (in_c 60 rfl) rfl
    refine g_aload_n 22 (gd rfl) rfl rfl ?_
    refine g_calls (As := [.ref (A 46)]) (r := []) 25 (gd rfl) rfl rfl rfl rfl rfl (Nat.le_of_ble_eq_true rfl) (Nat.zero_le _) (Nat.zero_le _) (k_155_46 (by first | exact dq1 hd rfl | exact dq0 hd rfl | exact dq2 hd rfl | exact dq3 hd rfl | omega) hI8x1x12 ) (fun v u h => ?_)
    obtain ⟨s8x22, hI8x22, hF8x22, z8x22, rfl, rfl, i8x22⟩ := h
    show GG _ _ _ _ _ _ _ _ [.int z8x22] _ _ _
    refine g_if_ne 28 30 (gd rfl) rfl rfl (fun c8x25 => ?_) (fun c8x25 => ?_)
    · skip
      have i8x25 := z_ne 1 1 c8x25 i8x22 rfl
      refine g_aload_n 31 (gd rfl) rfl rfl ?_
      refine g_aload_n 32 (gd rfl) rfl rfl ?_
      have v8x32 : u_46_1 = s8x22.2.2.1 46 1 := fr_F (s := (sF (sF (sF s 46 2 (Int32.ofInt 0)) 46 6 (Int32.ofInt (-1))) 46 7 (Int32.ofInt (-1)))) (sF_ne rfl (sF_ne rfl (sF_ne rfl (e_46_1)))) hF8x22 rfl
      refine g_callv (X := _) (As := [.ref (A 46)]) (r := []) (b := A 94) (q := 94) 35 (gd rfl) rfl rfl rfl rfl rfl (ww_o rfl) (Nat.le_of_ble_eq_true rfl) (Nat.zero_le _) (Nat.zero_le _) (k_158_94_46 (by first | exact dq1 hd rfl | exact dq0 hd rfl | exact dq2 hd rfl | exact dq3 hd rfl | omega) hI8x22 v8x32 (in_w 0 60 i8x10 rfl)) (fun e u h => h) (fun v u h => ?_)
      obtain ⟨s8x32, hI8x32, hF8x32, rfl, rfl⟩ := h
      show GG _ _ _ _ _ _ _ _ [] _ _ _
      refine g_iconst 1 36 (gd rfl) rfl rfl ?_
      refine g_ireturn (gd rfl) rfl (nb01 (in_w 0 1 (in_c 1 rfl) rfl)) (hp8 _ _ ?_)
      show GG _ _ _ _ _ _ _ _ [.int (Int32.ofInt 1)] _ _ _
      refine g_if_eq 14 18 (gd rfl) rfl rfl (fun c11 => ?_) (fun c11 => ?_)
      · skip
        exact zn_eq c11 (in_c 1 rfl) rfl
      · skip
        refine g_iconst 0 15 (gd rfl) rfl rfl ?_
        refine g_goto 20 (gd rfl) rfl ?_
        exact g_ireturn (gd rfl) rfl rfl (hP _ _ ⟨s8x32, hI8x32, (fr_tr rfl (fr_tr rfl (fr_sF rfl (fr_sF rfl (fr_sF rfl fr_rf))) hF8x22) hF8x32), (Int32.ofInt 0), rfl, rfl, in_w (-4) 0 (in_c 0 rfl) rfl⟩)
    · skip
      have i8x25 := z_eq 0 0 c8x25 i8x22 rfl
      refine g_iconst 0 29 (gd rfl) rfl rfl ?_
      refine g_ireturn (gd rfl) rfl (nb01 (in_w 0 1 (in_c 0 rfl) rfl)) (hp8 _ _ ?_)
      show GG _ _ _ _ _ _ _ _ [.int (Int32.ofInt 0)] _ _ _
      refine g_if_eq 14 18 (gd rfl) rfl rfl (fun c11 => ?_) (fun c11 => ?_)
      · skip
        refine g_bipush (-4) 20 (gd rfl) rfl rfl ?_
        exact g_ireturn (gd rfl) rfl rfl (hP _ _ ⟨s8x22, hI8x22, (fr_tr rfl (fr_sF rfl (fr_sF rfl (fr_sF rfl fr_rf))) hF8x22), (Int32.ofInt (-4)), rfl, rfl, in_w (-4) 0 (in_c (-4) rfl) rfl⟩)
      · skip
        exact zn_ne c11 (in_c 0 rfl) rfl
  · skip
    have i8x10 := r_lt2 61 1000 c8x10 (in_c 60 rfl) ro_46_1 rfl
    refine g_aload_n 14 (gd rfl) rfl rfl ?_
    refine g_iconst 2 15 (gd rfl) rfl rfl ?_
    refine g_bipush 60 17 (gd rfl) rfl rfl ?_
    refine g_callv (X := _) (As := [.int (Int32.ofInt 2), .int (Int32.ofInt 60)]) (r := []) (b := A 46) (q := 46) 20 (gd rfl) rfl rfl rfl rfl rfl (ww_o rfl) (Nat.le_of_ble_eq_true rfl) (Nat.zero_le _) (Nat.zero_le _) (k_168_46 (by first | exact dq1 hd rfl | exact dq0 hd rfl | exact dq2 hd rfl | exact dq3 hd rfl | omega) hI8x1x12 (in_w 1 5 (in_c 2 rfl) rfl) (in_w 0 1000 (in_c 60 rfl) rfl)) (fun e u h => h) (fun v u h => ?_)
    obtain ⟨s8x17, hI8x17, hF8x17, z8x17, rfl, rfl, i8x17⟩ := h
    show GG _ _ _ _ _ _ _ _ [.int z8x17] _ _ _
    refine g_ireturn (gd rfl) rfl (nb01 (in_w 0 1 i8x17 rfl)) (hp8 _ _ ?_)
    show GG _ _ _ _ _ _ _ _ [.int z8x17] _ _ _
    refine g_if_eq 14 18 (gd rfl) rfl rfl (fun c11 => ?_) (fun c11 => ?_)
    · skip
      refine g_bipush (-4) 20 (gd rfl) rfl rfl ?_
      exact g_ireturn (gd rfl) rfl rfl (hP _ _ ⟨s8x17, hI8x17, (fr_tr rfl (fr_sF rfl (fr_sF rfl (fr_sF rfl fr_rf))) hF8x17), (Int32.ofInt (-4)), rfl, rfl, in_w (-4) 0 (in_c (-4) rfl) rfl⟩)
    · skip
      exact zn_ne c11 i8x17 rfl

def fm_274 : FM := ([110, 111, 112, 113, 114, 115, 116, 117, 118, 119, 120, 121, 122, 123, 124], [], [(109, 9), (109, 18), (109, 19), (109, 20)], [])
def fm_281 : FM := ([110, 111, 112, 113, 114, 115, 116, 117, 118, 119, 120, 121, 122, 123, 124], [], [(109, 0), (109, 9), (109, 18), (109, 19), (109, 20)], [])
end
section
/-! methods, by vc.py -/
def fm_282 : FM := ([110, 111, 112, 113, 114, 115, 116, 117, 118, 119, 120, 121, 122, 123, 124], [], [(109, 0), (109, 9), (109, 18), (109, 19), (109, 20)], [])
def fm_283 : FM := ([110, 111, 112, 113, 114, 115, 116, 117, 118, 119, 120, 121, 122, 123, 124], [], [(109, 0), (109, 9), (109, 18), (109, 19), (109, 20)], [])
end
section
/-! methods, by vc.py -/
def fm_284 : FM := ([110, 111, 112, 113, 114, 115, 116, 117, 118, 119, 120, 121, 122, 123, 124], [], [(109, 0), (109, 9), (109, 18), (109, 19), (109, 20)], [])
end
section
/-! methods, by vc.py -/
def fm_285 : FM := ([110, 111, 112, 113, 114, 115, 116, 117, 118, 119, 120, 121, 122, 123, 124], [], [(109, 0), (109, 9), (109, 18), (109, 19), (109, 20)], [])
def fm_300 : FM := ([], [], [(109, 23), (109, 24), (109, 27)], [(109, 31)])
/-- GraphHouseModel.readNumber -/
theorem k_300 {Z : AmZ} {A : Nat → Nat} {s : GS} {ex : va_W} {d : Nat} {X : AmX} {x1 : Int32} {u_109_27 : Int32} {u_109_22 : Int32} (hd : 3 ≤ d) (hI : Inv s) (h1 : In x1 6 7) (e_109_27 : u_109_27 = s.2.2.1 109 27) (e_109_22 : u_109_22 = s.2.2.1 109 22) (p_0 : (u_109_27).toInt < (u_109_22).toInt) (q_0 : 48 ≤ (s.1 125 (s.2.2.1 109 27).toNatClampNeg).toInt ∧ (s.1 125 (s.2.2.1 109 27).toNatClampNeg).toInt ≤ 57) : GC Z d 300 [.ref (A 109), .int x1] (WW Z A s ++ ex) 0 0 (fun v u => ∃ t : GS, Inv t ∧ Fr fm_300 s t ∧ ((t.2.2.1 109 27).toInt ≤ (t.2.2.1 109 22).toInt) ∧ ((s.2.2.1 109 27).toInt + 1 ≤ (t.2.2.1 109 27).toInt) ∧ v = none ∧ u = WW Z A t ++ ex) X := by
  intro post xp hP hX
  have ro_109_22 := inv_F hI 0 1000 rfl e_109_22
  obtain ⟨u_109_29, e_109_29⟩ : ∃ w, w = s.2.2.1 109 29 := ⟨_, rfl⟩
  have ro_109_29 := inv_F hI 0 1000 rfl e_109_29
  have ct10 : ∀ (k10 : Nat) (sc10 : GS) (y10_2 : Int32) (w10_109_27 : Int32), Inv sc10 → Fr fm_300 s sc10 → (In y10_2 0 1000) → (w10_109_27 = sc10.2.2.1 109 27) → ((w10_109_27).toInt ≤ (u_109_22).toInt) → ((u_109_27).toInt ≤ (w10_109_27).toInt) → (u_109_22).toInt - (w10_109_27).toInt < (k10 : Int) → GG Z (d - 1) 300 post (gx xp) (1 + k10 * 900) 10 (fun j => xlook j [(0, .ref (A 109)), (1, .int x1), (2, .int y10_2)]) [] (WW Z A sc10 ++ ex) 0 0 := by
    intro k10
    induction k10 with
    | zero => intro sc10 y10_2 w10_109_27 hIc10 hFc10 j10_2 v10_109_27 n10_0 n10_1 mm10; exfalso; have a0 := oa4 h1 ro_109_29 ro_109_22 ((inv_F hIc10 0 1000 rfl v10_109_27)); have a4 := j10_2; unfold In at a4; omega
    | succ k10 ih10 =>
      intro sc10 y10_2 w10_109_27 hIc10 hFc10 j10_2 v10_109_27 n10_0 n10_1 mm10
      refine gg_w (M := 1 + k10 * 900 + 900) gws ?_
      refine g_aload_n 11 (gd rfl) rfl rfl ?_
      refine g_getI 14 (gd rfl) rfl rfl rfl (fun z11 e11 => ?_)
      have q11 : w10_109_27 = z11 := (v10_109_27).trans e11.symm
      subst q11
      refine g_aload_n 15 (gd rfl) rfl rfl ?_
      refine g_getI 18 (gd rfl) rfl rfl rfl (fun z15 e15 => ?_)
      have q15 : u_109_22 = z15 := (fr_F e_109_22 hFc10 rfl).trans e15.symm
      subst q15
      refine g_cmp_ge 21 93 (gd rfl) rfl rfl (fun c18 => ?_) (fun c18 => ?_)
      · skip
        have hq93 : (u_109_27).toInt + 1 ≤ (w10_109_27).toInt := (by first | (have a0 := oa5 h1 ro_109_29 ro_109_22 ((inv_F hIc10 0 1000 rfl v10_109_27)) j10_2; omega) | (have hi := i30x3; unfold In at hi; have a0 := oa5 h1 ro_109_29 ro_109_22 ((inv_F hIc10 0 1000 rfl v10_109_27)) j10_2; omega) | (have hi := i30x9; unfold In at hi; have a0 := oa5 h1 ro_109_29 ro_109_22 ((inv_F hIc10 0 1000 rfl v10_109_27)) j10_2; omega))
        refine g_aload_n 94 (gd rfl) rfl rfl ?_
        refine g_getI 97 (gd rfl) rfl rfl rfl (fun z94 e94 => ?_)
        have q94 : w10_109_27 = z94 := (v10_109_27).trans e94.symm
        subst q94
        refine g_iload_n 98 (gd rfl) rfl rfl ?_
        refine g_isub 99 (gd rfl) rfl (fun z98 e98 => ?_)
        have i98 := in_sub (-1000) 1000 e98 (inv_F hIc10 0 1000 rfl v10_109_27) j10_2 rfl rfl
        refine g_iload_n 100 (gd rfl) rfl rfl ?_
        refine g_cmp_le 103 122 (gd rfl) rfl rfl (fun c100 => ?_) (fun c100 => ?_)
        · skip
          have i100 := r_le1 (-1000) 7 c100 i98 h1 rfl
          have n122 : (w10_109_27).toInt ≤ (u_109_22).toInt := by first | exact n10_0 | (have a0 := oa6 h1 ro_109_29 ro_109_22 ((inv_F hIc10 0 1000 rfl v10_109_27)) j10_2 i100; have a6 := t_sub e98 (inv_F hIc10 0 1000 rfl v10_109_27) j10_2 rfl; omega)
          have n122a : (sc10.2.2.1 109 27).toInt ≤ (sc10.2.2.1 109 22).toInt := by have b0 : w10_109_27 = sc10.2.2.1 109 27 := v10_109_27; have b1 : u_109_22 = sc10.2.2.1 109 22 := fr_F e_109_22 hFc10 rfl; rw [← b0, ← b1]; exact n122
          have n122b : (u_109_27).toInt + 1 ≤ (w10_109_27).toInt := by have a0 := oa6 h1 ro_109_29 ro_109_22 ((inv_F hIc10 0 1000 rfl v10_109_27)) j10_2 i100; have a6 := t_sub e98 (inv_F hIc10 0 1000 rfl v10_109_27) j10_2 rfl; omega
          have n122c : (s.2.2.1 109 27).toInt + 1 ≤ (sc10.2.2.1 109 27).toInt := by have b0 : w10_109_27 = sc10.2.2.1 109 27 := v10_109_27; first | (rw [← b0, ← e_109_27]; exact n122b) | (rw [← b0]; exact n122b)
          exact g_return (gd rfl) rfl (hP _ _ ⟨sc10, hIc10, hFc10, n122a, n122c, rfl, rfl⟩)
        · skip
          have i100 := r_lt2 7 1000 c100 h1 i98 rfl
          refine g_aload_n 104 (gd rfl) rfl rfl ?_
          refine g_iload_n 105 (gd rfl) rfl rfl ?_
          refine g_bipush 7 107 (gd rfl) rfl rfl ?_
          refine g_cmp_ne 110 114 (gd rfl) rfl rfl (fun c107 => ?_) (fun c107 => ?_)
          · skip
            have i107 := r_ne1 6 6 c107 h1 (in_c 7 rfl) rfl
            refine g_iconst 4 115 (gd rfl) rfl rfl ?_
            refine g_aload_n 116 (gd rfl) rfl rfl ?_
            refine g_getI 119 (gd rfl) rfl rfl rfl (fun z116 e116 => ?_)
            have q116 : u_109_29 = z116 := (fr_F e_109_29 hFc10 rfl).trans e116.symm
            subst q116
            refine g_callv (X := _) (As := [.int (Int32.ofInt 4), .int u_109_29]) (r := []) (b := A 109) (q := 109) 122 (gd rfl) rfl rfl rfl rfl rfl (ww_o rfl) (Nat.le_of_ble_eq_true rfl) (Nat.zero_le _) (Nat.zero_le _) (k_298 (by first | exact dq1 hd rfl | exact dq0 hd rfl | exact dq2 hd rfl | exact dq3 hd rfl | omega) hIc10 (in_w 1 5 (in_c 4 rfl) rfl)) (fun e u h => h) (fun v u h => ?_)
            obtain ⟨s119, hI119, hF119, n119, rfl, rfl⟩ := h
            obtain ⟨z119a, e119⟩ : ∃ w, w = s119.2.2.1 109 23 := ⟨_, rfl⟩
            have i119a := inv_F hI119 0 9 rfl e119
            rw [← (show z119a = s119.2.2.1 109 23 from e119)] at n119
            show GG _ _ _ _ _ _ _ _ [] _ _ _
            have n122 : (w10_109_27).toInt ≤ (u_109_22).toInt := by first | exact n10_0 | (have a0 := oa7 i107 ro_109_29 ro_109_22 ((inv_F hIc10 0 1000 rfl v10_109_27)) j10_2 i119a i100; have a7 := t_sub e98 (inv_F hIc10 0 1000 rfl v10_109_27) j10_2 rfl; omega)
            have n122a : (s119.2.2.1 109 27).toInt ≤ (s119.2.2.1 109 22).toInt := by have b0 : w10_109_27 = s119.2.2.1 109 27 := fr_F (v10_109_27) hF119 rfl; have b1 : u_109_22 = s119.2.2.1 109 22 := fr_F (fr_F e_109_22 hFc10 rfl) hF119 rfl; rw [← b0, ← b1]; exact n122
            have n122b : (u_109_27).toInt + 1 ≤ (w10_109_27).toInt := by have a0 := oa7 i107 ro_109_29 ro_109_22 ((inv_F hIc10 0 1000 rfl v10_109_27)) j10_2 i119a i100; have a7 := t_sub e98 (inv_F hIc10 0 1000 rfl v10_109_27) j10_2 rfl; omega
            have n122c : (s.2.2.1 109 27).toInt + 1 ≤ (s119.2.2.1 109 27).toInt := by have b0 : w10_109_27 = s119.2.2.1 109 27 := fr_F (v10_109_27) hF119 rfl; first | (rw [← b0, ← e_109_27]; exact n122b) | (rw [← b0]; exact n122b)
            exact g_return (gd rfl) rfl (hP _ _ ⟨s119, hI119, (fr_tr rfl hFc10 hF119), n122a, n122c, rfl, rfl⟩)
          · skip
            have i107 := r_eq1 7 7 c107 h1 (in_c 7 rfl) rfl
            refine g_iconst 3 111 (gd rfl) rfl rfl ?_
            refine g_goto 115 (gd rfl) rfl ?_
            refine g_aload_n 116 (gd rfl) rfl rfl ?_
            refine g_getI 119 (gd rfl) rfl rfl rfl (fun z116 e116 => ?_)
            have q116 : u_109_29 = z116 := (fr_F e_109_29 hFc10 rfl).trans e116.symm
            subst q116
            refine g_callv (X := _) (As := [.int (Int32.ofInt 3), .int u_109_29]) (r := []) (b := A 109) (q := 109) 122 (gd rfl) rfl rfl rfl rfl rfl (ww_o rfl) (Nat.le_of_ble_eq_true rfl) (Nat.zero_le _) (Nat.zero_le _) (k_298 (by first | exact dq1 hd rfl | exact dq0 hd rfl | exact dq2 hd rfl | exact dq3 hd rfl | omega) hIc10 (in_w 1 5 (in_c 3 rfl) rfl)) (fun e u h => h) (fun v u h => ?_)
            obtain ⟨s119, hI119, hF119, n119, rfl, rfl⟩ := h
            obtain ⟨z119a, e119⟩ : ∃ w, w = s119.2.2.1 109 23 := ⟨_, rfl⟩
            have i119a := inv_F hI119 0 9 rfl e119
            rw [← (show z119a = s119.2.2.1 109 23 from e119)] at n119
            show GG _ _ _ _ _ _ _ _ [] _ _ _
            have n122 : (w10_109_27).toInt ≤ (u_109_22).toInt := by first | exact n10_0 | (have a0 := oa7 i107 ro_109_29 ro_109_22 ((inv_F hIc10 0 1000 rfl v10_109_27)) j10_2 i119a i100; have a7 := t_sub e98 (inv_F hIc10 0 1000 rfl v10_109_27) j10_2 rfl; omega)
            have n122a : (s119.2.2.1 109 27).toInt ≤ (s119.2.2.1 109 22).toInt := by have b0 : w10_109_27 = s119.2.2.1 109 27 := fr_F (v10_109_27) hF119 rfl; have b1 : u_109_22 = s119.2.2.1 109 22 := fr_F (fr_F e_109_22 hFc10 rfl) hF119 rfl; rw [← b0, ← b1]; exact n122
            have n122b : (u_109_27).toInt + 1 ≤ (w10_109_27).toInt := by have a0 := oa7 i107 ro_109_29 ro_109_22 ((inv_F hIc10 0 1000 rfl v10_109_27)) j10_2 i119a i100; have a7 := t_sub e98 (inv_F hIc10 0 1000 rfl v10_109_27) j10_2 rfl; omega
            have n122c : (s.2.2.1 109 27).toInt + 1 ≤ (s119.2.2.1 109 27).toInt := by have b0 : w10_109_27 = s119.2.2.1 109 27 := fr_F (v10_109_27) hF119 rfl; first | (rw [← b0, ← e_109_27]; exact n122b) | (rw [← b0]; exact n122b)
            exact g_return (gd rfl) rfl (hP _ _ ⟨s119, hI119, (fr_tr rfl hFc10 hF119), n122a, n122c, rfl, rfl⟩)
      · skip
        have i18 := r_lt1 0 999 c18 (inv_F hIc10 0 1000 rfl v10_109_27) ro_109_22 rfl
        have i18a := r_lt2 1 1000 c18 (inv_F hIc10 0 1000 rfl v10_109_27) ro_109_22 rfl
        refine g_aload_n 22 (gd rfl) rfl rfl ?_
        refine g_getA (q2 := 125) 25 (gd rfl) rfl rfl rfl rfl ?_
        refine g_aload_n 26 (gd rfl) rfl rfl ?_
        refine g_getI 29 (gd rfl) rfl rfl rfl (fun z26 e26 => ?_)
        have q26 : w10_109_27 = z26 := (v10_109_27).trans e26.symm
        subst q26
        refine g_iaload 30 (gd rfl) rfl (n := 1000) rfl (in_ix i18 rfl) (fun z29 e29 => ?_)
        have i29 := inv_I hIc10 (n := 1000) (t := 0) 0 126 rfl (in_ix i18 rfl) rfl e29
        have hd : w10_109_27.toInt = u_109_27.toInt → 48 ≤ (z29).toInt ∧ (z29).toInt ≤ 57 := (fun h => by rw [e29, Int32.toInt_inj.mp h, hFc10.1 125 rfl, e_109_27]; exact q_0)
        refine g_calls (As := [.int z29]) (r := []) 33 (gd rfl) rfl rfl rfl rfl rfl (Nat.le_of_ble_eq_true rfl) (mc := 0) (ms := 0) (Nat.zero_le _) (Nat.zero_le _) (P := fun v u => _) ?_ (fun v u h => h)
        intro po30 xx30 hp30 hx30
        refine g_enter2 (k := 297) (N := 300) (by first | exact dq1 hd rfl | exact dq0 hd rfl | exact dq2 hd rfl | exact dq3 hd rfl | omega) rfl (Nat.le_of_ble_eq_true rfl) ?_
        refine g_iload_n 1 (gd rfl) rfl rfl ?_
        refine g_bipush 48 3 (gd rfl) rfl rfl ?_
        refine g_cmp_lt 6 16 (gd rfl) rfl rfl (fun c30x3 => ?_) (fun c30x3 => ?_)
        · skip
          have i30x3 := r_lt1 0 47 c30x3 i29 (in_c 48 rfl) rfl
          refine g_iconst 0 17 (gd rfl) rfl rfl ?_
          refine g_ireturn (gd rfl) rfl (nb01 (in_w 0 1 (in_c 0 rfl) rfl)) (hp30 _ _ ?_)
          show GG _ _ _ _ _ _ _ _ [.int (Int32.ofInt 0)] _ _ _
          refine g_if_eq 36 93 (gd rfl) rfl rfl (fun c33 => ?_) (fun c33 => ?_)
          · skip
            have hq93 : (u_109_27).toInt + 1 ≤ (w10_109_27).toInt := (by first | (have a0 := oa5 h1 ro_109_29 i18a i18 j10_2; omega) | (have hi := i30x3; unfold In at hi; have a0 := oa5 h1 ro_109_29 i18a i18 j10_2; omega) | (have hi := i30x9; unfold In at hi; have a0 := oa5 h1 ro_109_29 i18a i18 j10_2; omega))
            refine g_aload_n 94 (gd rfl) rfl rfl ?_
            refine g_getI 97 (gd rfl) rfl rfl rfl (fun z94 e94 => ?_)
            have q94 : w10_109_27 = z94 := (v10_109_27).trans e94.symm
            subst q94
            refine g_iload_n 98 (gd rfl) rfl rfl ?_
            refine g_isub 99 (gd rfl) rfl (fun z98 e98 => ?_)
            have i98 := in_sub (-1000) 999 e98 i18 j10_2 rfl rfl
            refine g_iload_n 100 (gd rfl) rfl rfl ?_
            refine g_cmp_le 103 122 (gd rfl) rfl rfl (fun c100 => ?_) (fun c100 => ?_)
            · skip
              have i100 := r_le1 (-1000) 7 c100 i98 h1 rfl
              have n122 : (w10_109_27).toInt ≤ (u_109_22).toInt := by first | exact n10_0 | (have a0 := oa6 h1 ro_109_29 i18a i18 j10_2 i100; have a6 := t_sub e98 i18 j10_2 rfl; omega)
              have n122a : (sc10.2.2.1 109 27).toInt ≤ (sc10.2.2.1 109 22).toInt := by have b0 : w10_109_27 = sc10.2.2.1 109 27 := v10_109_27; have b1 : u_109_22 = sc10.2.2.1 109 22 := fr_F e_109_22 hFc10 rfl; rw [← b0, ← b1]; exact n122
              have n122b : (u_109_27).toInt + 1 ≤ (w10_109_27).toInt := by have a0 := oa6 h1 ro_109_29 i18a i18 j10_2 i100; have a6 := t_sub e98 i18 j10_2 rfl; omega
              have n122c : (s.2.2.1 109 27).toInt + 1 ≤ (sc10.2.2.1 109 27).toInt := by have b0 : w10_109_27 = sc10.2.2.1 109 27 := v10_109_27; first | (rw [← b0, ← e_109_27]; exact n122b) | (rw [← b0]; exact n122b)
              exact g_return (gd rfl) rfl (hP _ _ ⟨sc10, hIc10, hFc10, n122a, n122c, rfl, rfl⟩)
            · skip
              have i100 := r_lt2 7 999 c100 h1 i98 rfl
              refine g_aload_n 104 (gd rfl) rfl rfl ?_
              refine g_iload_n 105 (gd rfl) rfl rfl ?_
              refine g_bipush 7 107 (gd rfl) rfl rfl ?_
              refine g_cmp_ne 110 114 (gd rfl) rfl rfl (fun c107 => ?_) (fun c107 => ?_)
              · skip
                have i107 := r_ne1 6 6 c107 h1 (in_c 7 rfl) rfl
                refine g_iconst 4 115 (gd rfl) rfl rfl ?_
                refine g_aload_n 116 (gd rfl) rfl rfl ?_
                refine g_getI 119 (gd rfl) rfl rfl rfl (fun z116 e116 => ?_)
                have q116 : u_109_29 = z116 := (fr_F e_109_29 hFc10 rfl).trans e116.symm
                subst q116
                refine g_callv (X := _) (As := [.int (Int32.ofInt 4), .int u_109_29]) (r := []) (b := A 109) (q := 109) 122 (gd rfl) rfl rfl rfl rfl rfl (ww_o rfl) (Nat.le_of_ble_eq_true rfl) (Nat.zero_le _) (Nat.zero_le _) (k_298 (by first | exact dq1 hd rfl | exact dq0 hd rfl | exact dq2 hd rfl | exact dq3 hd rfl | omega) hIc10 (in_w 1 5 (in_c 4 rfl) rfl)) (fun e u h => h) (fun v u h => ?_)
                obtain ⟨s119, hI119, hF119, n119, rfl, rfl⟩ := h
                obtain ⟨z119a, e119⟩ : ∃ w, w = s119.2.2.1 109 23 := ⟨_, rfl⟩
                have i119a := inv_F hI119 0 9 rfl e119
                rw [← (show z119a = s119.2.2.1 109 23 from e119)] at n119
                show GG _ _ _ _ _ _ _ _ [] _ _ _
                have n122 : (w10_109_27).toInt ≤ (u_109_22).toInt := by first | exact n10_0 | (have a0 := oa7 i107 ro_109_29 i18a i18 j10_2 i119a i100; have a7 := t_sub e98 i18 j10_2 rfl; omega)
                have n122a : (s119.2.2.1 109 27).toInt ≤ (s119.2.2.1 109 22).toInt := by have b0 : w10_109_27 = s119.2.2.1 109 27 := fr_F (v10_109_27) hF119 rfl; have b1 : u_109_22 = s119.2.2.1 109 22 := fr_F (fr_F e_109_22 hFc10 rfl) hF119 rfl; rw [← b0, ← b1]; exact n122
                have n122b : (u_109_27).toInt + 1 ≤ (w10_109_27).toInt := by have a0 := oa7 i107 ro_109_29 i18a i18 j10_2 i119a i100; have a7 := t_sub e98 i18 j10_2 rfl; omega
                have n122c : (s.2.2.1 109 27).toInt + 1 ≤ (s119.2.2.1 109 27).toInt := by have b0 : w10_109_27 = s119.2.2.1 109 27 := fr_F (v10_109_27) hF119 rfl; first | (rw [← b0, ← e_109_27]; exact n122b) | (rw [← b0]; exact n122b)
                exact g_return (gd rfl) rfl (hP _ _ ⟨s119, hI119, (fr_tr rfl hFc10 hF119), n122a, n122c, rfl, rfl⟩)
              · skip
                have i107 := r_eq1 7 7 c107 h1 (in_c 7 rfl) rfl
                refine g_iconst 3 111 (gd rfl) rfl rfl ?_
                refine g_goto 115 (gd rfl) rfl ?_
                refine g_aload_n 116 (gd rfl) rfl rfl ?_
                refine g_getI 119 (gd rfl) rfl rfl rfl (fun z116 e116 => ?_)
                have q116 : u_109_29 = z116 := (fr_F e_109_29 hFc10 rfl).trans e116.symm
                subst q116
                refine g_callv (X := _) (As := [.int (Int32.ofInt 3), .int u_109_29]) (r := []) (b := A 109) (q := 109) 122 (gd rfl) rfl rfl rfl rfl rfl (ww_o rfl) (Nat.le_of_ble_eq_true rfl) (Nat.zero_le _) (Nat.zero_le _) (k_298 (by first | exact dq1 hd rfl | exact dq0 hd rfl | exact dq2 hd rfl | exact dq3 hd rfl | omega) hIc10 (in_w 1 5 (in_c 3 rfl) rfl)) (fun e u h => h) (fun v u h => ?_)
                obtain ⟨s119, hI119, hF119, n119, rfl, rfl⟩ := h
                obtain ⟨z119a, e119⟩ : ∃ w, w = s119.2.2.1 109 23 := ⟨_, rfl⟩
                have i119a := inv_F hI119 0 9 rfl e119
                rw [← (show z119a = s119.2.2.1 109 23 from e119)] at n119
                show GG _ _ _ _ _ _ _ _ [] _ _ _
                have n122 : (w10_109_27).toInt ≤ (u_109_22).toInt := by first | exact n10_0 | (have a0 := oa7 i107 ro_109_29 i18a i18 j10_2 i119a i100; have a7 := t_sub e98 i18 j10_2 rfl; omega)
                have n122a : (s119.2.2.1 109 27).toInt ≤ (s119.2.2.1 109 22).toInt := by have b0 : w10_109_27 = s119.2.2.1 109 27 := fr_F (v10_109_27) hF119 rfl; have b1 : u_109_22 = s119.2.2.1 109 22 := fr_F (fr_F e_109_22 hFc10 rfl) hF119 rfl; rw [← b0, ← b1]; exact n122
                have n122b : (u_109_27).toInt + 1 ≤ (w10_109_27).toInt := by have a0 := oa7 i107 ro_109_29 i18a i18 j10_2 i119a i100; have a7 := t_sub e98 i18 j10_2 rfl; omega
                have n122c : (s.2.2.1 109 27).toInt + 1 ≤ (s119.2.2.1 109 27).toInt := by have b0 : w10_109_27 = s119.2.2.1 109 27 := fr_F (v10_109_27) hF119 rfl; first | (rw [← b0, ← e_109_27]; exact n122b) | (rw [← b0]; exact n122b)
                exact g_return (gd rfl) rfl (hP _ _ ⟨s119, hI119, (fr_tr rfl hFc10 hF119), n122a, n122c, rfl, rfl⟩)
          · skip
            exact zn_ne c33 (in_c 0 rfl) rfl
        · skip
          have i30x3 := r_le2 48 126 c30x3 (in_c 48 rfl) i29 rfl
          refine g_iload_n 7 (gd rfl) rfl rfl ?_
          refine g_bipush 57 9 (gd rfl) rfl rfl ?_
          refine g_cmp_gt 12 16 (gd rfl) rfl rfl (fun c30x9 => ?_) (fun c30x9 => ?_)
          · skip
            have i30x9 := r_lt2 58 126 c30x9 (in_c 57 rfl) i30x3 rfl
            refine g_iconst 0 17 (gd rfl) rfl rfl ?_
            refine g_ireturn (gd rfl) rfl (nb01 (in_w 0 1 (in_c 0 rfl) rfl)) (hp30 _ _ ?_)
            show GG _ _ _ _ _ _ _ _ [.int (Int32.ofInt 0)] _ _ _
            refine g_if_eq 36 93 (gd rfl) rfl rfl (fun c33 => ?_) (fun c33 => ?_)
            · skip
              have hq93 : (u_109_27).toInt + 1 ≤ (w10_109_27).toInt := (by first | (have a0 := oa5 h1 ro_109_29 i18a i18 j10_2; omega) | (have hi := i30x3; unfold In at hi; have a0 := oa5 h1 ro_109_29 i18a i18 j10_2; omega) | (have hi := i30x9; unfold In at hi; have a0 := oa5 h1 ro_109_29 i18a i18 j10_2; omega))
              refine g_aload_n 94 (gd rfl) rfl rfl ?_
              refine g_getI 97 (gd rfl) rfl rfl rfl (fun z94 e94 => ?_)
              have q94 : w10_109_27 = z94 := (v10_109_27).trans e94.symm
              subst q94
              refine g_iload_n 98 (gd rfl) rfl rfl ?_
              refine g_isub 99 (gd rfl) rfl (fun z98 e98 => ?_)
              have i98 := in_sub (-1000) 999 e98 i18 j10_2 rfl rfl
              refine g_iload_n 100 (gd rfl) rfl rfl ?_
              refine g_cmp_le 103 122 (gd rfl) rfl rfl (fun c100 => ?_) (fun c100 => ?_)
              · skip
                have i100 := r_le1 (-1000) 7 c100 i98 h1 rfl
                have n122 : (w10_109_27).toInt ≤ (u_109_22).toInt := by first | exact n10_0 | (have a0 := oa6 h1 ro_109_29 i18a i18 j10_2 i100; have a6 := t_sub e98 i18 j10_2 rfl; omega)
                have n122a : (sc10.2.2.1 109 27).toInt ≤ (sc10.2.2.1 109 22).toInt := by have b0 : w10_109_27 = sc10.2.2.1 109 27 := v10_109_27; have b1 : u_109_22 = sc10.2.2.1 109 22 := fr_F e_109_22 hFc10 rfl; rw [← b0, ← b1]; exact n122
                have n122b : (u_109_27).toInt + 1 ≤ (w10_109_27).toInt := by have a0 := oa6 h1 ro_109_29 i18a i18 j10_2 i100; have a6 := t_sub e98 i18 j10_2 rfl; omega
                have n122c : (s.2.2.1 109 27).toInt + 1 ≤ (sc10.2.2.1 109 27).toInt := by have b0 : w10_109_27 = sc10.2.2.1 109 27 := v10_109_27; first | (rw [← b0, ← e_109_27]; exact n122b) | (rw [← b0]; exact n122b)
                exact g_return (gd rfl) rfl (hP _ _ ⟨sc10, hIc10, hFc10, n122a, n122c, rfl, rfl⟩)
              · skip
                have i100 := r_lt2 7 999 c100 h1 i98 rfl
                refine g_aload_n 104 (gd rfl) rfl rfl ?_
                refine g_iload_n 105 (gd rfl) rfl rfl ?_
                refine g_bipush 7 107 (gd rfl) rfl rfl ?_
                refine g_cmp_ne 110 114 (gd rfl) rfl rfl (fun c107 => ?_) (fun c107 => ?_)
                · skip
                  have i107 := r_ne1 6 6 c107 h1 (in_c 7 rfl) rfl
                  refine g_iconst 4 115 (gd rfl) rfl rfl ?_
                  refine g_aload_n 116 (gd rfl) rfl rfl ?_
                  refine g_getI 119 (gd rfl) rfl rfl rfl (fun z116 e116 => ?_)
                  have q116 : u_109_29 = z116 := (fr_F e_109_29 hFc10 rfl).trans e116.symm
                  subst q116
                  refine g_callv (X := _) (As := [.int (Int32.ofInt 4), .int u_109_29]) (r := []) (b := A 109) (q := 109) 122 (gd rfl) rfl rfl rfl rfl rfl (ww_o rfl) (Nat.le_of_ble_eq_true rfl) (Nat.zero_le _) (Nat.zero_le _) (k_298 (by first | exact dq1 hd rfl | exact dq0 hd rfl | exact dq2 hd rfl | exact dq3 hd rfl | omega) hIc10 (in_w 1 5 (in_c 4 rfl) rfl)) (fun e u h => h) (fun v u h => ?_)
                  obtain ⟨s119, hI119, hF119, n119, rfl, rfl⟩ := h
                  obtain ⟨z119a, e119⟩ : ∃ w, w = s119.2.2.1 109 23 := ⟨_, rfl⟩
                  have i119a := inv_F hI119 0 9 rfl e119
                  rw [← (show z119a = s119.2.2.1 109 23 from e119)] at n119
                  show GG _ _ _ _ _ _ _ _ [] _ _ _
                  have n122 : (w10_109_27).toInt ≤ (u_109_22).toInt := by first | exact n10_0 | (have a0 := oa7 i107 ro_109_29 i18a i18 j10_2 i119a i100; have a7 := t_sub e98 i18 j10_2 rfl; omega)
                  have n122a : (s119.2.2.1 109 27).toInt ≤ (s119.2.2.1 109 22).toInt := by have b0 : w10_109_27 = s119.2.2.1 109 27 := fr_F (v10_109_27) hF119 rfl; have b1 : u_109_22 = s119.2.2.1 109 22 := fr_F (fr_F e_109_22 hFc10 rfl) hF119 rfl; rw [← b0, ← b1]; exact n122
                  have n122b : (u_109_27).toInt + 1 ≤ (w10_109_27).toInt := by have a0 := oa7 i107 ro_109_29 i18a i18 j10_2 i119a i100; have a7 := t_sub e98 i18 j10_2 rfl; omega
                  have n122c : (s.2.2.1 109 27).toInt + 1 ≤ (s119.2.2.1 109 27).toInt := by have b0 : w10_109_27 = s119.2.2.1 109 27 := fr_F (v10_109_27) hF119 rfl; first | (rw [← b0, ← e_109_27]; exact n122b) | (rw [← b0]; exact n122b)
                  exact g_return (gd rfl) rfl (hP _ _ ⟨s119, hI119, (fr_tr rfl hFc10 hF119), n122a, n122c, rfl, rfl⟩)
                · skip
                  have i107 := r_eq1 7 7 c107 h1 (in_c 7 rfl) rfl
                  refine g_iconst 3 111 (gd rfl) rfl rfl ?_
                  refine g_goto 115 (gd rfl) rfl ?_
                  refine g_aload_n 116 (gd rfl) rfl rfl ?_
                  refine g_getI 119 (gd rfl) rfl rfl rfl (fun z116 e116 => ?_)
                  have q116 : u_109_29 = z116 := (fr_F e_109_29 hFc10 rfl).trans e116.symm
                  subst q116
                  refine g_callv (X := _) (As := [.int (Int32.ofInt 3), .int u_109_29]) (r := []) (b := A 109) (q := 109) 122 (gd rfl) rfl rfl rfl rfl rfl (ww_o rfl) (Nat.le_of_ble_eq_true rfl) (Nat.zero_le _) (Nat.zero_le _) (k_298 (by first | exact dq1 hd rfl | exact dq0 hd rfl | exact dq2 hd rfl | exact dq3 hd rfl | omega) hIc10 (in_w 1 5 (in_c 3 rfl) rfl)) (fun e u h => h) (fun v u h => ?_)
                  obtain ⟨s119, hI119, hF119, n119, rfl, rfl⟩ := h
                  obtain ⟨z119a, e119⟩ : ∃ w, w = s119.2.2.1 109 23 := ⟨_, rfl⟩
                  have i119a := inv_F hI119 0 9 rfl e119
                  rw [← (show z119a = s119.2.2.1 109 23 from e119)] at n119
                  show GG _ _ _ _ _ _ _ _ [] _ _ _
                  have n122 : (w10_109_27).toInt ≤ (u_109_22).toInt := by first | exact n10_0 | (have a0 := oa7 i107 ro_109_29 i18a i18 j10_2 i119a i100; have a7 := t_sub e98 i18 j10_2 rfl; omega)
                  have n122a : (s119.2.2.1 109 27).toInt ≤ (s119.2.2.1 109 22).toInt := by have b0 : w10_109_27 = s119.2.2.1 109 27 := fr_F (v10_109_27) hF119 rfl; have b1 : u_109_22 = s119.2.2.1 109 22 := fr_F (fr_F e_109_22 hFc10 rfl) hF119 rfl; rw [← b0, ← b1]; exact n122
                  have n122b : (u_109_27).toInt + 1 ≤ (w10_109_27).toInt := by have a0 := oa7 i107 ro_109_29 i18a i18 j10_2 i119a i100; have a7 := t_sub e98 i18 j10_2 rfl; omega
                  have n122c : (s.2.2.1 109 27).toInt + 1 ≤ (s119.2.2.1 109 27).toInt := by have b0 : w10_109_27 = s119.2.2.1 109 27 := fr_F (v10_109_27) hF119 rfl; first | (rw [← b0, ← e_109_27]; exact n122b) | (rw [← b0]; exact n122b)
                  exact g_return (gd rfl) rfl (hP _ _ ⟨s119, hI119, (fr_tr rfl hFc10 hF119), n122a, n122c, rfl, rfl⟩)
            · skip
              exact zn_ne c33 (in_c 0 rfl) rfl
          · skip
            have i30x9 := r_le1 48 57 c30x9 i30x3 (in_c 57 rfl) rfl
            refine g_iconst 1 13 (gd rfl) rfl rfl ?_
            refine g_goto 17 (gd rfl) rfl ?_
            refine g_ireturn (gd rfl) rfl (nb01 (in_w 0 1 (in_c 1 rfl) rfl)) (hp30 _ _ ?_)
            show GG _ _ _ _ _ _ _ _ [.int (Int32.ofInt 1)] _ _ _
            refine g_if_eq 36 93 (gd rfl) rfl rfl (fun c33 => ?_) (fun c33 => ?_)
            · skip
              exact zn_eq c33 (in_c 1 rfl) rfl
            · skip
              refine g_aload_n 37 (gd rfl) rfl rfl ?_
              refine g_aload_n 38 (gd rfl) rfl rfl ?_
              refine g_getI 41 (gd rfl) rfl rfl rfl (fun z38 e38 => ?_)
              have q38 : w10_109_27 = z38 := (v10_109_27).trans e38.symm
              subst q38
              refine g_iload_n 42 (gd rfl) rfl rfl ?_
              refine g_isub 43 (gd rfl) rfl (fun z42 e42 => ?_)
              have i42 := in_sub (-1000) 999 e42 i18 j10_2 rfl rfl
              refine g_iload_n 44 (gd rfl) rfl rfl ?_
              refine g_cmp_ge 47 73 (gd rfl) rfl rfl (fun c44 => ?_) (fun c44 => ?_)
              · skip
                have i44 := r_le2 6 999 c44 h1 i42 rfl
                refine g_aload_n 74 (gd rfl) rfl rfl ?_
                refine g_getL 77 (gd rfl) rfl rfl rfl (fun z74 e74 => ?_)
                refine g_putL 80 (gd rfl) rfl rfl rfl rfl ?_
                have hI77 := inv_sG (q := 109) (j := 31) (x := z74) hIc10 rfl (l_rng z74)
                refine g_aload_n 81 (gd rfl) rfl rfl ?_
                refine g_dup 82 (gd rfl) rfl rfl ?_
                refine g_getI 85 (gd rfl) rfl rfl rfl (fun z82 e82 => ?_)
                have q82 : w10_109_27 = z82 := (sG_F (v10_109_27)).trans e82.symm
                subst q82
                refine g_iconst 1 86 (gd rfl) rfl rfl ?_
                refine g_iadd 87 (gd rfl) rfl (fun z86 e86 => ?_)
                have i86 := in_add 1 1000 e86 i18 (in_c 1 rfl) rfl rfl
                refine g_putI 90 (gd rfl) rfl rfl rfl rfl ?_
                have hI87 := inv_sF (q := 109) (j := 27) hI77 rfl (in_w 0 1000 i86 rfl)
                refine g_goto 10 (gd rfl) rfl ?_
                have v10 : z86 = (sF (sG sc10 109 31 z74) 109 27 z86).2.2.1 109 27 := sF_get
                have n10 : (z86).toInt ≤ (u_109_22).toInt := by have a0 := oa6 h1 ro_109_29 i18a i18 j10_2 i86; have a6 := t_add e86 i18 (in_c 1 rfl) rfl; have a7 := oa2 ((in_c 1 rfl)) i44; have a9 := t_sub e42 i18 j10_2 rfl; omega
                have n10a : (u_109_27).toInt ≤ (z86).toInt := by have a0 := oa6 h1 ro_109_29 i18a i18 j10_2 i86; have a6 := t_add e86 i18 (in_c 1 rfl) rfl; have a7 := oa2 ((in_c 1 rfl)) i44; have a9 := t_sub e42 i18 j10_2 rfl; omega
                have m10 : (u_109_22).toInt - (z86).toInt < ((k10 : Nat) : Int) := by have a0 := oa6 h1 ro_109_29 i18a i18 j10_2 i86; have a6 := t_add e86 i18 (in_c 1 rfl) rfl; have a7 := oa2 ((in_c 1 rfl)) i44; have a9 := t_sub e42 i18 j10_2 rfl; omega
                exact gg_w (by first | exact Nat.le_add_right _ _ | exact gw2 | exact gw3 | exact gwe rfl | exact gwf rfl | exact gwg rfl | exact gwh rfl | omega) (gg_f (gf_cons rfl (gf_cons rfl (gf_cons rfl gf_nil))) (ih10  (sF (sG sc10 109 31 z74) 109 27 z86) y10_2 z86 hI87 (fr_sF rfl (fr_sG rfl hFc10)) (in_w 0 1000 j10_2 rfl) v10 n10 n10a m10))
              · skip
                have i44 := r_lt1 (-1000) 6 c44 i42 h1 rfl
                refine g_ldc2_w 10 50 (gd rfl) rfl rfl ?_
                refine g_aload_n 51 (gd rfl) rfl rfl ?_
                refine g_getL 54 (gd rfl) rfl rfl rfl (fun z51 e51 => ?_)
                refine g_lmul 55 (gd rfl) rfl (fun z54 e54 => ?_)
                refine g_aload_n 56 (gd rfl) rfl rfl ?_
                refine g_getA (q2 := 125) 59 (gd rfl) rfl rfl rfl rfl ?_
                refine g_aload_n 60 (gd rfl) rfl rfl ?_
                refine g_getI 63 (gd rfl) rfl rfl rfl (fun z60 e60 => ?_)
                have q60 : w10_109_27 = z60 := (v10_109_27).trans e60.symm
                subst q60
                refine g_iaload 64 (gd rfl) rfl (n := 1000) rfl (in_ix i18 rfl) (fun z63 e63 => ?_)
                have q63 : z29 = z63 := (e29).trans e63.symm
                subst q63
                refine g_i2l 65 (gd rfl) rfl (fun z64 e64 => ?_)
                have i64 := l_i e64 i30x9
                refine g_ladd 66 (gd rfl) rfl (fun z65 e65 => ?_)
                refine g_ldc2_w 48 69 (gd rfl) rfl rfl ?_
                refine g_lsub 70 (gd rfl) rfl (fun z69 e69 => ?_)
                refine g_goto 77 (gd rfl) rfl ?_
                refine g_putL 80 (gd rfl) rfl rfl rfl rfl ?_
                have hI77 := inv_sG (q := 109) (j := 31) (x := z69) hIc10 rfl (l_rng z69)
                refine g_aload_n 81 (gd rfl) rfl rfl ?_
                refine g_dup 82 (gd rfl) rfl rfl ?_
                refine g_getI 85 (gd rfl) rfl rfl rfl (fun z82 e82 => ?_)
                have q82 : w10_109_27 = z82 := (sG_F (v10_109_27)).trans e82.symm
                subst q82
                refine g_iconst 1 86 (gd rfl) rfl rfl ?_
                refine g_iadd 87 (gd rfl) rfl (fun z86 e86 => ?_)
                have i86 := in_add 1 1000 e86 i18 (in_c 1 rfl) rfl rfl
                refine g_putI 90 (gd rfl) rfl rfl rfl rfl ?_
                have hI87 := inv_sF (q := 109) (j := 27) hI77 rfl (in_w 0 1000 i86 rfl)
                refine g_goto 10 (gd rfl) rfl ?_
                have v10 : z86 = (sF (sG sc10 109 31 z69) 109 27 z86).2.2.1 109 27 := sF_get
                have n10 : (z86).toInt ≤ (u_109_22).toInt := by have a0 := oa6 h1 ro_109_29 i18a i18 j10_2 i86; have a6 := t_add e86 i18 (in_c 1 rfl) rfl; have a7 := in_u ((in_c 1 rfl)); have a8 := tx_i2l e64; have a9 := oa2 i30x9 i44; have a11 := t_sub e42 i18 j10_2 rfl; omega
                have n10a : (u_109_27).toInt ≤ (z86).toInt := by have a0 := oa6 h1 ro_109_29 i18a i18 j10_2 i86; have a6 := t_add e86 i18 (in_c 1 rfl) rfl; have a7 := in_u ((in_c 1 rfl)); have a8 := tx_i2l e64; have a9 := oa2 i30x9 i44; have a11 := t_sub e42 i18 j10_2 rfl; omega
                have m10 : (u_109_22).toInt - (z86).toInt < ((k10 : Nat) : Int) := by have a0 := oa6 h1 ro_109_29 i18a i18 j10_2 i86; have a6 := t_add e86 i18 (in_c 1 rfl) rfl; have a7 := in_u ((in_c 1 rfl)); have a8 := tx_i2l e64; have a9 := oa2 i30x9 i44; have a11 := t_sub e42 i18 j10_2 rfl; omega
                exact gg_w (by first | exact Nat.le_add_right _ _ | exact gw2 | exact gw3 | exact gwe rfl | exact gwf rfl | exact gwg rfl | exact gwh rfl | omega) (gg_f (gf_cons rfl (gf_cons rfl (gf_cons rfl gf_nil))) (ih10  (sF (sG sc10 109 31 z69) 109 27 z86) y10_2 z86 hI87 (fr_sF rfl (fr_sG rfl hFc10)) (in_w 0 1000 j10_2 rfl) v10 n10 n10a m10))
  refine g_enter2 (k := 300) (N := 901801) (by first | exact dq1 hd rfl | exact dq0 hd rfl | exact dq2 hd rfl | exact dq3 hd rfl | omega) rfl (Nat.le_of_ble_eq_true rfl) ?_
  refine g_aload_n 1 (gd rfl) rfl rfl ?_
  refine g_getI 4 (gd rfl) rfl rfl rfl (fun z1 e1 => ?_)
  have q1 : u_109_27 = z1 := (e_109_27).trans e1.symm
  subst q1
  refine g_istore_n 5 (gd rfl) rfl (Nat.le_of_ble_eq_true rfl) ?_
  refine g_aload_n 6 (gd rfl) rfl rfl ?_
  refine g_lconst 0 7 (gd rfl) rfl rfl ?_
  refine g_putL 10 (gd rfl) rfl rfl rfl rfl ?_
  have hI7 := inv_sG (q := 109) (j := 31) (x := (Int64.ofInt 0)) hI rfl (l_rng (Int64.ofInt 0))
  have v10 : u_109_27 = (sG s 109 31 (Int64.ofInt 0)).2.2.1 109 27 := sG_F (e_109_27)
  have n10 : (u_109_27).toInt ≤ (u_109_22).toInt := by have a0 := oa4 ro_109_29 ((inv_F hI 0 1000 rfl e_109_22)) ((inv_F hI 0 1000 rfl e_109_27)) h1; omega
  have n10a : (u_109_27).toInt ≤ (u_109_27).toInt := by exact Int.le_refl _
  have m10 : (u_109_22).toInt - (u_109_27).toInt < ((1001 : Nat) : Int) := by have a0 := oa4 ro_109_29 ((inv_F hI 0 1000 rfl e_109_22)) ((inv_F hI 0 1000 rfl e_109_27)) h1; omega
  exact gg_w (by first | exact Nat.le_of_ble_eq_true rfl | omega) (gg_f (gf_cons rfl (gf_cons rfl (gf_cons rfl gf_nil))) (ct10 1001 (sG s 109 31 (Int64.ofInt 0)) u_109_27 u_109_27 hI7 (fr_sG rfl fr_rf) (in_w 0 1000 (inv_F hI 0 1000 rfl e_109_27) rfl) v10 n10 n10a m10))

def fm_312 : FM := ([131], [130], [], [])
/-- GraphHouseModel.toGoal -/
theorem k_312 {Z : AmZ} {A : Nat → Nat} {s : GS} {ex : va_W} {d : Nat} {X : AmX} {x1 : Int32} {x2 : Int32} (hd : 4 ≤ d) (hI : Inv s) (h1 : In x1 0 31) (q_0 : BTS s (x1).toNatClampNeg (x2)) : GC Z d 312 [.ref (A 109), .int x1, .int x2] (WW Z A s ++ ex) 0 0 (fun v u => ∃ t : GS, Inv t ∧ Fr fm_312 s t ∧ ∃ z : Int32, v = some (.int z) ∧ u = WW Z A t ++ ex ∧ In z 0 1 ∧ ((z).toInt ≠ 0 → WFN t (x1).toNatClampNeg (x2))) X := by
  intro post xp hP hX
  obtain ⟨u_109_19, e_109_19⟩ : ∃ w, w = s.2.2.1 109 19 := ⟨_, rfl⟩
  have ro_109_19 := inv_F hI 0 160 rfl e_109_19
  obtain ⟨u_109_20, e_109_20⟩ : ∃ w, w = s.2.2.1 109 20 := ⟨_, rfl⟩
  have ro_109_20 := inv_F hI 0 32 rfl e_109_20
  have ct234 : ∀ (sc234 : GS) (y234_3 : Int32) (y234_4 : Int32), Inv sc234 → Fr fm_312 s sc234 → (In y234_3 0 1) → (In y234_4 0 33) → ((y234_3).toInt = 0 → TGI s (x1).toNatClampNeg (x2) 10000000000 sc234 ∧ TCL s (x2) sc234 160) → GG Z (d - 1) 312 post (gx xp) (901) 234 (fun j => xlook j [(0, .ref (A 109)), (1, .int x1), (2, .int x2), (3, .int y234_3), (4, .int y234_4)]) [] (WW Z A sc234 ++ ex) 0 0 := by
    intro sc234 y234_3 y234_4 hIc234 hFc234 j234_3 j234_4 g234_0
    refine g_iload_n 235 (gd rfl) rfl rfl ?_
    refine g_if_eq 238 240 (gd rfl) rfl rfl (fun c235 => ?_) (fun c235 => ?_)
    · skip
      have i235 := z_eq 0 0 c235 j234_3 rfl
      refine g_aload_n 241 (gd rfl) rfl rfl ?_
      refine g_iload_n 242 (gd rfl) rfl rfl ?_
      refine g_iload_n 243 (gd rfl) rfl rfl ?_
      have p243 : FWP sc234 (x1).toNatClampNeg (x2) := by exact fwp_i hI (hFc234.1 112 rfl) (hFc234.1 113 rfl) (hFc234.1 114 rfl) (hFc234.1 115 rfl) (hFc234.2.2.1 109 19 rfl) (hFc234.2.2.1 109 20 rfl) q_0 (g234_0 c235).1 (by omega) (g234_0 c235).2
      refine g_callv (X := _) (As := [.int x1, .int x2]) (r := []) (b := A 109) (q := 109) 246 (gd rfl) rfl rfl rfl rfl rfl (ww_o rfl) (Nat.le_of_ble_eq_true rfl) (Nat.zero_le _) (Nat.zero_le _) (k_313 (by first | exact dq1 hd rfl | exact dq0 hd rfl | exact dq2 hd rfl | exact dq3 hd rfl | omega) hIc234 (in_w 0 31 h1 rfl) p243) (fun e u h => h) (fun v u h => ?_)
      obtain ⟨s243, hI243, hF243, rfl, rfl, p243a⟩ := h
      show GG _ _ _ _ _ _ _ _ [] _ _ _
      refine g_iconst 1 247 (gd rfl) rfl rfl ?_
      have n247 : ((Int32.ofInt 1)).toInt ≠ 0 → WFN s243 (x1).toNatClampNeg (x2) := by exact fun _ => p243a
      exact g_ireturn (gd rfl) rfl (nb01 (in_w 0 1 (in_c 1 rfl) rfl)) (hP _ _ ⟨s243, hI243, (fr_tr rfl hFc234 hF243), (Int32.ofInt 1), rfl, rfl, in_w 0 1 (in_c 1 rfl) rfl, n247⟩)
    · skip
      have i235 := z_ne 1 1 c235 j234_3 rfl
      refine g_iconst 0 239 (gd rfl) rfl rfl ?_
      have n239 : ((Int32.ofInt 0)).toInt ≠ 0 → WFN sc234 (x1).toNatClampNeg (x2) := by exact fun hz => absurd (by decide) hz
      exact g_ireturn (gd rfl) rfl (nb01 (in_w 0 1 (in_c 0 rfl) rfl)) (hP _ _ ⟨sc234, hIc234, hFc234, (Int32.ofInt 0), rfl, rfl, in_w 0 1 (in_c 0 rfl) rfl, n239⟩)
  have ct44 : ∀ (k44 : Nat) (sc44 : GS) (y44_3 : Int32) (y44_4 : Int32), Inv sc44 → Fr fm_312 s sc44 → (In y44_3 0 1) → (In y44_4 0 33) → (TGI s (x1).toNatClampNeg (x2) (160000000 * (y44_4).toInt) sc44) → ((y44_3).toInt = 0 → TCL s (x2) sc44 160) → 33 - (y44_4).toInt < (k44 : Int) → GG Z (d - 1) 312 post (gx xp) (902 + k44 * 812251) 44 (fun j => xlook j [(0, .ref (A 109)), (1, .int x1), (2, .int x2), (3, .int y44_3), (4, .int y44_4)]) [] (WW Z A sc44 ++ ex) 0 0 := by
    intro k44
    induction k44 with
    | zero => intro sc44 y44_3 y44_4 hIc44 hFc44 j44_3 j44_4 g44_0 g44_1 mm44; exact m_no mm44 j44_4 rfl
    | succ k44 ih44 =>
      intro sc44 y44_3 y44_4 hIc44 hFc44 j44_3 j44_4 g44_0 g44_1 mm44
      refine gg_w (M := 902 + k44 * 812251 + 812251) gws ?_
      have ct65 : ∀ (k65 : Nat) (sc65 : GS) (y65_3 : Int32) (y65_5 : Int32), Inv sc65 → Fr fm_312 s sc65 → (In y65_3 0 1) → (In y44_4 0 32) → (In y65_5 0 448) → ((u_109_19).toInt ≤ (y65_5).toInt) → ((y65_5).toInt ≤ (u_109_19).toInt + 160) → (TGI s (x1).toNatClampNeg (x2) (160000000 * (y44_4).toInt + 1000000 * ((y65_5).toInt - u_109_19.toInt)) sc65) → ((y65_3).toInt = 0 → TCL s (x2) sc65 ((y65_5).toInt - u_109_19.toInt).toNat) → 448 - (y65_5).toInt < (k65 : Int) → GG Z (d - 1) 312 post (gx xp) (902 + k44 * 812251 + 1 + k65 * 1801) 65 (fun j => xlook j [(0, .ref (A 109)), (1, .int x1), (2, .int x2), (3, .int y65_3), (4, .int y44_4), (5, .int y65_5)]) [] (WW Z A sc65 ++ ex) 0 0 := by
        intro k65
        induction k65 with
        | zero => intro sc65 y65_3 y65_5 hIc65 hFc65 j65_3 j65_4 j65_5 n65_0 n65_1 g65_0 g65_1 mm65; exact m_no mm65 j65_5 rfl
        | succ k65 ih65 =>
          intro sc65 y65_3 y65_5 hIc65 hFc65 j65_3 j65_4 j65_5 n65_0 n65_1 g65_0 g65_1 mm65
          refine gg_w (M := 902 + k44 * 812251 + 1 + k65 * 1801 + 1801) gws ?_
          have ct222 : ∀ (sc222 : GS) (y222_3 : Int32), Inv sc222 → Fr fm_312 s sc222 → (In y222_3 0 1) → (In y65_5 0 400) → ((u_109_19).toInt ≤ (y65_5).toInt) → ((y65_5).toInt < (u_109_19).toInt + 160) → (TGI s (x1).toNatClampNeg (x2) ((160000000 * (y44_4).toInt + 1000000 * ((y65_5).toInt - u_109_19.toInt)) + 1000000) sc222) → ((y222_3).toInt = 0 → TCL s (x2) sc222 (((y65_5).toInt - u_109_19.toInt).toNat + 1)) → GG Z (d - 1) 312 post (gx xp) (902 + k44 * 812251 + 1 + k65 * 1801 + 901) 222 (fun j => xlook j [(0, .ref (A 109)), (1, .int x1), (2, .int x2), (3, .int y222_3), (4, .int y44_4), (5, .int y65_5)]) [] (WW Z A sc222 ++ ex) 0 0 := by
            intro sc222 y222_3 hIc222 hFc222 j222_3 j222_5 n222_0 n222_1 g222_0 g222_1
            refine g_iinc 225 (gd rfl) rfl rfl (Nat.le_of_ble_eq_true rfl) (fun z222 e222 => ?_)
            have i222 := in_add 1 401 e222 j222_5 (in_c 1 rfl) rfl rfl
            refine g_goto 65 (gd rfl) rfl ?_
            have n65 : (u_109_19).toInt ≤ (z222).toInt := by have a0 := oa7 j222_5 j65_4 h1 ro_109_20 ro_109_19 j222_3 i222; have a7 := t_add e222 j222_5 (in_c 1 rfl) rfl; have a8 := in_u ((in_c 1 rfl)); omega
            have n65a : (z222).toInt ≤ (u_109_19).toInt + 160 := by have a0 := oa7 j222_5 j65_4 h1 ro_109_20 ro_109_19 j222_3 i222; have a7 := t_add e222 j222_5 (in_c 1 rfl) rfl; have a8 := in_u ((in_c 1 rfl)); omega
            have n65b : TGI s (x1).toNatClampNeg (x2) (160000000 * (y44_4).toInt + 1000000 * ((z222).toInt - u_109_19.toInt)) sc222 := by exact tgi_w g222_0 (by have a0 := oa7 j222_5 j65_4 h1 ro_109_20 ro_109_19 j222_3 i222; have a7 := t_add e222 j222_5 (in_c 1 rfl) rfl; have a8 := in_u ((in_c 1 rfl)); omega)
            have n65c : (y222_3).toInt = 0 → TCL s (x2) sc222 ((z222).toInt - u_109_19.toInt).toNat := by (intro hz; rw [show (z222.toInt - u_109_19.toInt).toNat = (y65_5.toInt - u_109_19.toInt).toNat + 1 from (by have a0 := oa7 j222_5 j65_4 h1 ro_109_20 ro_109_19 j222_3 i222; have a7 := t_add e222 j222_5 (in_c 1 rfl) rfl; have a8 := in_u ((in_c 1 rfl)); omega)]; exact g222_1 hz)
            exact gg_w (by first | exact Nat.le_add_right _ _ | exact gw2 | exact gw3 | exact gwe rfl | exact gwf rfl | exact gwg rfl | exact gwh rfl | omega) (gg_f (gf_cons rfl (gf_cons rfl (gf_cons rfl (gf_cons rfl (gf_cons rfl (gf_cons rfl gf_nil)))))) (ih65 sc222 y222_3 z222 hIc222 hFc222 (in_w 0 1 j222_3 rfl) (in_w 0 32 j65_4 rfl) (in_w 0 448 i222 rfl) n65 n65a n65b n65c (m_up mm65 (t_add e222 j222_5 (in_c 1 rfl) rfl) (in_w 1 1 (in_c 1 rfl) rfl))))
          refine g_iload 67 (gd rfl) rfl rfl ?_
          refine g_aload_n 68 (gd rfl) rfl rfl ?_
          refine g_getI 71 (gd rfl) rfl rfl rfl (fun z68 e68 => ?_)
          have q68 : u_109_19 = z68 := (fr_F e_109_19 hFc65 rfl).trans e68.symm
          subst q68
          refine g_sipush 160 74 (gd rfl) rfl rfl ?_
          refine g_iadd 75 (gd rfl) rfl (fun z74 e74 => ?_)
          have i74 := in_add 160 320 e74 ro_109_19 (in_c 160 rfl) rfl rfl
          refine g_cmp_ge 78 228 (gd rfl) rfl rfl (fun c75 => ?_) (fun c75 => ?_)
          · skip
            have i75 := r_le2 160 448 c75 i74 j65_5 rfl
            refine g_iinc 231 (gd rfl) rfl rfl (Nat.le_of_ble_eq_true rfl) (fun z228 e228 => ?_)
            have i228 := in_add 1 33 e228 j65_4 (in_c 1 rfl) rfl rfl
            refine g_goto 44 (gd rfl) rfl ?_
            have n44 : TGI s (x1).toNatClampNeg (x2) (160000000 * (z228).toInt) sc65 := by exact tgi_w g65_0 (by have a0 := oa7 j65_4 h1 ro_109_20 ro_109_19 i75 j65_3 i228; have a7 := t_add e228 j65_4 (in_c 1 rfl) rfl; have a8 := oa2 ((in_c 1 rfl)) i74; have a10 := t_add e74 ro_109_19 (in_c 160 rfl) rfl; have a11 := in_u ((in_c 160 rfl)); omega)
            have n44a : (y65_3).toInt = 0 → TCL s (x2) sc65 160 := by (intro hz; have hc := g65_1 hz; rw [show (y65_5.toInt - u_109_19.toInt).toNat = 160 from (by have a0 := oa7 j65_4 h1 ro_109_20 ro_109_19 i75 j65_3 i228; have a7 := t_add e228 j65_4 (in_c 1 rfl) rfl; have a8 := oa2 ((in_c 1 rfl)) i74; have a10 := t_add e74 ro_109_19 (in_c 160 rfl) rfl; have a11 := in_u ((in_c 160 rfl)); omega)] at hc; exact hc)
            exact gg_w (by first | exact Nat.le_add_right _ _ | exact gw2 | exact gw3 | exact gwe rfl | exact gwf rfl | exact gwg rfl | exact gwh rfl | omega) (gg_f (gf_cons rfl (gf_cons rfl (gf_cons rfl (gf_cons rfl (gf_cons rfl gf_nil))))) (ih44 sc65 y65_3 z228 hIc65 hFc65 (in_w 0 1 j65_3 rfl) (in_w 0 33 i228 rfl) n44 n44a (m_up mm44 (t_add e228 j65_4 (in_c 1 rfl) rfl) (in_w 1 1 (in_c 1 rfl) rfl))))
          · skip
            have i75 := r_lt1 0 319 c75 j65_5 i74 rfl
            refine g_aload_n 79 (gd rfl) rfl rfl ?_
            refine g_getA (q2 := 112) 82 (gd rfl) rfl rfl rfl rfl ?_
            refine g_iload 84 (gd rfl) rfl rfl ?_
            refine g_baload 85 (gd rfl) rfl (n := 480) rfl (in_ix i75 rfl) (fun z84 e84 => ?_)
            have i84 := inv_I hIc65 (n := 480) (t := 3) 0 1 rfl (in_ix i75 rfl) rfl e84
            refine g_if_eq 88 222 (gd rfl) rfl rfl (fun c85 => ?_) (fun c85 => ?_)
            · skip
              have i85 := z_eq 0 0 c85 i84 rfl
              have n222 : (u_109_19).toInt ≤ (y65_5).toInt := by first | exact n65_0 | (have a0 := oa7 j65_4 h1 ro_109_20 ro_109_19 i75 j65_3 i74; have a7 := t_add e74 ro_109_19 (in_c 160 rfl) rfl; have a8 := in_u ((in_c 160 rfl)); omega)
              have n222a : (y65_5).toInt < (u_109_19).toInt + 160 := by have a0 := oa7 j65_4 h1 ro_109_20 ro_109_19 i75 j65_3 i74; have a7 := t_add e74 ro_109_19 (in_c 160 rfl) rfl; have a8 := in_u ((in_c 160 rfl)); omega
              have n222b : TGI s (x1).toNatClampNeg (x2) ((160000000 * (y44_4).toInt + 1000000 * ((y65_5).toInt - u_109_19.toInt)) + 1000000) sc65 := by exact tgi_w g65_0 (by have a0 := oa7 j65_4 h1 ro_109_20 ro_109_19 i75 j65_3 i74; have a7 := t_add e74 ro_109_19 (in_c 160 rfl) rfl; have a8 := in_u ((in_c 160 rfl)); omega)
              have n222c : (y65_3).toInt = 0 → TCL s (x2) sc65 (((y65_5).toInt - u_109_19.toInt).toNat + 1) := by (intro hz; exact tcl_s (g65_1 hz) (fun t1 t2 t3 t4 => by exfalso; rw [(ix_k (y := y65_5) e_109_19 (by have a0 := oa7 j65_4 h1 ro_109_20 ro_109_19 i75 j65_3 i74; have a7 := t_add e74 ro_109_19 (in_c 160 rfl) rfl; have a8 := in_u ((in_c 160 rfl)); omega) (by have a0 := oa7 j65_4 h1 ro_109_20 ro_109_19 i75 j65_3 i74; have a7 := t_add e74 ro_109_19 (in_c 160 rfl) rfl; have a8 := in_u ((in_c 160 rfl)); omega)), ← hFc65.1 112 rfl, ← e84] at t1; exact t1 c85))
              exact gg_w (by first | exact Nat.le_add_right _ _ | exact gw2 | exact gw3 | exact gwe rfl | exact gwf rfl | exact gwg rfl | exact gwh rfl | omega) (gg_f (gf_cons rfl (gf_cons rfl (gf_cons rfl (gf_cons rfl (gf_cons rfl (gf_cons rfl gf_nil)))))) (ct222 sc65 y65_3 hIc65 hFc65 (in_w 0 1 j65_3 rfl) (in_w 0 400 i75 rfl) n222 n222a n222b n222c))
            · skip
              have i85 := z_ne 1 1 c85 i84 rfl
              refine g_iload_n 89 (gd rfl) rfl rfl ?_
              refine g_aload_n 90 (gd rfl) rfl rfl ?_
              refine g_getA (q2 := 113) 93 (gd rfl) rfl rfl rfl rfl ?_
              refine g_iload 95 (gd rfl) rfl rfl ?_
              refine g_iaload 96 (gd rfl) rfl (n := 480) rfl (in_ix i75 rfl) (fun z95 e95 => ?_)
              have i95 := inv_I hIc65 (n := 480) (t := 0) 0 31 rfl (in_ix i75 rfl) rfl e95
              refine g_calls (As := [.int x2, .int z95]) (r := []) 99 (gd rfl) rfl rfl rfl rfl rfl (Nat.le_of_ble_eq_true rfl) (mc := 0) (ms := 0) (Nat.zero_le _) (Nat.zero_le _) (P := fun v u => _) ?_ (fun v u h => h)
              intro po96 xx96 hp96 hx96
              refine g_enter2 (k := 311) (N := 300) (by first | exact dq1 hd rfl | exact dq0 hd rfl | exact dq2 hd rfl | exact dq3 hd rfl | omega) rfl (Nat.le_of_ble_eq_true rfl) ?_
              refine g_iload_n 1 (gd rfl) rfl rfl ?_
              refine g_iload_n 2 (gd rfl) rfl rfl ?_
              refine g_ishr 3 (gd rfl) rfl (fun z96x2 e96x2 => ?_)
              refine g_iconst 1 4 (gd rfl) rfl rfl ?_
              refine g_iand 5 (gd rfl) rfl (fun z96x4 e96x4 => ?_)
              have i96x4 := in_and2 e96x4 (in_c 1 rfl) rfl
              refine g_iconst 1 6 (gd rfl) rfl rfl ?_
              refine g_cmp_ne 9 13 (gd rfl) rfl rfl (fun c96x6 => ?_) (fun c96x6 => ?_)
              · skip
                have i96x6 := r_ne1 0 0 c96x6 i96x4 (in_c 1 rfl) rfl
                refine g_iconst 0 14 (gd rfl) rfl rfl ?_
                refine g_ireturn (gd rfl) rfl (nb01 (in_w 0 1 (in_c 0 rfl) rfl)) (hp96 _ _ ?_)
                show GG _ _ _ _ _ _ _ _ [.int (Int32.ofInt 0)] _ _ _
                refine g_if_eq 102 222 (gd rfl) rfl rfl (fun c99 => ?_) (fun c99 => ?_)
                · skip
                  have n222 : (u_109_19).toInt ≤ (y65_5).toInt := by first | exact n65_0 | (have a0 := oa7 j65_4 h1 ro_109_20 ro_109_19 i75 j65_3 i74; have a7 := t_add e74 ro_109_19 (in_c 160 rfl) rfl; have a8 := in_u ((in_c 160 rfl)); omega)
                  have n222a : (y65_5).toInt < (u_109_19).toInt + 160 := by have a0 := oa7 j65_4 h1 ro_109_20 ro_109_19 i75 j65_3 i74; have a7 := t_add e74 ro_109_19 (in_c 160 rfl) rfl; have a8 := in_u ((in_c 160 rfl)); omega
                  have n222b : TGI s (x1).toNatClampNeg (x2) ((160000000 * (y44_4).toInt + 1000000 * ((y65_5).toInt - u_109_19.toInt)) + 1000000) sc65 := by exact tgi_w g65_0 (by have a0 := oa7 j65_4 h1 ro_109_20 ro_109_19 i75 j65_3 i74; have a7 := t_add e74 ro_109_19 (in_c 160 rfl) rfl; have a8 := in_u ((in_c 160 rfl)); omega)
                  have n222c : (y65_3).toInt = 0 → TCL s (x2) sc65 (((y65_5).toInt - u_109_19.toInt).toNat + 1) := by (intro hz; exact tcl_s (g65_1 hz) (fun t1 t2 t3 t4 => by exfalso; have hb := bt_no e96x2 e96x4 i95 c96x6; rw [(ix_k (y := y65_5) e_109_19 (by have a0 := oa7 j65_4 h1 ro_109_20 ro_109_19 i75 j65_3 i74; have a7 := t_add e74 ro_109_19 (in_c 160 rfl) rfl; have a8 := in_u ((in_c 160 rfl)); omega) (by have a0 := oa7 j65_4 h1 ro_109_20 ro_109_19 i75 j65_3 i74; have a7 := t_add e74 ro_109_19 (in_c 160 rfl) rfl; have a8 := in_u ((in_c 160 rfl)); omega)), ← hFc65.1 113 rfl, ← e95, hb] at t2; cases t2))
                  exact gg_w (by first | exact Nat.le_add_right _ _ | exact gw2 | exact gw3 | exact gwe rfl | exact gwf rfl | exact gwg rfl | exact gwh rfl | omega) (gg_f (gf_cons rfl (gf_cons rfl (gf_cons rfl (gf_cons rfl (gf_cons rfl (gf_cons rfl gf_nil)))))) (ct222 sc65 y65_3 hIc65 hFc65 (in_w 0 1 j65_3 rfl) (in_w 0 400 i75 rfl) n222 n222a n222b n222c))
                · skip
                  exact zn_ne c99 (in_c 0 rfl) rfl
              · skip
                have i96x6 := r_eq1 1 1 c96x6 i96x4 (in_c 1 rfl) rfl
                refine g_iconst 1 10 (gd rfl) rfl rfl ?_
                refine g_goto 14 (gd rfl) rfl ?_
                refine g_ireturn (gd rfl) rfl (nb01 (in_w 0 1 (in_c 1 rfl) rfl)) (hp96 _ _ ?_)
                show GG _ _ _ _ _ _ _ _ [.int (Int32.ofInt 1)] _ _ _
                refine g_if_eq 102 222 (gd rfl) rfl rfl (fun c99 => ?_) (fun c99 => ?_)
                · skip
                  exact zn_eq c99 (in_c 1 rfl) rfl
                · skip
                  refine g_iload_n 103 (gd rfl) rfl rfl ?_
                  refine g_aload_n 104 (gd rfl) rfl rfl ?_
                  refine g_getA (q2 := 114) 107 (gd rfl) rfl rfl rfl rfl ?_
                  refine g_iload 109 (gd rfl) rfl rfl ?_
                  refine g_iaload 110 (gd rfl) rfl (n := 480) rfl (in_ix i75 rfl) (fun z109 e109 => ?_)
                  have i109 := inv_I hIc65 (n := 480) (t := 0) 0 31 rfl (in_ix i75 rfl) rfl e109
                  refine g_calls (As := [.int x2, .int z109]) (r := []) 113 (gd rfl) rfl rfl rfl rfl rfl (Nat.le_of_ble_eq_true rfl) (mc := 0) (ms := 0) (Nat.zero_le _) (Nat.zero_le _) (P := fun v u => _) ?_ (fun v u h => h)
                  intro po110 xx110 hp110 hx110
                  refine g_enter2 (k := 311) (N := 300) (by first | exact dq1 hd rfl | exact dq0 hd rfl | exact dq2 hd rfl | exact dq3 hd rfl | omega) rfl (Nat.le_of_ble_eq_true rfl) ?_
                  refine g_iload_n 1 (gd rfl) rfl rfl ?_
                  refine g_iload_n 2 (gd rfl) rfl rfl ?_
                  refine g_ishr 3 (gd rfl) rfl (fun z110x2 e110x2 => ?_)
                  refine g_iconst 1 4 (gd rfl) rfl rfl ?_
                  refine g_iand 5 (gd rfl) rfl (fun z110x4 e110x4 => ?_)
                  have i110x4 := in_and2 e110x4 (in_c 1 rfl) rfl
                  refine g_iconst 1 6 (gd rfl) rfl rfl ?_
                  refine g_cmp_ne 9 13 (gd rfl) rfl rfl (fun c110x6 => ?_) (fun c110x6 => ?_)
                  · skip
                    have i110x6 := r_ne1 0 0 c110x6 i110x4 (in_c 1 rfl) rfl
                    refine g_iconst 0 14 (gd rfl) rfl rfl ?_
                    refine g_ireturn (gd rfl) rfl (nb01 (in_w 0 1 (in_c 0 rfl) rfl)) (hp110 _ _ ?_)
                    show GG _ _ _ _ _ _ _ _ [.int (Int32.ofInt 0)] _ _ _
                    refine g_if_eq 116 222 (gd rfl) rfl rfl (fun c113 => ?_) (fun c113 => ?_)
                    · skip
                      have n222 : (u_109_19).toInt ≤ (y65_5).toInt := by first | exact n65_0 | (have a0 := oa7 j65_4 h1 ro_109_20 ro_109_19 i75 j65_3 i74; have a7 := t_add e74 ro_109_19 (in_c 160 rfl) rfl; have a8 := in_u ((in_c 160 rfl)); omega)
                      have n222a : (y65_5).toInt < (u_109_19).toInt + 160 := by have a0 := oa7 j65_4 h1 ro_109_20 ro_109_19 i75 j65_3 i74; have a7 := t_add e74 ro_109_19 (in_c 160 rfl) rfl; have a8 := in_u ((in_c 160 rfl)); omega
                      have n222b : TGI s (x1).toNatClampNeg (x2) ((160000000 * (y44_4).toInt + 1000000 * ((y65_5).toInt - u_109_19.toInt)) + 1000000) sc65 := by exact tgi_w g65_0 (by have a0 := oa7 j65_4 h1 ro_109_20 ro_109_19 i75 j65_3 i74; have a7 := t_add e74 ro_109_19 (in_c 160 rfl) rfl; have a8 := in_u ((in_c 160 rfl)); omega)
                      have n222c : (y65_3).toInt = 0 → TCL s (x2) sc65 (((y65_5).toInt - u_109_19.toInt).toNat + 1) := by (intro hz; exact tcl_s (g65_1 hz) (fun t1 t2 t3 t4 => by exfalso; have hb := bt_no e110x2 e110x4 i109 c110x6; rw [(ix_k (y := y65_5) e_109_19 (by have a0 := oa7 j65_4 h1 ro_109_20 ro_109_19 i75 j65_3 i74; have a7 := t_add e74 ro_109_19 (in_c 160 rfl) rfl; have a8 := in_u ((in_c 160 rfl)); omega) (by have a0 := oa7 j65_4 h1 ro_109_20 ro_109_19 i75 j65_3 i74; have a7 := t_add e74 ro_109_19 (in_c 160 rfl) rfl; have a8 := in_u ((in_c 160 rfl)); omega)), ← hFc65.1 114 rfl, ← e109, hb] at t3; cases t3))
                      exact gg_w (by first | exact Nat.le_add_right _ _ | exact gw2 | exact gw3 | exact gwe rfl | exact gwf rfl | exact gwg rfl | exact gwh rfl | omega) (gg_f (gf_cons rfl (gf_cons rfl (gf_cons rfl (gf_cons rfl (gf_cons rfl (gf_cons rfl gf_nil)))))) (ct222 sc65 y65_3 hIc65 hFc65 (in_w 0 1 j65_3 rfl) (in_w 0 400 i75 rfl) n222 n222a n222b n222c))
                    · skip
                      exact zn_ne c113 (in_c 0 rfl) rfl
                  · skip
                    have i110x6 := r_eq1 1 1 c110x6 i110x4 (in_c 1 rfl) rfl
                    refine g_iconst 1 10 (gd rfl) rfl rfl ?_
                    refine g_goto 14 (gd rfl) rfl ?_
                    refine g_ireturn (gd rfl) rfl (nb01 (in_w 0 1 (in_c 1 rfl) rfl)) (hp110 _ _ ?_)
                    show GG _ _ _ _ _ _ _ _ [.int (Int32.ofInt 1)] _ _ _
                    refine g_if_eq 116 222 (gd rfl) rfl rfl (fun c113 => ?_) (fun c113 => ?_)
                    · skip
                      exact zn_eq c113 (in_c 1 rfl) rfl
                    · skip
                      refine g_aload_n 117 (gd rfl) rfl rfl ?_
                      refine g_getA (q2 := 130) 120 (gd rfl) rfl rfl rfl rfl ?_
                      refine g_aload_n 121 (gd rfl) rfl rfl ?_
                      refine g_getA (q2 := 114) 124 (gd rfl) rfl rfl rfl rfl ?_
                      refine g_iload 126 (gd rfl) rfl rfl ?_
                      refine g_iaload 127 (gd rfl) rfl (n := 480) rfl (in_ix i75 rfl) (fun z126 e126 => ?_)
                      have q126 : z109 = z126 := (e109).trans e126.symm
                      subst q126
                      refine g_laload 128 (gd rfl) rfl (n := 32) rfl (in_ix i109 rfl) (fun z127 e127 => ?_)
                      refine g_ldc2_w 9000000000000000 131 (gd rfl) rfl rfl ?_
                      refine g_lcmp 132 (gd rfl) rfl (fun z131 e131 => ?_)
                      have i131 := lc_in e131
                      refine g_if_ge 135 222 (gd rfl) rfl rfl (fun c132 => ?_) (fun c132 => ?_)
                      · skip
                        have i132 := z_ge 0 1 c132 i131 rfl
                        have c132a := lc_ge e131 c132
                        have i132a := lr_le2 9000000000000000 9223372036854775807 c132a (l_c 9000000000000000 rfl) (l_rng z127) rfl
                        have n222 : (u_109_19).toInt ≤ (y65_5).toInt := by first | exact n65_0 | (have a0 := oa7 j65_4 h1 ro_109_20 ro_109_19 i75 j65_3 i74; have a7 := t_add e74 ro_109_19 (in_c 160 rfl) rfl; have a8 := in_u ((in_c 160 rfl)); omega)
                        have n222a : (y65_5).toInt < (u_109_19).toInt + 160 := by have a0 := oa7 j65_4 h1 ro_109_20 ro_109_19 i75 j65_3 i74; have a7 := t_add e74 ro_109_19 (in_c 160 rfl) rfl; have a8 := in_u ((in_c 160 rfl)); omega
                        have n222b : TGI s (x1).toNatClampNeg (x2) ((160000000 * (y44_4).toInt + 1000000 * ((y65_5).toInt - u_109_19.toInt)) + 1000000) sc65 := by exact tgi_w g65_0 (by have a0 := oa7 j65_4 h1 ro_109_20 ro_109_19 i75 j65_3 i74; have a7 := t_add e74 ro_109_19 (in_c 160 rfl) rfl; have a8 := in_u ((in_c 160 rfl)); omega)
                        have n222c : (y65_3).toInt = 0 → TCL s (x2) sc65 (((y65_5).toInt - u_109_19.toInt).toNat + 1) := by (intro hz; exact tcl_s (g65_1 hz) (fun t1 t2 t3 t4 => by exfalso; rw [(ix_k (y := y65_5) e_109_19 (by have a0 := oa7 j65_4 h1 ro_109_20 ro_109_19 i75 j65_3 i74; have a7 := t_add e74 ro_109_19 (in_c 160 rfl) rfl; have a8 := in_u ((in_c 160 rfl)); omega) (by have a0 := oa7 j65_4 h1 ro_109_20 ro_109_19 i75 j65_3 i74; have a7 := t_add e74 ro_109_19 (in_c 160 rfl) rfl; have a8 := in_u ((in_c 160 rfl)); omega)), ← hFc65.1 114 rfl, ← e109, ← e127] at t4; have h := i132a.1; omega))
                        exact gg_w (by first | exact Nat.le_add_right _ _ | exact gw2 | exact gw3 | exact gwe rfl | exact gwf rfl | exact gwg rfl | exact gwh rfl | omega) (gg_f (gf_cons rfl (gf_cons rfl (gf_cons rfl (gf_cons rfl (gf_cons rfl (gf_cons rfl gf_nil)))))) (ct222 sc65 y65_3 hIc65 hFc65 (in_w 0 1 j65_3 rfl) (in_w 0 400 i75 rfl) n222 n222a n222b n222c))
                      · skip
                        have i132 := z_lt (-1) (-1) c132 i131 rfl
                        have c132a := lc_lt e131 c132
                        have i132a := lr_lt1 (-9223372036854775808) 8999999999999999 c132a (l_rng z127) (l_c 9000000000000000 rfl) rfl
                        refine g_aload_n 136 (gd rfl) rfl rfl ?_
                        refine g_getA (q2 := 130) 139 (gd rfl) rfl rfl rfl rfl ?_
                        refine g_aload_n 140 (gd rfl) rfl rfl ?_
                        refine g_getA (q2 := 114) 143 (gd rfl) rfl rfl rfl rfl ?_
                        refine g_iload 145 (gd rfl) rfl rfl ?_
                        refine g_iaload 146 (gd rfl) rfl (n := 480) rfl (in_ix i75 rfl) (fun z145 e145 => ?_)
                        have q145 : z109 = z145 := (e109).trans e145.symm
                        subst q145
                        refine g_laload 147 (gd rfl) rfl (n := 32) rfl (in_ix i109 rfl) (fun z146 e146 => ?_)
                        refine g_aload_n 148 (gd rfl) rfl rfl ?_
                        refine g_getA (q2 := 115) 151 (gd rfl) rfl rfl rfl rfl ?_
                        refine g_iload 153 (gd rfl) rfl rfl ?_
                        refine g_iaload 154 (gd rfl) rfl (n := 480) rfl (in_ix i75 rfl) (fun z153 e153 => ?_)
                        have i153 := inv_I hIc65 (n := 480) (t := 0) (-1000000) 1000000 rfl (in_ix i75 rfl) rfl e153
                        refine g_i2l 155 (gd rfl) rfl (fun z154 e154 => ?_)
                        have i154 := l_i e154 i153
                        refine g_ladd 156 (gd rfl) rfl (fun z155 e155 => ?_)
                        refine g_lstore 158 (gd rfl) rfl (Nat.le_of_ble_eq_true rfl) ?_
                        refine g_aload_n 159 (gd rfl) rfl rfl ?_
                        refine g_getA (q2 := 131) 162 (gd rfl) rfl rfl rfl rfl ?_
                        refine g_aload_n 163 (gd rfl) rfl rfl ?_
                        refine g_getA (q2 := 114) 166 (gd rfl) rfl rfl rfl rfl ?_
                        refine g_iload 168 (gd rfl) rfl rfl ?_
                        refine g_iaload 169 (gd rfl) rfl (n := 480) rfl (in_ix i75 rfl) (fun z168 e168 => ?_)
                        have q168 : z109 = z168 := (e109).trans e168.symm
                        subst q168
                        refine g_iaload 170 (gd rfl) rfl (n := 32) rfl (in_ix i109 rfl) (fun z169 e169 => ?_)
                        refine g_iconst 1 171 (gd rfl) rfl rfl ?_
                        refine g_iadd 172 (gd rfl) rfl (fun z171 e171 => ?_)
                        refine g_istore 174 (gd rfl) rfl (Nat.le_of_ble_eq_true rfl) ?_
                        refine g_lload 176 (gd rfl) rfl rfl ?_
                        refine g_aload_n 177 (gd rfl) rfl rfl ?_
                        refine g_getA (q2 := 130) 180 (gd rfl) rfl rfl rfl rfl ?_
                        refine g_aload_n 181 (gd rfl) rfl rfl ?_
                        refine g_getA (q2 := 113) 184 (gd rfl) rfl rfl rfl rfl ?_
                        refine g_iload 186 (gd rfl) rfl rfl ?_
                        refine g_iaload 187 (gd rfl) rfl (n := 480) rfl (in_ix i75 rfl) (fun z186 e186 => ?_)
                        have q186 : z95 = z186 := (e95).trans e186.symm
                        subst q186
                        refine g_laload 188 (gd rfl) rfl (n := 32) rfl (in_ix i95 rfl) (fun z187 e187 => ?_)
                        refine g_lcmp 189 (gd rfl) rfl (fun z188 e188 => ?_)
                        have i188 := lc_in e188
                        refine g_if_ge 192 222 (gd rfl) rfl rfl (fun c189 => ?_) (fun c189 => ?_)
                        · skip
                          have i189 := z_ge 0 1 c189 i188 rfl
                          have c189a := lc_ge e188 c189
                          have n222 : (u_109_19).toInt ≤ (y65_5).toInt := by first | exact n65_0 | (have a0 := oa6 j65_4 h1 ro_109_20 ro_109_19 i75 j65_3; have a6 := tx_i2l e154; have a7 := oa2 i153 i74; have a9 := t_add e74 ro_109_19 (in_c 160 rfl) rfl; have a10 := in_u ((in_c 160 rfl)); omega)
                          have n222a : (y65_5).toInt < (u_109_19).toInt + 160 := by have a0 := oa6 j65_4 h1 ro_109_20 ro_109_19 i75 j65_3; have a6 := tx_i2l e154; have a7 := oa2 i153 i74; have a9 := t_add e74 ro_109_19 (in_c 160 rfl) rfl; have a10 := in_u ((in_c 160 rfl)); omega
                          have n222b : TGI s (x1).toNatClampNeg (x2) ((160000000 * (y44_4).toInt + 1000000 * ((y65_5).toInt - u_109_19.toInt)) + 1000000) sc65 := by first | exact tgi_w g65_0 (by have a0 := oa6 j65_4 h1 ro_109_20 ro_109_19 i75 j65_3; have a6 := tx_i2l e154; have a7 := oa2 i153 i74; have a9 := t_add e74 ro_109_19 (in_c 160 rfl) rfl; have a10 := in_u ((in_c 160 rfl)); omega)
                          have n222c : (y65_3).toInt = 0 → TCL s (x2) sc65 (((y65_5).toInt - u_109_19.toInt).toNat + 1) := by (intro hz; exact tcl_s (g65_1 hz) (fun t1 t2 t3 t4 => by have hk := arc_n hI (a := (y65_5.toInt - u_109_19.toInt).toNat) (by have a0 := oa6 j65_4 h1 ro_109_20 ro_109_19 i75 j65_3; have a6 := tx_i2l e154; have a7 := oa2 i153 i74; have a9 := t_add e74 ro_109_19 (in_c 160 rfl) rfl; have a10 := in_u ((in_c 160 rfl)); omega) (by rw [(ix_k (y := y65_5) e_109_19 (by have a0 := oa6 j65_4 h1 ro_109_20 ro_109_19 i75 j65_3; have a6 := tx_i2l e154; have a7 := oa2 i153 i74; have a9 := t_add e74 ro_109_19 (in_c 160 rfl) rfl; have a10 := in_u ((in_c 160 rfl)); omega) (by have a0 := oa6 j65_4 h1 ro_109_20 ro_109_19 i75 j65_3; have a6 := tx_i2l e154; have a7 := oa2 i153 i74; have a9 := t_add e74 ro_109_19 (in_c 160 rfl) rfl; have a10 := in_u ((in_c 160 rfl)); omega)), ← hFc65.1 112 rfl, ← e84]; exact c85); rw [(ix_k (y := y65_5) e_109_19 (by have a0 := oa6 j65_4 h1 ro_109_20 ro_109_19 i75 j65_3; have a6 := tx_i2l e154; have a7 := oa2 i153 i74; have a9 := t_add e74 ro_109_19 (in_c 160 rfl) rfl; have a10 := in_u ((in_c 160 rfl)); omega) (by have a0 := oa6 j65_4 h1 ro_109_20 ro_109_19 i75 j65_3; have a6 := tx_i2l e154; have a7 := oa2 i153 i74; have a9 := t_add e74 ro_109_19 (in_c 160 rfl) rfl; have a10 := in_u ((in_c 160 rfl)); omega)), ← hFc65.1 114 rfl, ← e109] at hk; have hadd := tgi_add g65_0 (by have a0 := oa6 j65_4 h1 ro_109_20 ro_109_19 i75 j65_3; have a6 := tx_i2l e154; have a7 := oa2 i153 i74; have a9 := t_add e74 ro_109_19 (in_c 160 rfl) rfl; have a10 := in_u ((in_c 160 rfl)); omega) (by have a0 := oa6 j65_4 h1 ro_109_20 ro_109_19 i75 j65_3; have a6 := tx_i2l e154; have a7 := oa2 i153 i74; have a9 := t_add e74 ro_109_19 (in_c 160 rfl) rfl; have a10 := in_u ((in_c 160 rfl)); omega) i109 hk.2.1.2 e146 (by rw [e146, ← e127]; have h := i132a.2; omega) i153 e155 (tx_i2l e154); rw [(ix_k (y := y65_5) e_109_19 (by have a0 := oa6 j65_4 h1 ro_109_20 ro_109_19 i75 j65_3; have a6 := tx_i2l e154; have a7 := oa2 i153 i74; have a9 := t_add e74 ro_109_19 (in_c 160 rfl) rfl; have a10 := in_u ((in_c 160 rfl)); omega) (by have a0 := oa6 j65_4 h1 ro_109_20 ro_109_19 i75 j65_3; have a6 := tx_i2l e154; have a7 := oa2 i153 i74; have a9 := t_add e74 ro_109_19 (in_c 160 rfl) rfl; have a10 := in_u ((in_c 160 rfl)); omega)), ← hFc65.1 113 rfl, ← hFc65.1 114 rfl, ← hFc65.1 115 rfl, ← e95, ← e109, ← e153, ← e187, ← e146]; have h := c189a; omega))
                          exact gg_w (by first | exact Nat.le_add_right _ _ | exact gw2 | exact gw3 | exact gwe rfl | exact gwf rfl | exact gwg rfl | exact gwh rfl | omega) (gg_f (gf_cons rfl (gf_cons rfl (gf_cons rfl (gf_cons rfl (gf_cons rfl (gf_cons rfl gf_nil)))))) (ct222 sc65 y65_3 hIc65 hFc65 (in_w 0 1 j65_3 rfl) (in_w 0 400 i75 rfl) n222 n222a n222b n222c))
                        · skip
                          have i189 := z_lt (-1) (-1) c189 i188 rfl
                          have c189a := lc_lt e188 c189
                          have i189a := lr_lt1 (-9223372036854775808) 9223372036854775806 c189a (l_rng z155) (l_rng z187) rfl
                          have i189b := lr_lt2 (-9223372036854775807) 9223372036854775807 c189a (l_rng z155) (l_rng z187) rfl
                          refine g_aload_n 193 (gd rfl) rfl rfl ?_
                          refine g_getA (q2 := 130) 196 (gd rfl) rfl rfl rfl rfl ?_
                          refine g_aload_n 197 (gd rfl) rfl rfl ?_
                          refine g_getA (q2 := 113) 200 (gd rfl) rfl rfl rfl rfl ?_
                          refine g_iload 202 (gd rfl) rfl rfl ?_
                          refine g_iaload 203 (gd rfl) rfl (n := 480) rfl (in_ix i75 rfl) (fun z202 e202 => ?_)
                          have q202 : z95 = z202 := (e95).trans e202.symm
                          subst q202
                          refine g_lload 205 (gd rfl) rfl rfl ?_
                          refine g_lastore 206 (gd rfl) rfl (n := 32) rfl (in_ix i95 rfl) ?_
                          have hI205 := inv_sL (q := 130) (j := z95.toNatClampNeg) (x := z155) hIc65 rfl (l_rng z155)
                          refine g_aload_n 207 (gd rfl) rfl rfl ?_
                          refine g_getA (q2 := 131) 210 (gd rfl) rfl rfl rfl rfl ?_
                          refine g_aload_n 211 (gd rfl) rfl rfl ?_
                          refine g_getA (q2 := 113) 214 (gd rfl) rfl rfl rfl rfl ?_
                          refine g_iload 216 (gd rfl) rfl rfl ?_
                          refine g_iaload 217 (gd rfl) rfl (n := 480) rfl (in_ix i75 rfl) (fun z216 e216 => ?_)
                          have q216 : z95 = z216 := (sL_I (e95)).trans e216.symm
                          subst q216
                          refine g_iload 219 (gd rfl) rfl rfl ?_
                          refine g_iastore 220 (gd rfl) rfl (n := 32) rfl (in_ix i95 rfl) ?_
                          have hI219 := inv_sI (q := 131) (j := z95.toNatClampNeg) hI205 rfl (in_w (-2147483648) 2147483647 (i_rng z171) rfl)
                          refine g_iconst 1 221 (gd rfl) rfl rfl ?_
                          refine g_istore_n 222 (gd rfl) rfl (Nat.le_of_ble_eq_true rfl) ?_
                          have n222 : (u_109_19).toInt ≤ (y65_5).toInt := by first | exact n65_0 | (have a0 := oa7 j65_4 h1 ro_109_20 ro_109_19 i75 j65_3 ((in_c 1 rfl)); have a7 := tx_i2l e154; have a8 := oa2 i153 i74; have a10 := t_add e74 ro_109_19 (in_c 160 rfl) rfl; have a11 := in_u ((in_c 160 rfl)); omega)
                          have n222a : (y65_5).toInt < (u_109_19).toInt + 160 := by have a0 := oa7 j65_4 h1 ro_109_20 ro_109_19 i75 j65_3 ((in_c 1 rfl)); have a7 := tx_i2l e154; have a8 := oa2 i153 i74; have a10 := t_add e74 ro_109_19 (in_c 160 rfl) rfl; have a11 := in_u ((in_c 160 rfl)); omega
                          have n222b : TGI s (x1).toNatClampNeg (x2) ((160000000 * (y44_4).toInt + 1000000 * ((y65_5).toInt - u_109_19.toInt)) + 1000000) (sI (sL sc65 130 z95.toNatClampNeg z155) 131 z95.toNatClampNeg z171) := by exact tgi_ch (a := (y65_5.toInt - u_109_19.toInt).toNat) hI g65_0 (by have a0 := oa7 j65_4 h1 ro_109_20 ro_109_19 i75 j65_3 ((in_c 1 rfl)); have a7 := tx_i2l e154; have a8 := oa2 i153 i74; have a10 := t_add e74 ro_109_19 (in_c 160 rfl) rfl; have a11 := in_u ((in_c 160 rfl)); omega) (by rw [(ix_k (y := y65_5) e_109_19 (by have a0 := oa7 j65_4 h1 ro_109_20 ro_109_19 i75 j65_3 ((in_c 1 rfl)); have a7 := tx_i2l e154; have a8 := oa2 i153 i74; have a10 := t_add e74 ro_109_19 (in_c 160 rfl) rfl; have a11 := in_u ((in_c 160 rfl)); omega) (by have a0 := oa7 j65_4 h1 ro_109_20 ro_109_19 i75 j65_3 ((in_c 1 rfl)); have a7 := tx_i2l e154; have a8 := oa2 i153 i74; have a10 := t_add e74 ro_109_19 (in_c 160 rfl) rfl; have a11 := in_u ((in_c 160 rfl)); omega)), ← hFc65.1 112 rfl, ← e84]; exact c85) (by rw [(ix_k (y := y65_5) e_109_19 (by have a0 := oa7 j65_4 h1 ro_109_20 ro_109_19 i75 j65_3 ((in_c 1 rfl)); have a7 := tx_i2l e154; have a8 := oa2 i153 i74; have a10 := t_add e74 ro_109_19 (in_c 160 rfl) rfl; have a11 := in_u ((in_c 160 rfl)); omega) (by have a0 := oa7 j65_4 h1 ro_109_20 ro_109_19 i75 j65_3 ((in_c 1 rfl)); have a7 := tx_i2l e154; have a8 := oa2 i153 i74; have a10 := t_add e74 ro_109_19 (in_c 160 rfl) rfl; have a11 := in_u ((in_c 160 rfl)); omega)), ← hFc65.1 113 rfl]; exact e95) (by rw [(ix_k (y := y65_5) e_109_19 (by have a0 := oa7 j65_4 h1 ro_109_20 ro_109_19 i75 j65_3 ((in_c 1 rfl)); have a7 := tx_i2l e154; have a8 := oa2 i153 i74; have a10 := t_add e74 ro_109_19 (in_c 160 rfl) rfl; have a11 := in_u ((in_c 160 rfl)); omega) (by have a0 := oa7 j65_4 h1 ro_109_20 ro_109_19 i75 j65_3 ((in_c 1 rfl)); have a7 := tx_i2l e154; have a8 := oa2 i153 i74; have a10 := t_add e74 ro_109_19 (in_c 160 rfl) rfl; have a11 := in_u ((in_c 160 rfl)); omega)), ← hFc65.1 114 rfl]; exact e109) (by rw [(ix_k (y := y65_5) e_109_19 (by have a0 := oa7 j65_4 h1 ro_109_20 ro_109_19 i75 j65_3 ((in_c 1 rfl)); have a7 := tx_i2l e154; have a8 := oa2 i153 i74; have a10 := t_add e74 ro_109_19 (in_c 160 rfl) rfl; have a11 := in_u ((in_c 160 rfl)); omega) (by have a0 := oa7 j65_4 h1 ro_109_20 ro_109_19 i75 j65_3 ((in_c 1 rfl)); have a7 := tx_i2l e154; have a8 := oa2 i153 i74; have a10 := t_add e74 ro_109_19 (in_c 160 rfl) rfl; have a11 := in_u ((in_c 160 rfl)); omega)), ← hFc65.1 115 rfl]; exact e153) (bt_yes e96x2 e96x4 i95 c96x6) (bt_yes e110x2 e110x4 i109 c110x6) e146 (by rw [e146, ← e127]; have h := i132a.2; omega) e155 (tx_i2l e154) (by rw [← e187]; exact c189a) (by simp [sI, sL]) (by have a0 := oa7 j65_4 h1 ro_109_20 ro_109_19 i75 j65_3 ((in_c 1 rfl)); have a7 := tx_i2l e154; have a8 := oa2 i153 i74; have a10 := t_add e74 ro_109_19 (in_c 160 rfl) rfl; have a11 := in_u ((in_c 160 rfl)); omega) (by have a0 := oa7 j65_4 h1 ro_109_20 ro_109_19 i75 j65_3 ((in_c 1 rfl)); have a7 := tx_i2l e154; have a8 := oa2 i153 i74; have a10 := t_add e74 ro_109_19 (in_c 160 rfl) rfl; have a11 := in_u ((in_c 160 rfl)); omega) (by have a0 := oa7 j65_4 h1 ro_109_20 ro_109_19 i75 j65_3 ((in_c 1 rfl)); have a7 := tx_i2l e154; have a8 := oa2 i153 i74; have a10 := t_add e74 ro_109_19 (in_c 160 rfl) rfl; have a11 := in_u ((in_c 160 rfl)); omega)
                          have n222c : ((Int32.ofInt 1)).toInt = 0 → TCL s (x2) (sI (sL sc65 130 z95.toNatClampNeg z155) 131 z95.toNatClampNeg z171) (((y65_5).toInt - u_109_19.toInt).toNat + 1) := by exact fun h => absurd h (by decide)
                          exact gg_w (by first | exact Nat.le_add_right _ _ | exact gw2 | exact gw3 | exact gwe rfl | exact gwf rfl | exact gwg rfl | exact gwh rfl | omega) (gg_f (gf_cons rfl (gf_cons rfl (gf_cons rfl (gf_cons rfl (gf_cons rfl (gf_cons rfl gf_nil)))))) (ct222 (sI (sL sc65 130 z95.toNatClampNeg z155) 131 z95.toNatClampNeg z171) (Int32.ofInt 1) hI219 (fr_sI rfl (fr_sL rfl hFc65)) (in_w 0 1 (in_c 1 rfl) rfl) (in_w 0 400 i75 rfl) n222 n222a n222b n222c))
      refine g_iload 46 (gd rfl) rfl rfl ?_
      refine g_aload_n 47 (gd rfl) rfl rfl ?_
      refine g_getI 50 (gd rfl) rfl rfl rfl (fun z47 e47 => ?_)
      have q47 : u_109_20 = z47 := (fr_F e_109_20 hFc44 rfl).trans e47.symm
      subst q47
      refine g_cmp_gt 53 234 (gd rfl) rfl rfl (fun c50 => ?_) (fun c50 => ?_)
      · skip
        have i50 := r_lt2 1 33 c50 ro_109_20 j44_4 rfl
        have n234 : (y44_3).toInt = 0 → TGI s (x1).toNatClampNeg (x2) 10000000000 sc44 ∧ TCL s (x2) sc44 160 := by exact fun hz => ⟨tgi_w g44_0 (by have a0 := oa5 h1 ro_109_20 ro_109_19 i50 j44_3; omega), g44_1 hz⟩
        exact gg_w (by first | exact Nat.le_add_right _ _ | exact gw2 | exact gw3 | exact gwe rfl | exact gwf rfl | exact gwg rfl | exact gwh rfl | omega) (gg_f (gf_cons rfl (gf_cons rfl (gf_cons rfl (gf_cons rfl (gf_cons rfl gf_nil))))) (ct234 sc44 y44_3 y44_4 hIc44 hFc44 (in_w 0 1 j44_3 rfl) (in_w 0 33 i50 rfl) n234))
      · skip
        have i50 := r_le1 0 32 c50 j44_4 ro_109_20 rfl
        refine g_iload_n 54 (gd rfl) rfl rfl ?_
        refine g_if_eq 57 234 (gd rfl) rfl rfl (fun c54 => ?_) (fun c54 => ?_)
        · skip
          have i54 := z_eq 0 0 c54 j44_3 rfl
          have n234 : (y44_3).toInt = 0 → TGI s (x1).toNatClampNeg (x2) 10000000000 sc44 ∧ TCL s (x2) sc44 160 := by exact fun hz => ⟨tgi_w g44_0 (by have a0 := oa5 h1 ro_109_20 ro_109_19 i50 i54; omega), g44_1 hz⟩
          exact gg_w (by first | exact Nat.le_add_right _ _ | exact gw2 | exact gw3 | exact gwe rfl | exact gwf rfl | exact gwg rfl | exact gwh rfl | omega) (gg_f (gf_cons rfl (gf_cons rfl (gf_cons rfl (gf_cons rfl (gf_cons rfl gf_nil))))) (ct234 sc44 y44_3 y44_4 hIc44 hFc44 (in_w 0 1 i54 rfl) (in_w 0 33 i50 rfl) n234))
        · skip
          have i54 := z_ne 1 1 c54 j44_3 rfl
          refine g_iconst 0 58 (gd rfl) rfl rfl ?_
          refine g_istore_n 59 (gd rfl) rfl (Nat.le_of_ble_eq_true rfl) ?_
          refine g_aload_n 60 (gd rfl) rfl rfl ?_
          refine g_getI 63 (gd rfl) rfl rfl rfl (fun z60 e60 => ?_)
          have q60 : u_109_19 = z60 := (fr_F e_109_19 hFc44 rfl).trans e60.symm
          subst q60
          refine g_istore 65 (gd rfl) rfl (Nat.le_of_ble_eq_true rfl) ?_
          have n65 : (u_109_19).toInt ≤ (u_109_19).toInt := by exact Int.le_refl _
          have n65a : (u_109_19).toInt ≤ (u_109_19).toInt + 160 := by have a0 := oa6 h1 ro_109_20 ro_109_19 i50 i54 ((in_c 0 rfl)); omega
          have n65b : TGI s (x1).toNatClampNeg (x2) (160000000 * (y44_4).toInt + 1000000 * ((u_109_19).toInt - u_109_19.toInt)) sc44 := by exact tgi_w g44_0 (by have a0 := oa6 h1 ro_109_20 ro_109_19 i50 i54 ((in_c 0 rfl)); omega)
          have n65c : ((Int32.ofInt 0)).toInt = 0 → TCL s (x2) sc44 ((u_109_19).toInt - u_109_19.toInt).toNat := by (intro _ a ha; exfalso; omega)
          exact gg_w (by first | exact Nat.le_add_right _ _ | exact gw2 | exact gw3 | exact gwe rfl | exact gwf rfl | exact gwg rfl | exact gwh rfl | omega) (gg_f (gf_cons rfl (gf_cons rfl (gf_cons rfl (gf_cons rfl (gf_cons rfl (gf_cons rfl gf_nil)))))) (ct65 449 sc44 (Int32.ofInt 0) u_109_19 hIc44 hFc44 (in_w 0 1 (in_c 0 rfl) rfl) (in_w 0 32 i50 rfl) (in_w 0 448 ro_109_19 rfl) n65 n65a n65b n65c (m_in 449 (in_w 0 448 ro_109_19 rfl) rfl)))
  have ct2 : ∀ (k2 : Nat) (sc2 : GS) (y2_3 : Int32), Inv sc2 → Fr fm_312 s sc2 → (In y2_3 0 32) → (∀ k : Nat, (k : Int) < (y2_3).toInt → (sc2.2.1 130 k).toInt = 9000000000000000) → 32 - (y2_3).toInt < (k2 : Int) → GG Z (d - 1) 312 post (gx xp) (27617437 + k2 * 900) 2 (fun j => xlook j [(0, .ref (A 109)), (1, .int x1), (2, .int x2), (3, .int y2_3)]) [] (WW Z A sc2 ++ ex) 0 0 := by
    intro k2
    induction k2 with
    | zero => intro sc2 y2_3 hIc2 hFc2 j2_3 g2_0 mm2; exact m_no mm2 j2_3 rfl
    | succ k2 ih2 =>
      intro sc2 y2_3 hIc2 hFc2 j2_3 g2_0 mm2
      refine gg_w (M := 27617437 + k2 * 900 + 900) gws ?_
      refine g_iload_n 3 (gd rfl) rfl rfl ?_
      refine g_aload_n 4 (gd rfl) rfl rfl ?_
      refine g_getI 7 (gd rfl) rfl rfl rfl (fun z4 e4 => ?_)
      have q4 : u_109_20 = z4 := (fr_F e_109_20 hFc2 rfl).trans e4.symm
      subst q4
      refine g_cmp_ge 10 32 (gd rfl) rfl rfl (fun c7 => ?_) (fun c7 => ?_)
      · skip
        refine g_aload_n 33 (gd rfl) rfl rfl ?_
        refine g_getA (q2 := 130) 36 (gd rfl) rfl rfl rfl rfl ?_
        refine g_iload_n 37 (gd rfl) rfl rfl ?_
        refine g_lconst 0 38 (gd rfl) rfl rfl ?_
        refine g_lastore 39 (gd rfl) rfl (n := 32) rfl (in_ix h1 rfl) ?_
        have hI38 := inv_sL (q := 130) (j := x1.toNatClampNeg) (x := (Int64.ofInt 0)) hIc2 rfl (l_rng (Int64.ofInt 0))
        refine g_iconst 1 40 (gd rfl) rfl rfl ?_
        refine g_istore_n 41 (gd rfl) rfl (Nat.le_of_ble_eq_true rfl) ?_
        refine g_iconst 0 42 (gd rfl) rfl rfl ?_
        refine g_istore 44 (gd rfl) rfl (Nat.le_of_ble_eq_true rfl) ?_
        have n44 : TGI s (x1).toNatClampNeg (x2) (160000000 * ((Int32.ofInt 0)).toInt) (sL sc2 130 x1.toNatClampNeg (Int64.ofInt 0)) := by exact tgi_0 (by have h0 : (Int32.ofInt 0).toInt = 0 := rfl; omega) (by rw [show ((sL sc2 130 x1.toNatClampNeg (Int64.ofInt 0))).2.1 130 = vp_updL (sc2.2.1 130) x1.toNatClampNeg (Int64.ofInt 0) from (by simp [sL]), ul_eq]; rfl) (fun v hv hne => by rw [show ((sL sc2 130 x1.toNatClampNeg (Int64.ofInt 0))).2.1 130 = vp_updL (sc2.2.1 130) x1.toNatClampNeg (Int64.ofInt 0) from (by simp [sL]), ul_ne hne]; exact g2_0 v (by unfold nmx at hv; rw [← e_109_20] at hv; have a0 := oa6 h1 ro_109_20 ro_109_19 j2_3 ((in_c 0 rfl)) ((in_c 1 rfl)); omega))
        have n44a : ((Int32.ofInt 1)).toInt = 0 → TCL s (x2) (sL sc2 130 x1.toNatClampNeg (Int64.ofInt 0)) 160 := by exact fun h => absurd h (by decide)
        exact gg_w (by first | exact Nat.le_add_right _ _ | exact gw2 | exact gw3 | exact gwe rfl | exact gwf rfl | exact gwg rfl | exact gwh rfl | omega) (gg_f (gf_cons rfl (gf_cons rfl (gf_cons rfl (gf_cons rfl (gf_cons rfl gf_nil))))) (ct44 34 (sL sc2 130 x1.toNatClampNeg (Int64.ofInt 0)) (Int32.ofInt 1) (Int32.ofInt 0) hI38 (fr_sL rfl hFc2) (in_w 0 1 (in_c 1 rfl) rfl) (in_w 0 33 (in_c 0 rfl) rfl) n44 n44a (m_in 34 (in_w 0 33 (in_c 0 rfl) rfl) rfl)))
      · skip
        have i7 := r_lt1 0 31 c7 j2_3 ro_109_20 rfl
        have i7a := r_lt2 1 32 c7 j2_3 ro_109_20 rfl
        refine g_aload_n 11 (gd rfl) rfl rfl ?_
        refine g_getA (q2 := 130) 14 (gd rfl) rfl rfl rfl rfl ?_
        refine g_iload_n 15 (gd rfl) rfl rfl ?_
        refine g_ldc2_w 9000000000000000 18 (gd rfl) rfl rfl ?_
        refine g_lastore 19 (gd rfl) rfl (n := 32) rfl (in_ix i7 rfl) ?_
        have hI18 := inv_sL (q := 130) (j := y2_3.toNatClampNeg) (x := (Int64.ofInt 9000000000000000)) hIc2 rfl (l_rng (Int64.ofInt 9000000000000000))
        refine g_aload_n 20 (gd rfl) rfl rfl ?_
        refine g_getA (q2 := 131) 23 (gd rfl) rfl rfl rfl rfl ?_
        refine g_iload_n 24 (gd rfl) rfl rfl ?_
        refine g_iconst 0 25 (gd rfl) rfl rfl ?_
        refine g_iastore 26 (gd rfl) rfl (n := 32) rfl (in_ix i7 rfl) ?_
        have hI25 := inv_sI (q := 131) (j := y2_3.toNatClampNeg) hI18 rfl (in_w (-2147483648) 2147483647 (in_c 0 rfl) rfl)
        refine g_iinc 29 (gd rfl) rfl rfl (Nat.le_of_ble_eq_true rfl) (fun z26 e26 => ?_)
        have i26 := in_add 1 32 e26 i7 (in_c 1 rfl) rfl rfl
        refine g_goto 2 (gd rfl) rfl ?_
        have n2 : ∀ k : Nat, (k : Int) < (z26).toInt → ((sI (sL sc2 130 y2_3.toNatClampNeg (Int64.ofInt 9000000000000000)) 131 y2_3.toNatClampNeg (Int32.ofInt 0)).2.1 130 k).toInt = 9000000000000000 := by (intro k hk; have e2 : y2_3.toNatClampNeg = y2_3.toInt.toNat := rfl; rw [show ((sI (sL sc2 130 y2_3.toNatClampNeg (Int64.ofInt 9000000000000000)) 131 y2_3.toNatClampNeg (Int32.ofInt 0))).2.1 130 = vp_updL (sc2.2.1 130) y2_3.toNatClampNeg (Int64.ofInt 9000000000000000) from (by simp [sI, sL])]; by_cases c : k = y2_3.toNatClampNeg; (rw [c, ul_eq]; exact (by have hl : InL (Int64.ofInt 9000000000000000) 9000000000000000 9000000000000000 := l_c 9000000000000000 rfl; exact Int.le_antisymm hl.2 hl.1)); (rw [ul_ne c]; exact g2_0 k (by have a0 := oa5 h1 i7a ro_109_19 i7 i26; have a5 := t_add e26 i7 (in_c 1 rfl) rfl; have a6 := in_u ((in_c 1 rfl)); omega)))
        exact gg_w (by first | exact Nat.le_add_right _ _ | exact gw2 | exact gw3 | exact gwe rfl | exact gwf rfl | exact gwg rfl | exact gwh rfl | omega) (gg_f (gf_cons rfl (gf_cons rfl (gf_cons rfl (gf_cons rfl gf_nil)))) (ih2 (sI (sL sc2 130 y2_3.toNatClampNeg (Int64.ofInt 9000000000000000)) 131 y2_3.toNatClampNeg (Int32.ofInt 0)) z26 hI25 (fr_sI rfl (fr_sL rfl hFc2)) (in_w 0 32 i26 rfl) n2 (m_up mm2 (t_add e26 i7 (in_c 1 rfl) rfl) (in_w 1 1 (in_c 1 rfl) rfl))))
  refine g_enter2 (k := 312) (N := 27648037) (by first | exact dq1 hd rfl | exact dq0 hd rfl | exact dq2 hd rfl | exact dq3 hd rfl | omega) rfl (Nat.le_of_ble_eq_true rfl) ?_
  refine g_iconst 0 1 (gd rfl) rfl rfl ?_
  refine g_istore_n 2 (gd rfl) rfl (Nat.le_of_ble_eq_true rfl) ?_
  have n2 : ∀ k : Nat, (k : Int) < ((Int32.ofInt 0)).toInt → (s.2.1 130 k).toInt = 9000000000000000 := by (intro k hk; exfalso; have h0 : (Int32.ofInt 0).toInt = 0 := rfl; omega)
  exact gg_w (by first | exact Nat.le_of_ble_eq_true rfl | omega) (gg_f (gf_cons rfl (gf_cons rfl (gf_cons rfl (gf_cons rfl gf_nil)))) (ct2 33 s (Int32.ofInt 0) hI fr_rf (in_w 0 32 (in_c 0 rfl) rfl) n2 (m_in 33 (in_w 0 32 (in_c 0 rfl) rfl) rfl)))

def fm_315 : FM := ([129, 131], [130], [(109, 0)], [])
/-- GraphHouseModel.distance -/
theorem k_315 {Z : AmZ} {A : Nat → Nat} {s : GS} {ex : va_W} {d : Nat} {X : AmX} {x1 : Int32} {x2 : Int32} (hd : 5 ≤ d) (hI : Inv s)  : GC Z d 315 [.ref (A 109), .int x1, .int x2] (WW Z A s ++ ex) 0 0 (fun v u => ∃ t : GS, Inv t ∧ Fr fm_315 s t ∧ ∃ z : Int64, v = some (.long z) ∧ u = WW Z A t ++ ex) X := by
  intro post xp hP hX
  obtain ⟨u_109_20, e_109_20⟩ : ∃ w, w = s.2.2.1 109 20 := ⟨_, rfl⟩
  have ro_109_20 := inv_F hI 0 32 rfl e_109_20
  refine g_enter2 (k := 315) (N := 900) (by first | exact dq1 hd rfl | exact dq0 hd rfl | exact dq2 hd rfl | exact dq3 hd rfl | omega) rfl (Nat.le_of_ble_eq_true rfl) ?_
  refine g_aload_n 1 (gd rfl) rfl rfl ?_
  refine g_aload_n 2 (gd rfl) rfl rfl ?_
  refine g_iload_n 3 (gd rfl) rfl rfl ?_
  refine g_callv (X := _) (As := [.int x1]) (r := [.ref (A 109)]) (b := A 109) (q := 109) 6 (gd rfl) rfl rfl rfl rfl rfl (ww_o rfl) (Nat.le_of_ble_eq_true rfl) (mc := 0) (ms := 0) (Nat.zero_le _) (Nat.zero_le _) (P := fun v u => _) ?_ (fun e u h => h) (fun v u h => h)
  intro po3 xx3 hp3 hx3
  refine g_enter2 (k := 272) (N := 300) (by first | exact dq1 hd rfl | exact dq0 hd rfl | exact dq2 hd rfl | exact dq3 hd rfl | omega) rfl (Nat.le_of_ble_eq_true rfl) ?_
  refine g_iload_n 1 (gd rfl) rfl rfl ?_
  refine g_if_lt 4 16 (gd rfl) rfl rfl (fun c3x1 => ?_) (fun c3x1 => ?_)
  · skip
    have i3x1 := z_lt (-2147483648) (-1) c3x1 (i_rng x1) rfl
    refine g_iconst 0 17 (gd rfl) rfl rfl ?_
    refine g_ireturn (gd rfl) rfl (nb01 (in_w 0 1 (in_c 0 rfl) rfl)) (hp3 _ _ ?_)
    show GG _ _ _ _ _ _ _ _ [.int (Int32.ofInt 0), .ref (A 109)] _ _ _
    refine g_if_eq 9 21 (gd rfl) rfl rfl (fun c6 => ?_) (fun c6 => ?_)
    · skip
      refine g_iconst 0 22 (gd rfl) rfl rfl ?_
      refine g_callv (X := _) (As := [.int (Int32.ofInt 0)]) (r := []) (b := A 109) (q := 109) 25 (gd rfl) rfl rfl rfl rfl rfl (ww_o rfl) (Nat.le_of_ble_eq_true rfl) (mc := 0) (ms := 0) (Nat.zero_le _) (Nat.zero_le _) (P := fun v u => _) ?_ (fun e u h => h) (fun v u h => h)
      intro po22 xx22 hp22 hx22
      refine g_enter2 (k := 271) (N := 300) (by first | exact dq1 hd rfl | exact dq0 hd rfl | exact dq2 hd rfl | exact dq3 hd rfl | omega) rfl (Nat.le_of_ble_eq_true rfl) ?_
      refine g_aload_n 1 (gd rfl) rfl rfl ?_
      refine g_iload_n 2 (gd rfl) rfl rfl ?_
      refine g_iconst 1 3 (gd rfl) rfl rfl ?_
      refine g_callv (X := _) (As := [.int (Int32.ofInt 0), .int (Int32.ofInt 1)]) (r := []) (b := A 109) (q := 109) 6 (gd rfl) rfl rfl rfl rfl rfl (ww_o rfl) (Nat.le_of_ble_eq_true rfl) (mc := 0) (ms := 0) (Nat.zero_le _) (Nat.zero_le _) (P := fun v u => _) ?_ (fun e u h => h) (fun v u h => h)
      intro po22x3 xx22x3 hp22x3 hx22x3
      refine g_enter2 (k := 270) (N := 300) (by first | exact dq1 hd rfl | exact dq0 hd rfl | exact dq2 hd rfl | exact dq3 hd rfl | omega) rfl (Nat.le_of_ble_eq_true rfl) ?_
      refine g_aload_n 1 (gd rfl) rfl rfl ?_
      refine g_iload_n 2 (gd rfl) rfl rfl ?_
      refine g_if_ne 5 9 (gd rfl) rfl rfl (fun c22x3x2 => ?_) (fun c22x3x2 => ?_)
      · skip
        exact zn_ne c22x3x2 (in_c 0 rfl) rfl
      · skip
        refine g_iconst 1 6 (gd rfl) rfl rfl ?_
        refine g_goto 18 (gd rfl) rfl ?_
        refine g_putI 21 (gd rfl) rfl rfl rfl rfl ?_
        have hI22x3x18 := inv_sF (q := 109) (j := 0) hI rfl (in_w 0 2 (in_c 1 rfl) rfl)
        refine g_aload_n 22 (gd rfl) rfl rfl ?_
        refine g_getI 25 (gd rfl) rfl rfl rfl (fun z22x3x22 e22x3x22 => ?_)
        have q22x3x22 : (Int32.ofInt 1) = z22x3x22 := (sF_get).trans e22x3x22.symm
        subst q22x3x22
        refine g_if_le 28 32 (gd rfl) rfl rfl (fun c22x3x25 => ?_) (fun c22x3x25 => ?_)
        · skip
          exact zn_le c22x3x25 (in_c 1 rfl) rfl
        · skip
          refine g_iconst 1 29 (gd rfl) rfl rfl ?_
          refine g_goto 33 (gd rfl) rfl ?_
          refine g_ireturn (gd rfl) rfl (nb01 (in_w 0 1 (in_c 1 rfl) rfl)) (hp22x3 _ _ ?_)
          show GG _ _ _ _ _ _ _ _ [.int (Int32.ofInt 1)] _ _ _
          refine g_ireturn (gd rfl) rfl (nb01 (in_w 0 1 (in_c 1 rfl) rfl)) (hp22 _ _ ?_)
          show GG _ _ _ _ _ _ _ _ [.int (Int32.ofInt 1)] _ _ _
          refine g_if_eq 28 30 (gd rfl) rfl rfl (fun c25 => ?_) (fun c25 => ?_)
          · skip
            exact zn_eq c25 (in_c 1 rfl) rfl
          · skip
            refine g_lconst 0 29 (gd rfl) rfl rfl ?_
            exact g_lreturn (gd rfl) rfl (hP _ _ ⟨(sF s 109 0 (Int32.ofInt 1)), hI22x3x18, (fr_sF rfl fr_rf), (Int64.ofInt 0), rfl, rfl⟩)
    · skip
      exact zn_ne c6 (in_c 0 rfl) rfl
  · skip
    have i3x1 := z_ge 0 2147483647 c3x1 (i_rng x1) rfl
    refine g_iload_n 5 (gd rfl) rfl rfl ?_
    refine g_aload_n 6 (gd rfl) rfl rfl ?_
    refine g_getI 9 (gd rfl) rfl rfl rfl (fun z3x6 e3x6 => ?_)
    have q3x6 : u_109_20 = z3x6 := (e_109_20).trans e3x6.symm
    subst q3x6
    refine g_cmp_ge 12 16 (gd rfl) rfl rfl (fun c3x9 => ?_) (fun c3x9 => ?_)
    · skip
      refine g_iconst 0 17 (gd rfl) rfl rfl ?_
      refine g_ireturn (gd rfl) rfl (nb01 (in_w 0 1 (in_c 0 rfl) rfl)) (hp3 _ _ ?_)
      show GG _ _ _ _ _ _ _ _ [.int (Int32.ofInt 0), .ref (A 109)] _ _ _
      refine g_if_eq 9 21 (gd rfl) rfl rfl (fun c6 => ?_) (fun c6 => ?_)
      · skip
        refine g_iconst 0 22 (gd rfl) rfl rfl ?_
        refine g_callv (X := _) (As := [.int (Int32.ofInt 0)]) (r := []) (b := A 109) (q := 109) 25 (gd rfl) rfl rfl rfl rfl rfl (ww_o rfl) (Nat.le_of_ble_eq_true rfl) (mc := 0) (ms := 0) (Nat.zero_le _) (Nat.zero_le _) (P := fun v u => _) ?_ (fun e u h => h) (fun v u h => h)
        intro po22 xx22 hp22 hx22
        refine g_enter2 (k := 271) (N := 300) (by first | exact dq1 hd rfl | exact dq0 hd rfl | exact dq2 hd rfl | exact dq3 hd rfl | omega) rfl (Nat.le_of_ble_eq_true rfl) ?_
        refine g_aload_n 1 (gd rfl) rfl rfl ?_
        refine g_iload_n 2 (gd rfl) rfl rfl ?_
        refine g_iconst 1 3 (gd rfl) rfl rfl ?_
        refine g_callv (X := _) (As := [.int (Int32.ofInt 0), .int (Int32.ofInt 1)]) (r := []) (b := A 109) (q := 109) 6 (gd rfl) rfl rfl rfl rfl rfl (ww_o rfl) (Nat.le_of_ble_eq_true rfl) (mc := 0) (ms := 0) (Nat.zero_le _) (Nat.zero_le _) (P := fun v u => _) ?_ (fun e u h => h) (fun v u h => h)
        intro po22x3 xx22x3 hp22x3 hx22x3
        refine g_enter2 (k := 270) (N := 300) (by first | exact dq1 hd rfl | exact dq0 hd rfl | exact dq2 hd rfl | exact dq3 hd rfl | omega) rfl (Nat.le_of_ble_eq_true rfl) ?_
        refine g_aload_n 1 (gd rfl) rfl rfl ?_
        refine g_iload_n 2 (gd rfl) rfl rfl ?_
        refine g_if_ne 5 9 (gd rfl) rfl rfl (fun c22x3x2 => ?_) (fun c22x3x2 => ?_)
        · skip
          exact zn_ne c22x3x2 (in_c 0 rfl) rfl
        · skip
          refine g_iconst 1 6 (gd rfl) rfl rfl ?_
          refine g_goto 18 (gd rfl) rfl ?_
          refine g_putI 21 (gd rfl) rfl rfl rfl rfl ?_
          have hI22x3x18 := inv_sF (q := 109) (j := 0) hI rfl (in_w 0 2 (in_c 1 rfl) rfl)
          refine g_aload_n 22 (gd rfl) rfl rfl ?_
          refine g_getI 25 (gd rfl) rfl rfl rfl (fun z22x3x22 e22x3x22 => ?_)
          have q22x3x22 : (Int32.ofInt 1) = z22x3x22 := (sF_get).trans e22x3x22.symm
          subst q22x3x22
          refine g_if_le 28 32 (gd rfl) rfl rfl (fun c22x3x25 => ?_) (fun c22x3x25 => ?_)
          · skip
            exact zn_le c22x3x25 (in_c 1 rfl) rfl
          · skip
            refine g_iconst 1 29 (gd rfl) rfl rfl ?_
            refine g_goto 33 (gd rfl) rfl ?_
            refine g_ireturn (gd rfl) rfl (nb01 (in_w 0 1 (in_c 1 rfl) rfl)) (hp22x3 _ _ ?_)
            show GG _ _ _ _ _ _ _ _ [.int (Int32.ofInt 1)] _ _ _
            refine g_ireturn (gd rfl) rfl (nb01 (in_w 0 1 (in_c 1 rfl) rfl)) (hp22 _ _ ?_)
            show GG _ _ _ _ _ _ _ _ [.int (Int32.ofInt 1)] _ _ _
            refine g_if_eq 28 30 (gd rfl) rfl rfl (fun c25 => ?_) (fun c25 => ?_)
            · skip
              exact zn_eq c25 (in_c 1 rfl) rfl
            · skip
              refine g_lconst 0 29 (gd rfl) rfl rfl ?_
              exact g_lreturn (gd rfl) rfl (hP _ _ ⟨(sF s 109 0 (Int32.ofInt 1)), hI22x3x18, (fr_sF rfl fr_rf), (Int64.ofInt 0), rfl, rfl⟩)
      · skip
        exact zn_ne c6 (in_c 0 rfl) rfl
    · skip
      have i3x9 := r_lt1 0 31 c3x9 i3x1 ro_109_20 rfl
      have i3x9a := r_lt2 1 32 c3x9 i3x1 ro_109_20 rfl
      refine g_iconst 1 13 (gd rfl) rfl rfl ?_
      refine g_goto 17 (gd rfl) rfl ?_
      refine g_ireturn (gd rfl) rfl (nb01 (in_w 0 1 (in_c 1 rfl) rfl)) (hp3 _ _ ?_)
      show GG _ _ _ _ _ _ _ _ [.int (Int32.ofInt 1), .ref (A 109)] _ _ _
      refine g_if_eq 9 21 (gd rfl) rfl rfl (fun c6 => ?_) (fun c6 => ?_)
      · skip
        exact zn_eq c6 (in_c 1 rfl) rfl
      · skip
        refine g_aload_n 10 (gd rfl) rfl rfl ?_
        refine g_iload_n 11 (gd rfl) rfl rfl ?_
        refine g_callv (X := _) (As := [.int x2]) (r := [.ref (A 109)]) (b := A 109) (q := 109) 14 (gd rfl) rfl rfl rfl rfl rfl (ww_o rfl) (Nat.le_of_ble_eq_true rfl) (mc := 0) (ms := 0) (Nat.zero_le _) (Nat.zero_le _) (P := fun v u => _) ?_ (fun e u h => h) (fun v u h => h)
        intro po11 xx11 hp11 hx11
        refine g_enter2 (k := 272) (N := 300) (by first | exact dq1 hd rfl | exact dq0 hd rfl | exact dq2 hd rfl | exact dq3 hd rfl | omega) rfl (Nat.le_of_ble_eq_true rfl) ?_
        refine g_iload_n 1 (gd rfl) rfl rfl ?_
        refine g_if_lt 4 16 (gd rfl) rfl rfl (fun c11x1 => ?_) (fun c11x1 => ?_)
        · skip
          have i11x1 := z_lt (-2147483648) (-1) c11x1 (i_rng x2) rfl
          refine g_iconst 0 17 (gd rfl) rfl rfl ?_
          refine g_ireturn (gd rfl) rfl (nb01 (in_w 0 1 (in_c 0 rfl) rfl)) (hp11 _ _ ?_)
          show GG _ _ _ _ _ _ _ _ [.int (Int32.ofInt 0), .ref (A 109)] _ _ _
          refine g_if_eq 17 21 (gd rfl) rfl rfl (fun c14 => ?_) (fun c14 => ?_)
          · skip
            refine g_iconst 0 22 (gd rfl) rfl rfl ?_
            refine g_callv (X := _) (As := [.int (Int32.ofInt 0)]) (r := []) (b := A 109) (q := 109) 25 (gd rfl) rfl rfl rfl rfl rfl (ww_o rfl) (Nat.le_of_ble_eq_true rfl) (mc := 0) (ms := 0) (Nat.zero_le _) (Nat.zero_le _) (P := fun v u => _) ?_ (fun e u h => h) (fun v u h => h)
            intro po22 xx22 hp22 hx22
            refine g_enter2 (k := 271) (N := 300) (by first | exact dq1 hd rfl | exact dq0 hd rfl | exact dq2 hd rfl | exact dq3 hd rfl | omega) rfl (Nat.le_of_ble_eq_true rfl) ?_
            refine g_aload_n 1 (gd rfl) rfl rfl ?_
            refine g_iload_n 2 (gd rfl) rfl rfl ?_
            refine g_iconst 1 3 (gd rfl) rfl rfl ?_
            refine g_callv (X := _) (As := [.int (Int32.ofInt 0), .int (Int32.ofInt 1)]) (r := []) (b := A 109) (q := 109) 6 (gd rfl) rfl rfl rfl rfl rfl (ww_o rfl) (Nat.le_of_ble_eq_true rfl) (mc := 0) (ms := 0) (Nat.zero_le _) (Nat.zero_le _) (P := fun v u => _) ?_ (fun e u h => h) (fun v u h => h)
            intro po22x3 xx22x3 hp22x3 hx22x3
            refine g_enter2 (k := 270) (N := 300) (by first | exact dq1 hd rfl | exact dq0 hd rfl | exact dq2 hd rfl | exact dq3 hd rfl | omega) rfl (Nat.le_of_ble_eq_true rfl) ?_
            refine g_aload_n 1 (gd rfl) rfl rfl ?_
            refine g_iload_n 2 (gd rfl) rfl rfl ?_
            refine g_if_ne 5 9 (gd rfl) rfl rfl (fun c22x3x2 => ?_) (fun c22x3x2 => ?_)
            · skip
              exact zn_ne c22x3x2 (in_c 0 rfl) rfl
            · skip
              refine g_iconst 1 6 (gd rfl) rfl rfl ?_
              refine g_goto 18 (gd rfl) rfl ?_
              refine g_putI 21 (gd rfl) rfl rfl rfl rfl ?_
              have hI22x3x18 := inv_sF (q := 109) (j := 0) hI rfl (in_w 0 2 (in_c 1 rfl) rfl)
              refine g_aload_n 22 (gd rfl) rfl rfl ?_
              refine g_getI 25 (gd rfl) rfl rfl rfl (fun z22x3x22 e22x3x22 => ?_)
              have q22x3x22 : (Int32.ofInt 1) = z22x3x22 := (sF_get).trans e22x3x22.symm
              subst q22x3x22
              refine g_if_le 28 32 (gd rfl) rfl rfl (fun c22x3x25 => ?_) (fun c22x3x25 => ?_)
              · skip
                exact zn_le c22x3x25 (in_c 1 rfl) rfl
              · skip
                refine g_iconst 1 29 (gd rfl) rfl rfl ?_
                refine g_goto 33 (gd rfl) rfl ?_
                refine g_ireturn (gd rfl) rfl (nb01 (in_w 0 1 (in_c 1 rfl) rfl)) (hp22x3 _ _ ?_)
                show GG _ _ _ _ _ _ _ _ [.int (Int32.ofInt 1)] _ _ _
                refine g_ireturn (gd rfl) rfl (nb01 (in_w 0 1 (in_c 1 rfl) rfl)) (hp22 _ _ ?_)
                show GG _ _ _ _ _ _ _ _ [.int (Int32.ofInt 1)] _ _ _
                refine g_if_eq 28 30 (gd rfl) rfl rfl (fun c25 => ?_) (fun c25 => ?_)
                · skip
                  exact zn_eq c25 (in_c 1 rfl) rfl
                · skip
                  refine g_lconst 0 29 (gd rfl) rfl rfl ?_
                  exact g_lreturn (gd rfl) rfl (hP _ _ ⟨(sF s 109 0 (Int32.ofInt 1)), hI22x3x18, (fr_sF rfl fr_rf), (Int64.ofInt 0), rfl, rfl⟩)
          · skip
            exact zn_ne c14 (in_c 0 rfl) rfl
        · skip
          have i11x1 := z_ge 0 2147483647 c11x1 (i_rng x2) rfl
          refine g_iload_n 5 (gd rfl) rfl rfl ?_
          refine g_aload_n 6 (gd rfl) rfl rfl ?_
          refine g_getI 9 (gd rfl) rfl rfl rfl (fun z11x6 e11x6 => ?_)
          have q11x6 : u_109_20 = z11x6 := (e_109_20).trans e11x6.symm
          subst q11x6
          refine g_cmp_ge 12 16 (gd rfl) rfl rfl (fun c11x9 => ?_) (fun c11x9 => ?_)
          · skip
            have i11x9 := r_le2 1 2147483647 c11x9 i3x9a i11x1 rfl
            refine g_iconst 0 17 (gd rfl) rfl rfl ?_
            refine g_ireturn (gd rfl) rfl (nb01 (in_w 0 1 (in_c 0 rfl) rfl)) (hp11 _ _ ?_)
            show GG _ _ _ _ _ _ _ _ [.int (Int32.ofInt 0), .ref (A 109)] _ _ _
            refine g_if_eq 17 21 (gd rfl) rfl rfl (fun c14 => ?_) (fun c14 => ?_)
            · skip
              refine g_iconst 0 22 (gd rfl) rfl rfl ?_
              refine g_callv (X := _) (As := [.int (Int32.ofInt 0)]) (r := []) (b := A 109) (q := 109) 25 (gd rfl) rfl rfl rfl rfl rfl (ww_o rfl) (Nat.le_of_ble_eq_true rfl) (mc := 0) (ms := 0) (Nat.zero_le _) (Nat.zero_le _) (P := fun v u => _) ?_ (fun e u h => h) (fun v u h => h)
              intro po22 xx22 hp22 hx22
              refine g_enter2 (k := 271) (N := 300) (by first | exact dq1 hd rfl | exact dq0 hd rfl | exact dq2 hd rfl | exact dq3 hd rfl | omega) rfl (Nat.le_of_ble_eq_true rfl) ?_
              refine g_aload_n 1 (gd rfl) rfl rfl ?_
              refine g_iload_n 2 (gd rfl) rfl rfl ?_
              refine g_iconst 1 3 (gd rfl) rfl rfl ?_
              refine g_callv (X := _) (As := [.int (Int32.ofInt 0), .int (Int32.ofInt 1)]) (r := []) (b := A 109) (q := 109) 6 (gd rfl) rfl rfl rfl rfl rfl (ww_o rfl) (Nat.le_of_ble_eq_true rfl) (mc := 0) (ms := 0) (Nat.zero_le _) (Nat.zero_le _) (P := fun v u => _) ?_ (fun e u h => h) (fun v u h => h)
              intro po22x3 xx22x3 hp22x3 hx22x3
              refine g_enter2 (k := 270) (N := 300) (by first | exact dq1 hd rfl | exact dq0 hd rfl | exact dq2 hd rfl | exact dq3 hd rfl | omega) rfl (Nat.le_of_ble_eq_true rfl) ?_
              refine g_aload_n 1 (gd rfl) rfl rfl ?_
              refine g_iload_n 2 (gd rfl) rfl rfl ?_
              refine g_if_ne 5 9 (gd rfl) rfl rfl (fun c22x3x2 => ?_) (fun c22x3x2 => ?_)
              · skip
                exact zn_ne c22x3x2 (in_c 0 rfl) rfl
              · skip
                refine g_iconst 1 6 (gd rfl) rfl rfl ?_
                refine g_goto 18 (gd rfl) rfl ?_
                refine g_putI 21 (gd rfl) rfl rfl rfl rfl ?_
                have hI22x3x18 := inv_sF (q := 109) (j := 0) hI rfl (in_w 0 2 (in_c 1 rfl) rfl)
                refine g_aload_n 22 (gd rfl) rfl rfl ?_
                refine g_getI 25 (gd rfl) rfl rfl rfl (fun z22x3x22 e22x3x22 => ?_)
                have q22x3x22 : (Int32.ofInt 1) = z22x3x22 := (sF_get).trans e22x3x22.symm
                subst q22x3x22
                refine g_if_le 28 32 (gd rfl) rfl rfl (fun c22x3x25 => ?_) (fun c22x3x25 => ?_)
                · skip
                  exact zn_le c22x3x25 (in_c 1 rfl) rfl
                · skip
                  refine g_iconst 1 29 (gd rfl) rfl rfl ?_
                  refine g_goto 33 (gd rfl) rfl ?_
                  refine g_ireturn (gd rfl) rfl (nb01 (in_w 0 1 (in_c 1 rfl) rfl)) (hp22x3 _ _ ?_)
                  show GG _ _ _ _ _ _ _ _ [.int (Int32.ofInt 1)] _ _ _
                  refine g_ireturn (gd rfl) rfl (nb01 (in_w 0 1 (in_c 1 rfl) rfl)) (hp22 _ _ ?_)
                  show GG _ _ _ _ _ _ _ _ [.int (Int32.ofInt 1)] _ _ _
                  refine g_if_eq 28 30 (gd rfl) rfl rfl (fun c25 => ?_) (fun c25 => ?_)
                  · skip
                    exact zn_eq c25 (in_c 1 rfl) rfl
                  · skip
                    refine g_lconst 0 29 (gd rfl) rfl rfl ?_
                    exact g_lreturn (gd rfl) rfl (hP _ _ ⟨(sF s 109 0 (Int32.ofInt 1)), hI22x3x18, (fr_sF rfl fr_rf), (Int64.ofInt 0), rfl, rfl⟩)
            · skip
              exact zn_ne c14 (in_c 0 rfl) rfl
          · skip
            have i11x9 := r_lt1 0 31 c11x9 i11x1 i3x9a rfl
            refine g_iconst 1 13 (gd rfl) rfl rfl ?_
            refine g_goto 17 (gd rfl) rfl ?_
            refine g_ireturn (gd rfl) rfl (nb01 (in_w 0 1 (in_c 1 rfl) rfl)) (hp11 _ _ ?_)
            show GG _ _ _ _ _ _ _ _ [.int (Int32.ofInt 1), .ref (A 109)] _ _ _
            refine g_if_eq 17 21 (gd rfl) rfl rfl (fun c14 => ?_) (fun c14 => ?_)
            · skip
              exact zn_eq c14 (in_c 1 rfl) rfl
            · skip
              refine g_iconst 1 18 (gd rfl) rfl rfl ?_
              refine g_goto 22 (gd rfl) rfl ?_
              refine g_callv (X := _) (As := [.int (Int32.ofInt 1)]) (r := []) (b := A 109) (q := 109) 25 (gd rfl) rfl rfl rfl rfl rfl (ww_o rfl) (Nat.le_of_ble_eq_true rfl) (mc := 0) (ms := 0) (Nat.zero_le _) (Nat.zero_le _) (P := fun v u => _) ?_ (fun e u h => h) (fun v u h => h)
              intro po22 xx22 hp22 hx22
              refine g_enter2 (k := 271) (N := 300) (by first | exact dq1 hd rfl | exact dq0 hd rfl | exact dq2 hd rfl | exact dq3 hd rfl | omega) rfl (Nat.le_of_ble_eq_true rfl) ?_
              refine g_aload_n 1 (gd rfl) rfl rfl ?_
              refine g_iload_n 2 (gd rfl) rfl rfl ?_
              refine g_iconst 1 3 (gd rfl) rfl rfl ?_
              refine g_callv (X := _) (As := [.int (Int32.ofInt 1), .int (Int32.ofInt 1)]) (r := []) (b := A 109) (q := 109) 6 (gd rfl) rfl rfl rfl rfl rfl (ww_o rfl) (Nat.le_of_ble_eq_true rfl) (mc := 0) (ms := 0) (Nat.zero_le _) (Nat.zero_le _) (P := fun v u => _) ?_ (fun e u h => h) (fun v u h => h)
              intro po22x3 xx22x3 hp22x3 hx22x3
              refine g_enter2 (k := 270) (N := 300) (by first | exact dq1 hd rfl | exact dq0 hd rfl | exact dq2 hd rfl | exact dq3 hd rfl | omega) rfl (Nat.le_of_ble_eq_true rfl) ?_
              refine g_aload_n 1 (gd rfl) rfl rfl ?_
              refine g_iload_n 2 (gd rfl) rfl rfl ?_
              refine g_if_ne 5 9 (gd rfl) rfl rfl (fun c22x3x2 => ?_) (fun c22x3x2 => ?_)
              · skip
                refine g_iload_n 10 (gd rfl) rfl rfl ?_
                refine g_if_ne 13 17 (gd rfl) rfl rfl (fun c22x3x10 => ?_) (fun c22x3x10 => ?_)
                · skip
                  refine g_iconst 0 18 (gd rfl) rfl rfl ?_
                  refine g_putI 21 (gd rfl) rfl rfl rfl rfl ?_
                  have hI22x3x18 := inv_sF (q := 109) (j := 0) hI rfl (in_w 0 2 (in_c 0 rfl) rfl)
                  refine g_aload_n 22 (gd rfl) rfl rfl ?_
                  refine g_getI 25 (gd rfl) rfl rfl rfl (fun z22x3x22 e22x3x22 => ?_)
                  have q22x3x22 : (Int32.ofInt 0) = z22x3x22 := (sF_get).trans e22x3x22.symm
                  subst q22x3x22
                  refine g_if_le 28 32 (gd rfl) rfl rfl (fun c22x3x25 => ?_) (fun c22x3x25 => ?_)
                  · skip
                    refine g_iconst 0 33 (gd rfl) rfl rfl ?_
                    refine g_ireturn (gd rfl) rfl (nb01 (in_w 0 1 (in_c 0 rfl) rfl)) (hp22x3 _ _ ?_)
                    show GG _ _ _ _ _ _ _ _ [.int (Int32.ofInt 0)] _ _ _
                    refine g_ireturn (gd rfl) rfl (nb01 (in_w 0 1 (in_c 0 rfl) rfl)) (hp22 _ _ ?_)
                    show GG _ _ _ _ _ _ _ _ [.int (Int32.ofInt 0)] _ _ _
                    refine g_if_eq 28 30 (gd rfl) rfl rfl (fun c25 => ?_) (fun c25 => ?_)
                    · skip
                      refine g_aload_n 31 (gd rfl) rfl rfl ?_
                      refine g_iload_n 32 (gd rfl) rfl rfl ?_
                      refine g_iload_n 33 (gd rfl) rfl rfl ?_
                      have p33 : (x1).toInt < nmx (sF s 109 0 (Int32.ofInt 0)) ∧ (x2).toInt < nmx (sF s 109 0 (Int32.ofInt 0)) := by exact ⟨by unfold nmx; rw [← (show u_109_20 = (sF s 109 0 (Int32.ofInt 0)).2.2.1 109 20 from sF_ne rfl (e_109_20))]; have a0 := oa4 i11x9 i3x9 i3x9a ((in_c 0 rfl)); omega, by unfold nmx; rw [← (show u_109_20 = (sF s 109 0 (Int32.ofInt 0)).2.2.1 109 20 from sF_ne rfl (e_109_20))]; have a0 := oa4 i11x9 i3x9 i3x9a ((in_c 0 rfl)); omega⟩
                      refine g_callv (X := _) (As := [.int x1, .int x2]) (r := []) (b := A 109) (q := 109) 36 (gd rfl) rfl rfl rfl rfl rfl (ww_o rfl) (Nat.le_of_ble_eq_true rfl) (Nat.zero_le _) (Nat.zero_le _) (k_314 (by first | exact dq1 hd rfl | exact dq0 hd rfl | exact dq2 hd rfl | exact dq3 hd rfl | omega) hI22x3x18 (in_w 0 31 i3x9 rfl) (in_w 0 31 i11x9 rfl) p33) (fun e u h => h) (fun v u h => ?_)
                      obtain ⟨s33, hI33, hF33, z33, rfl, rfl, i33, p33a⟩ := h
                      show GG _ _ _ _ _ _ _ _ [.int z33] _ _ _
                      refine g_istore_n 37 (gd rfl) rfl (Nat.le_of_ble_eq_true rfl) ?_
                      refine g_iload_n 38 (gd rfl) rfl rfl ?_
                      refine g_if_ne 41 47 (gd rfl) rfl rfl (fun c38 => ?_) (fun c38 => ?_)
                      · skip
                        refine g_aload_n 48 (gd rfl) rfl rfl ?_
                        refine g_iload_n 49 (gd rfl) rfl rfl ?_
                        refine g_iload_n 50 (gd rfl) rfl rfl ?_
                        have p50 : BTS s33 (x2).toNatClampNeg (z33) := by exact (p33a (by have h := c38; omega)).1
                        refine g_callv (X := _) (As := [.int x2, .int z33]) (r := []) (b := A 109) (q := 109) 53 (gd rfl) rfl rfl rfl rfl rfl (ww_o rfl) (Nat.le_of_ble_eq_true rfl) (Nat.zero_le _) (Nat.zero_le _) (k_312 (by first | exact dq1 hd rfl | exact dq0 hd rfl | exact dq2 hd rfl | exact dq3 hd rfl | omega) hI33 (in_w 0 31 i11x9 rfl) p50) (fun e u h => h) (fun v u h => ?_)
                        obtain ⟨s50, hI50, hF50, z50, rfl, rfl, i50, p50a⟩ := h
                        show GG _ _ _ _ _ _ _ _ [.int z50] _ _ _
                        refine g_if_eq 56 65 (gd rfl) rfl rfl (fun c53 => ?_) (fun c53 => ?_)
                        · skip
                          have i53 := z_eq 0 0 c53 i50 rfl
                          refine g_ldc2_w 9000000000000001 68 (gd rfl) rfl rfl ?_
                          exact g_lreturn (gd rfl) rfl (hP _ _ ⟨s50, hI50, (fr_tr rfl (fr_tr rfl (fr_sF rfl fr_rf) hF33) hF50), (Int64.ofInt 9000000000000001), rfl, rfl⟩)
                        · skip
                          have i53 := z_ne 1 1 c53 i50 rfl
                          refine g_aload_n 57 (gd rfl) rfl rfl ?_
                          refine g_getA (q2 := 130) 60 (gd rfl) rfl rfl rfl rfl ?_
                          refine g_iload_n 61 (gd rfl) rfl rfl ?_
                          refine g_laload 62 (gd rfl) rfl (n := 32) rfl (in_ix i3x9 rfl) (fun z61 e61 => ?_)
                          refine g_goto 68 (gd rfl) rfl ?_
                          exact g_lreturn (gd rfl) rfl (hP _ _ ⟨s50, hI50, (fr_tr rfl (fr_tr rfl (fr_sF rfl fr_rf) hF33) hF50), z61, rfl, rfl⟩)
                      · skip
                        have i38 := z_eq 0 0 c38 i33 rfl
                        refine g_ldc2_w 9000000000000000 44 (gd rfl) rfl rfl ?_
                        refine g_goto 68 (gd rfl) rfl ?_
                        exact g_lreturn (gd rfl) rfl (hP _ _ ⟨s33, hI33, (fr_tr rfl (fr_sF rfl fr_rf) hF33), (Int64.ofInt 9000000000000000), rfl, rfl⟩)
                    · skip
                      exact zn_ne c25 (in_c 0 rfl) rfl
                  · skip
                    exact zn_gt c22x3x25 (in_c 0 rfl) rfl
                · skip
                  exact zn_eq c22x3x10 (in_c 1 rfl) rfl
              · skip
                exact zn_eq c22x3x2 (in_c 1 rfl) rfl
end
