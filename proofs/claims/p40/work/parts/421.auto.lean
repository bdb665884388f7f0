/-! methods, by vc.py -/
def fm_175_46_2 : FM := ([48], [], [(46, 9)], [])
/-- GraphHouse$Script.write -/
theorem k_175_46_2 {Z : AmZ} {A : Nat → Nat} {s : GS} {ex : va_W} {d : Nat} {X : AmX}  (hd : 4 ≤ d) (hI : Inv s)  : GC Z d 175 [.ref (A 46), .ref (A 2)] (WW Z A s ++ ex) 0 0 (fun v u => ∃ t : GS, Inv t ∧ Fr fm_175_46_2 s t ∧ ∃ z : Int32, v = some (.int z) ∧ u = WW Z A t ++ ex ∧ In z 0 4608) X := by
  intro post xp hP hX
  obtain ⟨u_2_1, e_2_1⟩ : ∃ w, w = s.2.2.1 2 1 := ⟨_, rfl⟩
  have ro_2_1 := inv_F hI 0 32 rfl e_2_1
  obtain ⟨u_2_3, e_2_3⟩ : ∃ w, w = s.2.2.1 2 3 := ⟨_, rfl⟩
  have ro_2_3 := inv_F hI 0 160 rfl e_2_3
  have ct39 : ∀ (k39 : Nat) (sc39 : GS) (y39_2 : Int32), Inv sc39 → Fr fm_175_46_2 s sc39 → (In y39_2 0 160) → 160 - (y39_2).toInt < (k39 : Int) → GG Z (d - 1) 175 post (gx xp) (1 + k39 * 1801) 39 (fun j => xlook j [(0, .ref (A 46)), (1, .ref (A 2)), (2, .int y39_2)]) [] (WW Z A sc39 ++ ex) 0 0 := by
    intro k39
    induction k39 with
    | zero => intro sc39 y39_2 hIc39 hFc39 j39_2 mm39; exact m_no mm39 j39_2 rfl
    | succ k39 ih39 =>
      intro sc39 y39_2 hIc39 hFc39 j39_2 mm39
      refine gg_w (M := 1 + k39 * 1801 + 1801) gws ?_
      have ct113 : ∀ (sc113 : GS) , Inv sc113 → Fr fm_175_46_2 s sc113 → (In y39_2 0 159) → GG Z (d - 1) 175 post (gx xp) (1 + k39 * 1801 + 901) 113 (fun j => xlook j [(0, .ref (A 46)), (1, .ref (A 2)), (2, .int y39_2)]) [] (WW Z A sc113 ++ ex) 0 0 := by
        intro sc113  hIc113 hFc113 j113_2
        refine g_iinc 116 (gd rfl) rfl rfl (Nat.le_of_ble_eq_true rfl) (fun z113 e113 => ?_)
        have i113 := in_add 1 160 e113 j113_2 (in_c 1 rfl) rfl rfl
        refine g_goto 39 (gd rfl) rfl ?_
        exact gg_w (by first | exact Nat.le_add_right _ _ | exact gw2 | exact gw3 | exact gwe rfl | exact gwf rfl | exact gwg rfl | exact gwh rfl | omega) (gg_f (gf_cons rfl (gf_cons rfl (gf_cons rfl gf_nil))) (ih39 sc113 z113 hIc113 hFc113 (in_w 0 160 i113 rfl) (m_up mm39 (t_add e113 j113_2 (in_c 1 rfl) rfl) (in_w 1 1 (in_c 1 rfl) rfl))))
      refine g_iload_n 40 (gd rfl) rfl rfl ?_
      refine g_aload_n 41 (gd rfl) rfl rfl ?_
      refine g_getI 44 (gd rfl) rfl rfl rfl (fun z41 e41 => ?_)
      have q41 : u_2_3 = z41 := (fr_F e_2_3 hFc39 rfl).trans e41.symm
      subst q41
      refine g_cmp_ge 47 119 (gd rfl) rfl rfl (fun c44 => ?_) (fun c44 => ?_)
      · skip
        refine g_aload_n 120 (gd rfl) rfl rfl ?_
        refine g_getI 123 (gd rfl) rfl rfl rfl (fun z120 e120 => ?_)
        have i120 := inv_F hIc39 0 4608 rfl e120
        exact g_ireturn (gd rfl) rfl rfl (hP _ _ ⟨sc39, hIc39, hFc39, z120, rfl, rfl, in_w 0 4608 i120 rfl⟩)
      · skip
        have i44 := r_lt1 0 159 c44 j39_2 ro_2_3 rfl
        have i44a := r_lt2 1 160 c44 j39_2 ro_2_3 rfl
        refine g_aload_n 48 (gd rfl) rfl rfl ?_
        refine g_getA (q2 := 4) 51 (gd rfl) rfl rfl rfl rfl ?_
        refine g_iload_n 52 (gd rfl) rfl rfl ?_
        refine g_iaload 53 (gd rfl) rfl (n := 160) rfl (in_ix i44 rfl) (fun z52 e52 => ?_)
        have i52 := inv_I hIc39 (n := 160) (t := 0) (-1) 31 rfl (in_ix i44 rfl) rfl e52
        refine g_iconst (-1) 54 (gd rfl) rfl rfl ?_
        refine g_cmp_eq 57 113 (gd rfl) rfl rfl (fun c54 => ?_) (fun c54 => ?_)
        · skip
          have i54 := r_eq1 (-1) (-1) c54 i52 (in_c (-1) rfl) rfl
          exact gg_w (by first | exact Nat.le_add_right _ _ | exact gw2 | exact gw3 | exact gwe rfl | exact gwf rfl | exact gwg rfl | exact gwh rfl | omega) (gg_f (gf_cons rfl (gf_cons rfl (gf_cons rfl gf_nil))) (ct113 sc39  hIc39 hFc39 (in_w 0 159 i44 rfl)))
        · skip
          have i54 := r_ne1 0 31 c54 i52 (in_c (-1) rfl) rfl
          refine g_aload_n 58 (gd rfl) rfl rfl ?_
          refine g_bipush 97 60 (gd rfl) rfl rfl ?_
          refine g_callv (X := _) (As := [.int (Int32.ofInt 97)]) (r := []) (b := A 46) (q := 46) 63 (gd rfl) rfl rfl rfl rfl rfl (ww_o rfl) (Nat.le_of_ble_eq_true rfl) (mc := 0) (ms := 0) (Nat.zero_le _) (Nat.zero_le _) (P := fun v u => _) ?_ (fun e u h => h) (fun v u h => h)
          intro po60 xx60 hp60 hx60
          refine g_enter2 (k := 177) (N := 300) (by first | exact dq1 hd rfl | exact dq0 hd rfl | exact dq2 hd rfl | exact dq3 hd rfl | omega) rfl (Nat.le_of_ble_eq_true rfl) ?_
          refine g_aload_n 1 (gd rfl) rfl rfl ?_
          refine g_getI 4 (gd rfl) rfl rfl rfl (fun z60x1 e60x1 => ?_)
          have i60x1 := inv_F hIc39 0 4608 rfl e60x1
          refine g_aload_n 5 (gd rfl) rfl rfl ?_
          refine g_getA (q2 := 48) 8 (gd rfl) rfl rfl rfl rfl ?_
          refine g_alen (n := 4608) (t := 2) 4608 9 (gd rfl) rfl rfl (Nat.le_of_ble_eq_true rfl) rfl ?_
          refine g_cmp_ge 12 32 (gd rfl) rfl rfl (fun c60x9 => ?_) (fun c60x9 => ?_)
          · skip
            have i60x9 := r_le2 4608 4608 c60x9 (in_c 4608 rfl) i60x1 rfl
            refine g_return (gd rfl) rfl (hp60 _ _ ?_)
            show GG _ _ _ _ _ _ _ _ [] _ _ _
            refine g_aload_n 64 (gd rfl) rfl rfl ?_
            refine g_aload_n 65 (gd rfl) rfl rfl ?_
            refine g_getA (q2 := 4) 68 (gd rfl) rfl rfl rfl rfl ?_
            refine g_iload_n 69 (gd rfl) rfl rfl ?_
            refine g_iaload 70 (gd rfl) rfl (n := 160) rfl (in_ix i44 rfl) (fun z69 e69 => ?_)
            have q69 : z52 = z69 := (e52).trans e69.symm
            subst q69
            refine g_callv (X := _) (As := [.int z52]) (r := []) (b := A 46) (q := 46) 73 (gd rfl) rfl rfl rfl rfl rfl (ww_o rfl) (Nat.le_of_ble_eq_true rfl) (Nat.zero_le _) (Nat.zero_le _) (k_178_46 (by first | exact dq1 hd rfl | exact dq0 hd rfl | exact dq2 hd rfl | exact dq3 hd rfl | omega) hIc39 (in_w (-1000000) 1000000 i54 rfl)) (fun e u h => h) (fun v u h => ?_)
            obtain ⟨s70, hI70, hF70, rfl, rfl⟩ := h
            show GG _ _ _ _ _ _ _ _ [] _ _ _
            refine g_aload_n 74 (gd rfl) rfl rfl ?_
            refine g_aload_n 75 (gd rfl) rfl rfl ?_
            refine g_getA (q2 := 5) 78 (gd rfl) rfl rfl rfl rfl ?_
            refine g_iload_n 79 (gd rfl) rfl rfl ?_
            refine g_iaload 80 (gd rfl) rfl (n := 160) rfl (in_ix i44 rfl) (fun z79 e79 => ?_)
            have i79 := inv_I hI70 (n := 160) (t := 0) 0 31 rfl (in_ix i44 rfl) rfl e79
            refine g_callv (X := _) (As := [.int z79]) (r := []) (b := A 46) (q := 46) 83 (gd rfl) rfl rfl rfl rfl rfl (ww_o rfl) (Nat.le_of_ble_eq_true rfl) (Nat.zero_le _) (Nat.zero_le _) (k_178_46 (by first | exact dq1 hd rfl | exact dq0 hd rfl | exact dq2 hd rfl | exact dq3 hd rfl | omega) hI70 (in_w (-1000000) 1000000 i79 rfl)) (fun e u h => h) (fun v u h => ?_)
            obtain ⟨s80, hI80, hF80, rfl, rfl⟩ := h
            show GG _ _ _ _ _ _ _ _ [] _ _ _
            refine g_aload_n 84 (gd rfl) rfl rfl ?_
            refine g_aload_n 85 (gd rfl) rfl rfl ?_
            refine g_getA (q2 := 6) 88 (gd rfl) rfl rfl rfl rfl ?_
            refine g_iload_n 89 (gd rfl) rfl rfl ?_
            refine g_iaload 90 (gd rfl) rfl (n := 160) rfl (in_ix i44 rfl) (fun z89 e89 => ?_)
            have i89 := inv_I hI80 (n := 160) (t := 0) (-1000000) 1000000 rfl (in_ix i44 rfl) rfl e89
            refine g_callv (X := _) (As := [.int z89]) (r := []) (b := A 46) (q := 46) 93 (gd rfl) rfl rfl rfl rfl rfl (ww_o rfl) (Nat.le_of_ble_eq_true rfl) (Nat.zero_le _) (Nat.zero_le _) (k_178_46 (by first | exact dq1 hd rfl | exact dq0 hd rfl | exact dq2 hd rfl | exact dq3 hd rfl | omega) hI80 (in_w (-1000000) 1000000 i89 rfl)) (fun e u h => h) (fun v u h => ?_)
            obtain ⟨s90, hI90, hF90, rfl, rfl⟩ := h
            show GG _ _ _ _ _ _ _ _ [] _ _ _
            refine g_aload_n 94 (gd rfl) rfl rfl ?_
            refine g_aload_n 95 (gd rfl) rfl rfl ?_
            refine g_getA (q2 := 7) 98 (gd rfl) rfl rfl rfl rfl ?_
            refine g_iload_n 99 (gd rfl) rfl rfl ?_
            refine g_iaload 100 (gd rfl) rfl (n := 160) rfl (in_ix i44 rfl) (fun z99 e99 => ?_)
            have i99 := inv_I hI90 (n := 160) (t := 0) 0 1000000 rfl (in_ix i44 rfl) rfl e99
            refine g_callv (X := _) (As := [.int z99]) (r := []) (b := A 46) (q := 46) 103 (gd rfl) rfl rfl rfl rfl rfl (ww_o rfl) (Nat.le_of_ble_eq_true rfl) (Nat.zero_le _) (Nat.zero_le _) (k_178_46 (by first | exact dq1 hd rfl | exact dq0 hd rfl | exact dq2 hd rfl | exact dq3 hd rfl | omega) hI90 (in_w (-1000000) 1000000 i99 rfl)) (fun e u h => h) (fun v u h => ?_)
            obtain ⟨s100, hI100, hF100, rfl, rfl⟩ := h
            show GG _ _ _ _ _ _ _ _ [] _ _ _
            refine g_aload_n 104 (gd rfl) rfl rfl ?_
            refine g_aload_n 105 (gd rfl) rfl rfl ?_
            refine g_getA (q2 := 8) 108 (gd rfl) rfl rfl rfl rfl ?_
            refine g_iload_n 109 (gd rfl) rfl rfl ?_
            refine g_iaload 110 (gd rfl) rfl (n := 160) rfl (in_ix i44 rfl) (fun z109 e109 => ?_)
            have i109 := inv_I hI100 (n := 160) (t := 0) 0 25 rfl (in_ix i44 rfl) rfl e109
            refine g_callv (X := _) (As := [.int z109]) (r := []) (b := A 46) (q := 46) 113 (gd rfl) rfl rfl rfl rfl rfl (ww_o rfl) (Nat.le_of_ble_eq_true rfl) (mc := 0) (ms := 0) (Nat.zero_le _) (Nat.zero_le _) (P := fun v u => _) ?_ (fun e u h => h) (fun v u h => h)
            intro po110 xx110 hp110 hx110
            refine g_enter2 (k := 176) (N := 300) (by first | exact dq1 hd rfl | exact dq0 hd rfl | exact dq2 hd rfl | exact dq3 hd rfl | omega) rfl (Nat.le_of_ble_eq_true rfl) ?_
            refine g_aload_n 1 (gd rfl) rfl rfl ?_
            refine g_bipush 32 3 (gd rfl) rfl rfl ?_
            refine g_callv (X := _) (As := [.int (Int32.ofInt 32)]) (r := []) (b := A 46) (q := 46) 6 (gd rfl) rfl rfl rfl rfl rfl (ww_o rfl) (Nat.le_of_ble_eq_true rfl) (mc := 0) (ms := 0) (Nat.zero_le _) (Nat.zero_le _) (P := fun v u => _) ?_ (fun e u h => h) (fun v u h => h)
            intro po110x3 xx110x3 hp110x3 hx110x3
            refine g_enter2 (k := 177) (N := 300) (by first | exact dq1 hd rfl | exact dq0 hd rfl | exact dq2 hd rfl | exact dq3 hd rfl | omega) rfl (Nat.le_of_ble_eq_true rfl) ?_
            refine g_aload_n 1 (gd rfl) rfl rfl ?_
            refine g_getI 4 (gd rfl) rfl rfl rfl (fun z110x3x1 e110x3x1 => ?_)
            have i110x3x1 := inv_F hI100 0 4608 rfl e110x3x1
            refine g_aload_n 5 (gd rfl) rfl rfl ?_
            refine g_getA (q2 := 48) 8 (gd rfl) rfl rfl rfl rfl ?_
            refine g_alen (n := 4608) (t := 2) 4608 9 (gd rfl) rfl rfl (Nat.le_of_ble_eq_true rfl) rfl ?_
            refine g_cmp_ge 12 32 (gd rfl) rfl rfl (fun c110x3x9 => ?_) (fun c110x3x9 => ?_)
            · skip
              have i110x3x9 := r_le2 4608 4608 c110x3x9 (in_c 4608 rfl) i110x3x1 rfl
              refine g_return (gd rfl) rfl (hp110x3 _ _ ?_)
              show GG _ _ _ _ _ _ _ _ [] _ _ _
              refine g_aload_n 7 (gd rfl) rfl rfl ?_
              refine g_bipush 97 9 (gd rfl) rfl rfl ?_
              refine g_iload_n 10 (gd rfl) rfl rfl ?_
              refine g_iadd 11 (gd rfl) rfl (fun z110x10 e110x10 => ?_)
              have i110x10 := in_add 97 122 e110x10 (in_c 97 rfl) i109 rfl rfl
              refine g_i2c 12 (gd rfl) rfl (fun z110x11 e110x11 => ?_)
              have i110x11 := in_i2c e110x11
              refine g_callv (X := _) (As := [.int z110x11]) (r := []) (b := A 46) (q := 46) 15 (gd rfl) rfl rfl rfl rfl rfl (ww_o rfl) (Nat.le_of_ble_eq_true rfl) (mc := 0) (ms := 0) (Nat.zero_le _) (Nat.zero_le _) (P := fun v u => _) ?_ (fun e u h => h) (fun v u h => h)
              intro po110x12 xx110x12 hp110x12 hx110x12
              refine g_enter2 (k := 177) (N := 300) (by first | exact dq1 hd rfl | exact dq0 hd rfl | exact dq2 hd rfl | exact dq3 hd rfl | omega) rfl (Nat.le_of_ble_eq_true rfl) ?_
              refine g_aload_n 1 (gd rfl) rfl rfl ?_
              refine g_getI 4 (gd rfl) rfl rfl rfl (fun z110x12x1 e110x12x1 => ?_)
              have q110x12x1 : z110x3x1 = z110x12x1 := (e110x3x1).trans e110x12x1.symm
              subst q110x12x1
              refine g_aload_n 5 (gd rfl) rfl rfl ?_
              refine g_getA (q2 := 48) 8 (gd rfl) rfl rfl rfl rfl ?_
              refine g_alen (n := 4608) (t := 2) 4608 9 (gd rfl) rfl rfl (Nat.le_of_ble_eq_true rfl) rfl ?_
              refine g_cmp_ge 12 32 (gd rfl) rfl rfl (fun c110x12x9 => ?_) (fun c110x12x9 => ?_)
              · skip
                refine g_return (gd rfl) rfl (hp110x12 _ _ ?_)
                show GG _ _ _ _ _ _ _ _ [] _ _ _
                refine g_aload_n 16 (gd rfl) rfl rfl ?_
                refine g_bipush 59 18 (gd rfl) rfl rfl ?_
                refine g_callv (X := _) (As := [.int (Int32.ofInt 59)]) (r := []) (b := A 46) (q := 46) 21 (gd rfl) rfl rfl rfl rfl rfl (ww_o rfl) (Nat.le_of_ble_eq_true rfl) (mc := 0) (ms := 0) (Nat.zero_le _) (Nat.zero_le _) (P := fun v u => _) ?_ (fun e u h => h) (fun v u h => h)
                intro po110x18 xx110x18 hp110x18 hx110x18
                refine g_enter2 (k := 177) (N := 300) (by first | exact dq1 hd rfl | exact dq0 hd rfl | exact dq2 hd rfl | exact dq3 hd rfl | omega) rfl (Nat.le_of_ble_eq_true rfl) ?_
                refine g_aload_n 1 (gd rfl) rfl rfl ?_
                refine g_getI 4 (gd rfl) rfl rfl rfl (fun z110x18x1 e110x18x1 => ?_)
                have q110x18x1 : z110x3x1 = z110x18x1 := (e110x3x1).trans e110x18x1.symm
                subst q110x18x1
                refine g_aload_n 5 (gd rfl) rfl rfl ?_
                refine g_getA (q2 := 48) 8 (gd rfl) rfl rfl rfl rfl ?_
                refine g_alen (n := 4608) (t := 2) 4608 9 (gd rfl) rfl rfl (Nat.le_of_ble_eq_true rfl) rfl ?_
                refine g_cmp_ge 12 32 (gd rfl) rfl rfl (fun c110x18x9 => ?_) (fun c110x18x9 => ?_)
                · skip
                  refine g_return (gd rfl) rfl (hp110x18 _ _ ?_)
                  show GG _ _ _ _ _ _ _ _ [] _ _ _
                  refine g_return (gd rfl) rfl (hp110 _ _ ?_)
                  show GG _ _ _ _ _ _ _ _ [] _ _ _
                  exact gg_w (by first | exact Nat.le_add_right _ _ | exact gw2 | exact gw3 | exact gwe rfl | exact gwf rfl | exact gwg rfl | exact gwh rfl | omega) (gg_f (gf_cons rfl (gf_cons rfl (gf_cons rfl gf_nil))) (ct113 s100  hI100 (fr_tr rfl (fr_tr rfl (fr_tr rfl (fr_tr rfl hFc39 hF70) hF80) hF90) hF100) (in_w 0 159 i44 rfl)))
                · skip
                  exact n_lt c110x18x9 i110x3x9 (in_c 4608 rfl) rfl
              · skip
                exact n_lt c110x12x9 i110x3x9 (in_c 4608 rfl) rfl
            · skip
              have i110x3x9 := r_lt1 0 4607 c110x3x9 i110x3x1 (in_c 4608 rfl) rfl
              refine g_aload_n 13 (gd rfl) rfl rfl ?_
              refine g_getA (q2 := 48) 16 (gd rfl) rfl rfl rfl rfl ?_
              refine g_aload_n 17 (gd rfl) rfl rfl ?_
              refine g_getI 20 (gd rfl) rfl rfl rfl (fun z110x3x17 e110x3x17 => ?_)
              have q110x3x17 : z110x3x1 = z110x3x17 := (e110x3x1).trans e110x3x17.symm
              subst q110x3x17
              refine g_iload_n 21 (gd rfl) rfl rfl ?_
              refine g_castore 22 (gd rfl) rfl (n := 4608) rfl (in_ix i110x3x9 rfl) ?_
              have hI110x3x21 := inv_sI (q := 48) (j := z110x3x1.toNatClampNeg) hI100 rfl (in_w 0 65535 (nar_c (Int32.ofInt 32)) rfl)
              refine g_aload_n 23 (gd rfl) rfl rfl ?_
              refine g_dup 24 (gd rfl) rfl rfl ?_
              refine g_getI 27 (gd rfl) rfl rfl rfl (fun z110x3x24 e110x3x24 => ?_)
              have q110x3x24 : z110x3x1 = z110x3x24 := (sI_F (e110x3x1)).trans e110x3x24.symm
              subst q110x3x24
              refine g_iconst 1 28 (gd rfl) rfl rfl ?_
              refine g_iadd 29 (gd rfl) rfl (fun z110x3x28 e110x3x28 => ?_)
              have i110x3x28 := in_add 1 4608 e110x3x28 i110x3x9 (in_c 1 rfl) rfl rfl
              refine g_putI 32 (gd rfl) rfl rfl rfl rfl ?_
              have hI110x3x29 := inv_sF (q := 46) (j := 9) hI110x3x21 rfl (in_w 0 4608 i110x3x28 rfl)
              refine g_return (gd rfl) rfl (hp110x3 _ _ ?_)
              show GG _ _ _ _ _ _ _ _ [] _ _ _
              refine g_aload_n 7 (gd rfl) rfl rfl ?_
              refine g_bipush 97 9 (gd rfl) rfl rfl ?_
              refine g_iload_n 10 (gd rfl) rfl rfl ?_
              refine g_iadd 11 (gd rfl) rfl (fun z110x10 e110x10 => ?_)
              have i110x10 := in_add 97 122 e110x10 (in_c 97 rfl) i109 rfl rfl
              refine g_i2c 12 (gd rfl) rfl (fun z110x11 e110x11 => ?_)
              have i110x11 := in_i2c e110x11
              refine g_callv (X := _) (As := [.int z110x11]) (r := []) (b := A 46) (q := 46) 15 (gd rfl) rfl rfl rfl rfl rfl (ww_o rfl) (Nat.le_of_ble_eq_true rfl) (mc := 0) (ms := 0) (Nat.zero_le _) (Nat.zero_le _) (P := fun v u => _) ?_ (fun e u h => h) (fun v u h => h)
              intro po110x12 xx110x12 hp110x12 hx110x12
              refine g_enter2 (k := 177) (N := 300) (by first | exact dq1 hd rfl | exact dq0 hd rfl | exact dq2 hd rfl | exact dq3 hd rfl | omega) rfl (Nat.le_of_ble_eq_true rfl) ?_
              refine g_aload_n 1 (gd rfl) rfl rfl ?_
              refine g_getI 4 (gd rfl) rfl rfl rfl (fun z110x12x1 e110x12x1 => ?_)
              have q110x12x1 : z110x3x28 = z110x12x1 := (sF_get).trans e110x12x1.symm
              subst q110x12x1
              refine g_aload_n 5 (gd rfl) rfl rfl ?_
              refine g_getA (q2 := 48) 8 (gd rfl) rfl rfl rfl rfl ?_
              refine g_alen (n := 4608) (t := 2) 4608 9 (gd rfl) rfl rfl (Nat.le_of_ble_eq_true rfl) rfl ?_
              refine g_cmp_ge 12 32 (gd rfl) rfl rfl (fun c110x12x9 => ?_) (fun c110x12x9 => ?_)
              · skip
                have i110x12x9 := r_le2 4608 4608 c110x12x9 (in_c 4608 rfl) i110x3x28 rfl
                refine g_return (gd rfl) rfl (hp110x12 _ _ ?_)
                show GG _ _ _ _ _ _ _ _ [] _ _ _
                refine g_aload_n 16 (gd rfl) rfl rfl ?_
                refine g_bipush 59 18 (gd rfl) rfl rfl ?_
                refine g_callv (X := _) (As := [.int (Int32.ofInt 59)]) (r := []) (b := A 46) (q := 46) 21 (gd rfl) rfl rfl rfl rfl rfl (ww_o rfl) (Nat.le_of_ble_eq_true rfl) (mc := 0) (ms := 0) (Nat.zero_le _) (Nat.zero_le _) (P := fun v u => _) ?_ (fun e u h => h) (fun v u h => h)
                intro po110x18 xx110x18 hp110x18 hx110x18
                refine g_enter2 (k := 177) (N := 300) (by first | exact dq1 hd rfl | exact dq0 hd rfl | exact dq2 hd rfl | exact dq3 hd rfl | omega) rfl (Nat.le_of_ble_eq_true rfl) ?_
                refine g_aload_n 1 (gd rfl) rfl rfl ?_
                refine g_getI 4 (gd rfl) rfl rfl rfl (fun z110x18x1 e110x18x1 => ?_)
                have q110x18x1 : z110x3x28 = z110x18x1 := (sF_get).trans e110x18x1.symm
                subst q110x18x1
                refine g_aload_n 5 (gd rfl) rfl rfl ?_
                refine g_getA (q2 := 48) 8 (gd rfl) rfl rfl rfl rfl ?_
                refine g_alen (n := 4608) (t := 2) 4608 9 (gd rfl) rfl rfl (Nat.le_of_ble_eq_true rfl) rfl ?_
                refine g_cmp_ge 12 32 (gd rfl) rfl rfl (fun c110x18x9 => ?_) (fun c110x18x9 => ?_)
                · skip
                  refine g_return (gd rfl) rfl (hp110x18 _ _ ?_)
                  show GG _ _ _ _ _ _ _ _ [] _ _ _
                  refine g_return (gd rfl) rfl (hp110 _ _ ?_)
                  show GG _ _ _ _ _ _ _ _ [] _ _ _
                  exact gg_w (by first | exact Nat.le_add_right _ _ | exact gw2 | exact gw3 | exact gwe rfl | exact gwf rfl | exact gwg rfl | exact gwh rfl | omega) (gg_f (gf_cons rfl (gf_cons rfl (gf_cons rfl gf_nil))) (ct113 (sF (sI s100 48 z110x3x1.toNatClampNeg (vp_nar .char (Int32.ofInt 32))) 46 9 z110x3x28)  hI110x3x29 (fr_sF rfl (fr_sI rfl (fr_tr rfl (fr_tr rfl (fr_tr rfl (fr_tr rfl hFc39 hF70) hF80) hF90) hF100))) (in_w 0 159 i44 rfl)))
                · skip
                  exact n_lt c110x18x9 i110x12x9 (in_c 4608 rfl) rfl
              · skip
                have i110x12x9 := r_lt1 1 4607 c110x12x9 i110x3x28 (in_c 4608 rfl) rfl
                refine g_aload_n 13 (gd rfl) rfl rfl ?_
                refine g_getA (q2 := 48) 16 (gd rfl) rfl rfl rfl rfl ?_
                refine g_aload_n 17 (gd rfl) rfl rfl ?_
                refine g_getI 20 (gd rfl) rfl rfl rfl (fun z110x12x17 e110x12x17 => ?_)
                have q110x12x17 : z110x3x28 = z110x12x17 := (sF_get).trans e110x12x17.symm
                subst q110x12x17
                refine g_iload_n 21 (gd rfl) rfl rfl ?_
                refine g_castore 22 (gd rfl) rfl (n := 4608) rfl (in_ix i110x12x9 rfl) ?_
                have hI110x12x21 := inv_sI (q := 48) (j := z110x3x28.toNatClampNeg) hI110x3x29 rfl (in_w 0 65535 (nar_c z110x11) rfl)
                refine g_aload_n 23 (gd rfl) rfl rfl ?_
                refine g_dup 24 (gd rfl) rfl rfl ?_
                refine g_getI 27 (gd rfl) rfl rfl rfl (fun z110x12x24 e110x12x24 => ?_)
                have q110x12x24 : z110x3x28 = z110x12x24 := (sI_F (sF_get)).trans e110x12x24.symm
                subst q110x12x24
                refine g_iconst 1 28 (gd rfl) rfl rfl ?_
                refine g_iadd 29 (gd rfl) rfl (fun z110x12x28 e110x12x28 => ?_)
                have i110x12x28 := in_add 2 4608 e110x12x28 i110x12x9 (in_c 1 rfl) rfl rfl
                refine g_putI 32 (gd rfl) rfl rfl rfl rfl ?_
                have hI110x12x29 := inv_sF (q := 46) (j := 9) hI110x12x21 rfl (in_w 0 4608 i110x12x28 rfl)
                refine g_return (gd rfl) rfl (hp110x12 _ _ ?_)
                show GG _ _ _ _ _ _ _ _ [] _ _ _
                refine g_aload_n 16 (gd rfl) rfl rfl ?_
                refine g_bipush 59 18 (gd rfl) rfl rfl ?_
                refine g_callv (X := _) (As := [.int (Int32.ofInt 59)]) (r := []) (b := A 46) (q := 46) 21 (gd rfl) rfl rfl rfl rfl rfl (ww_o rfl) (Nat.le_of_ble_eq_true rfl) (mc := 0) (ms := 0) (Nat.zero_le _) (Nat.zero_le _) (P := fun v u => _) ?_ (fun e u h => h) (fun v u h => h)
                intro po110x18 xx110x18 hp110x18 hx110x18
                refine g_enter2 (k := 177) (N := 300) (by first | exact dq1 hd rfl | exact dq0 hd rfl | exact dq2 hd rfl | exact dq3 hd rfl | omega) rfl (Nat.le_of_ble_eq_true rfl) ?_
                refine g_aload_n 1 (gd rfl) rfl rfl ?_
                refine g_getI 4 (gd rfl) rfl rfl rfl (fun z110x18x1 e110x18x1 => ?_)
                have q110x18x1 : z110x12x28 = z110x18x1 := (sF_get).trans e110x18x1.symm
                subst q110x18x1
                refine g_aload_n 5 (gd rfl) rfl rfl ?_
                refine g_getA (q2 := 48) 8 (gd rfl) rfl rfl rfl rfl ?_
                refine g_alen (n := 4608) (t := 2) 4608 9 (gd rfl) rfl rfl (Nat.le_of_ble_eq_true rfl) rfl ?_
                refine g_cmp_ge 12 32 (gd rfl) rfl rfl (fun c110x18x9 => ?_) (fun c110x18x9 => ?_)
                · skip
                  have i110x18x9 := r_le2 4608 4608 c110x18x9 (in_c 4608 rfl) i110x12x28 rfl
                  refine g_return (gd rfl) rfl (hp110x18 _ _ ?_)
                  show GG _ _ _ _ _ _ _ _ [] _ _ _
                  refine g_return (gd rfl) rfl (hp110 _ _ ?_)
                  show GG _ _ _ _ _ _ _ _ [] _ _ _
                  exact gg_w (by first | exact Nat.le_add_right _ _ | exact gw2 | exact gw3 | exact gwe rfl | exact gwf rfl | exact gwg rfl | exact gwh rfl | omega) (gg_f (gf_cons rfl (gf_cons rfl (gf_cons rfl gf_nil))) (ct113 (sF (sI (sF (sI s100 48 z110x3x1.toNatClampNeg (vp_nar .char (Int32.ofInt 32))) 46 9 z110x3x28) 48 z110x3x28.toNatClampNeg (vp_nar .char z110x11)) 46 9 z110x12x28)  hI110x12x29 (fr_sF rfl (fr_sI rfl (fr_sF rfl (fr_sI rfl (fr_tr rfl (fr_tr rfl (fr_tr rfl (fr_tr rfl hFc39 hF70) hF80) hF90) hF100))))) (in_w 0 159 i44 rfl)))
                · skip
                  have i110x18x9 := r_lt1 2 4607 c110x18x9 i110x12x28 (in_c 4608 rfl) rfl
                  refine g_aload_n 13 (gd rfl) rfl rfl ?_
                  refine g_getA (q2 := 48) 16 (gd rfl) rfl rfl rfl rfl ?_
                  refine g_aload_n 17 (gd rfl) rfl rfl ?_
                  refine g_getI 20 (gd rfl) rfl rfl rfl (fun z110x18x17 e110x18x17 => ?_)
                  have q110x18x17 : z110x12x28 = z110x18x17 := (sF_get).trans e110x18x17.symm
                  subst q110x18x17
                  refine g_iload_n 21 (gd rfl) rfl rfl ?_
                  refine g_castore 22 (gd rfl) rfl (n := 4608) rfl (in_ix i110x18x9 rfl) ?_
                  have hI110x18x21 := inv_sI (q := 48) (j := z110x12x28.toNatClampNeg) hI110x12x29 rfl (in_w 0 65535 (nar_c (Int32.ofInt 59)) rfl)
                  refine g_aload_n 23 (gd rfl) rfl rfl ?_
                  refine g_dup 24 (gd rfl) rfl rfl ?_
                  refine g_getI 27 (gd rfl) rfl rfl rfl (fun z110x18x24 e110x18x24 => ?_)
                  have q110x18x24 : z110x12x28 = z110x18x24 := (sI_F (sF_get)).trans e110x18x24.symm
                  subst q110x18x24
                  refine g_iconst 1 28 (gd rfl) rfl rfl ?_
                  refine g_iadd 29 (gd rfl) rfl (fun z110x18x28 e110x18x28 => ?_)
                  have i110x18x28 := in_add 3 4608 e110x18x28 i110x18x9 (in_c 1 rfl) rfl rfl
                  refine g_putI 32 (gd rfl) rfl rfl rfl rfl ?_
                  have hI110x18x29 := inv_sF (q := 46) (j := 9) hI110x18x21 rfl (in_w 0 4608 i110x18x28 rfl)
                  refine g_return (gd rfl) rfl (hp110x18 _ _ ?_)
                  show GG _ _ _ _ _ _ _ _ [] _ _ _
                  refine g_return (gd rfl) rfl (hp110 _ _ ?_)
                  show GG _ _ _ _ _ _ _ _ [] _ _ _
                  exact gg_w (by first | exact Nat.le_add_right _ _ | exact gw2 | exact gw3 | exact gwe rfl | exact gwf rfl | exact gwg rfl | exact gwh rfl | omega) (gg_f (gf_cons rfl (gf_cons rfl (gf_cons rfl gf_nil))) (ct113 (sF (sI (sF (sI (sF (sI s100 48 z110x3x1.toNatClampNeg (vp_nar .char (Int32.ofInt 32))) 46 9 z110x3x28) 48 z110x3x28.toNatClampNeg (vp_nar .char z110x11)) 46 9 z110x12x28) 48 z110x12x28.toNatClampNeg (vp_nar .char (Int32.ofInt 59))) 46 9 z110x18x28)  hI110x18x29 (fr_sF rfl (fr_sI rfl (fr_sF rfl (fr_sI rfl (fr_sF rfl (fr_sI rfl (fr_tr rfl (fr_tr rfl (fr_tr rfl (fr_tr rfl hFc39 hF70) hF80) hF90) hF100))))))) (in_w 0 159 i44 rfl)))
          · skip
            have i60x9 := r_lt1 0 4607 c60x9 i60x1 (in_c 4608 rfl) rfl
            refine g_aload_n 13 (gd rfl) rfl rfl ?_
            refine g_getA (q2 := 48) 16 (gd rfl) rfl rfl rfl rfl ?_
            refine g_aload_n 17 (gd rfl) rfl rfl ?_
            refine g_getI 20 (gd rfl) rfl rfl rfl (fun z60x17 e60x17 => ?_)
            have q60x17 : z60x1 = z60x17 := (e60x1).trans e60x17.symm
            subst q60x17
            refine g_iload_n 21 (gd rfl) rfl rfl ?_
            refine g_castore 22 (gd rfl) rfl (n := 4608) rfl (in_ix i60x9 rfl) ?_
            have hI60x21 := inv_sI (q := 48) (j := z60x1.toNatClampNeg) hIc39 rfl (in_w 0 65535 (nar_c (Int32.ofInt 97)) rfl)
            refine g_aload_n 23 (gd rfl) rfl rfl ?_
            refine g_dup 24 (gd rfl) rfl rfl ?_
            refine g_getI 27 (gd rfl) rfl rfl rfl (fun z60x24 e60x24 => ?_)
            have q60x24 : z60x1 = z60x24 := (sI_F (e60x1)).trans e60x24.symm
            subst q60x24
            refine g_iconst 1 28 (gd rfl) rfl rfl ?_
            refine g_iadd 29 (gd rfl) rfl (fun z60x28 e60x28 => ?_)
            have i60x28 := in_add 1 4608 e60x28 i60x9 (in_c 1 rfl) rfl rfl
            refine g_putI 32 (gd rfl) rfl rfl rfl rfl ?_
            have hI60x29 := inv_sF (q := 46) (j := 9) hI60x21 rfl (in_w 0 4608 i60x28 rfl)
            refine g_return (gd rfl) rfl (hp60 _ _ ?_)
            show GG _ _ _ _ _ _ _ _ [] _ _ _
            refine g_aload_n 64 (gd rfl) rfl rfl ?_
            refine g_aload_n 65 (gd rfl) rfl rfl ?_
            refine g_getA (q2 := 4) 68 (gd rfl) rfl rfl rfl rfl ?_
            refine g_iload_n 69 (gd rfl) rfl rfl ?_
            refine g_iaload 70 (gd rfl) rfl (n := 160) rfl (in_ix i44 rfl) (fun z69 e69 => ?_)
            have q69 : z52 = z69 := (sF_I (sI_ne rfl (e52))).trans e69.symm
            subst q69
            refine g_callv (X := _) (As := [.int z52]) (r := []) (b := A 46) (q := 46) 73 (gd rfl) rfl rfl rfl rfl rfl (ww_o rfl) (Nat.le_of_ble_eq_true rfl) (Nat.zero_le _) (Nat.zero_le _) (k_178_46 (by first | exact dq1 hd rfl | exact dq0 hd rfl | exact dq2 hd rfl | exact dq3 hd rfl | omega) hI60x29 (in_w (-1000000) 1000000 i54 rfl)) (fun e u h => h) (fun v u h => ?_)
            obtain ⟨s70, hI70, hF70, rfl, rfl⟩ := h
            show GG _ _ _ _ _ _ _ _ [] _ _ _
            refine g_aload_n 74 (gd rfl) rfl rfl ?_
            refine g_aload_n 75 (gd rfl) rfl rfl ?_
            refine g_getA (q2 := 5) 78 (gd rfl) rfl rfl rfl rfl ?_
            refine g_iload_n 79 (gd rfl) rfl rfl ?_
            refine g_iaload 80 (gd rfl) rfl (n := 160) rfl (in_ix i44 rfl) (fun z79 e79 => ?_)
            have i79 := inv_I hI70 (n := 160) (t := 0) 0 31 rfl (in_ix i44 rfl) rfl e79
            refine g_callv (X := _) (As := [.int z79]) (r := []) (b := A 46) (q := 46) 83 (gd rfl) rfl rfl rfl rfl rfl (ww_o rfl) (Nat.le_of_ble_eq_true rfl) (Nat.zero_le _) (Nat.zero_le _) (k_178_46 (by first | exact dq1 hd rfl | exact dq0 hd rfl | exact dq2 hd rfl | exact dq3 hd rfl | omega) hI70 (in_w (-1000000) 1000000 i79 rfl)) (fun e u h => h) (fun v u h => ?_)
            obtain ⟨s80, hI80, hF80, rfl, rfl⟩ := h
            show GG _ _ _ _ _ _ _ _ [] _ _ _
            refine g_aload_n 84 (gd rfl) rfl rfl ?_
            refine g_aload_n 85 (gd rfl) rfl rfl ?_
            refine g_getA (q2 := 6) 88 (gd rfl) rfl rfl rfl rfl ?_
            refine g_iload_n 89 (gd rfl) rfl rfl ?_
            refine g_iaload 90 (gd rfl) rfl (n := 160) rfl (in_ix i44 rfl) (fun z89 e89 => ?_)
            have i89 := inv_I hI80 (n := 160) (t := 0) (-1000000) 1000000 rfl (in_ix i44 rfl) rfl e89
            refine g_callv (X := _) (As := [.int z89]) (r := []) (b := A 46) (q := 46) 93 (gd rfl) rfl rfl rfl rfl rfl (ww_o rfl) (Nat.le_of_ble_eq_true rfl) (Nat.zero_le _) (Nat.zero_le _) (k_178_46 (by first | exact dq1 hd rfl | exact dq0 hd rfl | exact dq2 hd rfl | exact dq3 hd rfl | omega) hI80 (in_w (-1000000) 1000000 i89 rfl)) (fun e u h => h) (fun v u h => ?_)
            obtain ⟨s90, hI90, hF90, rfl, rfl⟩ := h
            show GG _ _ _ _ _ _ _ _ [] _ _ _
            refine g_aload_n 94 (gd rfl) rfl rfl ?_
            refine g_aload_n 95 (gd rfl) rfl rfl ?_
            refine g_getA (q2 := 7) 98 (gd rfl) rfl rfl rfl rfl ?_
            refine g_iload_n 99 (gd rfl) rfl rfl ?_
            refine g_iaload 100 (gd rfl) rfl (n := 160) rfl (in_ix i44 rfl) (fun z99 e99 => ?_)
            have i99 := inv_I hI90 (n := 160) (t := 0) 0 1000000 rfl (in_ix i44 rfl) rfl e99
            refine g_callv (X := _) (As := [.int z99]) (r := []) (b := A 46) (q := 46) 103 (gd rfl) rfl rfl rfl rfl rfl (ww_o rfl) (Nat.le_of_ble_eq_true rfl) (Nat.zero_le _) (Nat.zero_le _) (k_178_46 (by first | exact dq1 hd rfl | exact dq0 hd rfl | exact dq2 hd rfl | exact dq3 hd rfl | omega) hI90 (in_w (-1000000) 1000000 i99 rfl)) (fun e u h => h) (fun v u h => ?_)
            obtain ⟨s100, hI100, hF100, rfl, rfl⟩ := h
            show GG _ _ _ _ _ _ _ _ [] _ _ _
            refine g_aload_n 104 (gd rfl) rfl rfl ?_
            refine g_aload_n 105 (gd rfl) rfl rfl ?_
            refine g_getA (q2 := 8) 108 (gd rfl) rfl rfl rfl rfl ?_
            refine g_iload_n 109 (gd rfl) rfl rfl ?_
            refine g_iaload 110 (gd rfl) rfl (n := 160) rfl (in_ix i44 rfl) (fun z109 e109 => ?_)
            have i109 := inv_I hI100 (n := 160) (t := 0) 0 25 rfl (in_ix i44 rfl) rfl e109
            refine g_callv (X := _) (As := [.int z109]) (r := []) (b := A 46) (q := 46) 113 (gd rfl) rfl rfl rfl rfl rfl (ww_o rfl) (Nat.le_of_ble_eq_true rfl) (mc := 0) (ms := 0) (Nat.zero_le _) (Nat.zero_le _) (P := fun v u => _) ?_ (fun e u h => h) (fun v u h => h)
            intro po110 xx110 hp110 hx110
            refine g_enter2 (k := 176) (N := 300) (by first | exact dq1 hd rfl | exact dq0 hd rfl | exact dq2 hd rfl | exact dq3 hd rfl | omega) rfl (Nat.le_of_ble_eq_true rfl) ?_
            refine g_aload_n 1 (gd rfl) rfl rfl ?_
            refine g_bipush 32 3 (gd rfl) rfl rfl ?_
            refine g_callv (X := _) (As := [.int (Int32.ofInt 32)]) (r := []) (b := A 46) (q := 46) 6 (gd rfl) rfl rfl rfl rfl rfl (ww_o rfl) (Nat.le_of_ble_eq_true rfl) (mc := 0) (ms := 0) (Nat.zero_le _) (Nat.zero_le _) (P := fun v u => _) ?_ (fun e u h => h) (fun v u h => h)
            intro po110x3 xx110x3 hp110x3 hx110x3
            refine g_enter2 (k := 177) (N := 300) (by first | exact dq1 hd rfl | exact dq0 hd rfl | exact dq2 hd rfl | exact dq3 hd rfl | omega) rfl (Nat.le_of_ble_eq_true rfl) ?_
            refine g_aload_n 1 (gd rfl) rfl rfl ?_
            refine g_getI 4 (gd rfl) rfl rfl rfl (fun z110x3x1 e110x3x1 => ?_)
            have i110x3x1 := inv_F hI100 0 4608 rfl e110x3x1
            refine g_aload_n 5 (gd rfl) rfl rfl ?_
            refine g_getA (q2 := 48) 8 (gd rfl) rfl rfl rfl rfl ?_
            refine g_alen (n := 4608) (t := 2) 4608 9 (gd rfl) rfl rfl (Nat.le_of_ble_eq_true rfl) rfl ?_
            refine g_cmp_ge 12 32 (gd rfl) rfl rfl (fun c110x3x9 => ?_) (fun c110x3x9 => ?_)
            · skip
              have i110x3x9 := r_le2 4608 4608 c110x3x9 (in_c 4608 rfl) i110x3x1 rfl
              refine g_return (gd rfl) rfl (hp110x3 _ _ ?_)
              show GG _ _ _ _ _ _ _ _ [] _ _ _
              refine g_aload_n 7 (gd rfl) rfl rfl ?_
              refine g_bipush 97 9 (gd rfl) rfl rfl ?_
              refine g_iload_n 10 (gd rfl) rfl rfl ?_
              refine g_iadd 11 (gd rfl) rfl (fun z110x10 e110x10 => ?_)
              have i110x10 := in_add 97 122 e110x10 (in_c 97 rfl) i109 rfl rfl
              refine g_i2c 12 (gd rfl) rfl (fun z110x11 e110x11 => ?_)
              have i110x11 := in_i2c e110x11
              refine g_callv (X := _) (As := [.int z110x11]) (r := []) (b := A 46) (q := 46) 15 (gd rfl) rfl rfl rfl rfl rfl (ww_o rfl) (Nat.le_of_ble_eq_true rfl) (mc := 0) (ms := 0) (Nat.zero_le _) (Nat.zero_le _) (P := fun v u => _) ?_ (fun e u h => h) (fun v u h => h)
              intro po110x12 xx110x12 hp110x12 hx110x12
              refine g_enter2 (k := 177) (N := 300) (by first | exact dq1 hd rfl | exact dq0 hd rfl | exact dq2 hd rfl | exact dq3 hd rfl | omega) rfl (Nat.le_of_ble_eq_true rfl) ?_
              refine g_aload_n 1 (gd rfl) rfl rfl ?_
              refine g_getI 4 (gd rfl) rfl rfl rfl (fun z110x12x1 e110x12x1 => ?_)
              have q110x12x1 : z110x3x1 = z110x12x1 := (e110x3x1).trans e110x12x1.symm
              subst q110x12x1
              refine g_aload_n 5 (gd rfl) rfl rfl ?_
              refine g_getA (q2 := 48) 8 (gd rfl) rfl rfl rfl rfl ?_
              refine g_alen (n := 4608) (t := 2) 4608 9 (gd rfl) rfl rfl (Nat.le_of_ble_eq_true rfl) rfl ?_
              refine g_cmp_ge 12 32 (gd rfl) rfl rfl (fun c110x12x9 => ?_) (fun c110x12x9 => ?_)
              · skip
                refine g_return (gd rfl) rfl (hp110x12 _ _ ?_)
                show GG _ _ _ _ _ _ _ _ [] _ _ _
                refine g_aload_n 16 (gd rfl) rfl rfl ?_
                refine g_bipush 59 18 (gd rfl) rfl rfl ?_
                refine g_callv (X := _) (As := [.int (Int32.ofInt 59)]) (r := []) (b := A 46) (q := 46) 21 (gd rfl) rfl rfl rfl rfl rfl (ww_o rfl) (Nat.le_of_ble_eq_true rfl) (mc := 0) (ms := 0) (Nat.zero_le _) (Nat.zero_le _) (P := fun v u => _) ?_ (fun e u h => h) (fun v u h => h)
                intro po110x18 xx110x18 hp110x18 hx110x18
                refine g_enter2 (k := 177) (N := 300) (by first | exact dq1 hd rfl | exact dq0 hd rfl | exact dq2 hd rfl | exact dq3 hd rfl | omega) rfl (Nat.le_of_ble_eq_true rfl) ?_
                refine g_aload_n 1 (gd rfl) rfl rfl ?_
                refine g_getI 4 (gd rfl) rfl rfl rfl (fun z110x18x1 e110x18x1 => ?_)
                have q110x18x1 : z110x3x1 = z110x18x1 := (e110x3x1).trans e110x18x1.symm
                subst q110x18x1
                refine g_aload_n 5 (gd rfl) rfl rfl ?_
                refine g_getA (q2 := 48) 8 (gd rfl) rfl rfl rfl rfl ?_
                refine g_alen (n := 4608) (t := 2) 4608 9 (gd rfl) rfl rfl (Nat.le_of_ble_eq_true rfl) rfl ?_
                refine g_cmp_ge 12 32 (gd rfl) rfl rfl (fun c110x18x9 => ?_) (fun c110x18x9 => ?_)
                · skip
                  refine g_return (gd rfl) rfl (hp110x18 _ _ ?_)
                  show GG _ _ _ _ _ _ _ _ [] _ _ _
                  refine g_return (gd rfl) rfl (hp110 _ _ ?_)
                  show GG _ _ _ _ _ _ _ _ [] _ _ _
                  exact gg_w (by first | exact Nat.le_add_right _ _ | exact gw2 | exact gw3 | exact gwe rfl | exact gwf rfl | exact gwg rfl | exact gwh rfl | omega) (gg_f (gf_cons rfl (gf_cons rfl (gf_cons rfl gf_nil))) (ct113 s100  hI100 (fr_tr rfl (fr_tr rfl (fr_tr rfl (fr_tr rfl (fr_sF rfl (fr_sI rfl hFc39)) hF70) hF80) hF90) hF100) (in_w 0 159 i44 rfl)))
                · skip
                  exact n_lt c110x18x9 i110x3x9 (in_c 4608 rfl) rfl
              · skip
                exact n_lt c110x12x9 i110x3x9 (in_c 4608 rfl) rfl
            · skip
              have i110x3x9 := r_lt1 0 4607 c110x3x9 i110x3x1 (in_c 4608 rfl) rfl
              refine g_aload_n 13 (gd rfl) rfl rfl ?_
              refine g_getA (q2 := 48) 16 (gd rfl) rfl rfl rfl rfl ?_
              refine g_aload_n 17 (gd rfl) rfl rfl ?_
              refine g_getI 20 (gd rfl) rfl rfl rfl (fun z110x3x17 e110x3x17 => ?_)
              have q110x3x17 : z110x3x1 = z110x3x17 := (e110x3x1).trans e110x3x17.symm
              subst q110x3x17
              refine g_iload_n 21 (gd rfl) rfl rfl ?_
              refine g_castore 22 (gd rfl) rfl (n := 4608) rfl (in_ix i110x3x9 rfl) ?_
              have hI110x3x21 := inv_sI (q := 48) (j := z110x3x1.toNatClampNeg) hI100 rfl (in_w 0 65535 (nar_c (Int32.ofInt 32)) rfl)
              refine g_aload_n 23 (gd rfl) rfl rfl ?_
              refine g_dup 24 (gd rfl) rfl rfl ?_
              refine g_getI 27 (gd rfl) rfl rfl rfl (fun z110x3x24 e110x3x24 => ?_)
              have q110x3x24 : z110x3x1 = z110x3x24 := (sI_F (e110x3x1)).trans e110x3x24.symm
              subst q110x3x24
              refine g_iconst 1 28 (gd rfl) rfl rfl ?_
              refine g_iadd 29 (gd rfl) rfl (fun z110x3x28 e110x3x28 => ?_)
              have i110x3x28 := in_add 1 4608 e110x3x28 i110x3x9 (in_c 1 rfl) rfl rfl
              refine g_putI 32 (gd rfl) rfl rfl rfl rfl ?_
              have hI110x3x29 := inv_sF (q := 46) (j := 9) hI110x3x21 rfl (in_w 0 4608 i110x3x28 rfl)
              refine g_return (gd rfl) rfl (hp110x3 _ _ ?_)
              show GG _ _ _ _ _ _ _ _ [] _ _ _
              refine g_aload_n 7 (gd rfl) rfl rfl ?_
              refine g_bipush 97 9 (gd rfl) rfl rfl ?_
              refine g_iload_n 10 (gd rfl) rfl rfl ?_
              refine g_iadd 11 (gd rfl) rfl (fun z110x10 e110x10 => ?_)
              have i110x10 := in_add 97 122 e110x10 (in_c 97 rfl) i109 rfl rfl
              refine g_i2c 12 (gd rfl) rfl (fun z110x11 e110x11 => ?_)
              have i110x11 := in_i2c e110x11
              refine g_callv (X := _) (As := [.int z110x11]) (r := []) (b := A 46) (q := 46) 15 (gd rfl) rfl rfl rfl rfl rfl (ww_o rfl) (Nat.le_of_ble_eq_true rfl) (mc := 0) (ms := 0) (Nat.zero_le _) (Nat.zero_le _) (P := fun v u => _) ?_ (fun e u h => h) (fun v u h => h)
              intro po110x12 xx110x12 hp110x12 hx110x12
              refine g_enter2 (k := 177) (N := 300) (by first | exact dq1 hd rfl | exact dq0 hd rfl | exact dq2 hd rfl | exact dq3 hd rfl | omega) rfl (Nat.le_of_ble_eq_true rfl) ?_
              refine g_aload_n 1 (gd rfl) rfl rfl ?_
              refine g_getI 4 (gd rfl) rfl rfl rfl (fun z110x12x1 e110x12x1 => ?_)
              have q110x12x1 : z110x3x28 = z110x12x1 := (sF_get).trans e110x12x1.symm
              subst q110x12x1
              refine g_aload_n 5 (gd rfl) rfl rfl ?_
              refine g_getA (q2 := 48) 8 (gd rfl) rfl rfl rfl rfl ?_
              refine g_alen (n := 4608) (t := 2) 4608 9 (gd rfl) rfl rfl (Nat.le_of_ble_eq_true rfl) rfl ?_
              refine g_cmp_ge 12 32 (gd rfl) rfl rfl (fun c110x12x9 => ?_) (fun c110x12x9 => ?_)
              · skip
                have i110x12x9 := r_le2 4608 4608 c110x12x9 (in_c 4608 rfl) i110x3x28 rfl
                refine g_return (gd rfl) rfl (hp110x12 _ _ ?_)
                show GG _ _ _ _ _ _ _ _ [] _ _ _
                refine g_aload_n 16 (gd rfl) rfl rfl ?_
                refine g_bipush 59 18 (gd rfl) rfl rfl ?_
                refine g_callv (X := _) (As := [.int (Int32.ofInt 59)]) (r := []) (b := A 46) (q := 46) 21 (gd rfl) rfl rfl rfl rfl rfl (ww_o rfl) (Nat.le_of_ble_eq_true rfl) (mc := 0) (ms := 0) (Nat.zero_le _) (Nat.zero_le _) (P := fun v u => _) ?_ (fun e u h => h) (fun v u h => h)
                intro po110x18 xx110x18 hp110x18 hx110x18
                refine g_enter2 (k := 177) (N := 300) (by first | exact dq1 hd rfl | exact dq0 hd rfl | exact dq2 hd rfl | exact dq3 hd rfl | omega) rfl (Nat.le_of_ble_eq_true rfl) ?_
                refine g_aload_n 1 (gd rfl) rfl rfl ?_
                refine g_getI 4 (gd rfl) rfl rfl rfl (fun z110x18x1 e110x18x1 => ?_)
                have q110x18x1 : z110x3x28 = z110x18x1 := (sF_get).trans e110x18x1.symm
                subst q110x18x1
                refine g_aload_n 5 (gd rfl) rfl rfl ?_
                refine g_getA (q2 := 48) 8 (gd rfl) rfl rfl rfl rfl ?_
                refine g_alen (n := 4608) (t := 2) 4608 9 (gd rfl) rfl rfl (Nat.le_of_ble_eq_true rfl) rfl ?_
                refine g_cmp_ge 12 32 (gd rfl) rfl rfl (fun c110x18x9 => ?_) (fun c110x18x9 => ?_)
                · skip
                  refine g_return (gd rfl) rfl (hp110x18 _ _ ?_)
                  show GG _ _ _ _ _ _ _ _ [] _ _ _
                  refine g_return (gd rfl) rfl (hp110 _ _ ?_)
                  show GG _ _ _ _ _ _ _ _ [] _ _ _
                  exact gg_w (by first | exact Nat.le_add_right _ _ | exact gw2 | exact gw3 | exact gwe rfl | exact gwf rfl | exact gwg rfl | exact gwh rfl | omega) (gg_f (gf_cons rfl (gf_cons rfl (gf_cons rfl gf_nil))) (ct113 (sF (sI s100 48 z110x3x1.toNatClampNeg (vp_nar .char (Int32.ofInt 32))) 46 9 z110x3x28)  hI110x3x29 (fr_sF rfl (fr_sI rfl (fr_tr rfl (fr_tr rfl (fr_tr rfl (fr_tr rfl (fr_sF rfl (fr_sI rfl hFc39)) hF70) hF80) hF90) hF100))) (in_w 0 159 i44 rfl)))
                · skip
                  exact n_lt c110x18x9 i110x12x9 (in_c 4608 rfl) rfl
              · skip
                have i110x12x9 := r_lt1 1 4607 c110x12x9 i110x3x28 (in_c 4608 rfl) rfl
                refine g_aload_n 13 (gd rfl) rfl rfl ?_
                refine g_getA (q2 := 48) 16 (gd rfl) rfl rfl rfl rfl ?_
                refine g_aload_n 17 (gd rfl) rfl rfl ?_
                refine g_getI 20 (gd rfl) rfl rfl rfl (fun z110x12x17 e110x12x17 => ?_)
                have q110x12x17 : z110x3x28 = z110x12x17 := (sF_get).trans e110x12x17.symm
                subst q110x12x17
                refine g_iload_n 21 (gd rfl) rfl rfl ?_
                refine g_castore 22 (gd rfl) rfl (n := 4608) rfl (in_ix i110x12x9 rfl) ?_
                have hI110x12x21 := inv_sI (q := 48) (j := z110x3x28.toNatClampNeg) hI110x3x29 rfl (in_w 0 65535 (nar_c z110x11) rfl)
                refine g_aload_n 23 (gd rfl) rfl rfl ?_
                refine g_dup 24 (gd rfl) rfl rfl ?_
                refine g_getI 27 (gd rfl) rfl rfl rfl (fun z110x12x24 e110x12x24 => ?_)
                have q110x12x24 : z110x3x28 = z110x12x24 := (sI_F (sF_get)).trans e110x12x24.symm
                subst q110x12x24
                refine g_iconst 1 28 (gd rfl) rfl rfl ?_
                refine g_iadd 29 (gd rfl) rfl (fun z110x12x28 e110x12x28 => ?_)
                have i110x12x28 := in_add 2 4608 e110x12x28 i110x12x9 (in_c 1 rfl) rfl rfl
                refine g_putI 32 (gd rfl) rfl rfl rfl rfl ?_
                have hI110x12x29 := inv_sF (q := 46) (j := 9) hI110x12x21 rfl (in_w 0 4608 i110x12x28 rfl)
                refine g_return (gd rfl) rfl (hp110x12 _ _ ?_)
                show GG _ _ _ _ _ _ _ _ [] _ _ _
                refine g_aload_n 16 (gd rfl) rfl rfl ?_
                refine g_bipush 59 18 (gd rfl) rfl rfl ?_
                refine g_callv (X := _) (As := [.int (Int32.ofInt 59)]) (r := []) (b := A 46) (q := 46) 21 (gd rfl) rfl rfl rfl rfl rfl (ww_o rfl) (Nat.le_of_ble_eq_true rfl) (mc := 0) (ms := 0) (Nat.zero_le _) (Nat.zero_le _) (P := fun v u => _) ?_ (fun e u h => h) (fun v u h => h)
                intro po110x18 xx110x18 hp110x18 hx110x18
                refine g_enter2 (k := 177) (N := 300) (by first | exact dq1 hd rfl | exact dq0 hd rfl | exact dq2 hd rfl | exact dq3 hd rfl | omega) rfl (Nat.le_of_ble_eq_true rfl) ?_
                refine g_aload_n 1 (gd rfl) rfl rfl ?_
                refine g_getI 4 (gd rfl) rfl rfl rfl (fun z110x18x1 e110x18x1 => ?_)
                have q110x18x1 : z110x12x28 = z110x18x1 := (sF_get).trans e110x18x1.symm
                subst q110x18x1
                refine g_aload_n 5 (gd rfl) rfl rfl ?_
                refine g_getA (q2 := 48) 8 (gd rfl) rfl rfl rfl rfl ?_
                refine g_alen (n := 4608) (t := 2) 4608 9 (gd rfl) rfl rfl (Nat.le_of_ble_eq_true rfl) rfl ?_
                refine g_cmp_ge 12 32 (gd rfl) rfl rfl (fun c110x18x9 => ?_) (fun c110x18x9 => ?_)
                · skip
                  have i110x18x9 := r_le2 4608 4608 c110x18x9 (in_c 4608 rfl) i110x12x28 rfl
                  refine g_return (gd rfl) rfl (hp110x18 _ _ ?_)
                  show GG _ _ _ _ _ _ _ _ [] _ _ _
                  refine g_return (gd rfl) rfl (hp110 _ _ ?_)
                  show GG _ _ _ _ _ _ _ _ [] _ _ _
                  exact gg_w (by first | exact Nat.le_add_right _ _ | exact gw2 | exact gw3 | exact gwe rfl | exact gwf rfl | exact gwg rfl | exact gwh rfl | omega) (gg_f (gf_cons rfl (gf_cons rfl (gf_cons rfl gf_nil))) (ct113 (sF (sI (sF (sI s100 48 z110x3x1.toNatClampNeg (vp_nar .char (Int32.ofInt 32))) 46 9 z110x3x28) 48 z110x3x28.toNatClampNeg (vp_nar .char z110x11)) 46 9 z110x12x28)  hI110x12x29 (fr_sF rfl (fr_sI rfl (fr_sF rfl (fr_sI rfl (fr_tr rfl (fr_tr rfl (fr_tr rfl (fr_tr rfl (fr_sF rfl (fr_sI rfl hFc39)) hF70) hF80) hF90) hF100))))) (in_w 0 159 i44 rfl)))
                · skip
                  have i110x18x9 := r_lt1 2 4607 c110x18x9 i110x12x28 (in_c 4608 rfl) rfl
                  refine g_aload_n 13 (gd rfl) rfl rfl ?_
                  refine g_getA (q2 := 48) 16 (gd rfl) rfl rfl rfl rfl ?_
                  refine g_aload_n 17 (gd rfl) rfl rfl ?_
                  refine g_getI 20 (gd rfl) rfl rfl rfl (fun z110x18x17 e110x18x17 => ?_)
                  have q110x18x17 : z110x12x28 = z110x18x17 := (sF_get).trans e110x18x17.symm
                  subst q110x18x17
                  refine g_iload_n 21 (gd rfl) rfl rfl ?_
                  refine g_castore 22 (gd rfl) rfl (n := 4608) rfl (in_ix i110x18x9 rfl) ?_
                  have hI110x18x21 := inv_sI (q := 48) (j := z110x12x28.toNatClampNeg) hI110x12x29 rfl (in_w 0 65535 (nar_c (Int32.ofInt 59)) rfl)
                  refine g_aload_n 23 (gd rfl) rfl rfl ?_
                  refine g_dup 24 (gd rfl) rfl rfl ?_
                  refine g_getI 27 (gd rfl) rfl rfl rfl (fun z110x18x24 e110x18x24 => ?_)
                  have q110x18x24 : z110x12x28 = z110x18x24 := (sI_F (sF_get)).trans e110x18x24.symm
                  subst q110x18x24
                  refine g_iconst 1 28 (gd rfl) rfl rfl ?_
                  refine g_iadd 29 (gd rfl) rfl (fun z110x18x28 e110x18x28 => ?_)
                  have i110x18x28 := in_add 3 4608 e110x18x28 i110x18x9 (in_c 1 rfl) rfl rfl
                  refine g_putI 32 (gd rfl) rfl rfl rfl rfl ?_
                  have hI110x18x29 := inv_sF (q := 46) (j := 9) hI110x18x21 rfl (in_w 0 4608 i110x18x28 rfl)
                  refine g_return (gd rfl) rfl (hp110x18 _ _ ?_)
                  show GG _ _ _ _ _ _ _ _ [] _ _ _
                  refine g_return (gd rfl) rfl (hp110 _ _ ?_)
                  show GG _ _ _ _ _ _ _ _ [] _ _ _
                  exact gg_w (by first | exact Nat.le_add_right _ _ | exact gw2 | exact gw3 | exact gwe rfl | exact gwf rfl | exact gwg rfl | exact gwh rfl | omega) (gg_f (gf_cons rfl (gf_cons rfl (gf_cons rfl gf_nil))) (ct113 (sF (sI (sF (sI (sF (sI s100 48 z110x3x1.toNatClampNeg (vp_nar .char (Int32.ofInt 32))) 46 9 z110x3x28) 48 z110x3x28.toNatClampNeg (vp_nar .char z110x11)) 46 9 z110x12x28) 48 z110x12x28.toNatClampNeg (vp_nar .char (Int32.ofInt 59))) 46 9 z110x18x28)  hI110x18x29 (fr_sF rfl (fr_sI rfl (fr_sF rfl (fr_sI rfl (fr_sF rfl (fr_sI rfl (fr_tr rfl (fr_tr rfl (fr_tr rfl (fr_tr rfl (fr_sF rfl (fr_sI rfl hFc39)) hF70) hF80) hF90) hF100))))))) (in_w 0 159 i44 rfl)))
  have ct7 : ∀ (k7 : Nat) (sc7 : GS) (y7_2 : Int32), Inv sc7 → Fr fm_175_46_2 s sc7 → (In y7_2 0 32) → 32 - (y7_2).toInt < (k7 : Int) → GG Z (d - 1) 175 post (gx xp) (289963 + k7 * 900) 7 (fun j => xlook j [(0, .ref (A 46)), (1, .ref (A 2)), (2, .int y7_2)]) [] (WW Z A sc7 ++ ex) 0 0 := by
    intro k7
    induction k7 with
    | zero => intro sc7 y7_2 hIc7 hFc7 j7_2 mm7; exact m_no mm7 j7_2 rfl
    | succ k7 ih7 =>
      intro sc7 y7_2 hIc7 hFc7 j7_2 mm7
      refine gg_w (M := 289963 + k7 * 900 + 900) gws ?_
      refine g_iload_n 8 (gd rfl) rfl rfl ?_
      refine g_aload_n 9 (gd rfl) rfl rfl ?_
      refine g_getI 12 (gd rfl) rfl rfl rfl (fun z9 e9 => ?_)
      have q9 : u_2_1 = z9 := (fr_F e_2_1 hFc7 rfl).trans e9.symm
      subst q9
      refine g_cmp_ge 15 37 (gd rfl) rfl rfl (fun c12 => ?_) (fun c12 => ?_)
      · skip
        refine g_iconst 0 38 (gd rfl) rfl rfl ?_
        refine g_istore_n 39 (gd rfl) rfl (Nat.le_of_ble_eq_true rfl) ?_
        exact gg_w (by first | exact Nat.le_add_right _ _ | exact gw2 | exact gw3 | exact gwe rfl | exact gwf rfl | exact gwg rfl | exact gwh rfl | omega) (gg_f (gf_cons rfl (gf_cons rfl (gf_cons rfl gf_nil))) (ct39 161 sc7 (Int32.ofInt 0) hIc7 hFc7 (in_w 0 160 (in_c 0 rfl) rfl) (m_in 161 (in_w 0 160 (in_c 0 rfl) rfl) rfl)))
      · skip
        have i12 := r_lt1 0 31 c12 j7_2 ro_2_1 rfl
        have i12a := r_lt2 1 32 c12 j7_2 ro_2_1 rfl
        refine g_aload_n 16 (gd rfl) rfl rfl ?_
        refine g_bipush 110 18 (gd rfl) rfl rfl ?_
        refine g_callv (X := _) (As := [.int (Int32.ofInt 110)]) (r := []) (b := A 46) (q := 46) 21 (gd rfl) rfl rfl rfl rfl rfl (ww_o rfl) (Nat.le_of_ble_eq_true rfl) (mc := 0) (ms := 0) (Nat.zero_le _) (Nat.zero_le _) (P := fun v u => _) ?_ (fun e u h => h) (fun v u h => h)
        intro po18 xx18 hp18 hx18
        refine g_enter2 (k := 177) (N := 300) (by first | exact dq1 hd rfl | exact dq0 hd rfl | exact dq2 hd rfl | exact dq3 hd rfl | omega) rfl (Nat.le_of_ble_eq_true rfl) ?_
        refine g_aload_n 1 (gd rfl) rfl rfl ?_
        refine g_getI 4 (gd rfl) rfl rfl rfl (fun z18x1 e18x1 => ?_)
        have i18x1 := inv_F hIc7 0 4608 rfl e18x1
        refine g_aload_n 5 (gd rfl) rfl rfl ?_
        refine g_getA (q2 := 48) 8 (gd rfl) rfl rfl rfl rfl ?_
        refine g_alen (n := 4608) (t := 2) 4608 9 (gd rfl) rfl rfl (Nat.le_of_ble_eq_true rfl) rfl ?_
        refine g_cmp_ge 12 32 (gd rfl) rfl rfl (fun c18x9 => ?_) (fun c18x9 => ?_)
        · skip
          have i18x9 := r_le2 4608 4608 c18x9 (in_c 4608 rfl) i18x1 rfl
          refine g_return (gd rfl) rfl (hp18 _ _ ?_)
          show GG _ _ _ _ _ _ _ _ [] _ _ _
          refine g_aload_n 22 (gd rfl) rfl rfl ?_
          refine g_aload_n 23 (gd rfl) rfl rfl ?_
          refine g_getA (q2 := 3) 26 (gd rfl) rfl rfl rfl rfl ?_
          refine g_iload_n 27 (gd rfl) rfl rfl ?_
          refine g_iaload 28 (gd rfl) rfl (n := 32) rfl (in_ix i12 rfl) (fun z27 e27 => ?_)
          have i27 := inv_I hIc7 (n := 32) (t := 0) 0 25 rfl (in_ix i12 rfl) rfl e27
          refine g_callv (X := _) (As := [.int z27]) (r := []) (b := A 46) (q := 46) 31 (gd rfl) rfl rfl rfl rfl rfl (ww_o rfl) (Nat.le_of_ble_eq_true rfl) (mc := 0) (ms := 0) (Nat.zero_le _) (Nat.zero_le _) (P := fun v u => _) ?_ (fun e u h => h) (fun v u h => h)
          intro po28 xx28 hp28 hx28
          refine g_enter2 (k := 176) (N := 300) (by first | exact dq1 hd rfl | exact dq0 hd rfl | exact dq2 hd rfl | exact dq3 hd rfl | omega) rfl (Nat.le_of_ble_eq_true rfl) ?_
          refine g_aload_n 1 (gd rfl) rfl rfl ?_
          refine g_bipush 32 3 (gd rfl) rfl rfl ?_
          refine g_callv (X := _) (As := [.int (Int32.ofInt 32)]) (r := []) (b := A 46) (q := 46) 6 (gd rfl) rfl rfl rfl rfl rfl (ww_o rfl) (Nat.le_of_ble_eq_true rfl) (mc := 0) (ms := 0) (Nat.zero_le _) (Nat.zero_le _) (P := fun v u => _) ?_ (fun e u h => h) (fun v u h => h)
          intro po28x3 xx28x3 hp28x3 hx28x3
          refine g_enter2 (k := 177) (N := 300) (by first | exact dq1 hd rfl | exact dq0 hd rfl | exact dq2 hd rfl | exact dq3 hd rfl | omega) rfl (Nat.le_of_ble_eq_true rfl) ?_
          refine g_aload_n 1 (gd rfl) rfl rfl ?_
          refine g_getI 4 (gd rfl) rfl rfl rfl (fun z28x3x1 e28x3x1 => ?_)
          have q28x3x1 : z18x1 = z28x3x1 := (e18x1).trans e28x3x1.symm
          subst q28x3x1
          refine g_aload_n 5 (gd rfl) rfl rfl ?_
          refine g_getA (q2 := 48) 8 (gd rfl) rfl rfl rfl rfl ?_
          refine g_alen (n := 4608) (t := 2) 4608 9 (gd rfl) rfl rfl (Nat.le_of_ble_eq_true rfl) rfl ?_
          refine g_cmp_ge 12 32 (gd rfl) rfl rfl (fun c28x3x9 => ?_) (fun c28x3x9 => ?_)
          · skip
            refine g_return (gd rfl) rfl (hp28x3 _ _ ?_)
            show GG _ _ _ _ _ _ _ _ [] _ _ _
            refine g_aload_n 7 (gd rfl) rfl rfl ?_
            refine g_bipush 97 9 (gd rfl) rfl rfl ?_
            refine g_iload_n 10 (gd rfl) rfl rfl ?_
            refine g_iadd 11 (gd rfl) rfl (fun z28x10 e28x10 => ?_)
            have i28x10 := in_add 97 122 e28x10 (in_c 97 rfl) i27 rfl rfl
            refine g_i2c 12 (gd rfl) rfl (fun z28x11 e28x11 => ?_)
            have i28x11 := in_i2c e28x11
            refine g_callv (X := _) (As := [.int z28x11]) (r := []) (b := A 46) (q := 46) 15 (gd rfl) rfl rfl rfl rfl rfl (ww_o rfl) (Nat.le_of_ble_eq_true rfl) (mc := 0) (ms := 0) (Nat.zero_le _) (Nat.zero_le _) (P := fun v u => _) ?_ (fun e u h => h) (fun v u h => h)
            intro po28x12 xx28x12 hp28x12 hx28x12
            refine g_enter2 (k := 177) (N := 300) (by first | exact dq1 hd rfl | exact dq0 hd rfl | exact dq2 hd rfl | exact dq3 hd rfl | omega) rfl (Nat.le_of_ble_eq_true rfl) ?_
            refine g_aload_n 1 (gd rfl) rfl rfl ?_
            refine g_getI 4 (gd rfl) rfl rfl rfl (fun z28x12x1 e28x12x1 => ?_)
            have q28x12x1 : z18x1 = z28x12x1 := (e18x1).trans e28x12x1.symm
            subst q28x12x1
            refine g_aload_n 5 (gd rfl) rfl rfl ?_
            refine g_getA (q2 := 48) 8 (gd rfl) rfl rfl rfl rfl ?_
            refine g_alen (n := 4608) (t := 2) 4608 9 (gd rfl) rfl rfl (Nat.le_of_ble_eq_true rfl) rfl ?_
            refine g_cmp_ge 12 32 (gd rfl) rfl rfl (fun c28x12x9 => ?_) (fun c28x12x9 => ?_)
            · skip
              refine g_return (gd rfl) rfl (hp28x12 _ _ ?_)
              show GG _ _ _ _ _ _ _ _ [] _ _ _
              refine g_aload_n 16 (gd rfl) rfl rfl ?_
              refine g_bipush 59 18 (gd rfl) rfl rfl ?_
              refine g_callv (X := _) (As := [.int (Int32.ofInt 59)]) (r := []) (b := A 46) (q := 46) 21 (gd rfl) rfl rfl rfl rfl rfl (ww_o rfl) (Nat.le_of_ble_eq_true rfl) (mc := 0) (ms := 0) (Nat.zero_le _) (Nat.zero_le _) (P := fun v u => _) ?_ (fun e u h => h) (fun v u h => h)
              intro po28x18 xx28x18 hp28x18 hx28x18
              refine g_enter2 (k := 177) (N := 300) (by first | exact dq1 hd rfl | exact dq0 hd rfl | exact dq2 hd rfl | exact dq3 hd rfl | omega) rfl (Nat.le_of_ble_eq_true rfl) ?_
              refine g_aload_n 1 (gd rfl) rfl rfl ?_
              refine g_getI 4 (gd rfl) rfl rfl rfl (fun z28x18x1 e28x18x1 => ?_)
              have q28x18x1 : z18x1 = z28x18x1 := (e18x1).trans e28x18x1.symm
              subst q28x18x1
              refine g_aload_n 5 (gd rfl) rfl rfl ?_
              refine g_getA (q2 := 48) 8 (gd rfl) rfl rfl rfl rfl ?_
              refine g_alen (n := 4608) (t := 2) 4608 9 (gd rfl) rfl rfl (Nat.le_of_ble_eq_true rfl) rfl ?_
              refine g_cmp_ge 12 32 (gd rfl) rfl rfl (fun c28x18x9 => ?_) (fun c28x18x9 => ?_)
              · skip
                refine g_return (gd rfl) rfl (hp28x18 _ _ ?_)
                show GG _ _ _ _ _ _ _ _ [] _ _ _
                refine g_return (gd rfl) rfl (hp28 _ _ ?_)
                show GG _ _ _ _ _ _ _ _ [] _ _ _
                refine g_iinc 34 (gd rfl) rfl rfl (Nat.le_of_ble_eq_true rfl) (fun z31 e31 => ?_)
                have i31 := in_add 1 32 e31 i12 (in_c 1 rfl) rfl rfl
                refine g_goto 7 (gd rfl) rfl ?_
                exact gg_w (by first | exact Nat.le_add_right _ _ | exact gw2 | exact gw3 | exact gwe rfl | exact gwf rfl | exact gwg rfl | exact gwh rfl | omega) (gg_f (gf_cons rfl (gf_cons rfl (gf_cons rfl gf_nil))) (ih7 sc7 z31 hIc7 hFc7 (in_w 0 32 i31 rfl) (m_up mm7 (t_add e31 i12 (in_c 1 rfl) rfl) (in_w 1 1 (in_c 1 rfl) rfl))))
              · skip
                exact n_lt c28x18x9 i18x9 (in_c 4608 rfl) rfl
            · skip
              exact n_lt c28x12x9 i18x9 (in_c 4608 rfl) rfl
          · skip
            exact n_lt c28x3x9 i18x9 (in_c 4608 rfl) rfl
        · skip
          have i18x9 := r_lt1 0 4607 c18x9 i18x1 (in_c 4608 rfl) rfl
          refine g_aload_n 13 (gd rfl) rfl rfl ?_
          refine g_getA (q2 := 48) 16 (gd rfl) rfl rfl rfl rfl ?_
          refine g_aload_n 17 (gd rfl) rfl rfl ?_
          refine g_getI 20 (gd rfl) rfl rfl rfl (fun z18x17 e18x17 => ?_)
          have q18x17 : z18x1 = z18x17 := (e18x1).trans e18x17.symm
          subst q18x17
          refine g_iload_n 21 (gd rfl) rfl rfl ?_
          refine g_castore 22 (gd rfl) rfl (n := 4608) rfl (in_ix i18x9 rfl) ?_
          have hI18x21 := inv_sI (q := 48) (j := z18x1.toNatClampNeg) hIc7 rfl (in_w 0 65535 (nar_c (Int32.ofInt 110)) rfl)
          refine g_aload_n 23 (gd rfl) rfl rfl ?_
          refine g_dup 24 (gd rfl) rfl rfl ?_
          refine g_getI 27 (gd rfl) rfl rfl rfl (fun z18x24 e18x24 => ?_)
          have q18x24 : z18x1 = z18x24 := (sI_F (e18x1)).trans e18x24.symm
          subst q18x24
          refine g_iconst 1 28 (gd rfl) rfl rfl ?_
          refine g_iadd 29 (gd rfl) rfl (fun z18x28 e18x28 => ?_)
          have i18x28 := in_add 1 4608 e18x28 i18x9 (in_c 1 rfl) rfl rfl
          refine g_putI 32 (gd rfl) rfl rfl rfl rfl ?_
          have hI18x29 := inv_sF (q := 46) (j := 9) hI18x21 rfl (in_w 0 4608 i18x28 rfl)
          refine g_return (gd rfl) rfl (hp18 _ _ ?_)
          show GG _ _ _ _ _ _ _ _ [] _ _ _
          refine g_aload_n 22 (gd rfl) rfl rfl ?_
          refine g_aload_n 23 (gd rfl) rfl rfl ?_
          refine g_getA (q2 := 3) 26 (gd rfl) rfl rfl rfl rfl ?_
          refine g_iload_n 27 (gd rfl) rfl rfl ?_
          refine g_iaload 28 (gd rfl) rfl (n := 32) rfl (in_ix i12 rfl) (fun z27 e27 => ?_)
          have i27 := inv_I hI18x29 (n := 32) (t := 0) 0 25 rfl (in_ix i12 rfl) rfl e27
          refine g_callv (X := _) (As := [.int z27]) (r := []) (b := A 46) (q := 46) 31 (gd rfl) rfl rfl rfl rfl rfl (ww_o rfl) (Nat.le_of_ble_eq_true rfl) (mc := 0) (ms := 0) (Nat.zero_le _) (Nat.zero_le _) (P := fun v u => _) ?_ (fun e u h => h) (fun v u h => h)
          intro po28 xx28 hp28 hx28
          refine g_enter2 (k := 176) (N := 300) (by first | exact dq1 hd rfl | exact dq0 hd rfl | exact dq2 hd rfl | exact dq3 hd rfl | omega) rfl (Nat.le_of_ble_eq_true rfl) ?_
          refine g_aload_n 1 (gd rfl) rfl rfl ?_
          refine g_bipush 32 3 (gd rfl) rfl rfl ?_
          refine g_callv (X := _) (As := [.int (Int32.ofInt 32)]) (r := []) (b := A 46) (q := 46) 6 (gd rfl) rfl rfl rfl rfl rfl (ww_o rfl) (Nat.le_of_ble_eq_true rfl) (mc := 0) (ms := 0) (Nat.zero_le _) (Nat.zero_le _) (P := fun v u => _) ?_ (fun e u h => h) (fun v u h => h)
          intro po28x3 xx28x3 hp28x3 hx28x3
          refine g_enter2 (k := 177) (N := 300) (by first | exact dq1 hd rfl | exact dq0 hd rfl | exact dq2 hd rfl | exact dq3 hd rfl | omega) rfl (Nat.le_of_ble_eq_true rfl) ?_
          refine g_aload_n 1 (gd rfl) rfl rfl ?_
          refine g_getI 4 (gd rfl) rfl rfl rfl (fun z28x3x1 e28x3x1 => ?_)
          have q28x3x1 : z18x28 = z28x3x1 := (sF_get).trans e28x3x1.symm
          subst q28x3x1
          refine g_aload_n 5 (gd rfl) rfl rfl ?_
          refine g_getA (q2 := 48) 8 (gd rfl) rfl rfl rfl rfl ?_
          refine g_alen (n := 4608) (t := 2) 4608 9 (gd rfl) rfl rfl (Nat.le_of_ble_eq_true rfl) rfl ?_
          refine g_cmp_ge 12 32 (gd rfl) rfl rfl (fun c28x3x9 => ?_) (fun c28x3x9 => ?_)
          · skip
            have i28x3x9 := r_le2 4608 4608 c28x3x9 (in_c 4608 rfl) i18x28 rfl
            refine g_return (gd rfl) rfl (hp28x3 _ _ ?_)
            show GG _ _ _ _ _ _ _ _ [] _ _ _
            refine g_aload_n 7 (gd rfl) rfl rfl ?_
            refine g_bipush 97 9 (gd rfl) rfl rfl ?_
            refine g_iload_n 10 (gd rfl) rfl rfl ?_
            refine g_iadd 11 (gd rfl) rfl (fun z28x10 e28x10 => ?_)
            have i28x10 := in_add 97 122 e28x10 (in_c 97 rfl) i27 rfl rfl
            refine g_i2c 12 (gd rfl) rfl (fun z28x11 e28x11 => ?_)
            have i28x11 := in_i2c e28x11
            refine g_callv (X := _) (As := [.int z28x11]) (r := []) (b := A 46) (q := 46) 15 (gd rfl) rfl rfl rfl rfl rfl (ww_o rfl) (Nat.le_of_ble_eq_true rfl) (mc := 0) (ms := 0) (Nat.zero_le _) (Nat.zero_le _) (P := fun v u => _) ?_ (fun e u h => h) (fun v u h => h)
            intro po28x12 xx28x12 hp28x12 hx28x12
            refine g_enter2 (k := 177) (N := 300) (by first | exact dq1 hd rfl | exact dq0 hd rfl | exact dq2 hd rfl | exact dq3 hd rfl | omega) rfl (Nat.le_of_ble_eq_true rfl) ?_
            refine g_aload_n 1 (gd rfl) rfl rfl ?_
            refine g_getI 4 (gd rfl) rfl rfl rfl (fun z28x12x1 e28x12x1 => ?_)
            have q28x12x1 : z18x28 = z28x12x1 := (sF_get).trans e28x12x1.symm
            subst q28x12x1
            refine g_aload_n 5 (gd rfl) rfl rfl ?_
            refine g_getA (q2 := 48) 8 (gd rfl) rfl rfl rfl rfl ?_
            refine g_alen (n := 4608) (t := 2) 4608 9 (gd rfl) rfl rfl (Nat.le_of_ble_eq_true rfl) rfl ?_
            refine g_cmp_ge 12 32 (gd rfl) rfl rfl (fun c28x12x9 => ?_) (fun c28x12x9 => ?_)
            · skip
              refine g_return (gd rfl) rfl (hp28x12 _ _ ?_)
              show GG _ _ _ _ _ _ _ _ [] _ _ _
              refine g_aload_n 16 (gd rfl) rfl rfl ?_
              refine g_bipush 59 18 (gd rfl) rfl rfl ?_
              refine g_callv (X := _) (As := [.int (Int32.ofInt 59)]) (r := []) (b := A 46) (q := 46) 21 (gd rfl) rfl rfl rfl rfl rfl (ww_o rfl) (Nat.le_of_ble_eq_true rfl) (mc := 0) (ms := 0) (Nat.zero_le _) (Nat.zero_le _) (P := fun v u => _) ?_ (fun e u h => h) (fun v u h => h)
              intro po28x18 xx28x18 hp28x18 hx28x18
              refine g_enter2 (k := 177) (N := 300) (by first | exact dq1 hd rfl | exact dq0 hd rfl | exact dq2 hd rfl | exact dq3 hd rfl | omega) rfl (Nat.le_of_ble_eq_true rfl) ?_
              refine g_aload_n 1 (gd rfl) rfl rfl ?_
              refine g_getI 4 (gd rfl) rfl rfl rfl (fun z28x18x1 e28x18x1 => ?_)
              have q28x18x1 : z18x28 = z28x18x1 := (sF_get).trans e28x18x1.symm
              subst q28x18x1
              refine g_aload_n 5 (gd rfl) rfl rfl ?_
              refine g_getA (q2 := 48) 8 (gd rfl) rfl rfl rfl rfl ?_
              refine g_alen (n := 4608) (t := 2) 4608 9 (gd rfl) rfl rfl (Nat.le_of_ble_eq_true rfl) rfl ?_
              refine g_cmp_ge 12 32 (gd rfl) rfl rfl (fun c28x18x9 => ?_) (fun c28x18x9 => ?_)
              · skip
                refine g_return (gd rfl) rfl (hp28x18 _ _ ?_)
                show GG _ _ _ _ _ _ _ _ [] _ _ _
                refine g_return (gd rfl) rfl (hp28 _ _ ?_)
                show GG _ _ _ _ _ _ _ _ [] _ _ _
                refine g_iinc 34 (gd rfl) rfl rfl (Nat.le_of_ble_eq_true rfl) (fun z31 e31 => ?_)
                have i31 := in_add 1 32 e31 i12 (in_c 1 rfl) rfl rfl
                refine g_goto 7 (gd rfl) rfl ?_
                exact gg_w (by first | exact Nat.le_add_right _ _ | exact gw2 | exact gw3 | exact gwe rfl | exact gwf rfl | exact gwg rfl | exact gwh rfl | omega) (gg_f (gf_cons rfl (gf_cons rfl (gf_cons rfl gf_nil))) (ih7 (sF (sI sc7 48 z18x1.toNatClampNeg (vp_nar .char (Int32.ofInt 110))) 46 9 z18x28) z31 hI18x29 (fr_sF rfl (fr_sI rfl hFc7)) (in_w 0 32 i31 rfl) (m_up mm7 (t_add e31 i12 (in_c 1 rfl) rfl) (in_w 1 1 (in_c 1 rfl) rfl))))
              · skip
                exact n_lt c28x18x9 i28x3x9 (in_c 4608 rfl) rfl
            · skip
              exact n_lt c28x12x9 i28x3x9 (in_c 4608 rfl) rfl
          · skip
            have i28x3x9 := r_lt1 1 4607 c28x3x9 i18x28 (in_c 4608 rfl) rfl
            refine g_aload_n 13 (gd rfl) rfl rfl ?_
            refine g_getA (q2 := 48) 16 (gd rfl) rfl rfl rfl rfl ?_
            refine g_aload_n 17 (gd rfl) rfl rfl ?_
            refine g_getI 20 (gd rfl) rfl rfl rfl (fun z28x3x17 e28x3x17 => ?_)
            have q28x3x17 : z18x28 = z28x3x17 := (sF_get).trans e28x3x17.symm
            subst q28x3x17
            refine g_iload_n 21 (gd rfl) rfl rfl ?_
            refine g_castore 22 (gd rfl) rfl (n := 4608) rfl (in_ix i28x3x9 rfl) ?_
            have hI28x3x21 := inv_sI (q := 48) (j := z18x28.toNatClampNeg) hI18x29 rfl (in_w 0 65535 (nar_c (Int32.ofInt 32)) rfl)
            refine g_aload_n 23 (gd rfl) rfl rfl ?_
            refine g_dup 24 (gd rfl) rfl rfl ?_
            refine g_getI 27 (gd rfl) rfl rfl rfl (fun z28x3x24 e28x3x24 => ?_)
            have q28x3x24 : z18x28 = z28x3x24 := (sI_F (sF_get)).trans e28x3x24.symm
            subst q28x3x24
            refine g_iconst 1 28 (gd rfl) rfl rfl ?_
            refine g_iadd 29 (gd rfl) rfl (fun z28x3x28 e28x3x28 => ?_)
            have i28x3x28 := in_add 2 4608 e28x3x28 i28x3x9 (in_c 1 rfl) rfl rfl
            refine g_putI 32 (gd rfl) rfl rfl rfl rfl ?_
            have hI28x3x29 := inv_sF (q := 46) (j := 9) hI28x3x21 rfl (in_w 0 4608 i28x3x28 rfl)
            refine g_return (gd rfl) rfl (hp28x3 _ _ ?_)
            show GG _ _ _ _ _ _ _ _ [] _ _ _
            refine g_aload_n 7 (gd rfl) rfl rfl ?_
            refine g_bipush 97 9 (gd rfl) rfl rfl ?_
            refine g_iload_n 10 (gd rfl) rfl rfl ?_
            refine g_iadd 11 (gd rfl) rfl (fun z28x10 e28x10 => ?_)
            have i28x10 := in_add 97 122 e28x10 (in_c 97 rfl) i27 rfl rfl
            refine g_i2c 12 (gd rfl) rfl (fun z28x11 e28x11 => ?_)
            have i28x11 := in_i2c e28x11
            refine g_callv (X := _) (As := [.int z28x11]) (r := []) (b := A 46) (q := 46) 15 (gd rfl) rfl rfl rfl rfl rfl (ww_o rfl) (Nat.le_of_ble_eq_true rfl) (mc := 0) (ms := 0) (Nat.zero_le _) (Nat.zero_le _) (P := fun v u => _) ?_ (fun e u h => h) (fun v u h => h)
            intro po28x12 xx28x12 hp28x12 hx28x12
            refine g_enter2 (k := 177) (N := 300) (by first | exact dq1 hd rfl | exact dq0 hd rfl | exact dq2 hd rfl | exact dq3 hd rfl | omega) rfl (Nat.le_of_ble_eq_true rfl) ?_
            refine g_aload_n 1 (gd rfl) rfl rfl ?_
            refine g_getI 4 (gd rfl) rfl rfl rfl (fun z28x12x1 e28x12x1 => ?_)
            have q28x12x1 : z28x3x28 = z28x12x1 := (sF_get).trans e28x12x1.symm
            subst q28x12x1
            refine g_aload_n 5 (gd rfl) rfl rfl ?_
            refine g_getA (q2 := 48) 8 (gd rfl) rfl rfl rfl rfl ?_
            refine g_alen (n := 4608) (t := 2) 4608 9 (gd rfl) rfl rfl (Nat.le_of_ble_eq_true rfl) rfl ?_
            refine g_cmp_ge 12 32 (gd rfl) rfl rfl (fun c28x12x9 => ?_) (fun c28x12x9 => ?_)
            · skip
              have i28x12x9 := r_le2 4608 4608 c28x12x9 (in_c 4608 rfl) i28x3x28 rfl
              refine g_return (gd rfl) rfl (hp28x12 _ _ ?_)
              show GG _ _ _ _ _ _ _ _ [] _ _ _
              refine g_aload_n 16 (gd rfl) rfl rfl ?_
              refine g_bipush 59 18 (gd rfl) rfl rfl ?_
              refine g_callv (X := _) (As := [.int (Int32.ofInt 59)]) (r := []) (b := A 46) (q := 46) 21 (gd rfl) rfl rfl rfl rfl rfl (ww_o rfl) (Nat.le_of_ble_eq_true rfl) (mc := 0) (ms := 0) (Nat.zero_le _) (Nat.zero_le _) (P := fun v u => _) ?_ (fun e u h => h) (fun v u h => h)
              intro po28x18 xx28x18 hp28x18 hx28x18
              refine g_enter2 (k := 177) (N := 300) (by first | exact dq1 hd rfl | exact dq0 hd rfl | exact dq2 hd rfl | exact dq3 hd rfl | omega) rfl (Nat.le_of_ble_eq_true rfl) ?_
              refine g_aload_n 1 (gd rfl) rfl rfl ?_
              refine g_getI 4 (gd rfl) rfl rfl rfl (fun z28x18x1 e28x18x1 => ?_)
              have q28x18x1 : z28x3x28 = z28x18x1 := (sF_get).trans e28x18x1.symm
              subst q28x18x1
              refine g_aload_n 5 (gd rfl) rfl rfl ?_
              refine g_getA (q2 := 48) 8 (gd rfl) rfl rfl rfl rfl ?_
              refine g_alen (n := 4608) (t := 2) 4608 9 (gd rfl) rfl rfl (Nat.le_of_ble_eq_true rfl) rfl ?_
              refine g_cmp_ge 12 32 (gd rfl) rfl rfl (fun c28x18x9 => ?_) (fun c28x18x9 => ?_)
              · skip
                refine g_return (gd rfl) rfl (hp28x18 _ _ ?_)
                show GG _ _ _ _ _ _ _ _ [] _ _ _
                refine g_return (gd rfl) rfl (hp28 _ _ ?_)
                show GG _ _ _ _ _ _ _ _ [] _ _ _
                refine g_iinc 34 (gd rfl) rfl rfl (Nat.le_of_ble_eq_true rfl) (fun z31 e31 => ?_)
                have i31 := in_add 1 32 e31 i12 (in_c 1 rfl) rfl rfl
                refine g_goto 7 (gd rfl) rfl ?_
                exact gg_w (by first | exact Nat.le_add_right _ _ | exact gw2 | exact gw3 | exact gwe rfl | exact gwf rfl | exact gwg rfl | exact gwh rfl | omega) (gg_f (gf_cons rfl (gf_cons rfl (gf_cons rfl gf_nil))) (ih7 (sF (sI (sF (sI sc7 48 z18x1.toNatClampNeg (vp_nar .char (Int32.ofInt 110))) 46 9 z18x28) 48 z18x28.toNatClampNeg (vp_nar .char (Int32.ofInt 32))) 46 9 z28x3x28) z31 hI28x3x29 (fr_sF rfl (fr_sI rfl (fr_sF rfl (fr_sI rfl hFc7)))) (in_w 0 32 i31 rfl) (m_up mm7 (t_add e31 i12 (in_c 1 rfl) rfl) (in_w 1 1 (in_c 1 rfl) rfl))))
              · skip
                exact n_lt c28x18x9 i28x12x9 (in_c 4608 rfl) rfl
            · skip
              have i28x12x9 := r_lt1 2 4607 c28x12x9 i28x3x28 (in_c 4608 rfl) rfl
              refine g_aload_n 13 (gd rfl) rfl rfl ?_
              refine g_getA (q2 := 48) 16 (gd rfl) rfl rfl rfl rfl ?_
              refine g_aload_n 17 (gd rfl) rfl rfl ?_
              refine g_getI 20 (gd rfl) rfl rfl rfl (fun z28x12x17 e28x12x17 => ?_)
              have q28x12x17 : z28x3x28 = z28x12x17 := (sF_get).trans e28x12x17.symm
              subst q28x12x17
              refine g_iload_n 21 (gd rfl) rfl rfl ?_
              refine g_castore 22 (gd rfl) rfl (n := 4608) rfl (in_ix i28x12x9 rfl) ?_
              have hI28x12x21 := inv_sI (q := 48) (j := z28x3x28.toNatClampNeg) hI28x3x29 rfl (in_w 0 65535 (nar_c z28x11) rfl)
              refine g_aload_n 23 (gd rfl) rfl rfl ?_
              refine g_dup 24 (gd rfl) rfl rfl ?_
              refine g_getI 27 (gd rfl) rfl rfl rfl (fun z28x12x24 e28x12x24 => ?_)
              have q28x12x24 : z28x3x28 = z28x12x24 := (sI_F (sF_get)).trans e28x12x24.symm
              subst q28x12x24
              refine g_iconst 1 28 (gd rfl) rfl rfl ?_
              refine g_iadd 29 (gd rfl) rfl (fun z28x12x28 e28x12x28 => ?_)
              have i28x12x28 := in_add 3 4608 e28x12x28 i28x12x9 (in_c 1 rfl) rfl rfl
              refine g_putI 32 (gd rfl) rfl rfl rfl rfl ?_
              have hI28x12x29 := inv_sF (q := 46) (j := 9) hI28x12x21 rfl (in_w 0 4608 i28x12x28 rfl)
              refine g_return (gd rfl) rfl (hp28x12 _ _ ?_)
              show GG _ _ _ _ _ _ _ _ [] _ _ _
              refine g_aload_n 16 (gd rfl) rfl rfl ?_
              refine g_bipush 59 18 (gd rfl) rfl rfl ?_
              refine g_callv (X := _) (As := [.int (Int32.ofInt 59)]) (r := []) (b := A 46) (q := 46) 21 (gd rfl) rfl rfl rfl rfl rfl (ww_o rfl) (Nat.le_of_ble_eq_true rfl) (mc := 0) (ms := 0) (Nat.zero_le _) (Nat.zero_le _) (P := fun v u => _) ?_ (fun e u h => h) (fun v u h => h)
              intro po28x18 xx28x18 hp28x18 hx28x18
              refine g_enter2 (k := 177) (N := 300) (by first | exact dq1 hd rfl | exact dq0 hd rfl | exact dq2 hd rfl | exact dq3 hd rfl | omega) rfl (Nat.le_of_ble_eq_true rfl) ?_
              refine g_aload_n 1 (gd rfl) rfl rfl ?_
              refine g_getI 4 (gd rfl) rfl rfl rfl (fun z28x18x1 e28x18x1 => ?_)
              have q28x18x1 : z28x12x28 = z28x18x1 := (sF_get).trans e28x18x1.symm
              subst q28x18x1
              refine g_aload_n 5 (gd rfl) rfl rfl ?_
              refine g_getA (q2 := 48) 8 (gd rfl) rfl rfl rfl rfl ?_
              refine g_alen (n := 4608) (t := 2) 4608 9 (gd rfl) rfl rfl (Nat.le_of_ble_eq_true rfl) rfl ?_
              refine g_cmp_ge 12 32 (gd rfl) rfl rfl (fun c28x18x9 => ?_) (fun c28x18x9 => ?_)
              · skip
                have i28x18x9 := r_le2 4608 4608 c28x18x9 (in_c 4608 rfl) i28x12x28 rfl
                refine g_return (gd rfl) rfl (hp28x18 _ _ ?_)
                show GG _ _ _ _ _ _ _ _ [] _ _ _
                refine g_return (gd rfl) rfl (hp28 _ _ ?_)
                show GG _ _ _ _ _ _ _ _ [] _ _ _
                refine g_iinc 34 (gd rfl) rfl rfl (Nat.le_of_ble_eq_true rfl) (fun z31 e31 => ?_)
                have i31 := in_add 1 32 e31 i12 (in_c 1 rfl) rfl rfl
                refine g_goto 7 (gd rfl) rfl ?_
                exact gg_w (by first | exact Nat.le_add_right _ _ | exact gw2 | exact gw3 | exact gwe rfl | exact gwf rfl | exact gwg rfl | exact gwh rfl | omega) (gg_f (gf_cons rfl (gf_cons rfl (gf_cons rfl gf_nil))) (ih7 (sF (sI (sF (sI (sF (sI sc7 48 z18x1.toNatClampNeg (vp_nar .char (Int32.ofInt 110))) 46 9 z18x28) 48 z18x28.toNatClampNeg (vp_nar .char (Int32.ofInt 32))) 46 9 z28x3x28) 48 z28x3x28.toNatClampNeg (vp_nar .char z28x11)) 46 9 z28x12x28) z31 hI28x12x29 (fr_sF rfl (fr_sI rfl (fr_sF rfl (fr_sI rfl (fr_sF rfl (fr_sI rfl hFc7)))))) (in_w 0 32 i31 rfl) (m_up mm7 (t_add e31 i12 (in_c 1 rfl) rfl) (in_w 1 1 (in_c 1 rfl) rfl))))
              · skip
                have i28x18x9 := r_lt1 3 4607 c28x18x9 i28x12x28 (in_c 4608 rfl) rfl
                refine g_aload_n 13 (gd rfl) rfl rfl ?_
                refine g_getA (q2 := 48) 16 (gd rfl) rfl rfl rfl rfl ?_
                refine g_aload_n 17 (gd rfl) rfl rfl ?_
                refine g_getI 20 (gd rfl) rfl rfl rfl (fun z28x18x17 e28x18x17 => ?_)
                have q28x18x17 : z28x12x28 = z28x18x17 := (sF_get).trans e28x18x17.symm
                subst q28x18x17
                refine g_iload_n 21 (gd rfl) rfl rfl ?_
                refine g_castore 22 (gd rfl) rfl (n := 4608) rfl (in_ix i28x18x9 rfl) ?_
                have hI28x18x21 := inv_sI (q := 48) (j := z28x12x28.toNatClampNeg) hI28x12x29 rfl (in_w 0 65535 (nar_c (Int32.ofInt 59)) rfl)
                refine g_aload_n 23 (gd rfl) rfl rfl ?_
                refine g_dup 24 (gd rfl) rfl rfl ?_
                refine g_getI 27 (gd rfl) rfl rfl rfl (fun z28x18x24 e28x18x24 => ?_)
                have q28x18x24 : z28x12x28 = z28x18x24 := (sI_F (sF_get)).trans e28x18x24.symm
                subst q28x18x24
                refine g_iconst 1 28 (gd rfl) rfl rfl ?_
                refine g_iadd 29 (gd rfl) rfl (fun z28x18x28 e28x18x28 => ?_)
                have i28x18x28 := in_add 4 4608 e28x18x28 i28x18x9 (in_c 1 rfl) rfl rfl
                refine g_putI 32 (gd rfl) rfl rfl rfl rfl ?_
                have hI28x18x29 := inv_sF (q := 46) (j := 9) hI28x18x21 rfl (in_w 0 4608 i28x18x28 rfl)
                refine g_return (gd rfl) rfl (hp28x18 _ _ ?_)
                show GG _ _ _ _ _ _ _ _ [] _ _ _
                refine g_return (gd rfl) rfl (hp28 _ _ ?_)
                show GG _ _ _ _ _ _ _ _ [] _ _ _
                refine g_iinc 34 (gd rfl) rfl rfl (Nat.le_of_ble_eq_true rfl) (fun z31 e31 => ?_)
                have i31 := in_add 1 32 e31 i12 (in_c 1 rfl) rfl rfl
                refine g_goto 7 (gd rfl) rfl ?_
                exact gg_w (by first | exact Nat.le_add_right _ _ | exact gw2 | exact gw3 | exact gwe rfl | exact gwf rfl | exact gwg rfl | exact gwh rfl | omega) (gg_f (gf_cons rfl (gf_cons rfl (gf_cons rfl gf_nil))) (ih7 (sF (sI (sF (sI (sF (sI (sF (sI sc7 48 z18x1.toNatClampNeg (vp_nar .char (Int32.ofInt 110))) 46 9 z18x28) 48 z18x28.toNatClampNeg (vp_nar .char (Int32.ofInt 32))) 46 9 z28x3x28) 48 z28x3x28.toNatClampNeg (vp_nar .char z28x11)) 46 9 z28x12x28) 48 z28x12x28.toNatClampNeg (vp_nar .char (Int32.ofInt 59))) 46 9 z28x18x28) z31 hI28x18x29 (fr_sF rfl (fr_sI rfl (fr_sF rfl (fr_sI rfl (fr_sF rfl (fr_sI rfl (fr_sF rfl (fr_sI rfl hFc7)))))))) (in_w 0 32 i31 rfl) (m_up mm7 (t_add e31 i12 (in_c 1 rfl) rfl) (in_w 1 1 (in_c 1 rfl) rfl))))
  refine g_enter2 (k := 175) (N := 320563) (by first | exact dq1 hd rfl | exact dq0 hd rfl | exact dq2 hd rfl | exact dq3 hd rfl | omega) rfl (Nat.le_of_ble_eq_true rfl) ?_
  refine g_aload_n 1 (gd rfl) rfl rfl ?_
  refine g_iconst 0 2 (gd rfl) rfl rfl ?_
  refine g_putI 5 (gd rfl) rfl rfl rfl rfl ?_
  have hI2 := inv_sF (q := 46) (j := 9) hI rfl (in_w 0 4608 (in_c 0 rfl) rfl)
  refine g_iconst 0 6 (gd rfl) rfl rfl ?_
  refine g_istore_n 7 (gd rfl) rfl (Nat.le_of_ble_eq_true rfl) ?_
  exact gg_w (by first | exact Nat.le_of_ble_eq_true rfl | omega) (gg_f (gf_cons rfl (gf_cons rfl (gf_cons rfl gf_nil))) (ct7 33 (sF s 46 9 (Int32.ofInt 0)) (Int32.ofInt 0) hI2 (fr_sF rfl fr_rf) (in_w 0 32 (in_c 0 rfl) rfl) (m_in 33 (in_w 0 32 (in_c 0 rfl) rfl) rfl)))

def fm_175_46_32 : FM := ([48], [], [(46, 9)], [])
/-- GraphHouse$Script.write -/
theorem k_175_46_32 {Z : AmZ} {A : Nat → Nat} {s : GS} {ex : va_W} {d : Nat} {X : AmX}  (hd : 4 ≤ d) (hI : Inv s)  : GC Z d 175 [.ref (A 46), .ref (A 32)] (WW Z A s ++ ex) 0 0 (fun v u => ∃ t : GS, Inv t ∧ Fr fm_175_46_32 s t ∧ ∃ z : Int32, v = some (.int z) ∧ u = WW Z A t ++ ex ∧ In z 0 4608) X := by
  intro post xp hP hX
  obtain ⟨u_32_1, e_32_1⟩ : ∃ w, w = s.2.2.1 32 1 := ⟨_, rfl⟩
  have ro_32_1 := inv_F hI 0 32 rfl e_32_1
  obtain ⟨u_32_3, e_32_3⟩ : ∃ w, w = s.2.2.1 32 3 := ⟨_, rfl⟩
  have ro_32_3 := inv_F hI 0 160 rfl e_32_3
  have ct39 : ∀ (k39 : Nat) (sc39 : GS) (y39_2 : Int32), Inv sc39 → Fr fm_175_46_32 s sc39 → (In y39_2 0 160) → 160 - (y39_2).toInt < (k39 : Int) → GG Z (d - 1) 175 post (gx xp) (1 + k39 * 1801) 39 (fun j => xlook j [(0, .ref (A 46)), (1, .ref (A 32)), (2, .int y39_2)]) [] (WW Z A sc39 ++ ex) 0 0 := by
    intro k39
    induction k39 with
    | zero => intro sc39 y39_2 hIc39 hFc39 j39_2 mm39; exact m_no mm39 j39_2 rfl
    | succ k39 ih39 =>
      intro sc39 y39_2 hIc39 hFc39 j39_2 mm39
      refine gg_w (M := 1 + k39 * 1801 + 1801) gws ?_
      have ct113 : ∀ (sc113 : GS) , Inv sc113 → Fr fm_175_46_32 s sc113 → (In y39_2 0 159) → GG Z (d - 1) 175 post (gx xp) (1 + k39 * 1801 + 901) 113 (fun j => xlook j [(0, .ref (A 46)), (1, .ref (A 32)), (2, .int y39_2)]) [] (WW Z A sc113 ++ ex) 0 0 := by
        intro sc113  hIc113 hFc113 j113_2
        refine g_iinc 116 (gd rfl) rfl rfl (Nat.le_of_ble_eq_true rfl) (fun z113 e113 => ?_)
        have i113 := in_add 1 160 e113 j113_2 (in_c 1 rfl) rfl rfl
        refine g_goto 39 (gd rfl) rfl ?_
        exact gg_w (by first | exact Nat.le_add_right _ _ | exact gw2 | exact gw3 | exact gwe rfl | exact gwf rfl | exact gwg rfl | exact gwh rfl | omega) (gg_f (gf_cons rfl (gf_cons rfl (gf_cons rfl gf_nil))) (ih39 sc113 z113 hIc113 hFc113 (in_w 0 160 i113 rfl) (m_up mm39 (t_add e113 j113_2 (in_c 1 rfl) rfl) (in_w 1 1 (in_c 1 rfl) rfl))))
      refine g_iload_n 40 (gd rfl) rfl rfl ?_
      refine g_aload_n 41 (gd rfl) rfl rfl ?_
      refine g_getI 44 (gd rfl) rfl rfl rfl (fun z41 e41 => ?_)
      have q41 : u_32_3 = z41 := (fr_F e_32_3 hFc39 rfl).trans e41.symm
      subst q41
      refine g_cmp_ge 47 119 (gd rfl) rfl rfl (fun c44 => ?_) (fun c44 => ?_)
      · skip
        refine g_aload_n 120 (gd rfl) rfl rfl ?_
        refine g_getI 123 (gd rfl) rfl rfl rfl (fun z120 e120 => ?_)
        have i120 := inv_F hIc39 0 4608 rfl e120
        exact g_ireturn (gd rfl) rfl rfl (hP _ _ ⟨sc39, hIc39, hFc39, z120, rfl, rfl, in_w 0 4608 i120 rfl⟩)
      · skip
        have i44 := r_lt1 0 159 c44 j39_2 ro_32_3 rfl
        have i44a := r_lt2 1 160 c44 j39_2 ro_32_3 rfl
        refine g_aload_n 48 (gd rfl) rfl rfl ?_
        refine g_getA (q2 := 34) 51 (gd rfl) rfl rfl rfl rfl ?_
        refine g_iload_n 52 (gd rfl) rfl rfl ?_
        refine g_iaload 53 (gd rfl) rfl (n := 160) rfl (in_ix i44 rfl) (fun z52 e52 => ?_)
        have i52 := inv_I hIc39 (n := 160) (t := 0) (-1) 31 rfl (in_ix i44 rfl) rfl e52
        refine g_iconst (-1) 54 (gd rfl) rfl rfl ?_
        refine g_cmp_eq 57 113 (gd rfl) rfl rfl (fun c54 => ?_) (fun c54 => ?_)
        · skip
          have i54 := r_eq1 (-1) (-1) c54 i52 (in_c (-1) rfl) rfl
          exact gg_w (by first | exact Nat.le_add_right _ _ | exact gw2 | exact gw3 | exact gwe rfl | exact gwf rfl | exact gwg rfl | exact gwh rfl | omega) (gg_f (gf_cons rfl (gf_cons rfl (gf_cons rfl gf_nil))) (ct113 sc39  hIc39 hFc39 (in_w 0 159 i44 rfl)))
        · skip
          have i54 := r_ne1 0 31 c54 i52 (in_c (-1) rfl) rfl
          refine g_aload_n 58 (gd rfl) rfl rfl ?_
          refine g_bipush 97 60 (gd rfl) rfl rfl ?_
          refine g_callv (X := _) (As := [.int (Int32.ofInt 97)]) (r := []) (b := A 46) (q := 46) 63 (gd rfl) rfl rfl rfl rfl rfl (ww_o rfl) (Nat.le_of_ble_eq_true rfl) (mc := 0) (ms := 0) (Nat.zero_le _) (Nat.zero_le _) (P := fun v u => _) ?_ (fun e u h => h) (fun v u h => h)
          intro po60 xx60 hp60 hx60
          refine g_enter2 (k := 177) (N := 300) (by first | exact dq1 hd rfl | exact dq0 hd rfl | exact dq2 hd rfl | exact dq3 hd rfl | omega) rfl (Nat.le_of_ble_eq_true rfl) ?_
          refine g_aload_n 1 (gd rfl) rfl rfl ?_
          refine g_getI 4 (gd rfl) rfl rfl rfl (fun z60x1 e60x1 => ?_)
          have i60x1 := inv_F hIc39 0 4608 rfl e60x1
          refine g_aload_n 5 (gd rfl) rfl rfl ?_
          refine g_getA (q2 := 48) 8 (gd rfl) rfl rfl rfl rfl ?_
          refine g_alen (n := 4608) (t := 2) 4608 9 (gd rfl) rfl rfl (Nat.le_of_ble_eq_true rfl) rfl ?_
          refine g_cmp_ge 12 32 (gd rfl) rfl rfl (fun c60x9 => ?_) (fun c60x9 => ?_)
          · skip
            have i60x9 := r_le2 4608 4608 c60x9 (in_c 4608 rfl) i60x1 rfl
            refine g_return (gd rfl) rfl (hp60 _ _ ?_)
            show GG _ _ _ _ _ _ _ _ [] _ _ _
            refine g_aload_n 64 (gd rfl) rfl rfl ?_
            refine g_aload_n 65 (gd rfl) rfl rfl ?_
            refine g_getA (q2 := 34) 68 (gd rfl) rfl rfl rfl rfl ?_
            refine g_iload_n 69 (gd rfl) rfl rfl ?_
            refine g_iaload 70 (gd rfl) rfl (n := 160) rfl (in_ix i44 rfl) (fun z69 e69 => ?_)
            have q69 : z52 = z69 := (e52).trans e69.symm
            subst q69
            refine g_callv (X := _) (As := [.int z52]) (r := []) (b := A 46) (q := 46) 73 (gd rfl) rfl rfl rfl rfl rfl (ww_o rfl) (Nat.le_of_ble_eq_true rfl) (Nat.zero_le _) (Nat.zero_le _) (k_178_46 (by first | exact dq1 hd rfl | exact dq0 hd rfl | exact dq2 hd rfl | exact dq3 hd rfl | omega) hIc39 (in_w (-1000000) 1000000 i54 rfl)) (fun e u h => h) (fun v u h => ?_)
            obtain ⟨s70, hI70, hF70, rfl, rfl⟩ := h
            show GG _ _ _ _ _ _ _ _ [] _ _ _
            refine g_aload_n 74 (gd rfl) rfl rfl ?_
            refine g_aload_n 75 (gd rfl) rfl rfl ?_
            refine g_getA (q2 := 35) 78 (gd rfl) rfl rfl rfl rfl ?_
            refine g_iload_n 79 (gd rfl) rfl rfl ?_
            refine g_iaload 80 (gd rfl) rfl (n := 160) rfl (in_ix i44 rfl) (fun z79 e79 => ?_)
            have i79 := inv_I hI70 (n := 160) (t := 0) 0 31 rfl (in_ix i44 rfl) rfl e79
            refine g_callv (X := _) (As := [.int z79]) (r := []) (b := A 46) (q := 46) 83 (gd rfl) rfl rfl rfl rfl rfl (ww_o rfl) (Nat.le_of_ble_eq_true rfl) (Nat.zero_le _) (Nat.zero_le _) (k_178_46 (by first | exact dq1 hd rfl | exact dq0 hd rfl | exact dq2 hd rfl | exact dq3 hd rfl | omega) hI70 (in_w (-1000000) 1000000 i79 rfl)) (fun e u h => h) (fun v u h => ?_)
            obtain ⟨s80, hI80, hF80, rfl, rfl⟩ := h
            show GG _ _ _ _ _ _ _ _ [] _ _ _
            refine g_aload_n 84 (gd rfl) rfl rfl ?_
            refine g_aload_n 85 (gd rfl) rfl rfl ?_
            refine g_getA (q2 := 36) 88 (gd rfl) rfl rfl rfl rfl ?_
            refine g_iload_n 89 (gd rfl) rfl rfl ?_
            refine g_iaload 90 (gd rfl) rfl (n := 160) rfl (in_ix i44 rfl) (fun z89 e89 => ?_)
            have i89 := inv_I hI80 (n := 160) (t := 0) (-1000000) 1000000 rfl (in_ix i44 rfl) rfl e89
            refine g_callv (X := _) (As := [.int z89]) (r := []) (b := A 46) (q := 46) 93 (gd rfl) rfl rfl rfl rfl rfl (ww_o rfl) (Nat.le_of_ble_eq_true rfl) (Nat.zero_le _) (Nat.zero_le _) (k_178_46 (by first | exact dq1 hd rfl | exact dq0 hd rfl | exact dq2 hd rfl | exact dq3 hd rfl | omega) hI80 (in_w (-1000000) 1000000 i89 rfl)) (fun e u h => h) (fun v u h => ?_)
            obtain ⟨s90, hI90, hF90, rfl, rfl⟩ := h
            show GG _ _ _ _ _ _ _ _ [] _ _ _
            refine g_aload_n 94 (gd rfl) rfl rfl ?_
            refine g_aload_n 95 (gd rfl) rfl rfl ?_
            refine g_getA (q2 := 37) 98 (gd rfl) rfl rfl rfl rfl ?_
            refine g_iload_n 99 (gd rfl) rfl rfl ?_
            refine g_iaload 100 (gd rfl) rfl (n := 160) rfl (in_ix i44 rfl) (fun z99 e99 => ?_)
            have i99 := inv_I hI90 (n := 160) (t := 0) 0 1000000 rfl (in_ix i44 rfl) rfl e99
            refine g_callv (X := _) (As := [.int z99]) (r := []) (b := A 46) (q := 46) 103 (gd rfl) rfl rfl rfl rfl rfl (ww_o rfl) (Nat.le_of_ble_eq_true rfl) (Nat.zero_le _) (Nat.zero_le _) (k_178_46 (by first | exact dq1 hd rfl | exact dq0 hd rfl | exact dq2 hd rfl | exact dq3 hd rfl | omega) hI90 (in_w (-1000000) 1000000 i99 rfl)) (fun e u h => h) (fun v u h => ?_)
            obtain ⟨s100, hI100, hF100, rfl, rfl⟩ := h
            show GG _ _ _ _ _ _ _ _ [] _ _ _
            refine g_aload_n 104 (gd rfl) rfl rfl ?_
            refine g_aload_n 105 (gd rfl) rfl rfl ?_
            refine g_getA (q2 := 38) 108 (gd rfl) rfl rfl rfl rfl ?_
            refine g_iload_n 109 (gd rfl) rfl rfl ?_
            refine g_iaload 110 (gd rfl) rfl (n := 160) rfl (in_ix i44 rfl) (fun z109 e109 => ?_)
            have i109 := inv_I hI100 (n := 160) (t := 0) 0 25 rfl (in_ix i44 rfl) rfl e109
            refine g_callv (X := _) (As := [.int z109]) (r := []) (b := A 46) (q := 46) 113 (gd rfl) rfl rfl rfl rfl rfl (ww_o rfl) (Nat.le_of_ble_eq_true rfl) (mc := 0) (ms := 0) (Nat.zero_le _) (Nat.zero_le _) (P := fun v u => _) ?_ (fun e u h => h) (fun v u h => h)
            intro po110 xx110 hp110 hx110
            refine g_enter2 (k := 176) (N := 300) (by first | exact dq1 hd rfl | exact dq0 hd rfl | exact dq2 hd rfl | exact dq3 hd rfl | omega) rfl (Nat.le_of_ble_eq_true rfl) ?_
            refine g_aload_n 1 (gd rfl) rfl rfl ?_
            refine g_bipush 32 3 (gd rfl) rfl rfl ?_
            refine g_callv (X := _) (As := [.int (Int32.ofInt 32)]) (r := []) (b := A 46) (q := 46) 6 (gd rfl) rfl rfl rfl rfl rfl (ww_o rfl) (Nat.le_of_ble_eq_true rfl) (mc := 0) (ms := 0) (Nat.zero_le _) (Nat.zero_le _) (P := fun v u => _) ?_ (fun e u h => h) (fun v u h => h)
            intro po110x3 xx110x3 hp110x3 hx110x3
            refine g_enter2 (k := 177) (N := 300) (by first | exact dq1 hd rfl | exact dq0 hd rfl | exact dq2 hd rfl | exact dq3 hd rfl | omega) rfl (Nat.le_of_ble_eq_true rfl) ?_
            refine g_aload_n 1 (gd rfl) rfl rfl ?_
            refine g_getI 4 (gd rfl) rfl rfl rfl (fun z110x3x1 e110x3x1 => ?_)
            have i110x3x1 := inv_F hI100 0 4608 rfl e110x3x1
            refine g_aload_n 5 (gd rfl) rfl rfl ?_
            refine g_getA (q2 := 48) 8 (gd rfl) rfl rfl rfl rfl ?_
            refine g_alen (n := 4608) (t := 2) 4608 9 (gd rfl) rfl rfl (Nat.le_of_ble_eq_true rfl) rfl ?_
            refine g_cmp_ge 12 32 (gd rfl) rfl rfl (fun c110x3x9 => ?_) (fun c110x3x9 => ?_)
            · skip
              have i110x3x9 := r_le2 4608 4608 c110x3x9 (in_c 4608 rfl) i110x3x1 rfl
              refine g_return (gd rfl) rfl (hp110x3 _ _ ?_)
              show GG _ _ _ _ _ _ _ _ [] _ _ _
              refine g_aload_n 7 (gd rfl) rfl rfl ?_
              refine g_bipush 97 9 (gd rfl) rfl rfl ?_
              refine g_iload_n 10 (gd rfl) rfl rfl ?_
              refine g_iadd 11 (gd rfl) rfl (fun z110x10 e110x10 => ?_)
              have i110x10 := in_add 97 122 e110x10 (in_c 97 rfl) i109 rfl rfl
              refine g_i2c 12 (gd rfl) rfl (fun z110x11 e110x11 => ?_)
              have i110x11 := in_i2c e110x11
              refine g_callv (X := _) (As := [.int z110x11]) (r := []) (b := A 46) (q := 46) 15 (gd rfl) rfl rfl rfl rfl rfl (ww_o rfl) (Nat.le_of_ble_eq_true rfl) (mc := 0) (ms := 0) (Nat.zero_le _) (Nat.zero_le _) (P := fun v u => _) ?_ (fun e u h => h) (fun v u h => h)
              intro po110x12 xx110x12 hp110x12 hx110x12
              refine g_enter2 (k := 177) (N := 300) (by first | exact dq1 hd rfl | exact dq0 hd rfl | exact dq2 hd rfl | exact dq3 hd rfl | omega) rfl (Nat.le_of_ble_eq_true rfl) ?_
              refine g_aload_n 1 (gd rfl) rfl rfl ?_
              refine g_getI 4 (gd rfl) rfl rfl rfl (fun z110x12x1 e110x12x1 => ?_)
              have q110x12x1 : z110x3x1 = z110x12x1 := (e110x3x1).trans e110x12x1.symm
              subst q110x12x1
              refine g_aload_n 5 (gd rfl) rfl rfl ?_
              refine g_getA (q2 := 48) 8 (gd rfl) rfl rfl rfl rfl ?_
              refine g_alen (n := 4608) (t := 2) 4608 9 (gd rfl) rfl rfl (Nat.le_of_ble_eq_true rfl) rfl ?_
              refine g_cmp_ge 12 32 (gd rfl) rfl rfl (fun c110x12x9 => ?_) (fun c110x12x9 => ?_)
              · skip
                refine g_return (gd rfl) rfl (hp110x12 _ _ ?_)
                show GG _ _ _ _ _ _ _ _ [] _ _ _
                refine g_aload_n 16 (gd rfl) rfl rfl ?_
                refine g_bipush 59 18 (gd rfl) rfl rfl ?_
                refine g_callv (X := _) (As := [.int (Int32.ofInt 59)]) (r := []) (b := A 46) (q := 46) 21 (gd rfl) rfl rfl rfl rfl rfl (ww_o rfl) (Nat.le_of_ble_eq_true rfl) (mc := 0) (ms := 0) (Nat.zero_le _) (Nat.zero_le _) (P := fun v u => _) ?_ (fun e u h => h) (fun v u h => h)
                intro po110x18 xx110x18 hp110x18 hx110x18
                refine g_enter2 (k := 177) (N := 300) (by first | exact dq1 hd rfl | exact dq0 hd rfl | exact dq2 hd rfl | exact dq3 hd rfl | omega) rfl (Nat.le_of_ble_eq_true rfl) ?_
                refine g_aload_n 1 (gd rfl) rfl rfl ?_
                refine g_getI 4 (gd rfl) rfl rfl rfl (fun z110x18x1 e110x18x1 => ?_)
                have q110x18x1 : z110x3x1 = z110x18x1 := (e110x3x1).trans e110x18x1.symm
                subst q110x18x1
                refine g_aload_n 5 (gd rfl) rfl rfl ?_
                refine g_getA (q2 := 48) 8 (gd rfl) rfl rfl rfl rfl ?_
                refine g_alen (n := 4608) (t := 2) 4608 9 (gd rfl) rfl rfl (Nat.le_of_ble_eq_true rfl) rfl ?_
                refine g_cmp_ge 12 32 (gd rfl) rfl rfl (fun c110x18x9 => ?_) (fun c110x18x9 => ?_)
                · skip
                  refine g_return (gd rfl) rfl (hp110x18 _ _ ?_)
                  show GG _ _ _ _ _ _ _ _ [] _ _ _
                  refine g_return (gd rfl) rfl (hp110 _ _ ?_)
                  show GG _ _ _ _ _ _ _ _ [] _ _ _
                  exact gg_w (by first | exact Nat.le_add_right _ _ | exact gw2 | exact gw3 | exact gwe rfl | exact gwf rfl | exact gwg rfl | exact gwh rfl | omega) (gg_f (gf_cons rfl (gf_cons rfl (gf_cons rfl gf_nil))) (ct113 s100  hI100 (fr_tr rfl (fr_tr rfl (fr_tr rfl (fr_tr rfl hFc39 hF70) hF80) hF90) hF100) (in_w 0 159 i44 rfl)))
                · skip
                  exact n_lt c110x18x9 i110x3x9 (in_c 4608 rfl) rfl
              · skip
                exact n_lt c110x12x9 i110x3x9 (in_c 4608 rfl) rfl
            · skip
              have i110x3x9 := r_lt1 0 4607 c110x3x9 i110x3x1 (in_c 4608 rfl) rfl
              refine g_aload_n 13 (gd rfl) rfl rfl ?_
              refine g_getA (q2 := 48) 16 (gd rfl) rfl rfl rfl rfl ?_
              refine g_aload_n 17 (gd rfl) rfl rfl ?_
              refine g_getI 20 (gd rfl) rfl rfl rfl (fun z110x3x17 e110x3x17 => ?_)
              have q110x3x17 : z110x3x1 = z110x3x17 := (e110x3x1).trans e110x3x17.symm
              subst q110x3x17
              refine g_iload_n 21 (gd rfl) rfl rfl ?_
              refine g_castore 22 (gd rfl) rfl (n := 4608) rfl (in_ix i110x3x9 rfl) ?_
              have hI110x3x21 := inv_sI (q := 48) (j := z110x3x1.toNatClampNeg) hI100 rfl (in_w 0 65535 (nar_c (Int32.ofInt 32)) rfl)
              refine g_aload_n 23 (gd rfl) rfl rfl ?_
              refine g_dup 24 (gd rfl) rfl rfl ?_
              refine g_getI 27 (gd rfl) rfl rfl rfl (fun z110x3x24 e110x3x24 => ?_)
              have q110x3x24 : z110x3x1 = z110x3x24 := (sI_F (e110x3x1)).trans e110x3x24.symm
              subst q110x3x24
              refine g_iconst 1 28 (gd rfl) rfl rfl ?_
              refine g_iadd 29 (gd rfl) rfl (fun z110x3x28 e110x3x28 => ?_)
              have i110x3x28 := in_add 1 4608 e110x3x28 i110x3x9 (in_c 1 rfl) rfl rfl
              refine g_putI 32 (gd rfl) rfl rfl rfl rfl ?_
              have hI110x3x29 := inv_sF (q := 46) (j := 9) hI110x3x21 rfl (in_w 0 4608 i110x3x28 rfl)
              refine g_return (gd rfl) rfl (hp110x3 _ _ ?_)
              show GG _ _ _ _ _ _ _ _ [] _ _ _
              refine g_aload_n 7 (gd rfl) rfl rfl ?_
              refine g_bipush 97 9 (gd rfl) rfl rfl ?_
              refine g_iload_n 10 (gd rfl) rfl rfl ?_
              refine g_iadd 11 (gd rfl) rfl (fun z110x10 e110x10 => ?_)
              have i110x10 := in_add 97 122 e110x10 (in_c 97 rfl) i109 rfl rfl
              refine g_i2c 12 (gd rfl) rfl (fun z110x11 e110x11 => ?_)
              have i110x11 := in_i2c e110x11
              refine g_callv (X := _) (As := [.int z110x11]) (r := []) (b := A 46) (q := 46) 15 (gd rfl) rfl rfl rfl rfl rfl (ww_o rfl) (Nat.le_of_ble_eq_true rfl) (mc := 0) (ms := 0) (Nat.zero_le _) (Nat.zero_le _) (P := fun v u => _) ?_ (fun e u h => h) (fun v u h => h)
              intro po110x12 xx110x12 hp110x12 hx110x12
              refine g_enter2 (k := 177) (N := 300) (by first | exact dq1 hd rfl | exact dq0 hd rfl | exact dq2 hd rfl | exact dq3 hd rfl | omega) rfl (Nat.le_of_ble_eq_true rfl) ?_
              refine g_aload_n 1 (gd rfl) rfl rfl ?_
              refine g_getI 4 (gd rfl) rfl rfl rfl (fun z110x12x1 e110x12x1 => ?_)
              have q110x12x1 : z110x3x28 = z110x12x1 := (sF_get).trans e110x12x1.symm
              subst q110x12x1
              refine g_aload_n 5 (gd rfl) rfl rfl ?_
              refine g_getA (q2 := 48) 8 (gd rfl) rfl rfl rfl rfl ?_
              refine g_alen (n := 4608) (t := 2) 4608 9 (gd rfl) rfl rfl (Nat.le_of_ble_eq_true rfl) rfl ?_
              refine g_cmp_ge 12 32 (gd rfl) rfl rfl (fun c110x12x9 => ?_) (fun c110x12x9 => ?_)
              · skip
                have i110x12x9 := r_le2 4608 4608 c110x12x9 (in_c 4608 rfl) i110x3x28 rfl
                refine g_return (gd rfl) rfl (hp110x12 _ _ ?_)
                show GG _ _ _ _ _ _ _ _ [] _ _ _
                refine g_aload_n 16 (gd rfl) rfl rfl ?_
                refine g_bipush 59 18 (gd rfl) rfl rfl ?_
                refine g_callv (X := _) (As := [.int (Int32.ofInt 59)]) (r := []) (b := A 46) (q := 46) 21 (gd rfl) rfl rfl rfl rfl rfl (ww_o rfl) (Nat.le_of_ble_eq_true rfl) (mc := 0) (ms := 0) (Nat.zero_le _) (Nat.zero_le _) (P := fun v u => _) ?_ (fun e u h => h) (fun v u h => h)
                intro po110x18 xx110x18 hp110x18 hx110x18
                refine g_enter2 (k := 177) (N := 300) (by first | exact dq1 hd rfl | exact dq0 hd rfl | exact dq2 hd rfl | exact dq3 hd rfl | omega) rfl (Nat.le_of_ble_eq_true rfl) ?_
                refine g_aload_n 1 (gd rfl) rfl rfl ?_
                refine g_getI 4 (gd rfl) rfl rfl rfl (fun z110x18x1 e110x18x1 => ?_)
                have q110x18x1 : z110x3x28 = z110x18x1 := (sF_get).trans e110x18x1.symm
                subst q110x18x1
                refine g_aload_n 5 (gd rfl) rfl rfl ?_
                refine g_getA (q2 := 48) 8 (gd rfl) rfl rfl rfl rfl ?_
                refine g_alen (n := 4608) (t := 2) 4608 9 (gd rfl) rfl rfl (Nat.le_of_ble_eq_true rfl) rfl ?_
                refine g_cmp_ge 12 32 (gd rfl) rfl rfl (fun c110x18x9 => ?_) (fun c110x18x9 => ?_)
                · skip
                  refine g_return (gd rfl) rfl (hp110x18 _ _ ?_)
                  show GG _ _ _ _ _ _ _ _ [] _ _ _
                  refine g_return (gd rfl) rfl (hp110 _ _ ?_)
                  show GG _ _ _ _ _ _ _ _ [] _ _ _
                  exact gg_w (by first | exact Nat.le_add_right _ _ | exact gw2 | exact gw3 | exact gwe rfl | exact gwf rfl | exact gwg rfl | exact gwh rfl | omega) (gg_f (gf_cons rfl (gf_cons rfl (gf_cons rfl gf_nil))) (ct113 (sF (sI s100 48 z110x3x1.toNatClampNeg (vp_nar .char (Int32.ofInt 32))) 46 9 z110x3x28)  hI110x3x29 (fr_sF rfl (fr_sI rfl (fr_tr rfl (fr_tr rfl (fr_tr rfl (fr_tr rfl hFc39 hF70) hF80) hF90) hF100))) (in_w 0 159 i44 rfl)))
                · skip
                  exact n_lt c110x18x9 i110x12x9 (in_c 4608 rfl) rfl
              · skip
                have i110x12x9 := r_lt1 1 4607 c110x12x9 i110x3x28 (in_c 4608 rfl) rfl
                refine g_aload_n 13 (gd rfl) rfl rfl ?_
                refine g_getA (q2 := 48) 16 (gd rfl) rfl rfl rfl rfl ?_
                refine g_aload_n 17 (gd rfl) rfl rfl ?_
                refine g_getI 20 (gd rfl) rfl rfl rfl (fun z110x12x17 e110x12x17 => ?_)
                have q110x12x17 : z110x3x28 = z110x12x17 := (sF_get).trans e110x12x17.symm
                subst q110x12x17
                refine g_iload_n 21 (gd rfl) rfl rfl ?_
                refine g_castore 22 (gd rfl) rfl (n := 4608) rfl (in_ix i110x12x9 rfl) ?_
                have hI110x12x21 := inv_sI (q := 48) (j := z110x3x28.toNatClampNeg) hI110x3x29 rfl (in_w 0 65535 (nar_c z110x11) rfl)
                refine g_aload_n 23 (gd rfl) rfl rfl ?_
                refine g_dup 24 (gd rfl) rfl rfl ?_
                refine g_getI 27 (gd rfl) rfl rfl rfl (fun z110x12x24 e110x12x24 => ?_)
                have q110x12x24 : z110x3x28 = z110x12x24 := (sI_F (sF_get)).trans e110x12x24.symm
                subst q110x12x24
                refine g_iconst 1 28 (gd rfl) rfl rfl ?_
                refine g_iadd 29 (gd rfl) rfl (fun z110x12x28 e110x12x28 => ?_)
                have i110x12x28 := in_add 2 4608 e110x12x28 i110x12x9 (in_c 1 rfl) rfl rfl
                refine g_putI 32 (gd rfl) rfl rfl rfl rfl ?_
                have hI110x12x29 := inv_sF (q := 46) (j := 9) hI110x12x21 rfl (in_w 0 4608 i110x12x28 rfl)
                refine g_return (gd rfl) rfl (hp110x12 _ _ ?_)
                show GG _ _ _ _ _ _ _ _ [] _ _ _
                refine g_aload_n 16 (gd rfl) rfl rfl ?_
                refine g_bipush 59 18 (gd rfl) rfl rfl ?_
                refine g_callv (X := _) (As := [.int (Int32.ofInt 59)]) (r := []) (b := A 46) (q := 46) 21 (gd rfl) rfl rfl rfl rfl rfl (ww_o rfl) (Nat.le_of_ble_eq_true rfl) (mc := 0) (ms := 0) (Nat.zero_le _) (Nat.zero_le _) (P := fun v u => _) ?_ (fun e u h => h) (fun v u h => h)
                intro po110x18 xx110x18 hp110x18 hx110x18
                refine g_enter2 (k := 177) (N := 300) (by first | exact dq1 hd rfl | exact dq0 hd rfl | exact dq2 hd rfl | exact dq3 hd rfl | omega) rfl (Nat.le_of_ble_eq_true rfl) ?_
                refine g_aload_n 1 (gd rfl) rfl rfl ?_
                refine g_getI 4 (gd rfl) rfl rfl rfl (fun z110x18x1 e110x18x1 => ?_)
                have q110x18x1 : z110x12x28 = z110x18x1 := (sF_get).trans e110x18x1.symm
                subst q110x18x1
                refine g_aload_n 5 (gd rfl) rfl rfl ?_
                refine g_getA (q2 := 48) 8 (gd rfl) rfl rfl rfl rfl ?_
                refine g_alen (n := 4608) (t := 2) 4608 9 (gd rfl) rfl rfl (Nat.le_of_ble_eq_true rfl) rfl ?_
                refine g_cmp_ge 12 32 (gd rfl) rfl rfl (fun c110x18x9 => ?_) (fun c110x18x9 => ?_)
                · skip
                  have i110x18x9 := r_le2 4608 4608 c110x18x9 (in_c 4608 rfl) i110x12x28 rfl
                  refine g_return (gd rfl) rfl (hp110x18 _ _ ?_)
                  show GG _ _ _ _ _ _ _ _ [] _ _ _
                  refine g_return (gd rfl) rfl (hp110 _ _ ?_)
                  show GG _ _ _ _ _ _ _ _ [] _ _ _
                  exact gg_w (by first | exact Nat.le_add_right _ _ | exact gw2 | exact gw3 | exact gwe rfl | exact gwf rfl | exact gwg rfl | exact gwh rfl | omega) (gg_f (gf_cons rfl (gf_cons rfl (gf_cons rfl gf_nil))) (ct113 (sF (sI (sF (sI s100 48 z110x3x1.toNatClampNeg (vp_nar .char (Int32.ofInt 32))) 46 9 z110x3x28) 48 z110x3x28.toNatClampNeg (vp_nar .char z110x11)) 46 9 z110x12x28)  hI110x12x29 (fr_sF rfl (fr_sI rfl (fr_sF rfl (fr_sI rfl (fr_tr rfl (fr_tr rfl (fr_tr rfl (fr_tr rfl hFc39 hF70) hF80) hF90) hF100))))) (in_w 0 159 i44 rfl)))
                · skip
                  have i110x18x9 := r_lt1 2 4607 c110x18x9 i110x12x28 (in_c 4608 rfl) rfl
                  refine g_aload_n 13 (gd rfl) rfl rfl ?_
                  refine g_getA (q2 := 48) 16 (gd rfl) rfl rfl rfl rfl ?_
                  refine g_aload_n 17 (gd rfl) rfl rfl ?_
                  refine g_getI 20 (gd rfl) rfl rfl rfl (fun z110x18x17 e110x18x17 => ?_)
                  have q110x18x17 : z110x12x28 = z110x18x17 := (sF_get).trans e110x18x17.symm
                  subst q110x18x17
                  refine g_iload_n 21 (gd rfl) rfl rfl ?_
                  refine g_castore 22 (gd rfl) rfl (n := 4608) rfl (in_ix i110x18x9 rfl) ?_
                  have hI110x18x21 := inv_sI (q := 48) (j := z110x12x28.toNatClampNeg) hI110x12x29 rfl (in_w 0 65535 (nar_c (Int32.ofInt 59)) rfl)
                  refine g_aload_n 23 (gd rfl) rfl rfl ?_
                  refine g_dup 24 (gd rfl) rfl rfl ?_
                  refine g_getI 27 (gd rfl) rfl rfl rfl (fun z110x18x24 e110x18x24 => ?_)
                  have q110x18x24 : z110x12x28 = z110x18x24 := (sI_F (sF_get)).trans e110x18x24.symm
                  subst q110x18x24
                  refine g_iconst 1 28 (gd rfl) rfl rfl ?_
                  refine g_iadd 29 (gd rfl) rfl (fun z110x18x28 e110x18x28 => ?_)
                  have i110x18x28 := in_add 3 4608 e110x18x28 i110x18x9 (in_c 1 rfl) rfl rfl
                  refine g_putI 32 (gd rfl) rfl rfl rfl rfl ?_
                  have hI110x18x29 := inv_sF (q := 46) (j := 9) hI110x18x21 rfl (in_w 0 4608 i110x18x28 rfl)
                  refine g_return (gd rfl) rfl (hp110x18 _ _ ?_)
                  show GG _ _ _ _ _ _ _ _ [] _ _ _
                  refine g_return (gd rfl) rfl (hp110 _ _ ?_)
                  show GG _ _ _ _ _ _ _ _ [] _ _ _
                  exact gg_w (by first | exact Nat.le_add_right _ _ | exact gw2 | exact gw3 | exact gwe rfl | exact gwf rfl | exact gwg rfl | exact gwh rfl | omega) (gg_f (gf_cons rfl (gf_cons rfl (gf_cons rfl gf_nil))) (ct113 (sF (sI (sF (sI (sF (sI s100 48 z110x3x1.toNatClampNeg (vp_nar .char (Int32.ofInt 32))) 46 9 z110x3x28) 48 z110x3x28.toNatClampNeg (vp_nar .char z110x11)) 46 9 z110x12x28) 48 z110x12x28.toNatClampNeg (vp_nar .char (Int32.ofInt 59))) 46 9 z110x18x28)  hI110x18x29 (fr_sF rfl (fr_sI rfl (fr_sF rfl (fr_sI rfl (fr_sF rfl (fr_sI rfl (fr_tr rfl (fr_tr rfl (fr_tr rfl (fr_tr rfl hFc39 hF70) hF80) hF90) hF100))))))) (in_w 0 159 i44 rfl)))
          · skip
            have i60x9 := r_lt1 0 4607 c60x9 i60x1 (in_c 4608 rfl) rfl
            refine g_aload_n 13 (gd rfl) rfl rfl ?_
            refine g_getA (q2 := 48) 16 (gd rfl) rfl rfl rfl rfl ?_
            refine g_aload_n 17 (gd rfl) rfl rfl ?_
            refine g_getI 20 (gd rfl) rfl rfl rfl (fun z60x17 e60x17 => ?_)
            have q60x17 : z60x1 = z60x17 := (e60x1).trans e60x17.symm
            subst q60x17
            refine g_iload_n 21 (gd rfl) rfl rfl ?_
            refine g_castore 22 (gd rfl) rfl (n := 4608) rfl (in_ix i60x9 rfl) ?_
            have hI60x21 := inv_sI (q := 48) (j := z60x1.toNatClampNeg) hIc39 rfl (in_w 0 65535 (nar_c (Int32.ofInt 97)) rfl)
            refine g_aload_n 23 (gd rfl) rfl rfl ?_
            refine g_dup 24 (gd rfl) rfl rfl ?_
            refine g_getI 27 (gd rfl) rfl rfl rfl (fun z60x24 e60x24 => ?_)
            have q60x24 : z60x1 = z60x24 := (sI_F (e60x1)).trans e60x24.symm
            subst q60x24
            refine g_iconst 1 28 (gd rfl) rfl rfl ?_
            refine g_iadd 29 (gd rfl) rfl (fun z60x28 e60x28 => ?_)
            have i60x28 := in_add 1 4608 e60x28 i60x9 (in_c 1 rfl) rfl rfl
            refine g_putI 32 (gd rfl) rfl rfl rfl rfl ?_
            have hI60x29 := inv_sF (q := 46) (j := 9) hI60x21 rfl (in_w 0 4608 i60x28 rfl)
            refine g_return (gd rfl) rfl (hp60 _ _ ?_)
            show GG _ _ _ _ _ _ _ _ [] _ _ _
            refine g_aload_n 64 (gd rfl) rfl rfl ?_
            refine g_aload_n 65 (gd rfl) rfl rfl ?_
            refine g_getA (q2 := 34) 68 (gd rfl) rfl rfl rfl rfl ?_
            refine g_iload_n 69 (gd rfl) rfl rfl ?_
            refine g_iaload 70 (gd rfl) rfl (n := 160) rfl (in_ix i44 rfl) (fun z69 e69 => ?_)
            have q69 : z52 = z69 := (sF_I (sI_ne rfl (e52))).trans e69.symm
            subst q69
            refine g_callv (X := _) (As := [.int z52]) (r := []) (b := A 46) (q := 46) 73 (gd rfl) rfl rfl rfl rfl rfl (ww_o rfl) (Nat.le_of_ble_eq_true rfl) (Nat.zero_le _) (Nat.zero_le _) (k_178_46 (by first | exact dq1 hd rfl | exact dq0 hd rfl | exact dq2 hd rfl | exact dq3 hd rfl | omega) hI60x29 (in_w (-1000000) 1000000 i54 rfl)) (fun e u h => h) (fun v u h => ?_)
            obtain ⟨s70, hI70, hF70, rfl, rfl⟩ := h
            show GG _ _ _ _ _ _ _ _ [] _ _ _
            refine g_aload_n 74 (gd rfl) rfl rfl ?_
            refine g_aload_n 75 (gd rfl) rfl rfl ?_
            refine g_getA (q2 := 35) 78 (gd rfl) rfl rfl rfl rfl ?_
            refine g_iload_n 79 (gd rfl) rfl rfl ?_
            refine g_iaload 80 (gd rfl) rfl (n := 160) rfl (in_ix i44 rfl) (fun z79 e79 => ?_)
            have i79 := inv_I hI70 (n := 160) (t := 0) 0 31 rfl (in_ix i44 rfl) rfl e79
            refine g_callv (X := _) (As := [.int z79]) (r := []) (b := A 46) (q := 46) 83 (gd rfl) rfl rfl rfl rfl rfl (ww_o rfl) (Nat.le_of_ble_eq_true rfl) (Nat.zero_le _) (Nat.zero_le _) (k_178_46 (by first | exact dq1 hd rfl | exact dq0 hd rfl | exact dq2 hd rfl | exact dq3 hd rfl | omega) hI70 (in_w (-1000000) 1000000 i79 rfl)) (fun e u h => h) (fun v u h => ?_)
            obtain ⟨s80, hI80, hF80, rfl, rfl⟩ := h
            show GG _ _ _ _ _ _ _ _ [] _ _ _
            refine g_aload_n 84 (gd rfl) rfl rfl ?_
            refine g_aload_n 85 (gd rfl) rfl rfl ?_
            refine g_getA (q2 := 36) 88 (gd rfl) rfl rfl rfl rfl ?_
            refine g_iload_n 89 (gd rfl) rfl rfl ?_
            refine g_iaload 90 (gd rfl) rfl (n := 160) rfl (in_ix i44 rfl) (fun z89 e89 => ?_)
            have i89 := inv_I hI80 (n := 160) (t := 0) (-1000000) 1000000 rfl (in_ix i44 rfl) rfl e89
            refine g_callv (X := _) (As := [.int z89]) (r := []) (b := A 46) (q := 46) 93 (gd rfl) rfl rfl rfl rfl rfl (ww_o rfl) (Nat.le_of_ble_eq_true rfl) (Nat.zero_le _) (Nat.zero_le _) (k_178_46 (by first | exact dq1 hd rfl | exact dq0 hd rfl | exact dq2 hd rfl | exact dq3 hd rfl | omega) hI80 (in_w (-1000000) 1000000 i89 rfl)) (fun e u h => h) (fun v u h => ?_)
            obtain ⟨s90, hI90, hF90, rfl, rfl⟩ := h
            show GG _ _ _ _ _ _ _ _ [] _ _ _
            refine g_aload_n 94 (gd rfl) rfl rfl ?_
            refine g_aload_n 95 (gd rfl) rfl rfl ?_
            refine g_getA (q2 := 37) 98 (gd rfl) rfl rfl rfl rfl ?_
            refine g_iload_n 99 (gd rfl) rfl rfl ?_
            refine g_iaload 100 (gd rfl) rfl (n := 160) rfl (in_ix i44 rfl) (fun z99 e99 => ?_)
            have i99 := inv_I hI90 (n := 160) (t := 0) 0 1000000 rfl (in_ix i44 rfl) rfl e99
            refine g_callv (X := _) (As := [.int z99]) (r := []) (b := A 46) (q := 46) 103 (gd rfl) rfl rfl rfl rfl rfl (ww_o rfl) (Nat.le_of_ble_eq_true rfl) (Nat.zero_le _) (Nat.zero_le _) (k_178_46 (by first | exact dq1 hd rfl | exact dq0 hd rfl | exact dq2 hd rfl | exact dq3 hd rfl | omega) hI90 (in_w (-1000000) 1000000 i99 rfl)) (fun e u h => h) (fun v u h => ?_)
            obtain ⟨s100, hI100, hF100, rfl, rfl⟩ := h
            show GG _ _ _ _ _ _ _ _ [] _ _ _
            refine g_aload_n 104 (gd rfl) rfl rfl ?_
            refine g_aload_n 105 (gd rfl) rfl rfl ?_
            refine g_getA (q2 := 38) 108 (gd rfl) rfl rfl rfl rfl ?_
            refine g_iload_n 109 (gd rfl) rfl rfl ?_
            refine g_iaload 110 (gd rfl) rfl (n := 160) rfl (in_ix i44 rfl) (fun z109 e109 => ?_)
            have i109 := inv_I hI100 (n := 160) (t := 0) 0 25 rfl (in_ix i44 rfl) rfl e109
            refine g_callv (X := _) (As := [.int z109]) (r := []) (b := A 46) (q := 46) 113 (gd rfl) rfl rfl rfl rfl rfl (ww_o rfl) (Nat.le_of_ble_eq_true rfl) (mc := 0) (ms := 0) (Nat.zero_le _) (Nat.zero_le _) (P := fun v u => _) ?_ (fun e u h => h) (fun v u h => h)
            intro po110 xx110 hp110 hx110
            refine g_enter2 (k := 176) (N := 300) (by first | exact dq1 hd rfl | exact dq0 hd rfl | exact dq2 hd rfl | exact dq3 hd rfl | omega) rfl (Nat.le_of_ble_eq_true rfl) ?_
            refine g_aload_n 1 (gd rfl) rfl rfl ?_
            refine g_bipush 32 3 (gd rfl) rfl rfl ?_
            refine g_callv (X := _) (As := [.int (Int32.ofInt 32)]) (r := []) (b := A 46) (q := 46) 6 (gd rfl) rfl rfl rfl rfl rfl (ww_o rfl) (Nat.le_of_ble_eq_true rfl) (mc := 0) (ms := 0) (Nat.zero_le _) (Nat.zero_le _) (P := fun v u => _) ?_ (fun e u h => h) (fun v u h => h)
            intro po110x3 xx110x3 hp110x3 hx110x3
            refine g_enter2 (k := 177) (N := 300) (by first | exact dq1 hd rfl | exact dq0 hd rfl | exact dq2 hd rfl | exact dq3 hd rfl | omega) rfl (Nat.le_of_ble_eq_true rfl) ?_
            refine g_aload_n 1 (gd rfl) rfl rfl ?_
            refine g_getI 4 (gd rfl) rfl rfl rfl (fun z110x3x1 e110x3x1 => ?_)
            have i110x3x1 := inv_F hI100 0 4608 rfl e110x3x1
            refine g_aload_n 5 (gd rfl) rfl rfl ?_
            refine g_getA (q2 := 48) 8 (gd rfl) rfl rfl rfl rfl ?_
            refine g_alen (n := 4608) (t := 2) 4608 9 (gd rfl) rfl rfl (Nat.le_of_ble_eq_true rfl) rfl ?_
            refine g_cmp_ge 12 32 (gd rfl) rfl rfl (fun c110x3x9 => ?_) (fun c110x3x9 => ?_)
            · skip
              have i110x3x9 := r_le2 4608 4608 c110x3x9 (in_c 4608 rfl) i110x3x1 rfl
              refine g_return (gd rfl) rfl (hp110x3 _ _ ?_)
              show GG _ _ _ _ _ _ _ _ [] _ _ _
              refine g_aload_n 7 (gd rfl) rfl rfl ?_
              refine g_bipush 97 9 (gd rfl) rfl rfl ?_
              refine g_iload_n 10 (gd rfl) rfl rfl ?_
              refine g_iadd 11 (gd rfl) rfl (fun z110x10 e110x10 => ?_)
              have i110x10 := in_add 97 122 e110x10 (in_c 97 rfl) i109 rfl rfl
              refine g_i2c 12 (gd rfl) rfl (fun z110x11 e110x11 => ?_)
              have i110x11 := in_i2c e110x11
              refine g_callv (X := _) (As := [.int z110x11]) (r := []) (b := A 46) (q := 46) 15 (gd rfl) rfl rfl rfl rfl rfl (ww_o rfl) (Nat.le_of_ble_eq_true rfl) (mc := 0) (ms := 0) (Nat.zero_le _) (Nat.zero_le _) (P := fun v u => _) ?_ (fun e u h => h) (fun v u h => h)
              intro po110x12 xx110x12 hp110x12 hx110x12
              refine g_enter2 (k := 177) (N := 300) (by first | exact dq1 hd rfl | exact dq0 hd rfl | exact dq2 hd rfl | exact dq3 hd rfl | omega) rfl (Nat.le_of_ble_eq_true rfl) ?_
              refine g_aload_n 1 (gd rfl) rfl rfl ?_
              refine g_getI 4 (gd rfl) rfl rfl rfl (fun z110x12x1 e110x12x1 => ?_)
              have q110x12x1 : z110x3x1 = z110x12x1 := (e110x3x1).trans e110x12x1.symm
              subst q110x12x1
              refine g_aload_n 5 (gd rfl) rfl rfl ?_
              refine g_getA (q2 := 48) 8 (gd rfl) rfl rfl rfl rfl ?_
              refine g_alen (n := 4608) (t := 2) 4608 9 (gd rfl) rfl rfl (Nat.le_of_ble_eq_true rfl) rfl ?_
              refine g_cmp_ge 12 32 (gd rfl) rfl rfl (fun c110x12x9 => ?_) (fun c110x12x9 => ?_)
              · skip
                refine g_return (gd rfl) rfl (hp110x12 _ _ ?_)
                show GG _ _ _ _ _ _ _ _ [] _ _ _
                refine g_aload_n 16 (gd rfl) rfl rfl ?_
                refine g_bipush 59 18 (gd rfl) rfl rfl ?_
                refine g_callv (X := _) (As := [.int (Int32.ofInt 59)]) (r := []) (b := A 46) (q := 46) 21 (gd rfl) rfl rfl rfl rfl rfl (ww_o rfl) (Nat.le_of_ble_eq_true rfl) (mc := 0) (ms := 0) (Nat.zero_le _) (Nat.zero_le _) (P := fun v u => _) ?_ (fun e u h => h) (fun v u h => h)
                intro po110x18 xx110x18 hp110x18 hx110x18
                refine g_enter2 (k := 177) (N := 300) (by first | exact dq1 hd rfl | exact dq0 hd rfl | exact dq2 hd rfl | exact dq3 hd rfl | omega) rfl (Nat.le_of_ble_eq_true rfl) ?_
                refine g_aload_n 1 (gd rfl) rfl rfl ?_
                refine g_getI 4 (gd rfl) rfl rfl rfl (fun z110x18x1 e110x18x1 => ?_)
                have q110x18x1 : z110x3x1 = z110x18x1 := (e110x3x1).trans e110x18x1.symm
                subst q110x18x1
                refine g_aload_n 5 (gd rfl) rfl rfl ?_
                refine g_getA (q2 := 48) 8 (gd rfl) rfl rfl rfl rfl ?_
                refine g_alen (n := 4608) (t := 2) 4608 9 (gd rfl) rfl rfl (Nat.le_of_ble_eq_true rfl) rfl ?_
                refine g_cmp_ge 12 32 (gd rfl) rfl rfl (fun c110x18x9 => ?_) (fun c110x18x9 => ?_)
                · skip
                  refine g_return (gd rfl) rfl (hp110x18 _ _ ?_)
                  show GG _ _ _ _ _ _ _ _ [] _ _ _
                  refine g_return (gd rfl) rfl (hp110 _ _ ?_)
                  show GG _ _ _ _ _ _ _ _ [] _ _ _
                  exact gg_w (by first | exact Nat.le_add_right _ _ | exact gw2 | exact gw3 | exact gwe rfl | exact gwf rfl | exact gwg rfl | exact gwh rfl | omega) (gg_f (gf_cons rfl (gf_cons rfl (gf_cons rfl gf_nil))) (ct113 s100  hI100 (fr_tr rfl (fr_tr rfl (fr_tr rfl (fr_tr rfl (fr_sF rfl (fr_sI rfl hFc39)) hF70) hF80) hF90) hF100) (in_w 0 159 i44 rfl)))
                · skip
                  exact n_lt c110x18x9 i110x3x9 (in_c 4608 rfl) rfl
              · skip
                exact n_lt c110x12x9 i110x3x9 (in_c 4608 rfl) rfl
            · skip
              have i110x3x9 := r_lt1 0 4607 c110x3x9 i110x3x1 (in_c 4608 rfl) rfl
              refine g_aload_n 13 (gd rfl) rfl rfl ?_
              refine g_getA (q2 := 48) 16 (gd rfl) rfl rfl rfl rfl ?_
              refine g_aload_n 17 (gd rfl) rfl rfl ?_
              refine g_getI 20 (gd rfl) rfl rfl rfl (fun z110x3x17 e110x3x17 => ?_)
              have q110x3x17 : z110x3x1 = z110x3x17 := (e110x3x1).trans e110x3x17.symm
              subst q110x3x17
              refine g_iload_n 21 (gd rfl) rfl rfl ?_
              refine g_castore 22 (gd rfl) rfl (n := 4608) rfl (in_ix i110x3x9 rfl) ?_
              have hI110x3x21 := inv_sI (q := 48) (j := z110x3x1.toNatClampNeg) hI100 rfl (in_w 0 65535 (nar_c (Int32.ofInt 32)) rfl)
              refine g_aload_n 23 (gd rfl) rfl rfl ?_
              refine g_dup 24 (gd rfl) rfl rfl ?_
              refine g_getI 27 (gd rfl) rfl rfl rfl (fun z110x3x24 e110x3x24 => ?_)
              have q110x3x24 : z110x3x1 = z110x3x24 := (sI_F (e110x3x1)).trans e110x3x24.symm
              subst q110x3x24
              refine g_iconst 1 28 (gd rfl) rfl rfl ?_
              refine g_iadd 29 (gd rfl) rfl (fun z110x3x28 e110x3x28 => ?_)
              have i110x3x28 := in_add 1 4608 e110x3x28 i110x3x9 (in_c 1 rfl) rfl rfl
              refine g_putI 32 (gd rfl) rfl rfl rfl rfl ?_
              have hI110x3x29 := inv_sF (q := 46) (j := 9) hI110x3x21 rfl (in_w 0 4608 i110x3x28 rfl)
              refine g_return (gd rfl) rfl (hp110x3 _ _ ?_)
              show GG _ _ _ _ _ _ _ _ [] _ _ _
              refine g_aload_n 7 (gd rfl) rfl rfl ?_
              refine g_bipush 97 9 (gd rfl) rfl rfl ?_
              refine g_iload_n 10 (gd rfl) rfl rfl ?_
              refine g_iadd 11 (gd rfl) rfl (fun z110x10 e110x10 => ?_)
              have i110x10 := in_add 97 122 e110x10 (in_c 97 rfl) i109 rfl rfl
              refine g_i2c 12 (gd rfl) rfl (fun z110x11 e110x11 => ?_)
              have i110x11 := in_i2c e110x11
              refine g_callv (X := _) (As := [.int z110x11]) (r := []) (b := A 46) (q := 46) 15 (gd rfl) rfl rfl rfl rfl rfl (ww_o rfl) (Nat.le_of_ble_eq_true rfl) (mc := 0) (ms := 0) (Nat.zero_le _) (Nat.zero_le _) (P := fun v u => _) ?_ (fun e u h => h) (fun v u h => h)
              intro po110x12 xx110x12 hp110x12 hx110x12
              refine g_enter2 (k := 177) (N := 300) (by first | exact dq1 hd rfl | exact dq0 hd rfl | exact dq2 hd rfl | exact dq3 hd rfl | omega) rfl (Nat.le_of_ble_eq_true rfl) ?_
              refine g_aload_n 1 (gd rfl) rfl rfl ?_
              refine g_getI 4 (gd rfl) rfl rfl rfl (fun z110x12x1 e110x12x1 => ?_)
              have q110x12x1 : z110x3x28 = z110x12x1 := (sF_get).trans e110x12x1.symm
              subst q110x12x1
              refine g_aload_n 5 (gd rfl) rfl rfl ?_
              refine g_getA (q2 := 48) 8 (gd rfl) rfl rfl rfl rfl ?_
              refine g_alen (n := 4608) (t := 2) 4608 9 (gd rfl) rfl rfl (Nat.le_of_ble_eq_true rfl) rfl ?_
              refine g_cmp_ge 12 32 (gd rfl) rfl rfl (fun c110x12x9 => ?_) (fun c110x12x9 => ?_)
              · skip
                have i110x12x9 := r_le2 4608 4608 c110x12x9 (in_c 4608 rfl) i110x3x28 rfl
                refine g_return (gd rfl) rfl (hp110x12 _ _ ?_)
                show GG _ _ _ _ _ _ _ _ [] _ _ _
                refine g_aload_n 16 (gd rfl) rfl rfl ?_
                refine g_bipush 59 18 (gd rfl) rfl rfl ?_
                refine g_callv (X := _) (As := [.int (Int32.ofInt 59)]) (r := []) (b := A 46) (q := 46) 21 (gd rfl) rfl rfl rfl rfl rfl (ww_o rfl) (Nat.le_of_ble_eq_true rfl) (mc := 0) (ms := 0) (Nat.zero_le _) (Nat.zero_le _) (P := fun v u => _) ?_ (fun e u h => h) (fun v u h => h)
                intro po110x18 xx110x18 hp110x18 hx110x18
                refine g_enter2 (k := 177) (N := 300) (by first | exact dq1 hd rfl | exact dq0 hd rfl | exact dq2 hd rfl | exact dq3 hd rfl | omega) rfl (Nat.le_of_ble_eq_true rfl) ?_
                refine g_aload_n 1 (gd rfl) rfl rfl ?_
                refine g_getI 4 (gd rfl) rfl rfl rfl (fun z110x18x1 e110x18x1 => ?_)
                have q110x18x1 : z110x3x28 = z110x18x1 := (sF_get).trans e110x18x1.symm
                subst q110x18x1
                refine g_aload_n 5 (gd rfl) rfl rfl ?_
                refine g_getA (q2 := 48) 8 (gd rfl) rfl rfl rfl rfl ?_
                refine g_alen (n := 4608) (t := 2) 4608 9 (gd rfl) rfl rfl (Nat.le_of_ble_eq_true rfl) rfl ?_
                refine g_cmp_ge 12 32 (gd rfl) rfl rfl (fun c110x18x9 => ?_) (fun c110x18x9 => ?_)
                · skip
                  refine g_return (gd rfl) rfl (hp110x18 _ _ ?_)
                  show GG _ _ _ _ _ _ _ _ [] _ _ _
                  refine g_return (gd rfl) rfl (hp110 _ _ ?_)
                  show GG _ _ _ _ _ _ _ _ [] _ _ _
                  exact gg_w (by first | exact Nat.le_add_right _ _ | exact gw2 | exact gw3 | exact gwe rfl | exact gwf rfl | exact gwg rfl | exact gwh rfl | omega) (gg_f (gf_cons rfl (gf_cons rfl (gf_cons rfl gf_nil))) (ct113 (sF (sI s100 48 z110x3x1.toNatClampNeg (vp_nar .char (Int32.ofInt 32))) 46 9 z110x3x28)  hI110x3x29 (fr_sF rfl (fr_sI rfl (fr_tr rfl (fr_tr rfl (fr_tr rfl (fr_tr rfl (fr_sF rfl (fr_sI rfl hFc39)) hF70) hF80) hF90) hF100))) (in_w 0 159 i44 rfl)))
                · skip
                  exact n_lt c110x18x9 i110x12x9 (in_c 4608 rfl) rfl
              · skip
                have i110x12x9 := r_lt1 1 4607 c110x12x9 i110x3x28 (in_c 4608 rfl) rfl
                refine g_aload_n 13 (gd rfl) rfl rfl ?_
                refine g_getA (q2 := 48) 16 (gd rfl) rfl rfl rfl rfl ?_
                refine g_aload_n 17 (gd rfl) rfl rfl ?_
                refine g_getI 20 (gd rfl) rfl rfl rfl (fun z110x12x17 e110x12x17 => ?_)
                have q110x12x17 : z110x3x28 = z110x12x17 := (sF_get).trans e110x12x17.symm
                subst q110x12x17
                refine g_iload_n 21 (gd rfl) rfl rfl ?_
                refine g_castore 22 (gd rfl) rfl (n := 4608) rfl (in_ix i110x12x9 rfl) ?_
                have hI110x12x21 := inv_sI (q := 48) (j := z110x3x28.toNatClampNeg) hI110x3x29 rfl (in_w 0 65535 (nar_c z110x11) rfl)
                refine g_aload_n 23 (gd rfl) rfl rfl ?_
                refine g_dup 24 (gd rfl) rfl rfl ?_
                refine g_getI 27 (gd rfl) rfl rfl rfl (fun z110x12x24 e110x12x24 => ?_)
                have q110x12x24 : z110x3x28 = z110x12x24 := (sI_F (sF_get)).trans e110x12x24.symm
                subst q110x12x24
                refine g_iconst 1 28 (gd rfl) rfl rfl ?_
                refine g_iadd 29 (gd rfl) rfl (fun z110x12x28 e110x12x28 => ?_)
                have i110x12x28 := in_add 2 4608 e110x12x28 i110x12x9 (in_c 1 rfl) rfl rfl
                refine g_putI 32 (gd rfl) rfl rfl rfl rfl ?_
                have hI110x12x29 := inv_sF (q := 46) (j := 9) hI110x12x21 rfl (in_w 0 4608 i110x12x28 rfl)
                refine g_return (gd rfl) rfl (hp110x12 _ _ ?_)
                show GG _ _ _ _ _ _ _ _ [] _ _ _
                refine g_aload_n 16 (gd rfl) rfl rfl ?_
                refine g_bipush 59 18 (gd rfl) rfl rfl ?_
                refine g_callv (X := _) (As := [.int (Int32.ofInt 59)]) (r := []) (b := A 46) (q := 46) 21 (gd rfl) rfl rfl rfl rfl rfl (ww_o rfl) (Nat.le_of_ble_eq_true rfl) (mc := 0) (ms := 0) (Nat.zero_le _) (Nat.zero_le _) (P := fun v u => _) ?_ (fun e u h => h) (fun v u h => h)
                intro po110x18 xx110x18 hp110x18 hx110x18
                refine g_enter2 (k := 177) (N := 300) (by first | exact dq1 hd rfl | exact dq0 hd rfl | exact dq2 hd rfl | exact dq3 hd rfl | omega) rfl (Nat.le_of_ble_eq_true rfl) ?_
                refine g_aload_n 1 (gd rfl) rfl rfl ?_
                refine g_getI 4 (gd rfl) rfl rfl rfl (fun z110x18x1 e110x18x1 => ?_)
                have q110x18x1 : z110x12x28 = z110x18x1 := (sF_get).trans e110x18x1.symm
                subst q110x18x1
                refine g_aload_n 5 (gd rfl) rfl rfl ?_
                refine g_getA (q2 := 48) 8 (gd rfl) rfl rfl rfl rfl ?_
                refine g_alen (n := 4608) (t := 2) 4608 9 (gd rfl) rfl rfl (Nat.le_of_ble_eq_true rfl) rfl ?_
                refine g_cmp_ge 12 32 (gd rfl) rfl rfl (fun c110x18x9 => ?_) (fun c110x18x9 => ?_)
                · skip
                  have i110x18x9 := r_le2 4608 4608 c110x18x9 (in_c 4608 rfl) i110x12x28 rfl
                  refine g_return (gd rfl) rfl (hp110x18 _ _ ?_)
                  show GG _ _ _ _ _ _ _ _ [] _ _ _
                  refine g_return (gd rfl) rfl (hp110 _ _ ?_)
                  show GG _ _ _ _ _ _ _ _ [] _ _ _
                  exact gg_w (by first | exact Nat.le_add_right _ _ | exact gw2 | exact gw3 | exact gwe rfl | exact gwf rfl | exact gwg rfl | exact gwh rfl | omega) (gg_f (gf_cons rfl (gf_cons rfl (gf_cons rfl gf_nil))) (ct113 (sF (sI (sF (sI s100 48 z110x3x1.toNatClampNeg (vp_nar .char (Int32.ofInt 32))) 46 9 z110x3x28) 48 z110x3x28.toNatClampNeg (vp_nar .char z110x11)) 46 9 z110x12x28)  hI110x12x29 (fr_sF rfl (fr_sI rfl (fr_sF rfl (fr_sI rfl (fr_tr rfl (fr_tr rfl (fr_tr rfl (fr_tr rfl (fr_sF rfl (fr_sI rfl hFc39)) hF70) hF80) hF90) hF100))))) (in_w 0 159 i44 rfl)))
                · skip
                  have i110x18x9 := r_lt1 2 4607 c110x18x9 i110x12x28 (in_c 4608 rfl) rfl
                  refine g_aload_n 13 (gd rfl) rfl rfl ?_
                  refine g_getA (q2 := 48) 16 (gd rfl) rfl rfl rfl rfl ?_
                  refine g_aload_n 17 (gd rfl) rfl rfl ?_
                  refine g_getI 20 (gd rfl) rfl rfl rfl (fun z110x18x17 e110x18x17 => ?_)
                  have q110x18x17 : z110x12x28 = z110x18x17 := (sF_get).trans e110x18x17.symm
                  subst q110x18x17
                  refine g_iload_n 21 (gd rfl) rfl rfl ?_
                  refine g_castore 22 (gd rfl) rfl (n := 4608) rfl (in_ix i110x18x9 rfl) ?_
                  have hI110x18x21 := inv_sI (q := 48) (j := z110x12x28.toNatClampNeg) hI110x12x29 rfl (in_w 0 65535 (nar_c (Int32.ofInt 59)) rfl)
                  refine g_aload_n 23 (gd rfl) rfl rfl ?_
                  refine g_dup 24 (gd rfl) rfl rfl ?_
                  refine g_getI 27 (gd rfl) rfl rfl rfl (fun z110x18x24 e110x18x24 => ?_)
                  have q110x18x24 : z110x12x28 = z110x18x24 := (sI_F (sF_get)).trans e110x18x24.symm
                  subst q110x18x24
                  refine g_iconst 1 28 (gd rfl) rfl rfl ?_
                  refine g_iadd 29 (gd rfl) rfl (fun z110x18x28 e110x18x28 => ?_)
                  have i110x18x28 := in_add 3 4608 e110x18x28 i110x18x9 (in_c 1 rfl) rfl rfl
                  refine g_putI 32 (gd rfl) rfl rfl rfl rfl ?_
                  have hI110x18x29 := inv_sF (q := 46) (j := 9) hI110x18x21 rfl (in_w 0 4608 i110x18x28 rfl)
                  refine g_return (gd rfl) rfl (hp110x18 _ _ ?_)
                  show GG _ _ _ _ _ _ _ _ [] _ _ _
                  refine g_return (gd rfl) rfl (hp110 _ _ ?_)
                  show GG _ _ _ _ _ _ _ _ [] _ _ _
                  exact gg_w (by first | exact Nat.le_add_right _ _ | exact gw2 | exact gw3 | exact gwe rfl | exact gwf rfl | exact gwg rfl | exact gwh rfl | omega) (gg_f (gf_cons rfl (gf_cons rfl (gf_cons rfl gf_nil))) (ct113 (sF (sI (sF (sI (sF (sI s100 48 z110x3x1.toNatClampNeg (vp_nar .char (Int32.ofInt 32))) 46 9 z110x3x28) 48 z110x3x28.toNatClampNeg (vp_nar .char z110x11)) 46 9 z110x12x28) 48 z110x12x28.toNatClampNeg (vp_nar .char (Int32.ofInt 59))) 46 9 z110x18x28)  hI110x18x29 (fr_sF rfl (fr_sI rfl (fr_sF rfl (fr_sI rfl (fr_sF rfl (fr_sI rfl (fr_tr rfl (fr_tr rfl (fr_tr rfl (fr_tr rfl (fr_sF rfl (fr_sI rfl hFc39)) hF70) hF80) hF90) hF100))))))) (in_w 0 159 i44 rfl)))
  have ct7 : ∀ (k7 : Nat) (sc7 : GS) (y7_2 : Int32), Inv sc7 → Fr fm_175_46_32 s sc7 → (In y7_2 0 32) → 32 - (y7_2).toInt < (k7 : Int) → GG Z (d - 1) 175 post (gx xp) (289963 + k7 * 900) 7 (fun j => xlook j [(0, .ref (A 46)), (1, .ref (A 32)), (2, .int y7_2)]) [] (WW Z A sc7 ++ ex) 0 0 := by
    intro k7
    induction k7 with
    | zero => intro sc7 y7_2 hIc7 hFc7 j7_2 mm7; exact m_no mm7 j7_2 rfl
    | succ k7 ih7 =>
      intro sc7 y7_2 hIc7 hFc7 j7_2 mm7
      refine gg_w (M := 289963 + k7 * 900 + 900) gws ?_
      refine g_iload_n 8 (gd rfl) rfl rfl ?_
      refine g_aload_n 9 (gd rfl) rfl rfl ?_
      refine g_getI 12 (gd rfl) rfl rfl rfl (fun z9 e9 => ?_)
      have q9 : u_32_1 = z9 := (fr_F e_32_1 hFc7 rfl).trans e9.symm
      subst q9
      refine g_cmp_ge 15 37 (gd rfl) rfl rfl (fun c12 => ?_) (fun c12 => ?_)
      · skip
        refine g_iconst 0 38 (gd rfl) rfl rfl ?_
        refine g_istore_n 39 (gd rfl) rfl (Nat.le_of_ble_eq_true rfl) ?_
        exact gg_w (by first | exact Nat.le_add_right _ _ | exact gw2 | exact gw3 | exact gwe rfl | exact gwf rfl | exact gwg rfl | exact gwh rfl | omega) (gg_f (gf_cons rfl (gf_cons rfl (gf_cons rfl gf_nil))) (ct39 161 sc7 (Int32.ofInt 0) hIc7 hFc7 (in_w 0 160 (in_c 0 rfl) rfl) (m_in 161 (in_w 0 160 (in_c 0 rfl) rfl) rfl)))
      · skip
        have i12 := r_lt1 0 31 c12 j7_2 ro_32_1 rfl
        have i12a := r_lt2 1 32 c12 j7_2 ro_32_1 rfl
        refine g_aload_n 16 (gd rfl) rfl rfl ?_
        refine g_bipush 110 18 (gd rfl) rfl rfl ?_
        refine g_callv (X := _) (As := [.int (Int32.ofInt 110)]) (r := []) (b := A 46) (q := 46) 21 (gd rfl) rfl rfl rfl rfl rfl (ww_o rfl) (Nat.le_of_ble_eq_true rfl) (mc := 0) (ms := 0) (Nat.zero_le _) (Nat.zero_le _) (P := fun v u => _) ?_ (fun e u h => h) (fun v u h => h)
        intro po18 xx18 hp18 hx18
        refine g_enter2 (k := 177) (N := 300) (by first | exact dq1 hd rfl | exact dq0 hd rfl | exact dq2 hd rfl | exact dq3 hd rfl | omega) rfl (Nat.le_of_ble_eq_true rfl) ?_
        refine g_aload_n 1 (gd rfl) rfl rfl ?_
        refine g_getI 4 (gd rfl) rfl rfl rfl (fun z18x1 e18x1 => ?_)
        have i18x1 := inv_F hIc7 0 4608 rfl e18x1
        refine g_aload_n 5 (gd rfl) rfl rfl ?_
        refine g_getA (q2 := 48) 8 (gd rfl) rfl rfl rfl rfl ?_
        refine g_alen (n := 4608) (t := 2) 4608 9 (gd rfl) rfl rfl (Nat.le_of_ble_eq_true rfl) rfl ?_
        refine g_cmp_ge 12 32 (gd rfl) rfl rfl (fun c18x9 => ?_) (fun c18x9 => ?_)
        · skip
          have i18x9 := r_le2 4608 4608 c18x9 (in_c 4608 rfl) i18x1 rfl
          refine g_return (gd rfl) rfl (hp18 _ _ ?_)
          show GG _ _ _ _ _ _ _ _ [] _ _ _
          refine g_aload_n 22 (gd rfl) rfl rfl ?_
          refine g_aload_n 23 (gd rfl) rfl rfl ?_
          refine g_getA (q2 := 33) 26 (gd rfl) rfl rfl rfl rfl ?_
          refine g_iload_n 27 (gd rfl) rfl rfl ?_
          refine g_iaload 28 (gd rfl) rfl (n := 32) rfl (in_ix i12 rfl) (fun z27 e27 => ?_)
          have i27 := inv_I hIc7 (n := 32) (t := 0) 0 25 rfl (in_ix i12 rfl) rfl e27
          refine g_callv (X := _) (As := [.int z27]) (r := []) (b := A 46) (q := 46) 31 (gd rfl) rfl rfl rfl rfl rfl (ww_o rfl) (Nat.le_of_ble_eq_true rfl) (mc := 0) (ms := 0) (Nat.zero_le _) (Nat.zero_le _) (P := fun v u => _) ?_ (fun e u h => h) (fun v u h => h)
          intro po28 xx28 hp28 hx28
          refine g_enter2 (k := 176) (N := 300) (by first | exact dq1 hd rfl | exact dq0 hd rfl | exact dq2 hd rfl | exact dq3 hd rfl | omega) rfl (Nat.le_of_ble_eq_true rfl) ?_
          refine g_aload_n 1 (gd rfl) rfl rfl ?_
          refine g_bipush 32 3 (gd rfl) rfl rfl ?_
          refine g_callv (X := _) (As := [.int (Int32.ofInt 32)]) (r := []) (b := A 46) (q := 46) 6 (gd rfl) rfl rfl rfl rfl rfl (ww_o rfl) (Nat.le_of_ble_eq_true rfl) (mc := 0) (ms := 0) (Nat.zero_le _) (Nat.zero_le _) (P := fun v u => _) ?_ (fun e u h => h) (fun v u h => h)
          intro po28x3 xx28x3 hp28x3 hx28x3
          refine g_enter2 (k := 177) (N := 300) (by first | exact dq1 hd rfl | exact dq0 hd rfl | exact dq2 hd rfl | exact dq3 hd rfl | omega) rfl (Nat.le_of_ble_eq_true rfl) ?_
          refine g_aload_n 1 (gd rfl) rfl rfl ?_
          refine g_getI 4 (gd rfl) rfl rfl rfl (fun z28x3x1 e28x3x1 => ?_)
          have q28x3x1 : z18x1 = z28x3x1 := (e18x1).trans e28x3x1.symm
          subst q28x3x1
          refine g_aload_n 5 (gd rfl) rfl rfl ?_
          refine g_getA (q2 := 48) 8 (gd rfl) rfl rfl rfl rfl ?_
          refine g_alen (n := 4608) (t := 2) 4608 9 (gd rfl) rfl rfl (Nat.le_of_ble_eq_true rfl) rfl ?_
          refine g_cmp_ge 12 32 (gd rfl) rfl rfl (fun c28x3x9 => ?_) (fun c28x3x9 => ?_)
          · skip
            refine g_return (gd rfl) rfl (hp28x3 _ _ ?_)
            show GG _ _ _ _ _ _ _ _ [] _ _ _
            refine g_aload_n 7 (gd rfl) rfl rfl ?_
            refine g_bipush 97 9 (gd rfl) rfl rfl ?_
            refine g_iload_n 10 (gd rfl) rfl rfl ?_
            refine g_iadd 11 (gd rfl) rfl (fun z28x10 e28x10 => ?_)
            have i28x10 := in_add 97 122 e28x10 (in_c 97 rfl) i27 rfl rfl
            refine g_i2c 12 (gd rfl) rfl (fun z28x11 e28x11 => ?_)
            have i28x11 := in_i2c e28x11
            refine g_callv (X := _) (As := [.int z28x11]) (r := []) (b := A 46) (q := 46) 15 (gd rfl) rfl rfl rfl rfl rfl (ww_o rfl) (Nat.le_of_ble_eq_true rfl) (mc := 0) (ms := 0) (Nat.zero_le _) (Nat.zero_le _) (P := fun v u => _) ?_ (fun e u h => h) (fun v u h => h)
            intro po28x12 xx28x12 hp28x12 hx28x12
            refine g_enter2 (k := 177) (N := 300) (by first | exact dq1 hd rfl | exact dq0 hd rfl | exact dq2 hd rfl | exact dq3 hd rfl | omega) rfl (Nat.le_of_ble_eq_true rfl) ?_
            refine g_aload_n 1 (gd rfl) rfl rfl ?_
            refine g_getI 4 (gd rfl) rfl rfl rfl (fun z28x12x1 e28x12x1 => ?_)
            have q28x12x1 : z18x1 = z28x12x1 := (e18x1).trans e28x12x1.symm
            subst q28x12x1
            refine g_aload_n 5 (gd rfl) rfl rfl ?_
            refine g_getA (q2 := 48) 8 (gd rfl) rfl rfl rfl rfl ?_
            refine g_alen (n := 4608) (t := 2) 4608 9 (gd rfl) rfl rfl (Nat.le_of_ble_eq_true rfl) rfl ?_
            refine g_cmp_ge 12 32 (gd rfl) rfl rfl (fun c28x12x9 => ?_) (fun c28x12x9 => ?_)
            · skip
              refine g_return (gd rfl) rfl (hp28x12 _ _ ?_)
              show GG _ _ _ _ _ _ _ _ [] _ _ _
              refine g_aload_n 16 (gd rfl) rfl rfl ?_
              refine g_bipush 59 18 (gd rfl) rfl rfl ?_
              refine g_callv (X := _) (As := [.int (Int32.ofInt 59)]) (r := []) (b := A 46) (q := 46) 21 (gd rfl) rfl rfl rfl rfl rfl (ww_o rfl) (Nat.le_of_ble_eq_true rfl) (mc := 0) (ms := 0) (Nat.zero_le _) (Nat.zero_le _) (P := fun v u => _) ?_ (fun e u h => h) (fun v u h => h)
              intro po28x18 xx28x18 hp28x18 hx28x18
              refine g_enter2 (k := 177) (N := 300) (by first | exact dq1 hd rfl | exact dq0 hd rfl | exact dq2 hd rfl | exact dq3 hd rfl | omega) rfl (Nat.le_of_ble_eq_true rfl) ?_
              refine g_aload_n 1 (gd rfl) rfl rfl ?_
              refine g_getI 4 (gd rfl) rfl rfl rfl (fun z28x18x1 e28x18x1 => ?_)
              have q28x18x1 : z18x1 = z28x18x1 := (e18x1).trans e28x18x1.symm
              subst q28x18x1
              refine g_aload_n 5 (gd rfl) rfl rfl ?_
              refine g_getA (q2 := 48) 8 (gd rfl) rfl rfl rfl rfl ?_
              refine g_alen (n := 4608) (t := 2) 4608 9 (gd rfl) rfl rfl (Nat.le_of_ble_eq_true rfl) rfl ?_
              refine g_cmp_ge 12 32 (gd rfl) rfl rfl (fun c28x18x9 => ?_) (fun c28x18x9 => ?_)
              · skip
                refine g_return (gd rfl) rfl (hp28x18 _ _ ?_)
                show GG _ _ _ _ _ _ _ _ [] _ _ _
                refine g_return (gd rfl) rfl (hp28 _ _ ?_)
                show GG _ _ _ _ _ _ _ _ [] _ _ _
                refine g_iinc 34 (gd rfl) rfl rfl (Nat.le_of_ble_eq_true rfl) (fun z31 e31 => ?_)
                have i31 := in_add 1 32 e31 i12 (in_c 1 rfl) rfl rfl
                refine g_goto 7 (gd rfl) rfl ?_
                exact gg_w (by first | exact Nat.le_add_right _ _ | exact gw2 | exact gw3 | exact gwe rfl | exact gwf rfl | exact gwg rfl | exact gwh rfl | omega) (gg_f (gf_cons rfl (gf_cons rfl (gf_cons rfl gf_nil))) (ih7 sc7 z31 hIc7 hFc7 (in_w 0 32 i31 rfl) (m_up mm7 (t_add e31 i12 (in_c 1 rfl) rfl) (in_w 1 1 (in_c 1 rfl) rfl))))
              · skip
                exact n_lt c28x18x9 i18x9 (in_c 4608 rfl) rfl
            · skip
              exact n_lt c28x12x9 i18x9 (in_c 4608 rfl) rfl
          · skip
            exact n_lt c28x3x9 i18x9 (in_c 4608 rfl) rfl
        · skip
          have i18x9 := r_lt1 0 4607 c18x9 i18x1 (in_c 4608 rfl) rfl
          refine g_aload_n 13 (gd rfl) rfl rfl ?_
          refine g_getA (q2 := 48) 16 (gd rfl) rfl rfl rfl rfl ?_
          refine g_aload_n 17 (gd rfl) rfl rfl ?_
          refine g_getI 20 (gd rfl) rfl rfl rfl (fun z18x17 e18x17 => ?_)
          have q18x17 : z18x1 = z18x17 := (e18x1).trans e18x17.symm
          subst q18x17
          refine g_iload_n 21 (gd rfl) rfl rfl ?_
          refine g_castore 22 (gd rfl) rfl (n := 4608) rfl (in_ix i18x9 rfl) ?_
          have hI18x21 := inv_sI (q := 48) (j := z18x1.toNatClampNeg) hIc7 rfl (in_w 0 65535 (nar_c (Int32.ofInt 110)) rfl)
          refine g_aload_n 23 (gd rfl) rfl rfl ?_
          refine g_dup 24 (gd rfl) rfl rfl ?_
          refine g_getI 27 (gd rfl) rfl rfl rfl (fun z18x24 e18x24 => ?_)
          have q18x24 : z18x1 = z18x24 := (sI_F (e18x1)).trans e18x24.symm
          subst q18x24
          refine g_iconst 1 28 (gd rfl) rfl rfl ?_
          refine g_iadd 29 (gd rfl) rfl (fun z18x28 e18x28 => ?_)
          have i18x28 := in_add 1 4608 e18x28 i18x9 (in_c 1 rfl) rfl rfl
          refine g_putI 32 (gd rfl) rfl rfl rfl rfl ?_
          have hI18x29 := inv_sF (q := 46) (j := 9) hI18x21 rfl (in_w 0 4608 i18x28 rfl)
          refine g_return (gd rfl) rfl (hp18 _ _ ?_)
          show GG _ _ _ _ _ _ _ _ [] _ _ _
          refine g_aload_n 22 (gd rfl) rfl rfl ?_
          refine g_aload_n 23 (gd rfl) rfl rfl ?_
          refine g_getA (q2 := 33) 26 (gd rfl) rfl rfl rfl rfl ?_
          refine g_iload_n 27 (gd rfl) rfl rfl ?_
          refine g_iaload 28 (gd rfl) rfl (n := 32) rfl (in_ix i12 rfl) (fun z27 e27 => ?_)
          have i27 := inv_I hI18x29 (n := 32) (t := 0) 0 25 rfl (in_ix i12 rfl) rfl e27
          refine g_callv (X := _) (As := [.int z27]) (r := []) (b := A 46) (q := 46) 31 (gd rfl) rfl rfl rfl rfl rfl (ww_o rfl) (Nat.le_of_ble_eq_true rfl) (mc := 0) (ms := 0) (Nat.zero_le _) (Nat.zero_le _) (P := fun v u => _) ?_ (fun e u h => h) (fun v u h => h)
          intro po28 xx28 hp28 hx28
          refine g_enter2 (k := 176) (N := 300) (by first | exact dq1 hd rfl | exact dq0 hd rfl | exact dq2 hd rfl | exact dq3 hd rfl | omega) rfl (Nat.le_of_ble_eq_true rfl) ?_
          refine g_aload_n 1 (gd rfl) rfl rfl ?_
          refine g_bipush 32 3 (gd rfl) rfl rfl ?_
          refine g_callv (X := _) (As := [.int (Int32.ofInt 32)]) (r := []) (b := A 46) (q := 46) 6 (gd rfl) rfl rfl rfl rfl rfl (ww_o rfl) (Nat.le_of_ble_eq_true rfl) (mc := 0) (ms := 0) (Nat.zero_le _) (Nat.zero_le _) (P := fun v u => _) ?_ (fun e u h => h) (fun v u h => h)
          intro po28x3 xx28x3 hp28x3 hx28x3
          refine g_enter2 (k := 177) (N := 300) (by first | exact dq1 hd rfl | exact dq0 hd rfl | exact dq2 hd rfl | exact dq3 hd rfl | omega) rfl (Nat.le_of_ble_eq_true rfl) ?_
          refine g_aload_n 1 (gd rfl) rfl rfl ?_
          refine g_getI 4 (gd rfl) rfl rfl rfl (fun z28x3x1 e28x3x1 => ?_)
          have q28x3x1 : z18x28 = z28x3x1 := (sF_get).trans e28x3x1.symm
          subst q28x3x1
          refine g_aload_n 5 (gd rfl) rfl rfl ?_
          refine g_getA (q2 := 48) 8 (gd rfl) rfl rfl rfl rfl ?_
          refine g_alen (n := 4608) (t := 2) 4608 9 (gd rfl) rfl rfl (Nat.le_of_ble_eq_true rfl) rfl ?_
          refine g_cmp_ge 12 32 (gd rfl) rfl rfl (fun c28x3x9 => ?_) (fun c28x3x9 => ?_)
          · skip
            have i28x3x9 := r_le2 4608 4608 c28x3x9 (in_c 4608 rfl) i18x28 rfl
            refine g_return (gd rfl) rfl (hp28x3 _ _ ?_)
            show GG _ _ _ _ _ _ _ _ [] _ _ _
            refine g_aload_n 7 (gd rfl) rfl rfl ?_
            refine g_bipush 97 9 (gd rfl) rfl rfl ?_
            refine g_iload_n 10 (gd rfl) rfl rfl ?_
            refine g_iadd 11 (gd rfl) rfl (fun z28x10 e28x10 => ?_)
            have i28x10 := in_add 97 122 e28x10 (in_c 97 rfl) i27 rfl rfl
            refine g_i2c 12 (gd rfl) rfl (fun z28x11 e28x11 => ?_)
            have i28x11 := in_i2c e28x11
            refine g_callv (X := _) (As := [.int z28x11]) (r := []) (b := A 46) (q := 46) 15 (gd rfl) rfl rfl rfl rfl rfl (ww_o rfl) (Nat.le_of_ble_eq_true rfl) (mc := 0) (ms := 0) (Nat.zero_le _) (Nat.zero_le _) (P := fun v u => _) ?_ (fun e u h => h) (fun v u h => h)
            intro po28x12 xx28x12 hp28x12 hx28x12
            refine g_enter2 (k := 177) (N := 300) (by first | exact dq1 hd rfl | exact dq0 hd rfl | exact dq2 hd rfl | exact dq3 hd rfl | omega) rfl (Nat.le_of_ble_eq_true rfl) ?_
            refine g_aload_n 1 (gd rfl) rfl rfl ?_
            refine g_getI 4 (gd rfl) rfl rfl rfl (fun z28x12x1 e28x12x1 => ?_)
            have q28x12x1 : z18x28 = z28x12x1 := (sF_get).trans e28x12x1.symm
            subst q28x12x1
            refine g_aload_n 5 (gd rfl) rfl rfl ?_
            refine g_getA (q2 := 48) 8 (gd rfl) rfl rfl rfl rfl ?_
            refine g_alen (n := 4608) (t := 2) 4608 9 (gd rfl) rfl rfl (Nat.le_of_ble_eq_true rfl) rfl ?_
            refine g_cmp_ge 12 32 (gd rfl) rfl rfl (fun c28x12x9 => ?_) (fun c28x12x9 => ?_)
            · skip
              refine g_return (gd rfl) rfl (hp28x12 _ _ ?_)
              show GG _ _ _ _ _ _ _ _ [] _ _ _
              refine g_aload_n 16 (gd rfl) rfl rfl ?_
              refine g_bipush 59 18 (gd rfl) rfl rfl ?_
              refine g_callv (X := _) (As := [.int (Int32.ofInt 59)]) (r := []) (b := A 46) (q := 46) 21 (gd rfl) rfl rfl rfl rfl rfl (ww_o rfl) (Nat.le_of_ble_eq_true rfl) (mc := 0) (ms := 0) (Nat.zero_le _) (Nat.zero_le _) (P := fun v u => _) ?_ (fun e u h => h) (fun v u h => h)
              intro po28x18 xx28x18 hp28x18 hx28x18
              refine g_enter2 (k := 177) (N := 300) (by first | exact dq1 hd rfl | exact dq0 hd rfl | exact dq2 hd rfl | exact dq3 hd rfl | omega) rfl (Nat.le_of_ble_eq_true rfl) ?_
              refine g_aload_n 1 (gd rfl) rfl rfl ?_
              refine g_getI 4 (gd rfl) rfl rfl rfl (fun z28x18x1 e28x18x1 => ?_)
              have q28x18x1 : z18x28 = z28x18x1 := (sF_get).trans e28x18x1.symm
              subst q28x18x1
              refine g_aload_n 5 (gd rfl) rfl rfl ?_
              refine g_getA (q2 := 48) 8 (gd rfl) rfl rfl rfl rfl ?_
              refine g_alen (n := 4608) (t := 2) 4608 9 (gd rfl) rfl rfl (Nat.le_of_ble_eq_true rfl) rfl ?_
              refine g_cmp_ge 12 32 (gd rfl) rfl rfl (fun c28x18x9 => ?_) (fun c28x18x9 => ?_)
              · skip
                refine g_return (gd rfl) rfl (hp28x18 _ _ ?_)
                show GG _ _ _ _ _ _ _ _ [] _ _ _
                refine g_return (gd rfl) rfl (hp28 _ _ ?_)
                show GG _ _ _ _ _ _ _ _ [] _ _ _
                refine g_iinc 34 (gd rfl) rfl rfl (Nat.le_of_ble_eq_true rfl) (fun z31 e31 => ?_)
                have i31 := in_add 1 32 e31 i12 (in_c 1 rfl) rfl rfl
                refine g_goto 7 (gd rfl) rfl ?_
                exact gg_w (by first | exact Nat.le_add_right _ _ | exact gw2 | exact gw3 | exact gwe rfl | exact gwf rfl | exact gwg rfl | exact gwh rfl | omega) (gg_f (gf_cons rfl (gf_cons rfl (gf_cons rfl gf_nil))) (ih7 (sF (sI sc7 48 z18x1.toNatClampNeg (vp_nar .char (Int32.ofInt 110))) 46 9 z18x28) z31 hI18x29 (fr_sF rfl (fr_sI rfl hFc7)) (in_w 0 32 i31 rfl) (m_up mm7 (t_add e31 i12 (in_c 1 rfl) rfl) (in_w 1 1 (in_c 1 rfl) rfl))))
              · skip
                exact n_lt c28x18x9 i28x3x9 (in_c 4608 rfl) rfl
            · skip
              exact n_lt c28x12x9 i28x3x9 (in_c 4608 rfl) rfl
          · skip
            have i28x3x9 := r_lt1 1 4607 c28x3x9 i18x28 (in_c 4608 rfl) rfl
            refine g_aload_n 13 (gd rfl) rfl rfl ?_
            refine g_getA (q2 := 48) 16 (gd rfl) rfl rfl rfl rfl ?_
            refine g_aload_n 17 (gd rfl) rfl rfl ?_
            refine g_getI 20 (gd rfl) rfl rfl rfl (fun z28x3x17 e28x3x17 => ?_)
            have q28x3x17 : z18x28 = z28x3x17 := (sF_get).trans e28x3x17.symm
            subst q28x3x17
            refine g_iload_n 21 (gd rfl) rfl rfl ?_
            refine g_castore 22 (gd rfl) rfl (n := 4608) rfl (in_ix i28x3x9 rfl) ?_
            have hI28x3x21 := inv_sI (q := 48) (j := z18x28.toNatClampNeg) hI18x29 rfl (in_w 0 65535 (nar_c (Int32.ofInt 32)) rfl)
            refine g_aload_n 23 (gd rfl) rfl rfl ?_
            refine g_dup 24 (gd rfl) rfl rfl ?_
            refine g_getI 27 (gd rfl) rfl rfl rfl (fun z28x3x24 e28x3x24 => ?_)
            have q28x3x24 : z18x28 = z28x3x24 := (sI_F (sF_get)).trans e28x3x24.symm
            subst q28x3x24
            refine g_iconst 1 28 (gd rfl) rfl rfl ?_
            refine g_iadd 29 (gd rfl) rfl (fun z28x3x28 e28x3x28 => ?_)
            have i28x3x28 := in_add 2 4608 e28x3x28 i28x3x9 (in_c 1 rfl) rfl rfl
            refine g_putI 32 (gd rfl) rfl rfl rfl rfl ?_
            have hI28x3x29 := inv_sF (q := 46) (j := 9) hI28x3x21 rfl (in_w 0 4608 i28x3x28 rfl)
            refine g_return (gd rfl) rfl (hp28x3 _ _ ?_)
            show GG _ _ _ _ _ _ _ _ [] _ _ _
            refine g_aload_n 7 (gd rfl) rfl rfl ?_
            refine g_bipush 97 9 (gd rfl) rfl rfl ?_
            refine g_iload_n 10 (gd rfl) rfl rfl ?_
            refine g_iadd 11 (gd rfl) rfl (fun z28x10 e28x10 => ?_)
            have i28x10 := in_add 97 122 e28x10 (in_c 97 rfl) i27 rfl rfl
            refine g_i2c 12 (gd rfl) rfl (fun z28x11 e28x11 => ?_)
            have i28x11 := in_i2c e28x11
            refine g_callv (X := _) (As := [.int z28x11]) (r := []) (b := A 46) (q := 46) 15 (gd rfl) rfl rfl rfl rfl rfl (ww_o rfl) (Nat.le_of_ble_eq_true rfl) (mc := 0) (ms := 0) (Nat.zero_le _) (Nat.zero_le _) (P := fun v u => _) ?_ (fun e u h => h) (fun v u h => h)
            intro po28x12 xx28x12 hp28x12 hx28x12
            refine g_enter2 (k := 177) (N := 300) (by first | exact dq1 hd rfl | exact dq0 hd rfl | exact dq2 hd rfl | exact dq3 hd rfl | omega) rfl (Nat.le_of_ble_eq_true rfl) ?_
            refine g_aload_n 1 (gd rfl) rfl rfl ?_
            refine g_getI 4 (gd rfl) rfl rfl rfl (fun z28x12x1 e28x12x1 => ?_)
            have q28x12x1 : z28x3x28 = z28x12x1 := (sF_get).trans e28x12x1.symm
            subst q28x12x1
            refine g_aload_n 5 (gd rfl) rfl rfl ?_
            refine g_getA (q2 := 48) 8 (gd rfl) rfl rfl rfl rfl ?_
            refine g_alen (n := 4608) (t := 2) 4608 9 (gd rfl) rfl rfl (Nat.le_of_ble_eq_true rfl) rfl ?_
            refine g_cmp_ge 12 32 (gd rfl) rfl rfl (fun c28x12x9 => ?_) (fun c28x12x9 => ?_)
            · skip
              have i28x12x9 := r_le2 4608 4608 c28x12x9 (in_c 4608 rfl) i28x3x28 rfl
              refine g_return (gd rfl) rfl (hp28x12 _ _ ?_)
              show GG _ _ _ _ _ _ _ _ [] _ _ _
              refine g_aload_n 16 (gd rfl) rfl rfl ?_
              refine g_bipush 59 18 (gd rfl) rfl rfl ?_
              refine g_callv (X := _) (As := [.int (Int32.ofInt 59)]) (r := []) (b := A 46) (q := 46) 21 (gd rfl) rfl rfl rfl rfl rfl (ww_o rfl) (Nat.le_of_ble_eq_true rfl) (mc := 0) (ms := 0) (Nat.zero_le _) (Nat.zero_le _) (P := fun v u => _) ?_ (fun e u h => h) (fun v u h => h)
              intro po28x18 xx28x18 hp28x18 hx28x18
              refine g_enter2 (k := 177) (N := 300) (by first | exact dq1 hd rfl | exact dq0 hd rfl | exact dq2 hd rfl | exact dq3 hd rfl | omega) rfl (Nat.le_of_ble_eq_true rfl) ?_
              refine g_aload_n 1 (gd rfl) rfl rfl ?_
              refine g_getI 4 (gd rfl) rfl rfl rfl (fun z28x18x1 e28x18x1 => ?_)
              have q28x18x1 : z28x3x28 = z28x18x1 := (sF_get).trans e28x18x1.symm
              subst q28x18x1
              refine g_aload_n 5 (gd rfl) rfl rfl ?_
              refine g_getA (q2 := 48) 8 (gd rfl) rfl rfl rfl rfl ?_
              refine g_alen (n := 4608) (t := 2) 4608 9 (gd rfl) rfl rfl (Nat.le_of_ble_eq_true rfl) rfl ?_
              refine g_cmp_ge 12 32 (gd rfl) rfl rfl (fun c28x18x9 => ?_) (fun c28x18x9 => ?_)
              · skip
                refine g_return (gd rfl) rfl (hp28x18 _ _ ?_)
                show GG _ _ _ _ _ _ _ _ [] _ _ _
                refine g_return (gd rfl) rfl (hp28 _ _ ?_)
                show GG _ _ _ _ _ _ _ _ [] _ _ _
                refine g_iinc 34 (gd rfl) rfl rfl (Nat.le_of_ble_eq_true rfl) (fun z31 e31 => ?_)
                have i31 := in_add 1 32 e31 i12 (in_c 1 rfl) rfl rfl
                refine g_goto 7 (gd rfl) rfl ?_
                exact gg_w (by first | exact Nat.le_add_right _ _ | exact gw2 | exact gw3 | exact gwe rfl | exact gwf rfl | exact gwg rfl | exact gwh rfl | omega) (gg_f (gf_cons rfl (gf_cons rfl (gf_cons rfl gf_nil))) (ih7 (sF (sI (sF (sI sc7 48 z18x1.toNatClampNeg (vp_nar .char (Int32.ofInt 110))) 46 9 z18x28) 48 z18x28.toNatClampNeg (vp_nar .char (Int32.ofInt 32))) 46 9 z28x3x28) z31 hI28x3x29 (fr_sF rfl (fr_sI rfl (fr_sF rfl (fr_sI rfl hFc7)))) (in_w 0 32 i31 rfl) (m_up mm7 (t_add e31 i12 (in_c 1 rfl) rfl) (in_w 1 1 (in_c 1 rfl) rfl))))
              · skip
                exact n_lt c28x18x9 i28x12x9 (in_c 4608 rfl) rfl
            · skip
              have i28x12x9 := r_lt1 2 4607 c28x12x9 i28x3x28 (in_c 4608 rfl) rfl
              refine g_aload_n 13 (gd rfl) rfl rfl ?_
              refine g_getA (q2 := 48) 16 (gd rfl) rfl rfl rfl rfl ?_
              refine g_aload_n 17 (gd rfl) rfl rfl ?_
              refine g_getI 20 (gd rfl) rfl rfl rfl (fun z28x12x17 e28x12x17 => ?_)
              have q28x12x17 : z28x3x28 = z28x12x17 := (sF_get).trans e28x12x17.symm
              subst q28x12x17
              refine g_iload_n 21 (gd rfl) rfl rfl ?_
              refine g_castore 22 (gd rfl) rfl (n := 4608) rfl (in_ix i28x12x9 rfl) ?_
              have hI28x12x21 := inv_sI (q := 48) (j := z28x3x28.toNatClampNeg) hI28x3x29 rfl (in_w 0 65535 (nar_c z28x11) rfl)
              refine g_aload_n 23 (gd rfl) rfl rfl ?_
              refine g_dup 24 (gd rfl) rfl rfl ?_
              refine g_getI 27 (gd rfl) rfl rfl rfl (fun z28x12x24 e28x12x24 => ?_)
              have q28x12x24 : z28x3x28 = z28x12x24 := (sI_F (sF_get)).trans e28x12x24.symm
              subst q28x12x24
              refine g_iconst 1 28 (gd rfl) rfl rfl ?_
              refine g_iadd 29 (gd rfl) rfl (fun z28x12x28 e28x12x28 => ?_)
              have i28x12x28 := in_add 3 4608 e28x12x28 i28x12x9 (in_c 1 rfl) rfl rfl
              refine g_putI 32 (gd rfl) rfl rfl rfl rfl ?_
              have hI28x12x29 := inv_sF (q := 46) (j := 9) hI28x12x21 rfl (in_w 0 4608 i28x12x28 rfl)
              refine g_return (gd rfl) rfl (hp28x12 _ _ ?_)
              show GG _ _ _ _ _ _ _ _ [] _ _ _
              refine g_aload_n 16 (gd rfl) rfl rfl ?_
              refine g_bipush 59 18 (gd rfl) rfl rfl ?_
              refine g_callv (X := _) (As := [.int (Int32.ofInt 59)]) (r := []) (b := A 46) (q := 46) 21 (gd rfl) rfl rfl rfl rfl rfl (ww_o rfl) (Nat.le_of_ble_eq_true rfl) (mc := 0) (ms := 0) (Nat.zero_le _) (Nat.zero_le _) (P := fun v u => _) ?_ (fun e u h => h) (fun v u h => h)
              intro po28x18 xx28x18 hp28x18 hx28x18
              refine g_enter2 (k := 177) (N := 300) (by first | exact dq1 hd rfl | exact dq0 hd rfl | exact dq2 hd rfl | exact dq3 hd rfl | omega) rfl (Nat.le_of_ble_eq_true rfl) ?_
              refine g_aload_n 1 (gd rfl) rfl rfl ?_
              refine g_getI 4 (gd rfl) rfl rfl rfl (fun z28x18x1 e28x18x1 => ?_)
              have q28x18x1 : z28x12x28 = z28x18x1 := (sF_get).trans e28x18x1.symm
              subst q28x18x1
              refine g_aload_n 5 (gd rfl) rfl rfl ?_
              refine g_getA (q2 := 48) 8 (gd rfl) rfl rfl rfl rfl ?_
              refine g_alen (n := 4608) (t := 2) 4608 9 (gd rfl) rfl rfl (Nat.le_of_ble_eq_true rfl) rfl ?_
              refine g_cmp_ge 12 32 (gd rfl) rfl rfl (fun c28x18x9 => ?_) (fun c28x18x9 => ?_)
              · skip
                have i28x18x9 := r_le2 4608 4608 c28x18x9 (in_c 4608 rfl) i28x12x28 rfl
                refine g_return (gd rfl) rfl (hp28x18 _ _ ?_)
                show GG _ _ _ _ _ _ _ _ [] _ _ _
                refine g_return (gd rfl) rfl (hp28 _ _ ?_)
                show GG _ _ _ _ _ _ _ _ [] _ _ _
                refine g_iinc 34 (gd rfl) rfl rfl (Nat.le_of_ble_eq_true rfl) (fun z31 e31 => ?_)
                have i31 := in_add 1 32 e31 i12 (in_c 1 rfl) rfl rfl
                refine g_goto 7 (gd rfl) rfl ?_
                exact gg_w (by first | exact Nat.le_add_right _ _ | exact gw2 | exact gw3 | exact gwe rfl | exact gwf rfl | exact gwg rfl | exact gwh rfl | omega) (gg_f (gf_cons rfl (gf_cons rfl (gf_cons rfl gf_nil))) (ih7 (sF (sI (sF (sI (sF (sI sc7 48 z18x1.toNatClampNeg (vp_nar .char (Int32.ofInt 110))) 46 9 z18x28) 48 z18x28.toNatClampNeg (vp_nar .char (Int32.ofInt 32))) 46 9 z28x3x28) 48 z28x3x28.toNatClampNeg (vp_nar .char z28x11)) 46 9 z28x12x28) z31 hI28x12x29 (fr_sF rfl (fr_sI rfl (fr_sF rfl (fr_sI rfl (fr_sF rfl (fr_sI rfl hFc7)))))) (in_w 0 32 i31 rfl) (m_up mm7 (t_add e31 i12 (in_c 1 rfl) rfl) (in_w 1 1 (in_c 1 rfl) rfl))))
              · skip
                have i28x18x9 := r_lt1 3 4607 c28x18x9 i28x12x28 (in_c 4608 rfl) rfl
                refine g_aload_n 13 (gd rfl) rfl rfl ?_
                refine g_getA (q2 := 48) 16 (gd rfl) rfl rfl rfl rfl ?_
                refine g_aload_n 17 (gd rfl) rfl rfl ?_
                refine g_getI 20 (gd rfl) rfl rfl rfl (fun z28x18x17 e28x18x17 => ?_)
                have q28x18x17 : z28x12x28 = z28x18x17 := (sF_get).trans e28x18x17.symm
                subst q28x18x17
                refine g_iload_n 21 (gd rfl) rfl rfl ?_
                refine g_castore 22 (gd rfl) rfl (n := 4608) rfl (in_ix i28x18x9 rfl) ?_
                have hI28x18x21 := inv_sI (q := 48) (j := z28x12x28.toNatClampNeg) hI28x12x29 rfl (in_w 0 65535 (nar_c (Int32.ofInt 59)) rfl)
                refine g_aload_n 23 (gd rfl) rfl rfl ?_
                refine g_dup 24 (gd rfl) rfl rfl ?_
                refine g_getI 27 (gd rfl) rfl rfl rfl (fun z28x18x24 e28x18x24 => ?_)
                have q28x18x24 : z28x12x28 = z28x18x24 := (sI_F (sF_get)).trans e28x18x24.symm
                subst q28x18x24
                refine g_iconst 1 28 (gd rfl) rfl rfl ?_
                refine g_iadd 29 (gd rfl) rfl (fun z28x18x28 e28x18x28 => ?_)
                have i28x18x28 := in_add 4 4608 e28x18x28 i28x18x9 (in_c 1 rfl) rfl rfl
                refine g_putI 32 (gd rfl) rfl rfl rfl rfl ?_
                have hI28x18x29 := inv_sF (q := 46) (j := 9) hI28x18x21 rfl (in_w 0 4608 i28x18x28 rfl)
                refine g_return (gd rfl) rfl (hp28x18 _ _ ?_)
                show GG _ _ _ _ _ _ _ _ [] _ _ _
                refine g_return (gd rfl) rfl (hp28 _ _ ?_)
                show GG _ _ _ _ _ _ _ _ [] _ _ _
                refine g_iinc 34 (gd rfl) rfl rfl (Nat.le_of_ble_eq_true rfl) (fun z31 e31 => ?_)
                have i31 := in_add 1 32 e31 i12 (in_c 1 rfl) rfl rfl
                refine g_goto 7 (gd rfl) rfl ?_
                exact gg_w (by first | exact Nat.le_add_right _ _ | exact gw2 | exact gw3 | exact gwe rfl | exact gwf rfl | exact gwg rfl | exact gwh rfl | omega) (gg_f (gf_cons rfl (gf_cons rfl (gf_cons rfl gf_nil))) (ih7 (sF (sI (sF (sI (sF (sI (sF (sI sc7 48 z18x1.toNatClampNeg (vp_nar .char (Int32.ofInt 110))) 46 9 z18x28) 48 z18x28.toNatClampNeg (vp_nar .char (Int32.ofInt 32))) 46 9 z28x3x28) 48 z28x3x28.toNatClampNeg (vp_nar .char z28x11)) 46 9 z28x12x28) 48 z28x12x28.toNatClampNeg (vp_nar .char (Int32.ofInt 59))) 46 9 z28x18x28) z31 hI28x18x29 (fr_sF rfl (fr_sI rfl (fr_sF rfl (fr_sI rfl (fr_sF rfl (fr_sI rfl (fr_sF rfl (fr_sI rfl hFc7)))))))) (in_w 0 32 i31 rfl) (m_up mm7 (t_add e31 i12 (in_c 1 rfl) rfl) (in_w 1 1 (in_c 1 rfl) rfl))))
  refine g_enter2 (k := 175) (N := 320563) (by first | exact dq1 hd rfl | exact dq0 hd rfl | exact dq2 hd rfl | exact dq3 hd rfl | omega) rfl (Nat.le_of_ble_eq_true rfl) ?_
  refine g_aload_n 1 (gd rfl) rfl rfl ?_
  refine g_iconst 0 2 (gd rfl) rfl rfl ?_
  refine g_putI 5 (gd rfl) rfl rfl rfl rfl ?_
  have hI2 := inv_sF (q := 46) (j := 9) hI rfl (in_w 0 4608 (in_c 0 rfl) rfl)
  refine g_iconst 0 6 (gd rfl) rfl rfl ?_
  refine g_istore_n 7 (gd rfl) rfl (Nat.le_of_ble_eq_true rfl) ?_
  exact gg_w (by first | exact Nat.le_of_ble_eq_true rfl | omega) (gg_f (gf_cons rfl (gf_cons rfl (gf_cons rfl gf_nil))) (ct7 33 (sF s 46 9 (Int32.ofInt 0)) (Int32.ofInt 0) hI2 (fr_sF rfl fr_rf) (in_w 0 32 (in_c 0 rfl) rfl) (m_in 33 (in_w 0 32 (in_c 0 rfl) rfl) rfl)))

def fm_180_76_2 : FM := ([77, 78, 81, 82, 83], [79, 80], [(76, 0)], [])
/-- GraphHouse$Trees.leastRooted -/
theorem k_180_76_2 {Z : AmZ} {A : Nat → Nat} {s : GS} {ex : va_W} {d : Nat} {X : AmX} {x2 : Int32} {u_2_1 : Int32} (hd : 4 ≤ d) (hI : Inv s) (h2 : In x2 0 31) (e_2_1 : u_2_1 = s.2.2.1 2 1) (p_0 : (x2).toInt < (u_2_1).toInt) (q_0 : KN (s.1 4) (s.1 5) (s.2.2.1 2 1)) : GC Z d 180 [.ref (A 76), .ref (A 2), .int x2] (WW Z A s ++ ex) 0 0 (fun v u => ∃ t : GS, Inv t ∧ Fr fm_180_76_2 s t ∧ ∃ z : Int64, v = some (.long z) ∧ u = WW Z A t ++ ex) X := by
  intro post xp hP hX
  have ro_2_1 := inv_F hI 0 32 rfl e_2_1
  have ct19 : ∀ (k19 : Nat) (sc19 : GS) (y19_3 : Int64) (y19_5 : Int32) (y19_6 : Int32) (y19_7 : Int32), Inv sc19 → Fr fm_180_76_2 s sc19 → (In y19_5 0 32) → (In y19_6 0 31) → (In y19_7 0 32) → ((y19_6).toInt < (y19_5).toInt) → (AE sc19 (y19_5).toInt) → 32 - (y19_7).toInt < (k19 : Int) → GG Z (d - 1) 180 post (gx xp) (1 + k19 * 32401) 19 (fun j => xlook j [(0, .ref (A 76)), (1, .ref (A 2)), (2, .int x2), (3, .long y19_3), (5, .int y19_5), (6, .int y19_6), (7, .int y19_7)]) [] (WW Z A sc19 ++ ex) 0 0 := by
    intro k19
    induction k19 with
    | zero => intro sc19 y19_3 y19_5 y19_6 y19_7 hIc19 hFc19 j19_5 j19_6 j19_7 n19_0 g19_0 mm19; exact m_no mm19 j19_7 rfl
    | succ k19 ih19 =>
      intro sc19 y19_3 y19_5 y19_6 y19_7 hIc19 hFc19 j19_5 j19_6 j19_7 n19_0 g19_0 mm19
      refine gg_w (M := 1 + k19 * 32401 + 32401) gws ?_
      have ct44 : ∀ (k44 : Nat) (sc44 : GS) (y44_3 : Int64) (y44_8 : Int32), Inv sc44 → Fr fm_180_76_2 s sc44 → (In y19_7 0 31) → (In y44_8 0 32) → (AE sc44 (y19_5).toInt) → 32 - (y44_8).toInt < (k44 : Int) → GG Z (d - 1) 180 post (gx xp) (1 + k19 * 32401 + 1 + k44 * 900) 44 (fun j => xlook j [(0, .ref (A 76)), (1, .ref (A 2)), (2, .int x2), (3, .long y44_3), (5, .int y19_5), (6, .int y19_6), (7, .int y19_7), (8, .int y44_8)]) [] (WW Z A sc44 ++ ex) 0 0 := by
        intro k44
        induction k44 with
        | zero => intro sc44 y44_3 y44_8 hIc44 hFc44 j44_7 j44_8 g44_0 mm44; exact m_no mm44 j44_8 rfl
        | succ k44 ih44 =>
          intro sc44 y44_3 y44_8 hIc44 hFc44 j44_7 j44_8 g44_0 mm44
          refine gg_w (M := 1 + k19 * 32401 + 1 + k44 * 900 + 900) gws ?_
          refine g_iload 46 (gd rfl) rfl rfl ?_
          refine g_iload 48 (gd rfl) rfl rfl ?_
          refine g_cmp_ge 51 67 (gd rfl) rfl rfl (fun c48 => ?_) (fun c48 => ?_)
          · skip
            refine g_aload_n 68 (gd rfl) rfl rfl ?_
            refine g_iload 70 (gd rfl) rfl rfl ?_
            refine g_iload 72 (gd rfl) rfl rfl ?_
            refine g_callv (X := _) (As := [.int y19_5, .int y19_6]) (r := []) (b := A 76) (q := 76) 75 (gd rfl) rfl rfl rfl rfl rfl (ww_o rfl) (Nat.le_of_ble_eq_true rfl) (Nat.zero_le _) (Nat.zero_le _) (k_183_76 (by first | exact dq1 hd rfl | exact dq0 hd rfl | exact dq2 hd rfl | exact dq3 hd rfl | omega) hIc44 (in_w 0 32 j19_5 rfl) (in_w 0 31 j19_6 rfl)) (fun e u h => h) (fun v u h => ?_)
            obtain ⟨s72, hI72, hF72, z72, rfl, rfl, i72, p72, p72a⟩ := h
            show GG _ _ _ _ _ _ _ _ [.int z72] _ _ _
            refine g_istore 77 (gd rfl) rfl (Nat.le_of_ble_eq_true rfl) ?_
            refine g_iload 79 (gd rfl) rfl rfl ?_
            refine g_if_ne 82 84 (gd rfl) rfl rfl (fun c79 => ?_) (fun c79 => ?_)
            · skip
              have i79 := z_ne 1 32 c79 i72 rfl
              refine g_aload_n 85 (gd rfl) rfl rfl ?_
              refine g_iload 87 (gd rfl) rfl rfl ?_
              refine g_iload 89 (gd rfl) rfl rfl ?_
              have p89 : (z72).toInt + (c1m (s72.1 83) 32 : Int) ≤ 32 := by exact p72
              have p89a : ∀ v : Nat, v < 32 → (s72.1 83 v).toInt < (z72).toInt := by exact p72a
              refine g_callv (X := _) (As := [.int y19_5, .int z72]) (r := []) (b := A 76) (q := 76) 92 (gd rfl) rfl rfl rfl rfl rfl (ww_o rfl) (Nat.le_of_ble_eq_true rfl) (Nat.zero_le _) (Nat.zero_le _) (k_184_76 (by first | exact dq1 hd rfl | exact dq0 hd rfl | exact dq2 hd rfl | exact dq3 hd rfl | omega) hI72 (in_w 0 32 j19_5 rfl) (in_w 0 32 i79 rfl) p89 p89a) (fun e u h => h) (fun v u h => ?_)
              obtain ⟨s89, hI89, hF89, z89, rfl, rfl, i89, p89b⟩ := h
              show GG _ _ _ _ _ _ _ _ [.int z89] _ _ _
              refine g_istore 94 (gd rfl) rfl (Nat.le_of_ble_eq_true rfl) ?_
              refine g_aload_n 95 (gd rfl) rfl rfl ?_
              have p95 : ∃ n m : Int, AE s89 n ∧ n ≤ 32 ∧ RN s89 n m := by exact ⟨(y19_5).toInt, (z89).toInt, ae_fr (ae_fr g44_0 hF72 rfl) hF89 rfl, by have a0 := in_u j44_7; have a1 := in_u j19_6; have a2 := in_u j19_5; have a3 := in_u h2; have a4 := in_u ro_2_1; have a5 := in_u j44_8; have a6 := in_u i89; have a7 := in_u i79; omega, p89b⟩
              refine g_callv (X := _) (As := []) (r := []) (b := A 76) (q := 76) 98 (gd rfl) rfl rfl rfl rfl rfl (ww_o rfl) (Nat.le_of_ble_eq_true rfl) (Nat.zero_le _) (Nat.zero_le _) (k_185_76 (by first | exact dq1 hd rfl | exact dq0 hd rfl | exact dq2 hd rfl | exact dq3 hd rfl | omega) hI89 p95) (fun e u h => h) (fun v u h => ?_)
              obtain ⟨s95, hI95, hF95, rfl, rfl, p95a⟩ := h
              show GG _ _ _ _ _ _ _ _ [] _ _ _
              refine g_aload_n 99 (gd rfl) rfl rfl ?_
              refine g_getA (q2 := 83) 102 (gd rfl) rfl rfl rfl rfl ?_
              refine g_iload 104 (gd rfl) rfl rfl ?_
              refine g_iaload 105 (gd rfl) rfl (n := 32) rfl (in_ix j19_6 rfl) (fun z104 e104 => ?_)
              have i104 := inv_I hI95 (n := 32) (t := 0) (-1) 31 rfl (in_ix j19_6 rfl) rfl e104
              have hr := p89b (y19_6).toNatClampNeg (by show (y19_6).toInt.toNat < 32; have a0 := in_u j44_7; have a1 := in_u j19_6; have a2 := in_u j19_5; have a3 := in_u h2; have a4 := in_u ro_2_1; have a5 := in_u j44_8; have a6 := in_u i89; have a7 := in_u i79; omega)
              rw [← hF95.1 83 rfl, ← e104] at hr
              have i105 : In z104 0 31 := by have h9 := hr.2 (by have e9 : (y19_6).toNatClampNeg = (y19_6).toInt.toNat := rfl; have a0 := in_u j44_7; have a1 := in_u j19_6; have a2 := in_u j19_5; have a3 := in_u h2; have a4 := in_u ro_2_1; have a5 := in_u j44_8; have a6 := in_u i89; have a7 := in_u i79; omega); exact ⟨h9, i104.2⟩
              have hr1 := hr.1
              refine g_istore 107 (gd rfl) rfl (Nat.le_of_ble_eq_true rfl) ?_
              refine g_iload 109 (gd rfl) rfl rfl ?_
              refine g_istore 111 (gd rfl) rfl (Nat.le_of_ble_eq_true rfl) ?_
              refine g_iinc 114 (gd rfl) rfl rfl (Nat.le_of_ble_eq_true rfl) (fun z111 e111 => ?_)
              have i111 := in_add 1 32 e111 j44_7 (in_c 1 rfl) rfl rfl
              refine g_goto 19 (gd rfl) rfl ?_
              have n19 : (z104).toInt < (z89).toInt := by have a0 := in_u j44_7; have a1 := in_u j19_6; have a2 := in_u j19_5; have a3 := in_u h2; have a4 := in_u ro_2_1; have a5 := in_u j44_8; have a6 := in_u i89; have a7 := in_u i79; have a8 := in_u i111; have a9 := t_add e111 j44_7 (in_c 1 rfl) rfl; have a10 := in_u ((in_c 1 rfl)); have a11 := in_u i105; omega
              have n19a : AE s95 (z89).toInt := by exact p95a (y19_5).toInt (z89).toInt (ae_fr (ae_fr g44_0 hF72 rfl) hF89 rfl) (by have a0 := in_u j44_7; have a1 := in_u j19_6; have a2 := in_u j19_5; have a3 := in_u h2; have a4 := in_u ro_2_1; have a5 := in_u j44_8; have a6 := in_u i89; have a7 := in_u i79; have a8 := in_u i111; have a9 := t_add e111 j44_7 (in_c 1 rfl) rfl; have a10 := in_u ((in_c 1 rfl)); have a11 := in_u i105; omega) p89b
              exact gg_w (by first | exact Nat.le_add_right _ _ | exact gw2 | exact gw3 | exact gwe rfl | exact gwf rfl | exact gwg rfl | exact gwh rfl | omega) (gg_f (gf_cons rfl (gf_cons rfl (gf_cons rfl (gf_cons rfl (gf_cons rfl (gf_cons rfl (gf_cons rfl gf_nil))))))) (ih19 s95 y44_3 z89 z104 z111 hI95 (fr_tr rfl (fr_tr rfl (fr_tr rfl hFc44 hF72) hF89) hF95) (in_w 0 32 i89 rfl) (in_w 0 31 i105 rfl) (in_w 0 32 i111 rfl) n19 n19a (m_up mm19 (t_add e111 j44_7 (in_c 1 rfl) rfl) (in_w 1 1 (in_c 1 rfl) rfl))))
            · skip
              have i79 := z_eq 0 0 c79 i72 rfl
              refine g_lload_n 83 (gd rfl) rfl rfl ?_
              exact g_lreturn (gd rfl) rfl (hP _ _ ⟨s72, hI72, (fr_tr rfl hFc44 hF72), y44_3, rfl, rfl⟩)
          · skip
            have i48 := r_lt1 0 31 c48 j44_8 j19_5 rfl
            have i48a := r_lt2 1 32 c48 j44_8 j19_5 rfl
            refine g_lload_n 52 (gd rfl) rfl rfl ?_
            refine g_aload_n 53 (gd rfl) rfl rfl ?_
            refine g_getA (q2 := 80) 56 (gd rfl) rfl rfl rfl rfl ?_
            refine g_iload 58 (gd rfl) rfl rfl ?_
            refine g_laload 59 (gd rfl) rfl (n := 32) rfl (in_ix i48 rfl) (fun z58 e58 => ?_)
            refine g_ladd 60 (gd rfl) rfl (fun z59 e59 => ?_)
            refine g_lstore_n 61 (gd rfl) rfl (Nat.le_of_ble_eq_true rfl) ?_
            refine g_iinc 64 (gd rfl) rfl rfl (Nat.le_of_ble_eq_true rfl) (fun z61 e61 => ?_)
            have i61 := in_add 1 32 e61 i48 (in_c 1 rfl) rfl rfl
            refine g_goto 44 (gd rfl) rfl ?_
            have n44 : AE sc44 (y19_5).toInt := by exact g44_0
            exact gg_w (by first | exact Nat.le_add_right _ _ | exact gw2 | exact gw3 | exact gwe rfl | exact gwf rfl | exact gwg rfl | exact gwh rfl | omega) (gg_f (gf_cons rfl (gf_cons rfl (gf_cons rfl (gf_cons rfl (gf_cons rfl (gf_cons rfl (gf_cons rfl (gf_cons rfl gf_nil)))))))) (ih44 sc44 z59 z61 hIc44 hFc44 (in_w 0 31 j44_7 rfl) (in_w 0 32 i61 rfl) n44 (m_up mm44 (t_add e61 i48 (in_c 1 rfl) rfl) (in_w 1 1 (in_c 1 rfl) rfl))))
      refine g_iload 21 (gd rfl) rfl rfl ?_
      refine g_bipush 32 23 (gd rfl) rfl rfl ?_
      refine g_cmp_ge 26 117 (gd rfl) rfl rfl (fun c23 => ?_) (fun c23 => ?_)
      · skip
        have i23 := r_le2 32 32 c23 (in_c 32 rfl) j19_7 rfl
        refine g_lload_n 118 (gd rfl) rfl rfl ?_
        exact g_lreturn (gd rfl) rfl (hP _ _ ⟨sc19, hIc19, hFc19, y19_3, rfl, rfl⟩)
      · skip
        have i23 := r_lt1 0 31 c23 j19_7 (in_c 32 rfl) rfl
        refine g_aload_n 27 (gd rfl) rfl rfl ?_
        refine g_iload 29 (gd rfl) rfl rfl ?_
        refine g_iload 31 (gd rfl) rfl rfl ?_
        refine g_callv (X := _) (As := [.int y19_5, .int y19_6]) (r := []) (b := A 76) (q := 76) 34 (gd rfl) rfl rfl rfl rfl rfl (ww_o rfl) (Nat.le_of_ble_eq_true rfl) (Nat.zero_le _) (Nat.zero_le _) (k_182_76 (by first | exact dq1 hd rfl | exact dq0 hd rfl | exact dq2 hd rfl | exact dq3 hd rfl | omega) hIc19 (in_w 0 32 j19_5 rfl) (in_w 0 31 j19_6 rfl)) (fun e u h => h) (fun v u h => ?_)
        obtain ⟨s31, hI31, hF31, z31, rfl, rfl, i31⟩ := h
        show GG _ _ _ _ _ _ _ _ [.int z31] _ _ _
        refine g_if_ne 37 41 (gd rfl) rfl rfl (fun c34 => ?_) (fun c34 => ?_)
        · skip
          have i34 := z_ne 1 1 c34 i31 rfl
          refine g_iconst 0 42 (gd rfl) rfl rfl ?_
          refine g_istore 44 (gd rfl) rfl (Nat.le_of_ble_eq_true rfl) ?_
          have n44 : AE s31 (y19_5).toInt := by exact ae_fr g19_0 hF31 rfl
          exact gg_w (by first | exact Nat.le_add_right _ _ | exact gw2 | exact gw3 | exact gwe rfl | exact gwf rfl | exact gwg rfl | exact gwh rfl | omega) (gg_f (gf_cons rfl (gf_cons rfl (gf_cons rfl (gf_cons rfl (gf_cons rfl (gf_cons rfl (gf_cons rfl (gf_cons rfl gf_nil)))))))) (ct44 33 s31 y19_3 (Int32.ofInt 0) hI31 (fr_tr rfl hFc19 hF31) (in_w 0 31 i23 rfl) (in_w 0 32 (in_c 0 rfl) rfl) n44 (m_in 33 (in_w 0 32 (in_c 0 rfl) rfl) rfl)))
        · skip
          have i34 := z_eq 0 0 c34 i31 rfl
          refine g_ldc2_w 9000000000000000 40 (gd rfl) rfl rfl ?_
          exact g_lreturn (gd rfl) rfl (hP _ _ ⟨s31, hI31, (fr_tr rfl hFc19 hF31), (Int64.ofInt 9000000000000000), rfl, rfl⟩)
  refine g_enter2 (k := 180) (N := 1070134) (by first | exact dq1 hd rfl | exact dq0 hd rfl | exact dq2 hd rfl | exact dq3 hd rfl | omega) rfl (Nat.le_of_ble_eq_true rfl) ?_
  refine g_aload_n 1 (gd rfl) rfl rfl ?_
  refine g_aload_n 2 (gd rfl) rfl rfl ?_
  have p2 : KN (s.1 4) (s.1 5) (s.2.2.1 2 1) := by exact q_0
  refine g_callv (X := _) (As := [.ref (A 2)]) (r := []) (b := A 76) (q := 76) 5 (gd rfl) rfl rfl rfl rfl rfl (ww_o rfl) (Nat.le_of_ble_eq_true rfl) (Nat.zero_le _) (Nat.zero_le _) (k_181_76_2 (by first | exact dq1 hd rfl | exact dq0 hd rfl | exact dq2 hd rfl | exact dq3 hd rfl | omega) hI p2) (fun e u h => h) (fun v u h => ?_)
  obtain ⟨s2, hI2, hF2, rfl, rfl, p2a⟩ := h
  show GG _ _ _ _ _ _ _ _ [] _ _ _
  refine g_lconst 0 6 (gd rfl) rfl rfl ?_
  refine g_lstore_n 7 (gd rfl) rfl (Nat.le_of_ble_eq_true rfl) ?_
  refine g_aload_n 8 (gd rfl) rfl rfl ?_
  refine g_getI 11 (gd rfl) rfl rfl rfl (fun z8 e8 => ?_)
  have q8 : u_2_1 = z8 := (fr_F (e_2_1) hF2 rfl).trans e8.symm
  subst q8
  refine g_istore 13 (gd rfl) rfl (Nat.le_of_ble_eq_true rfl) ?_
  refine g_iload_n 14 (gd rfl) rfl rfl ?_
  refine g_istore 16 (gd rfl) rfl (Nat.le_of_ble_eq_true rfl) ?_
  refine g_iconst 0 17 (gd rfl) rfl rfl ?_
  refine g_istore 19 (gd rfl) rfl (Nat.le_of_ble_eq_true rfl) ?_
  have n19 : (x2).toInt < (u_2_1).toInt := by have a0 := in_u ((inv_F hI 0 32 rfl e_2_1)); have a1 := in_u h2; have a2 := in_u ((in_c 0 rfl)); omega
  have n19a : AE s2 (u_2_1).toInt := by rw [e_2_1]; exact p2a
  exact gg_w (by first | exact Nat.le_of_ble_eq_true rfl | omega) (gg_f (gf_cons rfl (gf_cons rfl (gf_cons rfl (gf_cons rfl (gf_cons rfl (gf_cons rfl (gf_cons rfl gf_nil))))))) (ct19 33 s2 (Int64.ofInt 0) u_2_1 x2 (Int32.ofInt 0) hI2 (fr_tr rfl fr_rf hF2) (in_w 0 32 (inv_F hI 0 32 rfl e_2_1) rfl) (in_w 0 31 h2 rfl) (in_w 0 32 (in_c 0 rfl) rfl) n19 n19a (m_in 33 (in_w 0 32 (in_c 0 rfl) rfl) rfl)))

def fm_180_76_32 : FM := ([77, 78, 81, 82, 83], [79, 80], [(76, 0)], [])
/-- GraphHouse$Trees.leastRooted -/
theorem k_180_76_32 {Z : AmZ} {A : Nat → Nat} {s : GS} {ex : va_W} {d : Nat} {X : AmX} {x2 : Int32} {u_32_1 : Int32} (hd : 4 ≤ d) (hI : Inv s) (h2 : In x2 0 31) (e_32_1 : u_32_1 = s.2.2.1 32 1) (p_0 : (x2).toInt < (u_32_1).toInt) (q_0 : KN (s.1 34) (s.1 35) (s.2.2.1 32 1)) : GC Z d 180 [.ref (A 76), .ref (A 32), .int x2] (WW Z A s ++ ex) 0 0 (fun v u => ∃ t : GS, Inv t ∧ Fr fm_180_76_32 s t ∧ ∃ z : Int64, v = some (.long z) ∧ u = WW Z A t ++ ex) X := by
  intro post xp hP hX
  have ro_32_1 := inv_F hI 0 32 rfl e_32_1
  have ct19 : ∀ (k19 : Nat) (sc19 : GS) (y19_3 : Int64) (y19_5 : Int32) (y19_6 : Int32) (y19_7 : Int32), Inv sc19 → Fr fm_180_76_32 s sc19 → (In y19_5 0 32) → (In y19_6 0 31) → (In y19_7 0 32) → ((y19_6).toInt < (y19_5).toInt) → (AE sc19 (y19_5).toInt) → 32 - (y19_7).toInt < (k19 : Int) → GG Z (d - 1) 180 post (gx xp) (1 + k19 * 32401) 19 (fun j => xlook j [(0, .ref (A 76)), (1, .ref (A 32)), (2, .int x2), (3, .long y19_3), (5, .int y19_5), (6, .int y19_6), (7, .int y19_7)]) [] (WW Z A sc19 ++ ex) 0 0 := by
    intro k19
    induction k19 with
    | zero => intro sc19 y19_3 y19_5 y19_6 y19_7 hIc19 hFc19 j19_5 j19_6 j19_7 n19_0 g19_0 mm19; exact m_no mm19 j19_7 rfl
    | succ k19 ih19 =>
      intro sc19 y19_3 y19_5 y19_6 y19_7 hIc19 hFc19 j19_5 j19_6 j19_7 n19_0 g19_0 mm19
      refine gg_w (M := 1 + k19 * 32401 + 32401) gws ?_
      have ct44 : ∀ (k44 : Nat) (sc44 : GS) (y44_3 : Int64) (y44_8 : Int32), Inv sc44 → Fr fm_180_76_32 s sc44 → (In y19_7 0 31) → (In y44_8 0 32) → (AE sc44 (y19_5).toInt) → 32 - (y44_8).toInt < (k44 : Int) → GG Z (d - 1) 180 post (gx xp) (1 + k19 * 32401 + 1 + k44 * 900) 44 (fun j => xlook j [(0, .ref (A 76)), (1, .ref (A 32)), (2, .int x2), (3, .long y44_3), (5, .int y19_5), (6, .int y19_6), (7, .int y19_7), (8, .int y44_8)]) [] (WW Z A sc44 ++ ex) 0 0 := by
        intro k44
        induction k44 with
        | zero => intro sc44 y44_3 y44_8 hIc44 hFc44 j44_7 j44_8 g44_0 mm44; exact m_no mm44 j44_8 rfl
        | succ k44 ih44 =>
          intro sc44 y44_3 y44_8 hIc44 hFc44 j44_7 j44_8 g44_0 mm44
          refine gg_w (M := 1 + k19 * 32401 + 1 + k44 * 900 + 900) gws ?_
          refine g_iload 46 (gd rfl) rfl rfl ?_
          refine g_iload 48 (gd rfl) rfl rfl ?_
          refine g_cmp_ge 51 67 (gd rfl) rfl rfl (fun c48 => ?_) (fun c48 => ?_)
          · skip
            refine g_aload_n 68 (gd rfl) rfl rfl ?_
            refine g_iload 70 (gd rfl) rfl rfl ?_
            refine g_iload 72 (gd rfl) rfl rfl ?_
            refine g_callv (X := _) (As := [.int y19_5, .int y19_6]) (r := []) (b := A 76) (q := 76) 75 (gd rfl) rfl rfl rfl rfl rfl (ww_o rfl) (Nat.le_of_ble_eq_true rfl) (Nat.zero_le _) (Nat.zero_le _) (k_183_76 (by first | exact dq1 hd rfl | exact dq0 hd rfl | exact dq2 hd rfl | exact dq3 hd rfl | omega) hIc44 (in_w 0 32 j19_5 rfl) (in_w 0 31 j19_6 rfl)) (fun e u h => h) (fun v u h => ?_)
            obtain ⟨s72, hI72, hF72, z72, rfl, rfl, i72, p72, p72a⟩ := h
            show GG _ _ _ _ _ _ _ _ [.int z72] _ _ _
            refine g_istore 77 (gd rfl) rfl (Nat.le_of_ble_eq_true rfl) ?_
            refine g_iload 79 (gd rfl) rfl rfl ?_
            refine g_if_ne 82 84 (gd rfl) rfl rfl (fun c79 => ?_) (fun c79 => ?_)
            · skip
              have i79 := z_ne 1 32 c79 i72 rfl
              refine g_aload_n 85 (gd rfl) rfl rfl ?_
              refine g_iload 87 (gd rfl) rfl rfl ?_
              refine g_iload 89 (gd rfl) rfl rfl ?_
              have p89 : (z72).toInt + (c1m (s72.1 83) 32 : Int) ≤ 32 := by exact p72
              have p89a : ∀ v : Nat, v < 32 → (s72.1 83 v).toInt < (z72).toInt := by exact p72a
              refine g_callv (X := _) (As := [.int y19_5, .int z72]) (r := []) (b := A 76) (q := 76) 92 (gd rfl) rfl rfl rfl rfl rfl (ww_o rfl) (Nat.le_of_ble_eq_true rfl) (Nat.zero_le _) (Nat.zero_le _) (k_184_76 (by first | exact dq1 hd rfl | exact dq0 hd rfl | exact dq2 hd rfl | exact dq3 hd rfl | omega) hI72 (in_w 0 32 j19_5 rfl) (in_w 0 32 i79 rfl) p89 p89a) (fun e u h => h) (fun v u h => ?_)
              obtain ⟨s89, hI89, hF89, z89, rfl, rfl, i89, p89b⟩ := h
              show GG _ _ _ _ _ _ _ _ [.int z89] _ _ _
              refine g_istore 94 (gd rfl) rfl (Nat.le_of_ble_eq_true rfl) ?_
              refine g_aload_n 95 (gd rfl) rfl rfl ?_
              have p95 : ∃ n m : Int, AE s89 n ∧ n ≤ 32 ∧ RN s89 n m := by exact ⟨(y19_5).toInt, (z89).toInt, ae_fr (ae_fr g44_0 hF72 rfl) hF89 rfl, by have a0 := in_u j44_7; have a1 := in_u j19_6; have a2 := in_u j19_5; have a3 := in_u h2; have a4 := in_u ro_32_1; have a5 := in_u j44_8; have a6 := in_u i89; have a7 := in_u i79; omega, p89b⟩
              refine g_callv (X := _) (As := []) (r := []) (b := A 76) (q := 76) 98 (gd rfl) rfl rfl rfl rfl rfl (ww_o rfl) (Nat.le_of_ble_eq_true rfl) (Nat.zero_le _) (Nat.zero_le _) (k_185_76 (by first | exact dq1 hd rfl | exact dq0 hd rfl | exact dq2 hd rfl | exact dq3 hd rfl | omega) hI89 p95) (fun e u h => h) (fun v u h => ?_)
              obtain ⟨s95, hI95, hF95, rfl, rfl, p95a⟩ := h
              show GG _ _ _ _ _ _ _ _ [] _ _ _
              refine g_aload_n 99 (gd rfl) rfl rfl ?_
              refine g_getA (q2 := 83) 102 (gd rfl) rfl rfl rfl rfl ?_
              refine g_iload 104 (gd rfl) rfl rfl ?_
              refine g_iaload 105 (gd rfl) rfl (n := 32) rfl (in_ix j19_6 rfl) (fun z104 e104 => ?_)
              have i104 := inv_I hI95 (n := 32) (t := 0) (-1) 31 rfl (in_ix j19_6 rfl) rfl e104
              have hr := p89b (y19_6).toNatClampNeg (by show (y19_6).toInt.toNat < 32; have a0 := in_u j44_7; have a1 := in_u j19_6; have a2 := in_u j19_5; have a3 := in_u h2; have a4 := in_u ro_32_1; have a5 := in_u j44_8; have a6 := in_u i89; have a7 := in_u i79; omega)
              rw [← hF95.1 83 rfl, ← e104] at hr
              have i105 : In z104 0 31 := by have h9 := hr.2 (by have e9 : (y19_6).toNatClampNeg = (y19_6).toInt.toNat := rfl; have a0 := in_u j44_7; have a1 := in_u j19_6; have a2 := in_u j19_5; have a3 := in_u h2; have a4 := in_u ro_32_1; have a5 := in_u j44_8; have a6 := in_u i89; have a7 := in_u i79; omega); exact ⟨h9, i104.2⟩
              have hr1 := hr.1
              refine g_istore 107 (gd rfl) rfl (Nat.le_of_ble_eq_true rfl) ?_
              refine g_iload 109 (gd rfl) rfl rfl ?_
              refine g_istore 111 (gd rfl) rfl (Nat.le_of_ble_eq_true rfl) ?_
              refine g_iinc 114 (gd rfl) rfl rfl (Nat.le_of_ble_eq_true rfl) (fun z111 e111 => ?_)
              have i111 := in_add 1 32 e111 j44_7 (in_c 1 rfl) rfl rfl
              refine g_goto 19 (gd rfl) rfl ?_
              have n19 : (z104).toInt < (z89).toInt := by have a0 := in_u j44_7; have a1 := in_u j19_6; have a2 := in_u j19_5; have a3 := in_u h2; have a4 := in_u ro_32_1; have a5 := in_u j44_8; have a6 := in_u i89; have a7 := in_u i79; have a8 := in_u i111; have a9 := t_add e111 j44_7 (in_c 1 rfl) rfl; have a10 := in_u ((in_c 1 rfl)); have a11 := in_u i105; omega
              have n19a : AE s95 (z89).toInt := by exact p95a (y19_5).toInt (z89).toInt (ae_fr (ae_fr g44_0 hF72 rfl) hF89 rfl) (by have a0 := in_u j44_7; have a1 := in_u j19_6; have a2 := in_u j19_5; have a3 := in_u h2; have a4 := in_u ro_32_1; have a5 := in_u j44_8; have a6 := in_u i89; have a7 := in_u i79; have a8 := in_u i111; have a9 := t_add e111 j44_7 (in_c 1 rfl) rfl; have a10 := in_u ((in_c 1 rfl)); have a11 := in_u i105; omega) p89b
              exact gg_w (by first | exact Nat.le_add_right _ _ | exact gw2 | exact gw3 | exact gwe rfl | exact gwf rfl | exact gwg rfl | exact gwh rfl | omega) (gg_f (gf_cons rfl (gf_cons rfl (gf_cons rfl (gf_cons rfl (gf_cons rfl (gf_cons rfl (gf_cons rfl gf_nil))))))) (ih19 s95 y44_3 z89 z104 z111 hI95 (fr_tr rfl (fr_tr rfl (fr_tr rfl hFc44 hF72) hF89) hF95) (in_w 0 32 i89 rfl) (in_w 0 31 i105 rfl) (in_w 0 32 i111 rfl) n19 n19a (m_up mm19 (t_add e111 j44_7 (in_c 1 rfl) rfl) (in_w 1 1 (in_c 1 rfl) rfl))))
            · skip
              have i79 := z_eq 0 0 c79 i72 rfl
              refine g_lload_n 83 (gd rfl) rfl rfl ?_
              exact g_lreturn (gd rfl) rfl (hP _ _ ⟨s72, hI72, (fr_tr rfl hFc44 hF72), y44_3, rfl, rfl⟩)
          · skip
            have i48 := r_lt1 0 31 c48 j44_8 j19_5 rfl
            have i48a := r_lt2 1 32 c48 j44_8 j19_5 rfl
            refine g_lload_n 52 (gd rfl) rfl rfl ?_
            refine g_aload_n 53 (gd rfl) rfl rfl ?_
            refine g_getA (q2 := 80) 56 (gd rfl) rfl rfl rfl rfl ?_
            refine g_iload 58 (gd rfl) rfl rfl ?_
            refine g_laload 59 (gd rfl) rfl (n := 32) rfl (in_ix i48 rfl) (fun z58 e58 => ?_)
            refine g_ladd 60 (gd rfl) rfl (fun z59 e59 => ?_)
            refine g_lstore_n 61 (gd rfl) rfl (Nat.le_of_ble_eq_true rfl) ?_
            refine g_iinc 64 (gd rfl) rfl rfl (Nat.le_of_ble_eq_true rfl) (fun z61 e61 => ?_)
            have i61 := in_add 1 32 e61 i48 (in_c 1 rfl) rfl rfl
            refine g_goto 44 (gd rfl) rfl ?_
            have n44 : AE sc44 (y19_5).toInt := by exact g44_0
            exact gg_w (by first | exact Nat.le_add_right _ _ | exact gw2 | exact gw3 | exact gwe rfl | exact gwf rfl | exact gwg rfl | exact gwh rfl | omega) (gg_f (gf_cons rfl (gf_cons rfl (gf_cons rfl (gf_cons rfl (gf_cons rfl (gf_cons rfl (gf_cons rfl (gf_cons rfl gf_nil)))))))) (ih44 sc44 z59 z61 hIc44 hFc44 (in_w 0 31 j44_7 rfl) (in_w 0 32 i61 rfl) n44 (m_up mm44 (t_add e61 i48 (in_c 1 rfl) rfl) (in_w 1 1 (in_c 1 rfl) rfl))))
      refine g_iload 21 (gd rfl) rfl rfl ?_
      refine g_bipush 32 23 (gd rfl) rfl rfl ?_
      refine g_cmp_ge 26 117 (gd rfl) rfl rfl (fun c23 => ?_) (fun c23 => ?_)
      · skip
        have i23 := r_le2 32 32 c23 (in_c 32 rfl) j19_7 rfl
        refine g_lload_n 118 (gd rfl) rfl rfl ?_
        exact g_lreturn (gd rfl) rfl (hP _ _ ⟨sc19, hIc19, hFc19, y19_3, rfl, rfl⟩)
      · skip
        have i23 := r_lt1 0 31 c23 j19_7 (in_c 32 rfl) rfl
        refine g_aload_n 27 (gd rfl) rfl rfl ?_
        refine g_iload 29 (gd rfl) rfl rfl ?_
        refine g_iload 31 (gd rfl) rfl rfl ?_
        refine g_callv (X := _) (As := [.int y19_5, .int y19_6]) (r := []) (b := A 76) (q := 76) 34 (gd rfl) rfl rfl rfl rfl rfl (ww_o rfl) (Nat.le_of_ble_eq_true rfl) (Nat.zero_le _) (Nat.zero_le _) (k_182_76 (by first | exact dq1 hd rfl | exact dq0 hd rfl | exact dq2 hd rfl | exact dq3 hd rfl | omega) hIc19 (in_w 0 32 j19_5 rfl) (in_w 0 31 j19_6 rfl)) (fun e u h => h) (fun v u h => ?_)
        obtain ⟨s31, hI31, hF31, z31, rfl, rfl, i31⟩ := h
        show GG _ _ _ _ _ _ _ _ [.int z31] _ _ _
        refine g_if_ne 37 41 (gd rfl) rfl rfl (fun c34 => ?_) (fun c34 => ?_)
        · skip
          have i34 := z_ne 1 1 c34 i31 rfl
          refine g_iconst 0 42 (gd rfl) rfl rfl ?_
          refine g_istore 44 (gd rfl) rfl (Nat.le_of_ble_eq_true rfl) ?_
          have n44 : AE s31 (y19_5).toInt := by exact ae_fr g19_0 hF31 rfl
          exact gg_w (by first | exact Nat.le_add_right _ _ | exact gw2 | exact gw3 | exact gwe rfl | exact gwf rfl | exact gwg rfl | exact gwh rfl | omega) (gg_f (gf_cons rfl (gf_cons rfl (gf_cons rfl (gf_cons rfl (gf_cons rfl (gf_cons rfl (gf_cons rfl (gf_cons rfl gf_nil)))))))) (ct44 33 s31 y19_3 (Int32.ofInt 0) hI31 (fr_tr rfl hFc19 hF31) (in_w 0 31 i23 rfl) (in_w 0 32 (in_c 0 rfl) rfl) n44 (m_in 33 (in_w 0 32 (in_c 0 rfl) rfl) rfl)))
        · skip
          have i34 := z_eq 0 0 c34 i31 rfl
          refine g_ldc2_w 9000000000000000 40 (gd rfl) rfl rfl ?_
          exact g_lreturn (gd rfl) rfl (hP _ _ ⟨s31, hI31, (fr_tr rfl hFc19 hF31), (Int64.ofInt 9000000000000000), rfl, rfl⟩)
  refine g_enter2 (k := 180) (N := 1070134) (by first | exact dq1 hd rfl | exact dq0 hd rfl | exact dq2 hd rfl | exact dq3 hd rfl | omega) rfl (Nat.le_of_ble_eq_true rfl) ?_
  refine g_aload_n 1 (gd rfl) rfl rfl ?_
  refine g_aload_n 2 (gd rfl) rfl rfl ?_
  have p2 : KN (s.1 34) (s.1 35) (s.2.2.1 32 1) := by exact q_0
  refine g_callv (X := _) (As := [.ref (A 32)]) (r := []) (b := A 76) (q := 76) 5 (gd rfl) rfl rfl rfl rfl rfl (ww_o rfl) (Nat.le_of_ble_eq_true rfl) (Nat.zero_le _) (Nat.zero_le _) (k_181_76_32 (by first | exact dq1 hd rfl | exact dq0 hd rfl | exact dq2 hd rfl | exact dq3 hd rfl | omega) hI p2) (fun e u h => h) (fun v u h => ?_)
  obtain ⟨s2, hI2, hF2, rfl, rfl, p2a⟩ := h
  show GG _ _ _ _ _ _ _ _ [] _ _ _
  refine g_lconst 0 6 (gd rfl) rfl rfl ?_
  refine g_lstore_n 7 (gd rfl) rfl (Nat.le_of_ble_eq_true rfl) ?_
  refine g_aload_n 8 (gd rfl) rfl rfl ?_
  refine g_getI 11 (gd rfl) rfl rfl rfl (fun z8 e8 => ?_)
  have q8 : u_32_1 = z8 := (fr_F (e_32_1) hF2 rfl).trans e8.symm
  subst q8
  refine g_istore 13 (gd rfl) rfl (Nat.le_of_ble_eq_true rfl) ?_
  refine g_iload_n 14 (gd rfl) rfl rfl ?_
  refine g_istore 16 (gd rfl) rfl (Nat.le_of_ble_eq_true rfl) ?_
  refine g_iconst 0 17 (gd rfl) rfl rfl ?_
  refine g_istore 19 (gd rfl) rfl (Nat.le_of_ble_eq_true rfl) ?_
  have n19 : (x2).toInt < (u_32_1).toInt := by have a0 := in_u ((inv_F hI 0 32 rfl e_32_1)); have a1 := in_u h2; have a2 := in_u ((in_c 0 rfl)); omega
  have n19a : AE s2 (u_32_1).toInt := by rw [e_32_1]; exact p2a
  exact gg_w (by first | exact Nat.le_of_ble_eq_true rfl | omega) (gg_f (gf_cons rfl (gf_cons rfl (gf_cons rfl (gf_cons rfl (gf_cons rfl (gf_cons rfl (gf_cons rfl gf_nil))))))) (ct19 33 s2 (Int64.ofInt 0) u_32_1 x2 (Int32.ofInt 0) hI2 (fr_tr rfl fr_rf hF2) (in_w 0 32 (inv_F hI 0 32 rfl e_32_1) rfl) (in_w 0 31 h2 rfl) (in_w 0 32 (in_c 0 rfl) rfl) n19 n19a (m_in 33 (in_w 0 32 (in_c 0 rfl) rfl) rfl)))

def fm_186_76_2 : FM := ([84], [], [], [])
/-- GraphHouse$Trees.isSpanning -/
theorem k_186_76_2 {Z : AmZ} {A : Nat → Nat} {s : GS} {ex : va_W} {d : Nat} {X : AmX} {x2 : Int32} (hd : 5 ≤ d) (hI : Inv s) (h2 : In x2 0 159) : GC Z d 186 [.ref (A 76), .ref (A 2), .int x2] (WW Z A s ++ ex) 0 0 (fun v u => ∃ t : GS, Inv t ∧ Fr fm_186_76_2 s t ∧ ∃ z : Int32, v = some (.int z) ∧ u = WW Z A t ++ ex ∧ In z 0 1) X := by
  intro post xp hP hX
  obtain ⟨u_2_3, e_2_3⟩ : ∃ w, w = s.2.2.1 2 3 := ⟨_, rfl⟩
  have ro_2_3 := inv_F hI 0 160 rfl e_2_3
  have ct20 : ∀ (k20 : Nat) (sc20 : GS) (y20_3 : Int32), Inv sc20 → Fr fm_186_76_2 s sc20 → (In y20_3 0 160) → 160 - (y20_3).toInt < (k20 : Int) → GG Z (d - 1) 186 post (gx xp) (1 + k20 * 900) 20 (fun j => xlook j [(0, .ref (A 76)), (1, .ref (A 2)), (2, .int x2), (3, .int y20_3)]) [] (WW Z A sc20 ++ ex) 0 0 := by
    intro k20
    induction k20 with
    | zero => intro sc20 y20_3 hIc20 hFc20 j20_3 mm20; exact m_no mm20 j20_3 rfl
    | succ k20 ih20 =>
      intro sc20 y20_3 hIc20 hFc20 j20_3 mm20
      refine gg_w (M := 1 + k20 * 900 + 900) gws ?_
      refine g_iload_n 21 (gd rfl) rfl rfl ?_
      refine g_aload_n 22 (gd rfl) rfl rfl ?_
      refine g_getI 25 (gd rfl) rfl rfl rfl (fun z22 e22 => ?_)
      have q22 : u_2_3 = z22 := (fr_F e_2_3 hFc20 rfl).trans e22.symm
      subst q22
      refine g_cmp_ge 28 95 (gd rfl) rfl rfl (fun c25 => ?_) (fun c25 => ?_)
      · skip
        refine g_aload_n 96 (gd rfl) rfl rfl ?_
        refine g_getA (q2 := 84) 99 (gd rfl) rfl rfl rfl rfl ?_
        refine g_iconst 1 100 (gd rfl) rfl rfl ?_
        refine g_aload_n 101 (gd rfl) rfl rfl ?_
        refine g_getA (q2 := 4) 104 (gd rfl) rfl rfl rfl rfl ?_
        refine g_iload_n 105 (gd rfl) rfl rfl ?_
        refine g_iaload 106 (gd rfl) rfl (n := 160) rfl (in_ix h2 rfl) (fun z105 e105 => ?_)
        have i105 := inv_I hIc20 (n := 160) (t := 0) (-1) 31 rfl (in_ix h2 rfl) rfl e105
        refine g_ishl 107 (gd rfl) rfl (fun z106 e106 => ?_)
        refine g_iconst (-1) 108 (gd rfl) rfl rfl ?_
        refine g_calls (As := [.ref (A 84), .int z106, .int (Int32.ofInt (-1))]) (r := []) 111 (gd rfl) rfl rfl rfl rfl rfl (Nat.le_of_ble_eq_true rfl) (Nat.zero_le _) (Nat.zero_le _) (k_266_84 (by first | exact dq1 hd rfl | exact dq0 hd rfl | exact dq2 hd rfl | exact dq3 hd rfl | omega) hIc20 (in_w (-1) (-1) (in_c (-1) rfl) rfl)) (fun v u h => ?_)
        obtain ⟨z108, rfl, rfl, i108, p108⟩ := h
        show GG _ _ _ _ _ _ _ _ [.int z108] _ _ _
        refine g_aload_n 112 (gd rfl) rfl rfl ?_
        refine g_getA (q2 := 5) 115 (gd rfl) rfl rfl rfl rfl ?_
        refine g_iload_n 116 (gd rfl) rfl rfl ?_
        refine g_iaload 117 (gd rfl) rfl (n := 160) rfl (in_ix h2 rfl) (fun z116 e116 => ?_)
        have i116 := inv_I hIc20 (n := 160) (t := 0) 0 31 rfl (in_ix h2 rfl) rfl e116
        refine g_ishr 118 (gd rfl) rfl (fun z117 e117 => ?_)
        refine g_iconst 1 119 (gd rfl) rfl rfl ?_
        refine g_iand 120 (gd rfl) rfl (fun z119 e119 => ?_)
        have i119 := in_and2 e119 (in_c 1 rfl) rfl
        refine g_if_ne 123 127 (gd rfl) rfl rfl (fun c120 => ?_) (fun c120 => ?_)
        · skip
          have i120 := z_ne 1 1 c120 i119 rfl
          refine g_iconst 0 128 (gd rfl) rfl rfl ?_
          exact g_ireturn (gd rfl) rfl (nb01 (in_w 0 1 (in_c 0 rfl) rfl)) (hP _ _ ⟨sc20, hIc20, hFc20, (Int32.ofInt 0), rfl, rfl, in_w 0 1 (in_c 0 rfl) rfl⟩)
        · skip
          have i120 := z_eq 0 0 c120 i119 rfl
          refine g_iconst 1 124 (gd rfl) rfl rfl ?_
          refine g_goto 128 (gd rfl) rfl ?_
          exact g_ireturn (gd rfl) rfl (nb01 (in_w 0 1 (in_c 1 rfl) rfl)) (hP _ _ ⟨sc20, hIc20, hFc20, (Int32.ofInt 1), rfl, rfl, in_w 0 1 (in_c 1 rfl) rfl⟩)
      · skip
        have i25 := r_lt1 0 159 c25 j20_3 ro_2_3 rfl
        have i25a := r_lt2 1 160 c25 j20_3 ro_2_3 rfl
        refine g_aload_n 29 (gd rfl) rfl rfl ?_
        refine g_iload_n 30 (gd rfl) rfl rfl ?_
        refine g_callv (X := _) (As := [.int y20_3]) (r := []) (b := A 2) (q := 2) 33 (gd rfl) rfl rfl rfl rfl rfl (ww_o rfl) (Nat.le_of_ble_eq_true rfl) (mc := 0) (ms := 0) (Nat.zero_le _) (Nat.zero_le _) (P := fun v u => _) ?_ (fun e u h => h) (fun v u h => h)
        intro po30 xx30 hp30 hx30
        refine g_enter2 (k := 97) (N := 300) (by first | exact dq1 hd rfl | exact dq0 hd rfl | exact dq2 hd rfl | exact dq3 hd rfl | omega) rfl (Nat.le_of_ble_eq_true rfl) ?_
        refine g_aload_n 1 (gd rfl) rfl rfl ?_
        refine g_getA (q2 := 4) 4 (gd rfl) rfl rfl rfl rfl ?_
        refine g_iload_n 5 (gd rfl) rfl rfl ?_
        refine g_iaload 6 (gd rfl) rfl (n := 160) rfl (in_ix i25 rfl) (fun z30x5 e30x5 => ?_)
        have i30x5 := inv_I hIc20 (n := 160) (t := 0) (-1) 31 rfl (in_ix i25 rfl) rfl e30x5
        refine g_iconst (-1) 7 (gd rfl) rfl rfl ?_
        refine g_cmp_eq 10 29 (gd rfl) rfl rfl (fun c30x7 => ?_) (fun c30x7 => ?_)
        · skip
          have i30x7 := r_eq1 (-1) (-1) c30x7 i30x5 (in_c (-1) rfl) rfl
          refine g_iconst 0 30 (gd rfl) rfl rfl ?_
          refine g_ireturn (gd rfl) rfl (nb01 (in_w 0 1 (in_c 0 rfl) rfl)) (hp30 _ _ ?_)
          show GG _ _ _ _ _ _ _ _ [.int (Int32.ofInt 0)] _ _ _
          refine g_if_eq 36 89 (gd rfl) rfl rfl (fun c33 => ?_) (fun c33 => ?_)
          · skip
            refine g_iinc 92 (gd rfl) rfl rfl (Nat.le_of_ble_eq_true rfl) (fun z89 e89 => ?_)
            have i89 := in_add 1 160 e89 i25 (in_c 1 rfl) rfl rfl
            refine g_goto 20 (gd rfl) rfl ?_
            exact gg_w (by first | exact Nat.le_add_right _ _ | exact gw2 | exact gw3 | exact gwe rfl | exact gwf rfl | exact gwg rfl | exact gwh rfl | omega) (gg_f (gf_cons rfl (gf_cons rfl (gf_cons rfl (gf_cons rfl gf_nil)))) (ih20 sc20 z89 hIc20 hFc20 (in_w 0 160 i89 rfl) (m_up mm20 (t_add e89 i25 (in_c 1 rfl) rfl) (in_w 1 1 (in_c 1 rfl) rfl))))
          · skip
            exact zn_ne c33 (in_c 0 rfl) rfl
        · skip
          have i30x7 := r_ne1 0 31 c30x7 i30x5 (in_c (-1) rfl) rfl
          refine g_aload_n 11 (gd rfl) rfl rfl ?_
          refine g_getA (q2 := 4) 14 (gd rfl) rfl rfl rfl rfl ?_
          refine g_iload_n 15 (gd rfl) rfl rfl ?_
          refine g_iaload 16 (gd rfl) rfl (n := 160) rfl (in_ix i25 rfl) (fun z30x15 e30x15 => ?_)
          have q30x15 : z30x5 = z30x15 := (e30x5).trans e30x15.symm
          subst q30x15
          refine g_aload_n 17 (gd rfl) rfl rfl ?_
          refine g_getA (q2 := 5) 20 (gd rfl) rfl rfl rfl rfl ?_
          refine g_iload_n 21 (gd rfl) rfl rfl ?_
          refine g_iaload 22 (gd rfl) rfl (n := 160) rfl (in_ix i25 rfl) (fun z30x21 e30x21 => ?_)
          have i30x21 := inv_I hIc20 (n := 160) (t := 0) 0 31 rfl (in_ix i25 rfl) rfl e30x21
          refine g_cmp_eq 25 29 (gd rfl) rfl rfl (fun c30x22 => ?_) (fun c30x22 => ?_)
          · skip
            refine g_iconst 0 30 (gd rfl) rfl rfl ?_
            refine g_ireturn (gd rfl) rfl (nb01 (in_w 0 1 (in_c 0 rfl) rfl)) (hp30 _ _ ?_)
            show GG _ _ _ _ _ _ _ _ [.int (Int32.ofInt 0)] _ _ _
            refine g_if_eq 36 89 (gd rfl) rfl rfl (fun c33 => ?_) (fun c33 => ?_)
            · skip
              refine g_iinc 92 (gd rfl) rfl rfl (Nat.le_of_ble_eq_true rfl) (fun z89 e89 => ?_)
              have i89 := in_add 1 160 e89 i25 (in_c 1 rfl) rfl rfl
              refine g_goto 20 (gd rfl) rfl ?_
              exact gg_w (by first | exact Nat.le_add_right _ _ | exact gw2 | exact gw3 | exact gwe rfl | exact gwf rfl | exact gwg rfl | exact gwh rfl | omega) (gg_f (gf_cons rfl (gf_cons rfl (gf_cons rfl (gf_cons rfl gf_nil)))) (ih20 sc20 z89 hIc20 hFc20 (in_w 0 160 i89 rfl) (m_up mm20 (t_add e89 i25 (in_c 1 rfl) rfl) (in_w 1 1 (in_c 1 rfl) rfl))))
            · skip
              exact zn_ne c33 (in_c 0 rfl) rfl
          · skip
            refine g_iconst 1 26 (gd rfl) rfl rfl ?_
            refine g_goto 30 (gd rfl) rfl ?_
            refine g_ireturn (gd rfl) rfl (nb01 (in_w 0 1 (in_c 1 rfl) rfl)) (hp30 _ _ ?_)
            show GG _ _ _ _ _ _ _ _ [.int (Int32.ofInt 1)] _ _ _
            refine g_if_eq 36 89 (gd rfl) rfl rfl (fun c33 => ?_) (fun c33 => ?_)
            · skip
              exact zn_eq c33 (in_c 1 rfl) rfl
            · skip
              refine g_aload_n 37 (gd rfl) rfl rfl ?_
              refine g_iload_n 38 (gd rfl) rfl rfl ?_
              refine g_iload_n 39 (gd rfl) rfl rfl ?_
              refine g_calls (As := [.ref (A 2), .int y20_3, .int x2]) (r := []) 42 (gd rfl) rfl rfl rfl rfl rfl (Nat.le_of_ble_eq_true rfl) (mc := 0) (ms := 0) (Nat.zero_le _) (Nat.zero_le _) (P := fun v u => _) ?_ (fun v u h => h)
              intro po39 xx39 hp39 hx39
              refine g_enter2 (k := 187) (N := 300) (by first | exact dq1 hd rfl | exact dq0 hd rfl | exact dq2 hd rfl | exact dq3 hd rfl | omega) rfl (Nat.le_of_ble_eq_true rfl) ?_
              refine g_aload_n 1 (gd rfl) rfl rfl ?_
              refine g_getA (q2 := 6) 4 (gd rfl) rfl rfl rfl rfl ?_
              refine g_iload_n 5 (gd rfl) rfl rfl ?_
              refine g_iaload 6 (gd rfl) rfl (n := 160) rfl (in_ix i25 rfl) (fun z39x5 e39x5 => ?_)
              have i39x5 := inv_I hIc20 (n := 160) (t := 0) (-1000000) 1000000 rfl (in_ix i25 rfl) rfl e39x5
              refine g_aload_n 7 (gd rfl) rfl rfl ?_
              refine g_getA (q2 := 6) 10 (gd rfl) rfl rfl rfl rfl ?_
              refine g_iload_n 11 (gd rfl) rfl rfl ?_
              refine g_iaload 12 (gd rfl) rfl (n := 160) rfl (in_ix h2 rfl) (fun z39x11 e39x11 => ?_)
              have i39x11 := inv_I hIc20 (n := 160) (t := 0) (-1000000) 1000000 rfl (in_ix h2 rfl) rfl e39x11
              refine g_cmp_lt 15 35 (gd rfl) rfl rfl (fun c39x12 => ?_) (fun c39x12 => ?_)
              · skip
                have i39x12 := r_lt1 (-1000000) 999999 c39x12 i39x5 i39x11 rfl
                have i39x12a := r_lt2 (-999999) 1000000 c39x12 i39x5 i39x11 rfl
                refine g_iconst 1 36 (gd rfl) rfl rfl ?_
                refine g_goto 40 (gd rfl) rfl ?_
                refine g_ireturn (gd rfl) rfl (nb01 (in_w 0 1 (in_c 1 rfl) rfl)) (hp39 _ _ ?_)
                show GG _ _ _ _ _ _ _ _ [.int (Int32.ofInt 1)] _ _ _
                refine g_if_eq 45 89 (gd rfl) rfl rfl (fun c42 => ?_) (fun c42 => ?_)
                · skip
                  exact zn_eq c42 (in_c 1 rfl) rfl
                · skip
                  refine g_aload_n 46 (gd rfl) rfl rfl ?_
                  refine g_getA (q2 := 84) 49 (gd rfl) rfl rfl rfl rfl ?_
                  refine g_aload_n 50 (gd rfl) rfl rfl ?_
                  refine g_getA (q2 := 4) 53 (gd rfl) rfl rfl rfl rfl ?_
                  refine g_iload_n 54 (gd rfl) rfl rfl ?_
                  refine g_iaload 55 (gd rfl) rfl (n := 160) rfl (in_ix i25 rfl) (fun z54 e54 => ?_)
                  have q54 : z30x5 = z54 := (e30x5).trans e54.symm
                  subst q54
                  refine g_dup2 56 (gd rfl) rfl rfl rfl ?_
                  refine g_iaload 57 (gd rfl) rfl (n := 32) rfl (in_ix i30x7 rfl) (fun z56 e56 => ?_)
                  refine g_iconst 1 58 (gd rfl) rfl rfl ?_
                  refine g_aload_n 59 (gd rfl) rfl rfl ?_
                  refine g_getA (q2 := 5) 62 (gd rfl) rfl rfl rfl rfl ?_
                  refine g_iload_n 63 (gd rfl) rfl rfl ?_
                  refine g_iaload 64 (gd rfl) rfl (n := 160) rfl (in_ix i25 rfl) (fun z63 e63 => ?_)
                  have q63 : z30x21 = z63 := (e30x21).trans e63.symm
                  subst q63
                  refine g_ishl 65 (gd rfl) rfl (fun z64 e64 => ?_)
                  refine g_ior 66 (gd rfl) rfl (fun z65 e65 => ?_)
                  refine g_iastore 67 (gd rfl) rfl (n := 32) rfl (in_ix i30x7 rfl) ?_
                  have hI66 := inv_sI (q := 84) (j := z30x5.toNatClampNeg) hIc20 rfl (in_w (-2147483648) 2147483647 (i_rng z65) rfl)
                  refine g_aload_n 68 (gd rfl) rfl rfl ?_
                  refine g_getA (q2 := 84) 71 (gd rfl) rfl rfl rfl rfl ?_
                  refine g_aload_n 72 (gd rfl) rfl rfl ?_
                  refine g_getA (q2 := 5) 75 (gd rfl) rfl rfl rfl rfl ?_
                  refine g_iload_n 76 (gd rfl) rfl rfl ?_
                  refine g_iaload 77 (gd rfl) rfl (n := 160) rfl (in_ix i25 rfl) (fun z76 e76 => ?_)
                  have q76 : z30x21 = z76 := (sI_ne rfl (e30x21)).trans e76.symm
                  subst q76
                  refine g_dup2 78 (gd rfl) rfl rfl rfl ?_
                  refine g_iaload 79 (gd rfl) rfl (n := 32) rfl (in_ix i30x21 rfl) (fun z78 e78 => ?_)
                  refine g_iconst 1 80 (gd rfl) rfl rfl ?_
                  refine g_aload_n 81 (gd rfl) rfl rfl ?_
                  refine g_getA (q2 := 4) 84 (gd rfl) rfl rfl rfl rfl ?_
                  refine g_iload_n 85 (gd rfl) rfl rfl ?_
                  refine g_iaload 86 (gd rfl) rfl (n := 160) rfl (in_ix i25 rfl) (fun z85 e85 => ?_)
                  have q85 : z30x5 = z85 := (sI_ne rfl (e30x5)).trans e85.symm
                  subst q85
                  refine g_ishl 87 (gd rfl) rfl (fun z86 e86 => ?_)
                  refine g_ior 88 (gd rfl) rfl (fun z87 e87 => ?_)
                  refine g_iastore 89 (gd rfl) rfl (n := 32) rfl (in_ix i30x21 rfl) ?_
                  have hI88 := inv_sI (q := 84) (j := z30x21.toNatClampNeg) hI66 rfl (in_w (-2147483648) 2147483647 (i_rng z87) rfl)
                  refine g_iinc 92 (gd rfl) rfl rfl (Nat.le_of_ble_eq_true rfl) (fun z89 e89 => ?_)
                  have i89 := in_add 1 160 e89 i25 (in_c 1 rfl) rfl rfl
                  refine g_goto 20 (gd rfl) rfl ?_
                  exact gg_w (by first | exact Nat.le_add_right _ _ | exact gw2 | exact gw3 | exact gwe rfl | exact gwf rfl | exact gwg rfl | exact gwh rfl | omega) (gg_f (gf_cons rfl (gf_cons rfl (gf_cons rfl (gf_cons rfl gf_nil)))) (ih20 (sI (sI sc20 84 z30x5.toNatClampNeg z65) 84 z30x21.toNatClampNeg z87) z89 hI88 (fr_sI rfl (fr_sI rfl hFc20)) (in_w 0 160 i89 rfl) (m_up mm20 (t_add e89 i25 (in_c 1 rfl) rfl) (in_w 1 1 (in_c 1 rfl) rfl))))
              · skip
                refine g_aload_n 16 (gd rfl) rfl rfl ?_
                refine g_getA (q2 := 6) 19 (gd rfl) rfl rfl rfl rfl ?_
                refine g_iload_n 20 (gd rfl) rfl rfl ?_
                refine g_iaload 21 (gd rfl) rfl (n := 160) rfl (in_ix i25 rfl) (fun z39x20 e39x20 => ?_)
                have q39x20 : z39x5 = z39x20 := (e39x5).trans e39x20.symm
                subst q39x20
                refine g_aload_n 22 (gd rfl) rfl rfl ?_
                refine g_getA (q2 := 6) 25 (gd rfl) rfl rfl rfl rfl ?_
                refine g_iload_n 26 (gd rfl) rfl rfl ?_
                refine g_iaload 27 (gd rfl) rfl (n := 160) rfl (in_ix h2 rfl) (fun z39x26 e39x26 => ?_)
                have q39x26 : z39x11 = z39x26 := (e39x11).trans e39x26.symm
                subst q39x26
                refine g_cmp_ne 30 39 (gd rfl) rfl rfl (fun c39x27 => ?_) (fun c39x27 => ?_)
                · skip
                  refine g_iconst 0 40 (gd rfl) rfl rfl ?_
                  refine g_ireturn (gd rfl) rfl (nb01 (in_w 0 1 (in_c 0 rfl) rfl)) (hp39 _ _ ?_)
                  show GG _ _ _ _ _ _ _ _ [.int (Int32.ofInt 0)] _ _ _
                  refine g_if_eq 45 89 (gd rfl) rfl rfl (fun c42 => ?_) (fun c42 => ?_)
                  · skip
                    refine g_iinc 92 (gd rfl) rfl rfl (Nat.le_of_ble_eq_true rfl) (fun z89 e89 => ?_)
                    have i89 := in_add 1 160 e89 i25 (in_c 1 rfl) rfl rfl
                    refine g_goto 20 (gd rfl) rfl ?_
                    exact gg_w (by first | exact Nat.le_add_right _ _ | exact gw2 | exact gw3 | exact gwe rfl | exact gwf rfl | exact gwg rfl | exact gwh rfl | omega) (gg_f (gf_cons rfl (gf_cons rfl (gf_cons rfl (gf_cons rfl gf_nil)))) (ih20 sc20 z89 hIc20 hFc20 (in_w 0 160 i89 rfl) (m_up mm20 (t_add e89 i25 (in_c 1 rfl) rfl) (in_w 1 1 (in_c 1 rfl) rfl))))
                  · skip
                    exact zn_ne c42 (in_c 0 rfl) rfl
                · skip
                  refine g_iload_n 31 (gd rfl) rfl rfl ?_
                  refine g_iload_n 32 (gd rfl) rfl rfl ?_
                  refine g_cmp_ge 35 39 (gd rfl) rfl rfl (fun c39x32 => ?_) (fun c39x32 => ?_)
                  · skip
                    refine g_iconst 0 40 (gd rfl) rfl rfl ?_
                    refine g_ireturn (gd rfl) rfl (nb01 (in_w 0 1 (in_c 0 rfl) rfl)) (hp39 _ _ ?_)
                    show GG _ _ _ _ _ _ _ _ [.int (Int32.ofInt 0)] _ _ _
                    refine g_if_eq 45 89 (gd rfl) rfl rfl (fun c42 => ?_) (fun c42 => ?_)
                    · skip
                      refine g_iinc 92 (gd rfl) rfl rfl (Nat.le_of_ble_eq_true rfl) (fun z89 e89 => ?_)
                      have i89 := in_add 1 160 e89 i25 (in_c 1 rfl) rfl rfl
                      refine g_goto 20 (gd rfl) rfl ?_
                      exact gg_w (by first | exact Nat.le_add_right _ _ | exact gw2 | exact gw3 | exact gwe rfl | exact gwf rfl | exact gwg rfl | exact gwh rfl | omega) (gg_f (gf_cons rfl (gf_cons rfl (gf_cons rfl (gf_cons rfl gf_nil)))) (ih20 sc20 z89 hIc20 hFc20 (in_w 0 160 i89 rfl) (m_up mm20 (t_add e89 i25 (in_c 1 rfl) rfl) (in_w 1 1 (in_c 1 rfl) rfl))))
                    · skip
                      exact zn_ne c42 (in_c 0 rfl) rfl
                  · skip
                    have i39x32 := r_lt1 0 158 c39x32 i25 h2 rfl
                    have i39x32a := r_lt2 1 159 c39x32 i25 h2 rfl
                    refine g_iconst 1 36 (gd rfl) rfl rfl ?_
                    refine g_goto 40 (gd rfl) rfl ?_
                    refine g_ireturn (gd rfl) rfl (nb01 (in_w 0 1 (in_c 1 rfl) rfl)) (hp39 _ _ ?_)
                    show GG _ _ _ _ _ _ _ _ [.int (Int32.ofInt 1)] _ _ _
                    refine g_if_eq 45 89 (gd rfl) rfl rfl (fun c42 => ?_) (fun c42 => ?_)
                    · skip
                      exact zn_eq c42 (in_c 1 rfl) rfl
                    · skip
                      refine g_aload_n 46 (gd rfl) rfl rfl ?_
                      refine g_getA (q2 := 84) 49 (gd rfl) rfl rfl rfl rfl ?_
                      refine g_aload_n 50 (gd rfl) rfl rfl ?_
                      refine g_getA (q2 := 4) 53 (gd rfl) rfl rfl rfl rfl ?_
                      refine g_iload_n 54 (gd rfl) rfl rfl ?_
                      refine g_iaload 55 (gd rfl) rfl (n := 160) rfl (in_ix i39x32 rfl) (fun z54 e54 => ?_)
                      have q54 : z30x5 = z54 := (e30x5).trans e54.symm
                      subst q54
                      refine g_dup2 56 (gd rfl) rfl rfl rfl ?_
                      refine g_iaload 57 (gd rfl) rfl (n := 32) rfl (in_ix i30x7 rfl) (fun z56 e56 => ?_)
                      refine g_iconst 1 58 (gd rfl) rfl rfl ?_
                      refine g_aload_n 59 (gd rfl) rfl rfl ?_
                      refine g_getA (q2 := 5) 62 (gd rfl) rfl rfl rfl rfl ?_
                      refine g_iload_n 63 (gd rfl) rfl rfl ?_
                      refine g_iaload 64 (gd rfl) rfl (n := 160) rfl (in_ix i39x32 rfl) (fun z63 e63 => ?_)
                      have q63 : z30x21 = z63 := (e30x21).trans e63.symm
                      subst q63
                      refine g_ishl 65 (gd rfl) rfl (fun z64 e64 => ?_)
                      refine g_ior 66 (gd rfl) rfl (fun z65 e65 => ?_)
                      refine g_iastore 67 (gd rfl) rfl (n := 32) rfl (in_ix i30x7 rfl) ?_
                      have hI66 := inv_sI (q := 84) (j := z30x5.toNatClampNeg) hIc20 rfl (in_w (-2147483648) 2147483647 (i_rng z65) rfl)
                      refine g_aload_n 68 (gd rfl) rfl rfl ?_
                      refine g_getA (q2 := 84) 71 (gd rfl) rfl rfl rfl rfl ?_
                      refine g_aload_n 72 (gd rfl) rfl rfl ?_
                      refine g_getA (q2 := 5) 75 (gd rfl) rfl rfl rfl rfl ?_
                      refine g_iload_n 76 (gd rfl) rfl rfl ?_
                      refine g_iaload 77 (gd rfl) rfl (n := 160) rfl (in_ix i39x32 rfl) (fun z76 e76 => ?_)
                      have q76 : z30x21 = z76 := (sI_ne rfl (e30x21)).trans e76.symm
                      subst q76
                      refine g_dup2 78 (gd rfl) rfl rfl rfl ?_
                      refine g_iaload 79 (gd rfl) rfl (n := 32) rfl (in_ix i30x21 rfl) (fun z78 e78 => ?_)
                      refine g_iconst 1 80 (gd rfl) rfl rfl ?_
                      refine g_aload_n 81 (gd rfl) rfl rfl ?_
                      refine g_getA (q2 := 4) 84 (gd rfl) rfl rfl rfl rfl ?_
                      refine g_iload_n 85 (gd rfl) rfl rfl ?_
                      refine g_iaload 86 (gd rfl) rfl (n := 160) rfl (in_ix i39x32 rfl) (fun z85 e85 => ?_)
                      have q85 : z30x5 = z85 := (sI_ne rfl (e30x5)).trans e85.symm
                      subst q85
                      refine g_ishl 87 (gd rfl) rfl (fun z86 e86 => ?_)
                      refine g_ior 88 (gd rfl) rfl (fun z87 e87 => ?_)
                      refine g_iastore 89 (gd rfl) rfl (n := 32) rfl (in_ix i30x21 rfl) ?_
                      have hI88 := inv_sI (q := 84) (j := z30x21.toNatClampNeg) hI66 rfl (in_w (-2147483648) 2147483647 (i_rng z87) rfl)
                      refine g_iinc 92 (gd rfl) rfl rfl (Nat.le_of_ble_eq_true rfl) (fun z89 e89 => ?_)
                      have i89 := in_add 1 159 e89 i39x32 (in_c 1 rfl) rfl rfl
                      refine g_goto 20 (gd rfl) rfl ?_
                      exact gg_w (by first | exact Nat.le_add_right _ _ | exact gw2 | exact gw3 | exact gwe rfl | exact gwf rfl | exact gwg rfl | exact gwh rfl | omega) (gg_f (gf_cons rfl (gf_cons rfl (gf_cons rfl (gf_cons rfl gf_nil)))) (ih20 (sI (sI sc20 84 z30x5.toNatClampNeg z65) 84 z30x21.toNatClampNeg z87) z89 hI88 (fr_sI rfl (fr_sI rfl hFc20)) (in_w 0 160 i89 rfl) (m_up mm20 (t_add e89 i39x32 (in_c 1 rfl) rfl) (in_w 1 1 (in_c 1 rfl) rfl))))
  refine g_enter2 (k := 186) (N := 145801) (by first | exact dq1 hd rfl | exact dq0 hd rfl | exact dq2 hd rfl | exact dq3 hd rfl | omega) rfl (Nat.le_of_ble_eq_true rfl) ?_
  refine g_aload_n 1 (gd rfl) rfl rfl ?_
  refine g_iload_n 2 (gd rfl) rfl rfl ?_
  refine g_callv (X := _) (As := [.int x2]) (r := []) (b := A 2) (q := 2) 5 (gd rfl) rfl rfl rfl rfl rfl (ww_o rfl) (Nat.le_of_ble_eq_true rfl) (mc := 0) (ms := 0) (Nat.zero_le _) (Nat.zero_le _) (P := fun v u => _) ?_ (fun e u h => h) (fun v u h => h)
  intro po2 xx2 hp2 hx2
  refine g_enter2 (k := 97) (N := 300) (by first | exact dq1 hd rfl | exact dq0 hd rfl | exact dq2 hd rfl | exact dq3 hd rfl | omega) rfl (Nat.le_of_ble_eq_true rfl) ?_
  refine g_aload_n 1 (gd rfl) rfl rfl ?_
  refine g_getA (q2 := 4) 4 (gd rfl) rfl rfl rfl rfl ?_
  refine g_iload_n 5 (gd rfl) rfl rfl ?_
  refine g_iaload 6 (gd rfl) rfl (n := 160) rfl (in_ix h2 rfl) (fun z2x5 e2x5 => ?_)
  have i2x5 := inv_I hI (n := 160) (t := 0) (-1) 31 rfl (in_ix h2 rfl) rfl e2x5
  refine g_iconst (-1) 7 (gd rfl) rfl rfl ?_
  refine g_cmp_eq 10 29 (gd rfl) rfl rfl (fun c2x7 => ?_) (fun c2x7 => ?_)
  · skip
    have i2x7 := r_eq1 (-1) (-1) c2x7 i2x5 (in_c (-1) rfl) rfl
    refine g_iconst 0 30 (gd rfl) rfl rfl ?_
    refine g_ireturn (gd rfl) rfl (nb01 (in_w 0 1 (in_c 0 rfl) rfl)) (hp2 _ _ ?_)
    show GG _ _ _ _ _ _ _ _ [.int (Int32.ofInt 0)] _ _ _
    refine g_if_ne 8 10 (gd rfl) rfl rfl (fun c5 => ?_) (fun c5 => ?_)
    · skip
      exact zn_ne c5 (in_c 0 rfl) rfl
    · skip
      refine g_iconst 0 9 (gd rfl) rfl rfl ?_
      exact g_ireturn (gd rfl) rfl (nb01 (in_w 0 1 (in_c 0 rfl) rfl)) (hP _ _ ⟨s, hI, fr_rf, (Int32.ofInt 0), rfl, rfl, in_w 0 1 (in_c 0 rfl) rfl⟩)
  · skip
    have i2x7 := r_ne1 0 31 c2x7 i2x5 (in_c (-1) rfl) rfl
    refine g_aload_n 11 (gd rfl) rfl rfl ?_
    refine g_getA (q2 := 4) 14 (gd rfl) rfl rfl rfl rfl ?_
    refine g_iload_n 15 (gd rfl) rfl rfl ?_
    refine g_iaload 16 (gd rfl) rfl (n := 160) rfl (in_ix h2 rfl) (fun z2x15 e2x15 => ?_)
    have q2x15 : z2x5 = z2x15 := (e2x5).trans e2x15.symm
    subst q2x15
    refine g_aload_n 17 (gd rfl) rfl rfl ?_
    refine g_getA (q2 := 5) 20 (gd rfl) rfl rfl rfl rfl ?_
    refine g_iload_n 21 (gd rfl) rfl rfl ?_
    refine g_iaload 22 (gd rfl) rfl (n := 160) rfl (in_ix h2 rfl) (fun z2x21 e2x21 => ?_)
    have i2x21 := inv_I hI (n := 160) (t := 0) 0 31 rfl (in_ix h2 rfl) rfl e2x21
    refine g_cmp_eq 25 29 (gd rfl) rfl rfl (fun c2x22 => ?_) (fun c2x22 => ?_)
    · skip
      refine g_iconst 0 30 (gd rfl) rfl rfl ?_
      refine g_ireturn (gd rfl) rfl (nb01 (in_w 0 1 (in_c 0 rfl) rfl)) (hp2 _ _ ?_)
      show GG _ _ _ _ _ _ _ _ [.int (Int32.ofInt 0)] _ _ _
      refine g_if_ne 8 10 (gd rfl) rfl rfl (fun c5 => ?_) (fun c5 => ?_)
      · skip
        exact zn_ne c5 (in_c 0 rfl) rfl
      · skip
        refine g_iconst 0 9 (gd rfl) rfl rfl ?_
        exact g_ireturn (gd rfl) rfl (nb01 (in_w 0 1 (in_c 0 rfl) rfl)) (hP _ _ ⟨s, hI, fr_rf, (Int32.ofInt 0), rfl, rfl, in_w 0 1 (in_c 0 rfl) rfl⟩)
    · skip
      refine g_iconst 1 26 (gd rfl) rfl rfl ?_
      refine g_goto 30 (gd rfl) rfl ?_
      refine g_ireturn (gd rfl) rfl (nb01 (in_w 0 1 (in_c 1 rfl) rfl)) (hp2 _ _ ?_)
      show GG _ _ _ _ _ _ _ _ [.int (Int32.ofInt 1)] _ _ _
      refine g_if_ne 8 10 (gd rfl) rfl rfl (fun c5 => ?_) (fun c5 => ?_)
      · skip
        refine g_aload_n 11 (gd rfl) rfl rfl ?_
        refine g_getA (q2 := 84) 14 (gd rfl) rfl rfl rfl rfl ?_
        refine g_iconst 0 15 (gd rfl) rfl rfl ?_
        refine g_calls (As := [.ref (A 84), .int (Int32.ofInt 0)]) (r := []) 18 (gd rfl) rfl rfl rfl rfl rfl (Nat.le_of_ble_eq_true rfl) (Nat.zero_le _) (Nat.zero_le _) (k_fillI 84 (by first | exact dq1 hd rfl | exact dq0 hd rfl | exact dq2 hd rfl | exact dq3 hd rfl | omega) hI (in_c 0 rfl) (n := 32) rfl rfl rfl rfl) (fun v u h => ?_)
        obtain ⟨s15, hI15, hF15, rfl, rfl, fl15⟩ := h
        show GG _ _ _ _ _ _ _ _ [] _ _ _
        refine g_iconst 0 19 (gd rfl) rfl rfl ?_
        refine g_istore_n 20 (gd rfl) rfl (Nat.le_of_ble_eq_true rfl) ?_
        exact gg_w (by first | exact Nat.le_of_ble_eq_true rfl | omega) (gg_f (gf_cons rfl (gf_cons rfl (gf_cons rfl (gf_cons rfl gf_nil)))) (ct20 161 s15 (Int32.ofInt 0) hI15 (fr_tr rfl fr_rf hF15) (in_w 0 160 (in_c 0 rfl) rfl) (m_in 161 (in_w 0 160 (in_c 0 rfl) rfl) rfl)))
      · skip
        exact zn_eq c5 (in_c 1 rfl) rfl

def fm_186_76_32 : FM := ([84], [], [], [])
/-- GraphHouse$Trees.isSpanning -/
theorem k_186_76_32 {Z : AmZ} {A : Nat → Nat} {s : GS} {ex : va_W} {d : Nat} {X : AmX} {x2 : Int32} (hd : 5 ≤ d) (hI : Inv s) (h2 : In x2 0 159) : GC Z d 186 [.ref (A 76), .ref (A 32), .int x2] (WW Z A s ++ ex) 0 0 (fun v u => ∃ t : GS, Inv t ∧ Fr fm_186_76_32 s t ∧ ∃ z : Int32, v = some (.int z) ∧ u = WW Z A t ++ ex ∧ In z 0 1) X := by
  intro post xp hP hX
  obtain ⟨u_32_3, e_32_3⟩ : ∃ w, w = s.2.2.1 32 3 := ⟨_, rfl⟩
  have ro_32_3 := inv_F hI 0 160 rfl e_32_3
  have ct20 : ∀ (k20 : Nat) (sc20 : GS) (y20_3 : Int32), Inv sc20 → Fr fm_186_76_32 s sc20 → (In y20_3 0 160) → 160 - (y20_3).toInt < (k20 : Int) → GG Z (d - 1) 186 post (gx xp) (1 + k20 * 900) 20 (fun j => xlook j [(0, .ref (A 76)), (1, .ref (A 32)), (2, .int x2), (3, .int y20_3)]) [] (WW Z A sc20 ++ ex) 0 0 := by
    intro k20
    induction k20 with
    | zero => intro sc20 y20_3 hIc20 hFc20 j20_3 mm20; exact m_no mm20 j20_3 rfl
    | succ k20 ih20 =>
      intro sc20 y20_3 hIc20 hFc20 j20_3 mm20
      refine gg_w (M := 1 + k20 * 900 + 900) gws ?_
      refine g_iload_n 21 (gd rfl) rfl rfl ?_
      refine g_aload_n 22 (gd rfl) rfl rfl ?_
      refine g_getI 25 (gd rfl) rfl rfl rfl (fun z22 e22 => ?_)
      have q22 : u_32_3 = z22 := (fr_F e_32_3 hFc20 rfl).trans e22.symm
      subst q22
      refine g_cmp_ge 28 95 (gd rfl) rfl rfl (fun c25 => ?_) (fun c25 => ?_)
      · skip
        refine g_aload_n 96 (gd rfl) rfl rfl ?_
        refine g_getA (q2 := 84) 99 (gd rfl) rfl rfl rfl rfl ?_
        refine g_iconst 1 100 (gd rfl) rfl rfl ?_
        refine g_aload_n 101 (gd rfl) rfl rfl ?_
        refine g_getA (q2 := 34) 104 (gd rfl) rfl rfl rfl rfl ?_
        refine g_iload_n 105 (gd rfl) rfl rfl ?_
        refine g_iaload 106 (gd rfl) rfl (n := 160) rfl (in_ix h2 rfl) (fun z105 e105 => ?_)
        have i105 := inv_I hIc20 (n := 160) (t := 0) (-1) 31 rfl (in_ix h2 rfl) rfl e105
        refine g_ishl 107 (gd rfl) rfl (fun z106 e106 => ?_)
        refine g_iconst (-1) 108 (gd rfl) rfl rfl ?_
        refine g_calls (As := [.ref (A 84), .int z106, .int (Int32.ofInt (-1))]) (r := []) 111 (gd rfl) rfl rfl rfl rfl rfl (Nat.le_of_ble_eq_true rfl) (Nat.zero_le _) (Nat.zero_le _) (k_266_84 (by first | exact dq1 hd rfl | exact dq0 hd rfl | exact dq2 hd rfl | exact dq3 hd rfl | omega) hIc20 (in_w (-1) (-1) (in_c (-1) rfl) rfl)) (fun v u h => ?_)
        obtain ⟨z108, rfl, rfl, i108, p108⟩ := h
        show GG _ _ _ _ _ _ _ _ [.int z108] _ _ _
        refine g_aload_n 112 (gd rfl) rfl rfl ?_
        refine g_getA (q2 := 35) 115 (gd rfl) rfl rfl rfl rfl ?_
        refine g_iload_n 116 (gd rfl) rfl rfl ?_
        refine g_iaload 117 (gd rfl) rfl (n := 160) rfl (in_ix h2 rfl) (fun z116 e116 => ?_)
        have i116 := inv_I hIc20 (n := 160) (t := 0) 0 31 rfl (in_ix h2 rfl) rfl e116
        refine g_ishr 118 (gd rfl) rfl (fun z117 e117 => ?_)
        refine g_iconst 1 119 (gd rfl) rfl rfl ?_
        refine g_iand 120 (gd rfl) rfl (fun z119 e119 => ?_)
        have i119 := in_and2 e119 (in_c 1 rfl) rfl
        refine g_if_ne 123 127 (gd rfl) rfl rfl (fun c120 => ?_) (fun c120 => ?_)
        · skip
          have i120 := z_ne 1 1 c120 i119 rfl
          refine g_iconst 0 128 (gd rfl) rfl rfl ?_
          exact g_ireturn (gd rfl) rfl (nb01 (in_w 0 1 (in_c 0 rfl) rfl)) (hP _ _ ⟨sc20, hIc20, hFc20, (Int32.ofInt 0), rfl, rfl, in_w 0 1 (in_c 0 rfl) rfl⟩)
        · skip
          have i120 := z_eq 0 0 c120 i119 rfl
          refine g_iconst 1 124 (gd rfl) rfl rfl ?_
          refine g_goto 128 (gd rfl) rfl ?_
          exact g_ireturn (gd rfl) rfl (nb01 (in_w 0 1 (in_c 1 rfl) rfl)) (hP _ _ ⟨sc20, hIc20, hFc20, (Int32.ofInt 1), rfl, rfl, in_w 0 1 (in_c 1 rfl) rfl⟩)
      · skip
        have i25 := r_lt1 0 159 c25 j20_3 ro_32_3 rfl
        have i25a := r_lt2 1 160 c25 j20_3 ro_32_3 rfl
        refine g_aload_n 29 (gd rfl) rfl rfl ?_
        refine g_iload_n 30 (gd rfl) rfl rfl ?_
        refine g_callv (X := _) (As := [.int y20_3]) (r := []) (b := A 32) (q := 32) 33 (gd rfl) rfl rfl rfl rfl rfl (ww_o rfl) (Nat.le_of_ble_eq_true rfl) (mc := 0) (ms := 0) (Nat.zero_le _) (Nat.zero_le _) (P := fun v u => _) ?_ (fun e u h => h) (fun v u h => h)
        intro po30 xx30 hp30 hx30
        refine g_enter2 (k := 97) (N := 300) (by first | exact dq1 hd rfl | exact dq0 hd rfl | exact dq2 hd rfl | exact dq3 hd rfl | omega) rfl (Nat.le_of_ble_eq_true rfl) ?_
        refine g_aload_n 1 (gd rfl) rfl rfl ?_
        refine g_getA (q2 := 34) 4 (gd rfl) rfl rfl rfl rfl ?_
        refine g_iload_n 5 (gd rfl) rfl rfl ?_
        refine g_iaload 6 (gd rfl) rfl (n := 160) rfl (in_ix i25 rfl) (fun z30x5 e30x5 => ?_)
        have i30x5 := inv_I hIc20 (n := 160) (t := 0) (-1) 31 rfl (in_ix i25 rfl) rfl e30x5
        refine g_iconst (-1) 7 (gd rfl) rfl rfl ?_
        refine g_cmp_eq 10 29 (gd rfl) rfl rfl (fun c30x7 => ?_) (fun c30x7 => ?_)
        · skip
          have i30x7 := r_eq1 (-1) (-1) c30x7 i30x5 (in_c (-1) rfl) rfl
          refine g_iconst 0 30 (gd rfl) rfl rfl ?_
          refine g_ireturn (gd rfl) rfl (nb01 (in_w 0 1 (in_c 0 rfl) rfl)) (hp30 _ _ ?_)
          show GG _ _ _ _ _ _ _ _ [.int (Int32.ofInt 0)] _ _ _
          refine g_if_eq 36 89 (gd rfl) rfl rfl (fun c33 => ?_) (fun c33 => ?_)
          · skip
            refine g_iinc 92 (gd rfl) rfl rfl (Nat.le_of_ble_eq_true rfl) (fun z89 e89 => ?_)
            have i89 := in_add 1 160 e89 i25 (in_c 1 rfl) rfl rfl
            refine g_goto 20 (gd rfl) rfl ?_
            exact gg_w (by first | exact Nat.le_add_right _ _ | exact gw2 | exact gw3 | exact gwe rfl | exact gwf rfl | exact gwg rfl | exact gwh rfl | omega) (gg_f (gf_cons rfl (gf_cons rfl (gf_cons rfl (gf_cons rfl gf_nil)))) (ih20 sc20 z89 hIc20 hFc20 (in_w 0 160 i89 rfl) (m_up mm20 (t_add e89 i25 (in_c 1 rfl) rfl) (in_w 1 1 (in_c 1 rfl) rfl))))
          · skip
            exact zn_ne c33 (in_c 0 rfl) rfl
        · skip
          have i30x7 := r_ne1 0 31 c30x7 i30x5 (in_c (-1) rfl) rfl
          refine g_aload_n 11 (gd rfl) rfl rfl ?_
          refine g_getA (q2 := 34) 14 (gd rfl) rfl rfl rfl rfl ?_
          refine g_iload_n 15 (gd rfl) rfl rfl ?_
          refine g_iaload 16 (gd rfl) rfl (n := 160) rfl (in_ix i25 rfl) (fun z30x15 e30x15 => ?_)
          have q30x15 : z30x5 = z30x15 := (e30x5).trans e30x15.symm
          subst q30x15
          refine g_aload_n 17 (gd rfl) rfl rfl ?_
          refine g_getA (q2 := 35) 20 (gd rfl) rfl rfl rfl rfl ?_
          refine g_iload_n 21 (gd rfl) rfl rfl ?_
          refine g_iaload 22 (gd rfl) rfl (n := 160) rfl (in_ix i25 rfl) (fun z30x21 e30x21 => ?_)
          have i30x21 := inv_I hIc20 (n := 160) (t := 0) 0 31 rfl (in_ix i25 rfl) rfl e30x21
          refine g_cmp_eq 25 29 (gd rfl) rfl rfl (fun c30x22 => ?_) (fun c30x22 => ?_)
          · skip
            refine g_iconst 0 30 (gd rfl) rfl rfl ?_
            refine g_ireturn (gd rfl) rfl (nb01 (in_w 0 1 (in_c 0 rfl) rfl)) (hp30 _ _ ?_)
            show GG _ _ _ _ _ _ _ _ [.int (Int32.ofInt 0)] _ _ _
            refine g_if_eq 36 89 (gd rfl) rfl rfl (fun c33 => ?_) (fun c33 => ?_)
            · skip
              refine g_iinc 92 (gd rfl) rfl rfl (Nat.le_of_ble_eq_true rfl) (fun z89 e89 => ?_)
              have i89 := in_add 1 160 e89 i25 (in_c 1 rfl) rfl rfl
              refine g_goto 20 (gd rfl) rfl ?_
              exact gg_w (by first | exact Nat.le_add_right _ _ | exact gw2 | exact gw3 | exact gwe rfl | exact gwf rfl | exact gwg rfl | exact gwh rfl | omega) (gg_f (gf_cons rfl (gf_cons rfl (gf_cons rfl (gf_cons rfl gf_nil)))) (ih20 sc20 z89 hIc20 hFc20 (in_w 0 160 i89 rfl) (m_up mm20 (t_add e89 i25 (in_c 1 rfl) rfl) (in_w 1 1 (in_c 1 rfl) rfl))))
            · skip
              exact zn_ne c33 (in_c 0 rfl) rfl
          · skip
            refine g_iconst 1 26 (gd rfl) rfl rfl ?_
            refine g_goto 30 (gd rfl) rfl ?_
            refine g_ireturn (gd rfl) rfl (nb01 (in_w 0 1 (in_c 1 rfl) rfl)) (hp30 _ _ ?_)
            show GG _ _ _ _ _ _ _ _ [.int (Int32.ofInt 1)] _ _ _
            refine g_if_eq 36 89 (gd rfl) rfl rfl (fun c33 => ?_) (fun c33 => ?_)
            · skip
              exact zn_eq c33 (in_c 1 rfl) rfl
            · skip
              refine g_aload_n 37 (gd rfl) rfl rfl ?_
              refine g_iload_n 38 (gd rfl) rfl rfl ?_
              refine g_iload_n 39 (gd rfl) rfl rfl ?_
              refine g_calls (As := [.ref (A 32), .int y20_3, .int x2]) (r := []) 42 (gd rfl) rfl rfl rfl rfl rfl (Nat.le_of_ble_eq_true rfl) (mc := 0) (ms := 0) (Nat.zero_le _) (Nat.zero_le _) (P := fun v u => _) ?_ (fun v u h => h)
              intro po39 xx39 hp39 hx39
              refine g_enter2 (k := 187) (N := 300) (by first | exact dq1 hd rfl | exact dq0 hd rfl | exact dq2 hd rfl | exact dq3 hd rfl | omega) rfl (Nat.le_of_ble_eq_true rfl) ?_
              refine g_aload_n 1 (gd rfl) rfl rfl ?_
              refine g_getA (q2 := 36) 4 (gd rfl) rfl rfl rfl rfl ?_
              refine g_iload_n 5 (gd rfl) rfl rfl ?_
              refine g_iaload 6 (gd rfl) rfl (n := 160) rfl (in_ix i25 rfl) (fun z39x5 e39x5 => ?_)
              have i39x5 := inv_I hIc20 (n := 160) (t := 0) (-1000000) 1000000 rfl (in_ix i25 rfl) rfl e39x5
              refine g_aload_n 7 (gd rfl) rfl rfl ?_
              refine g_getA (q2 := 36) 10 (gd rfl) rfl rfl rfl rfl ?_
              refine g_iload_n 11 (gd rfl) rfl rfl ?_
              refine g_iaload 12 (gd rfl) rfl (n := 160) rfl (in_ix h2 rfl) (fun z39x11 e39x11 => ?_)
              have i39x11 := inv_I hIc20 (n := 160) (t := 0) (-1000000) 1000000 rfl (in_ix h2 rfl) rfl e39x11
              refine g_cmp_lt 15 35 (gd rfl) rfl rfl (fun c39x12 => ?_) (fun c39x12 => ?_)
              · skip
                have i39x12 := r_lt1 (-1000000) 999999 c39x12 i39x5 i39x11 rfl
                have i39x12a := r_lt2 (-999999) 1000000 c39x12 i39x5 i39x11 rfl
                refine g_iconst 1 36 (gd rfl) rfl rfl ?_
                refine g_goto 40 (gd rfl) rfl ?_
                refine g_ireturn (gd rfl) rfl (nb01 (in_w 0 1 (in_c 1 rfl) rfl)) (hp39 _ _ ?_)
                show GG _ _ _ _ _ _ _ _ [.int (Int32.ofInt 1)] _ _ _
                refine g_if_eq 45 89 (gd rfl) rfl rfl (fun c42 => ?_) (fun c42 => ?_)
                · skip
                  exact zn_eq c42 (in_c 1 rfl) rfl
                · skip
                  refine g_aload_n 46 (gd rfl) rfl rfl ?_
                  refine g_getA (q2 := 84) 49 (gd rfl) rfl rfl rfl rfl ?_
                  refine g_aload_n 50 (gd rfl) rfl rfl ?_
                  refine g_getA (q2 := 34) 53 (gd rfl) rfl rfl rfl rfl ?_
                  refine g_iload_n 54 (gd rfl) rfl rfl ?_
                  refine g_iaload 55 (gd rfl) rfl (n := 160) rfl (in_ix i25 rfl) (fun z54 e54 => ?_)
                  have q54 : z30x5 = z54 := (e30x5).trans e54.symm
                  subst q54
                  refine g_dup2 56 (gd rfl) rfl rfl rfl ?_
                  refine g_iaload 57 (gd rfl) rfl (n := 32) rfl (in_ix i30x7 rfl) (fun z56 e56 => ?_)
                  refine g_iconst 1 58 (gd rfl) rfl rfl ?_
                  refine g_aload_n 59 (gd rfl) rfl rfl ?_
                  refine g_getA (q2 := 35) 62 (gd rfl) rfl rfl rfl rfl ?_
                  refine g_iload_n 63 (gd rfl) rfl rfl ?_
                  refine g_iaload 64 (gd rfl) rfl (n := 160) rfl (in_ix i25 rfl) (fun z63 e63 => ?_)
                  have q63 : z30x21 = z63 := (e30x21).trans e63.symm
                  subst q63
                  refine g_ishl 65 (gd rfl) rfl (fun z64 e64 => ?_)
                  refine g_ior 66 (gd rfl) rfl (fun z65 e65 => ?_)
                  refine g_iastore 67 (gd rfl) rfl (n := 32) rfl (in_ix i30x7 rfl) ?_
                  have hI66 := inv_sI (q := 84) (j := z30x5.toNatClampNeg) hIc20 rfl (in_w (-2147483648) 2147483647 (i_rng z65) rfl)
                  refine g_aload_n 68 (gd rfl) rfl rfl ?_
                  refine g_getA (q2 := 84) 71 (gd rfl) rfl rfl rfl rfl ?_
                  refine g_aload_n 72 (gd rfl) rfl rfl ?_
                  refine g_getA (q2 := 35) 75 (gd rfl) rfl rfl rfl rfl ?_
                  refine g_iload_n 76 (gd rfl) rfl rfl ?_
                  refine g_iaload 77 (gd rfl) rfl (n := 160) rfl (in_ix i25 rfl) (fun z76 e76 => ?_)
                  have q76 : z30x21 = z76 := (sI_ne rfl (e30x21)).trans e76.symm
                  subst q76
                  refine g_dup2 78 (gd rfl) rfl rfl rfl ?_
                  refine g_iaload 79 (gd rfl) rfl (n := 32) rfl (in_ix i30x21 rfl) (fun z78 e78 => ?_)
                  refine g_iconst 1 80 (gd rfl) rfl rfl ?_
                  refine g_aload_n 81 (gd rfl) rfl rfl ?_
                  refine g_getA (q2 := 34) 84 (gd rfl) rfl rfl rfl rfl ?_
                  refine g_iload_n 85 (gd rfl) rfl rfl ?_
                  refine g_iaload 86 (gd rfl) rfl (n := 160) rfl (in_ix i25 rfl) (fun z85 e85 => ?_)
                  have q85 : z30x5 = z85 := (sI_ne rfl (e30x5)).trans e85.symm
                  subst q85
                  refine g_ishl 87 (gd rfl) rfl (fun z86 e86 => ?_)
                  refine g_ior 88 (gd rfl) rfl (fun z87 e87 => ?_)
                  refine g_iastore 89 (gd rfl) rfl (n := 32) rfl (in_ix i30x21 rfl) ?_
                  have hI88 := inv_sI (q := 84) (j := z30x21.toNatClampNeg) hI66 rfl (in_w (-2147483648) 2147483647 (i_rng z87) rfl)
                  refine g_iinc 92 (gd rfl) rfl rfl (Nat.le_of_ble_eq_true rfl) (fun z89 e89 => ?_)
                  have i89 := in_add 1 160 e89 i25 (in_c 1 rfl) rfl rfl
                  refine g_goto 20 (gd rfl) rfl ?_
                  exact gg_w (by first | exact Nat.le_add_right _ _ | exact gw2 | exact gw3 | exact gwe rfl | exact gwf rfl | exact gwg rfl | exact gwh rfl | omega) (gg_f (gf_cons rfl (gf_cons rfl (gf_cons rfl (gf_cons rfl gf_nil)))) (ih20 (sI (sI sc20 84 z30x5.toNatClampNeg z65) 84 z30x21.toNatClampNeg z87) z89 hI88 (fr_sI rfl (fr_sI rfl hFc20)) (in_w 0 160 i89 rfl) (m_up mm20 (t_add e89 i25 (in_c 1 rfl) rfl) (in_w 1 1 (in_c 1 rfl) rfl))))
              · skip
                refine g_aload_n 16 (gd rfl) rfl rfl ?_
                refine g_getA (q2 := 36) 19 (gd rfl) rfl rfl rfl rfl ?_
                refine g_iload_n 20 (gd rfl) rfl rfl ?_
                refine g_iaload 21 (gd rfl) rfl (n := 160) rfl (in_ix i25 rfl) (fun z39x20 e39x20 => ?_)
                have q39x20 : z39x5 = z39x20 := (e39x5).trans e39x20.symm
                subst q39x20
                refine g_aload_n 22 (gd rfl) rfl rfl ?_
                refine g_getA (q2 := 36) 25 (gd rfl) rfl rfl rfl rfl ?_
                refine g_iload_n 26 (gd rfl) rfl rfl ?_
                refine g_iaload 27 (gd rfl) rfl (n := 160) rfl (in_ix h2 rfl) (fun z39x26 e39x26 => ?_)
                have q39x26 : z39x11 = z39x26 := (e39x11).trans e39x26.symm
                subst q39x26
                refine g_cmp_ne 30 39 (gd rfl) rfl rfl (fun c39x27 => ?_) (fun c39x27 => ?_)
                · skip
                  refine g_iconst 0 40 (gd rfl) rfl rfl ?_
                  refine g_ireturn (gd rfl) rfl (nb01 (in_w 0 1 (in_c 0 rfl) rfl)) (hp39 _ _ ?_)
                  show GG _ _ _ _ _ _ _ _ [.int (Int32.ofInt 0)] _ _ _
                  refine g_if_eq 45 89 (gd rfl) rfl rfl (fun c42 => ?_) (fun c42 => ?_)
                  · skip
                    refine g_iinc 92 (gd rfl) rfl rfl (Nat.le_of_ble_eq_true rfl) (fun z89 e89 => ?_)
                    have i89 := in_add 1 160 e89 i25 (in_c 1 rfl) rfl rfl
                    refine g_goto 20 (gd rfl) rfl ?_
                    exact gg_w (by first | exact Nat.le_add_right _ _ | exact gw2 | exact gw3 | exact gwe rfl | exact gwf rfl | exact gwg rfl | exact gwh rfl | omega) (gg_f (gf_cons rfl (gf_cons rfl (gf_cons rfl (gf_cons rfl gf_nil)))) (ih20 sc20 z89 hIc20 hFc20 (in_w 0 160 i89 rfl) (m_up mm20 (t_add e89 i25 (in_c 1 rfl) rfl) (in_w 1 1 (in_c 1 rfl) rfl))))
                  · skip
                    exact zn_ne c42 (in_c 0 rfl) rfl
                · skip
                  refine g_iload_n 31 (gd rfl) rfl rfl ?_
                  refine g_iload_n 32 (gd rfl) rfl rfl ?_
                  refine g_cmp_ge 35 39 (gd rfl) rfl rfl (fun c39x32 => ?_) (fun c39x32 => ?_)
                  · skip
                    refine g_iconst 0 40 (gd rfl) rfl rfl ?_
                    refine g_ireturn (gd rfl) rfl (nb01 (in_w 0 1 (in_c 0 rfl) rfl)) (hp39 _ _ ?_)
                    show GG _ _ _ _ _ _ _ _ [.int (Int32.ofInt 0)] _ _ _
                    refine g_if_eq 45 89 (gd rfl) rfl rfl (fun c42 => ?_) (fun c42 => ?_)
                    · skip
                      refine g_iinc 92 (gd rfl) rfl rfl (Nat.le_of_ble_eq_true rfl) (fun z89 e89 => ?_)
                      have i89 := in_add 1 160 e89 i25 (in_c 1 rfl) rfl rfl
                      refine g_goto 20 (gd rfl) rfl ?_
                      exact gg_w (by first | exact Nat.le_add_right _ _ | exact gw2 | exact gw3 | exact gwe rfl | exact gwf rfl | exact gwg rfl | exact gwh rfl | omega) (gg_f (gf_cons rfl (gf_cons rfl (gf_cons rfl (gf_cons rfl gf_nil)))) (ih20 sc20 z89 hIc20 hFc20 (in_w 0 160 i89 rfl) (m_up mm20 (t_add e89 i25 (in_c 1 rfl) rfl) (in_w 1 1 (in_c 1 rfl) rfl))))
                    · skip
                      exact zn_ne c42 (in_c 0 rfl) rfl
                  · skip
                    have i39x32 := r_lt1 0 158 c39x32 i25 h2 rfl
                    have i39x32a := r_lt2 1 159 c39x32 i25 h2 rfl
                    refine g_iconst 1 36 (gd rfl) rfl rfl ?_
                    refine g_goto 40 (gd rfl) rfl ?_
                    refine g_ireturn (gd rfl) rfl (nb01 (in_w 0 1 (in_c 1 rfl) rfl)) (hp39 _ _ ?_)
                    show GG _ _ _ _ _ _ _ _ [.int (Int32.ofInt 1)] _ _ _
                    refine g_if_eq 45 89 (gd rfl) rfl rfl (fun c42 => ?_) (fun c42 => ?_)
                    · skip
                      exact zn_eq c42 (in_c 1 rfl) rfl
                    · skip
                      refine g_aload_n 46 (gd rfl) rfl rfl ?_
                      refine g_getA (q2 := 84) 49 (gd rfl) rfl rfl rfl rfl ?_
                      refine g_aload_n 50 (gd rfl) rfl rfl ?_
                      refine g_getA (q2 := 34) 53 (gd rfl) rfl rfl rfl rfl ?_
                      refine g_iload_n 54 (gd rfl) rfl rfl ?_
                      refine g_iaload 55 (gd rfl) rfl (n := 160) rfl (in_ix i39x32 rfl) (fun z54 e54 => ?_)
                      have q54 : z30x5 = z54 := (e30x5).trans e54.symm
                      subst q54
                      refine g_dup2 56 (gd rfl) rfl rfl rfl ?_
                      refine g_iaload 57 (gd rfl) rfl (n := 32) rfl (in_ix i30x7 rfl) (fun z56 e56 => ?_)
                      refine g_iconst 1 58 (gd rfl) rfl rfl ?_
                      refine g_aload_n 59 (gd rfl) rfl rfl ?_
                      refine g_getA (q2 := 35) 62 (gd rfl) rfl rfl rfl rfl ?_
                      refine g_iload_n 63 (gd rfl) rfl rfl ?_
                      refine g_iaload 64 (gd rfl) rfl (n := 160) rfl (in_ix i39x32 rfl) (fun z63 e63 => ?_)
                      have q63 : z30x21 = z63 := (e30x21).trans e63.symm
                      subst q63
                      refine g_ishl 65 (gd rfl) rfl (fun z64 e64 => ?_)
                      refine g_ior 66 (gd rfl) rfl (fun z65 e65 => ?_)
                      refine g_iastore 67 (gd rfl) rfl (n := 32) rfl (in_ix i30x7 rfl) ?_
                      have hI66 := inv_sI (q := 84) (j := z30x5.toNatClampNeg) hIc20 rfl (in_w (-2147483648) 2147483647 (i_rng z65) rfl)
                      refine g_aload_n 68 (gd rfl) rfl rfl ?_
                      refine g_getA (q2 := 84) 71 (gd rfl) rfl rfl rfl rfl ?_
                      refine g_aload_n 72 (gd rfl) rfl rfl ?_
                      refine g_getA (q2 := 35) 75 (gd rfl) rfl rfl rfl rfl ?_
                      refine g_iload_n 76 (gd rfl) rfl rfl ?_
                      refine g_iaload 77 (gd rfl) rfl (n := 160) rfl (in_ix i39x32 rfl) (fun z76 e76 => ?_)
                      have q76 : z30x21 = z76 := (sI_ne rfl (e30x21)).trans e76.symm
                      subst q76
                      refine g_dup2 78 (gd rfl) rfl rfl rfl ?_
                      refine g_iaload 79 (gd rfl) rfl (n := 32) rfl (in_ix i30x21 rfl) (fun z78 e78 => ?_)
                      refine g_iconst 1 80 (gd rfl) rfl rfl ?_
                      refine g_aload_n 81 (gd rfl) rfl rfl ?_
                      refine g_getA (q2 := 34) 84 (gd rfl) rfl rfl rfl rfl ?_
                      refine g_iload_n 85 (gd rfl) rfl rfl ?_
                      refine g_iaload 86 (gd rfl) rfl (n := 160) rfl (in_ix i39x32 rfl) (fun z85 e85 => ?_)
                      have q85 : z30x5 = z85 := (sI_ne rfl (e30x5)).trans e85.symm
                      subst q85
                      refine g_ishl 87 (gd rfl) rfl (fun z86 e86 => ?_)
                      refine g_ior 88 (gd rfl) rfl (fun z87 e87 => ?_)
                      refine g_iastore 89 (gd rfl) rfl (n := 32) rfl (in_ix i30x21 rfl) ?_
                      have hI88 := inv_sI (q := 84) (j := z30x21.toNatClampNeg) hI66 rfl (in_w (-2147483648) 2147483647 (i_rng z87) rfl)
                      refine g_iinc 92 (gd rfl) rfl rfl (Nat.le_of_ble_eq_true rfl) (fun z89 e89 => ?_)
                      have i89 := in_add 1 159 e89 i39x32 (in_c 1 rfl) rfl rfl
                      refine g_goto 20 (gd rfl) rfl ?_
                      exact gg_w (by first | exact Nat.le_add_right _ _ | exact gw2 | exact gw3 | exact gwe rfl | exact gwf rfl | exact gwg rfl | exact gwh rfl | omega) (gg_f (gf_cons rfl (gf_cons rfl (gf_cons rfl (gf_cons rfl gf_nil)))) (ih20 (sI (sI sc20 84 z30x5.toNatClampNeg z65) 84 z30x21.toNatClampNeg z87) z89 hI88 (fr_sI rfl (fr_sI rfl hFc20)) (in_w 0 160 i89 rfl) (m_up mm20 (t_add e89 i39x32 (in_c 1 rfl) rfl) (in_w 1 1 (in_c 1 rfl) rfl))))
  refine g_enter2 (k := 186) (N := 145801) (by first | exact dq1 hd rfl | exact dq0 hd rfl | exact dq2 hd rfl | exact dq3 hd rfl | omega) rfl (Nat.le_of_ble_eq_true rfl) ?_
  refine g_aload_n 1 (gd rfl) rfl rfl ?_
  refine g_iload_n 2 (gd rfl) rfl rfl ?_
  refine g_callv (X := _) (As := [.int x2]) (r := []) (b := A 32) (q := 32) 5 (gd rfl) rfl rfl rfl rfl rfl (ww_o rfl) (Nat.le_of_ble_eq_true rfl) (mc := 0) (ms := 0) (Nat.zero_le _) (Nat.zero_le _) (P := fun v u => _) ?_ (fun e u h => h) (fun v u h => h)
  intro po2 xx2 hp2 hx2
  refine g_enter2 (k := 97) (N := 300) (by first | exact dq1 hd rfl | exact dq0 hd rfl | exact dq2 hd rfl | exact dq3 hd rfl | omega) rfl (Nat.le_of_ble_eq_true rfl) ?_
  refine g_aload_n 1 (gd rfl) rfl rfl ?_
  refine g_getA (q2 := 34) 4 (gd rfl) rfl rfl rfl rfl ?_
  refine g_iload_n 5 (gd rfl) rfl rfl ?_
  refine g_iaload 6 (gd rfl) rfl (n := 160) rfl (in_ix h2 rfl) (fun z2x5 e2x5 => ?_)
  have i2x5 := inv_I hI (n := 160) (t := 0) (-1) 31 rfl (in_ix h2 rfl) rfl e2x5
  refine g_iconst (-1) 7 (gd rfl) rfl rfl ?_
  refine g_cmp_eq 10 29 (gd rfl) rfl rfl (fun c2x7 => ?_) (fun c2x7 => ?_)
  · skip
    have i2x7 := r_eq1 (-1) (-1) c2x7 i2x5 (in_c (-1) rfl) rfl
    refine g_iconst 0 30 (gd rfl) rfl rfl ?_
    refine g_ireturn (gd rfl) rfl (nb01 (in_w 0 1 (in_c 0 rfl) rfl)) (hp2 _ _ ?_)
    show GG _ _ _ _ _ _ _ _ [.int (Int32.ofInt 0)] _ _ _
    refine g_if_ne 8 10 (gd rfl) rfl rfl (fun c5 => ?_) (fun c5 => ?_)
    · skip
      exact zn_ne c5 (in_c 0 rfl) rfl
    · skip
      refine g_iconst 0 9 (gd rfl) rfl rfl ?_
      exact g_ireturn (gd rfl) rfl (nb01 (in_w 0 1 (in_c 0 rfl) rfl)) (hP _ _ ⟨s, hI, fr_rf, (Int32.ofInt 0), rfl, rfl, in_w 0 1 (in_c 0 rfl) rfl⟩)
  · skip
    have i2x7 := r_ne1 0 31 c2x7 i2x5 (in_c (-1) rfl) rfl
    refine g_aload_n 11 (gd rfl) rfl rfl ?_
    refine g_getA (q2 := 34) 14 (gd rfl) rfl rfl rfl rfl ?_
    refine g_iload_n 15 (gd rfl) rfl rfl ?_
    refine g_iaload 16 (gd rfl) rfl (n := 160) rfl (in_ix h2 rfl) (fun z2x15 e2x15 => ?_)
    have q2x15 : z2x5 = z2x15 := (e2x5).trans e2x15.symm
    subst q2x15
    refine g_aload_n 17 (gd rfl) rfl rfl ?_
    refine g_getA (q2 := 35) 20 (gd rfl) rfl rfl rfl rfl ?_
    refine g_iload_n 21 (gd rfl) rfl rfl ?_
    refine g_iaload 22 (gd rfl) rfl (n := 160) rfl (in_ix h2 rfl) (fun z2x21 e2x21 => ?_)
    have i2x21 := inv_I hI (n := 160) (t := 0) 0 31 rfl (in_ix h2 rfl) rfl e2x21
    refine g_cmp_eq 25 29 (gd rfl) rfl rfl (fun c2x22 => ?_) (fun c2x22 => ?_)
    · skip
      refine g_iconst 0 30 (gd rfl) rfl rfl ?_
      refine g_ireturn (gd rfl) rfl (nb01 (in_w 0 1 (in_c 0 rfl) rfl)) (hp2 _ _ ?_)
      show GG _ _ _ _ _ _ _ _ [.int (Int32.ofInt 0)] _ _ _
      refine g_if_ne 8 10 (gd rfl) rfl rfl (fun c5 => ?_) (fun c5 => ?_)
      · skip
        exact zn_ne c5 (in_c 0 rfl) rfl
      · skip
        refine g_iconst 0 9 (gd rfl) rfl rfl ?_
        exact g_ireturn (gd rfl) rfl (nb01 (in_w 0 1 (in_c 0 rfl) rfl)) (hP _ _ ⟨s, hI, fr_rf, (Int32.ofInt 0), rfl, rfl, in_w 0 1 (in_c 0 rfl) rfl⟩)
    · skip
      refine g_iconst 1 26 (gd rfl) rfl rfl ?_
      refine g_goto 30 (gd rfl) rfl ?_
      refine g_ireturn (gd rfl) rfl (nb01 (in_w 0 1 (in_c 1 rfl) rfl)) (hp2 _ _ ?_)
      show GG _ _ _ _ _ _ _ _ [.int (Int32.ofInt 1)] _ _ _
      refine g_if_ne 8 10 (gd rfl) rfl rfl (fun c5 => ?_) (fun c5 => ?_)
      · skip
        refine g_aload_n 11 (gd rfl) rfl rfl ?_
        refine g_getA (q2 := 84) 14 (gd rfl) rfl rfl rfl rfl ?_
        refine g_iconst 0 15 (gd rfl) rfl rfl ?_
        refine g_calls (As := [.ref (A 84), .int (Int32.ofInt 0)]) (r := []) 18 (gd rfl) rfl rfl rfl rfl rfl (Nat.le_of_ble_eq_true rfl) (Nat.zero_le _) (Nat.zero_le _) (k_fillI 84 (by first | exact dq1 hd rfl | exact dq0 hd rfl | exact dq2 hd rfl | exact dq3 hd rfl | omega) hI (in_c 0 rfl) (n := 32) rfl rfl rfl rfl) (fun v u h => ?_)
        obtain ⟨s15, hI15, hF15, rfl, rfl, fl15⟩ := h
        show GG _ _ _ _ _ _ _ _ [] _ _ _
        refine g_iconst 0 19 (gd rfl) rfl rfl ?_
        refine g_istore_n 20 (gd rfl) rfl (Nat.le_of_ble_eq_true rfl) ?_
        exact gg_w (by first | exact Nat.le_of_ble_eq_true rfl | omega) (gg_f (gf_cons rfl (gf_cons rfl (gf_cons rfl (gf_cons rfl gf_nil)))) (ct20 161 s15 (Int32.ofInt 0) hI15 (fr_tr rfl fr_rf hF15) (in_w 0 160 (in_c 0 rfl) rfl) (m_in 161 (in_w 0 160 (in_c 0 rfl) rfl) rfl)))
      · skip
        exact zn_eq c5 (in_c 1 rfl) rfl

def fm_190_76 : FM := ([], [85], [], [])
/-- GraphHouse$Trees.pivot -/
theorem k_190_76 {Z : AmZ} {A : Nat → Nat} {s : GS} {ex : va_W} {d : Nat} {X : AmX} {x1 : Int32} {x2 : Int32} (hd : 2 ≤ d) (hI : Inv s) (h1 : In x1 0 30) (h2 : In x2 1 31) : GC Z d 190 [.ref (A 76), .int x1, .int x2] (WW Z A s ++ ex) 0 0 (fun v u => ∃ t : GS, Inv t ∧ Fr fm_190_76 s t ∧ ∃ z : Int64, v = some (.long z) ∧ u = WW Z A t ++ ex) X := by
  intro post xp hP hX
  have ct75 : ∀ (k75 : Nat) (sc75 : GS) (y75_3 : Int32) (y75_4 : Int64) (y75_6 : Int64) (y75_8 : Int32), Inv sc75 → Fr fm_190_76 s sc75 → (In y75_3 0 30) → (In y75_8 1 31) → 31 - (y75_8).toInt < (k75 : Int) → GG Z (d - 1) 190 post (gx xp) (1 + k75 * 31501) 75 (fun j => xlook j [(0, .ref (A 76)), (1, .int x1), (2, .int x2), (3, .int y75_3), (4, .long y75_4), (6, .long y75_6), (8, .int y75_8)]) [] (WW Z A sc75 ++ ex) 0 0 := by
    intro k75
    induction k75 with
    | zero => intro sc75 y75_3 y75_4 y75_6 y75_8 hIc75 hFc75 j75_3 j75_8 mm75; exact m_no mm75 j75_8 rfl
    | succ k75 ih75 =>
      intro sc75 y75_3 y75_4 y75_6 y75_8 hIc75 hFc75 j75_3 j75_8 mm75
      refine gg_w (M := 1 + k75 * 31501 + 31501) gws ?_
      have ct109 : ∀ (k109 : Nat) (sc109 : GS) (y109_9 : Int64) (y109_11 : Int32), Inv sc109 → Fr fm_190_76 s sc109 → (In x2 2 31) → (In y75_8 1 30) → (In y109_11 0 31) → 31 - (y109_11).toInt < (k109 : Int) → GG Z (d - 1) 190 post (gx xp) (1 + k75 * 31501 + 1 + k109 * 900) 109 (fun j => xlook j [(0, .ref (A 76)), (1, .int x1), (2, .int x2), (3, .int y75_3), (4, .long y75_4), (6, .long y75_6), (8, .int y75_8), (9, .long y109_9), (11, .int y109_11)]) [] (WW Z A sc109 ++ ex) 0 0 := by
        intro k109
        induction k109 with
        | zero => intro sc109 y109_9 y109_11 hIc109 hFc109 j109_2 j109_8 j109_11 mm109; exact m_no mm109 j109_11 rfl
        | succ k109 ih109 =>
          intro sc109 y109_9 y109_11 hIc109 hFc109 j109_2 j109_8 j109_11 mm109
          refine gg_w (M := 1 + k75 * 31501 + 1 + k109 * 900 + 900) gws ?_
          refine g_iload 111 (gd rfl) rfl rfl ?_
          refine g_iload_n 112 (gd rfl) rfl rfl ?_
          refine g_cmp_ge 115 174 (gd rfl) rfl rfl (fun c112 => ?_) (fun c112 => ?_)
          · skip
            have i112 := r_le2 2 31 c112 j109_2 j109_11 rfl
            refine g_iinc 177 (gd rfl) rfl rfl (Nat.le_of_ble_eq_true rfl) (fun z174 e174 => ?_)
            have i174 := in_add 2 31 e174 j109_8 (in_c 1 rfl) rfl rfl
            refine g_goto 75 (gd rfl) rfl ?_
            exact gg_w (by first | exact Nat.le_add_right _ _ | exact gw2 | exact gw3 | exact gwe rfl | exact gwf rfl | exact gwg rfl | exact gwh rfl | omega) (gg_f (gf_cons rfl (gf_cons rfl (gf_cons rfl (gf_cons rfl (gf_cons rfl (gf_cons rfl (gf_cons rfl gf_nil))))))) (ih75 sc109 y75_3 y75_4 y75_6 z174 hIc109 hFc109 (in_w 0 30 j75_3 rfl) (in_w 1 31 i174 rfl) (m_up mm75 (t_add e174 j109_8 (in_c 1 rfl) rfl) (in_w 1 1 (in_c 1 rfl) rfl))))
          · skip
            have i112 := r_lt1 0 30 c112 j109_11 j109_2 rfl
            refine g_lload 117 (gd rfl) rfl rfl ?_
            refine g_lconst 0 118 (gd rfl) rfl rfl ?_
            refine g_lcmp 119 (gd rfl) rfl (fun z118 e118 => ?_)
            have i118 := lc_in e118
            refine g_if_eq 122 174 (gd rfl) rfl rfl (fun c119 => ?_) (fun c119 => ?_)
            · skip
              have i119 := z_eq 0 0 c119 i118 rfl
              have c119a := lc_eq e118 c119
              have i119a := lr_eq1 0 0 c119a (l_rng y109_9) (l_c 0 rfl) rfl
              refine g_iinc 177 (gd rfl) rfl rfl (Nat.le_of_ble_eq_true rfl) (fun z174 e174 => ?_)
              have i174 := in_add 2 31 e174 j109_8 (in_c 1 rfl) rfl rfl
              refine g_goto 75 (gd rfl) rfl ?_
              exact gg_w (by first | exact Nat.le_add_right _ _ | exact gw2 | exact gw3 | exact gwe rfl | exact gwf rfl | exact gwg rfl | exact gwh rfl | omega) (gg_f (gf_cons rfl (gf_cons rfl (gf_cons rfl (gf_cons rfl (gf_cons rfl (gf_cons rfl (gf_cons rfl gf_nil))))))) (ih75 sc109 y75_3 y75_4 y75_6 z174 hIc109 hFc109 (in_w 0 30 j75_3 rfl) (in_w 1 31 i174 rfl) (m_up mm75 (t_add e174 j109_8 (in_c 1 rfl) rfl) (in_w 1 1 (in_c 1 rfl) rfl))))
            · skip
              have c119a := lc_ne e118 c119
              refine g_aload_n 123 (gd rfl) rfl rfl ?_
              refine g_getA (q2 := 85) 126 (gd rfl) rfl rfl rfl rfl ?_
              refine g_iload 128 (gd rfl) rfl rfl ?_
              refine g_bipush 32 130 (gd rfl) rfl rfl ?_
              refine g_imul 131 (gd rfl) rfl (fun z130 e130 => ?_)
              have i130 := in_mulc 32 32 960 (Or.inr e130) j109_8 rfl rfl
              refine g_iload 133 (gd rfl) rfl rfl ?_
              refine g_iadd 134 (gd rfl) rfl (fun z133 e133 => ?_)
              have i133 := in_add 32 990 e133 i130 i112 rfl rfl
              refine g_aload_n 135 (gd rfl) rfl rfl ?_
              refine g_getA (q2 := 85) 138 (gd rfl) rfl rfl rfl rfl ?_
              refine g_iload 140 (gd rfl) rfl rfl ?_
              refine g_bipush 32 142 (gd rfl) rfl rfl ?_
              refine g_imul 143 (gd rfl) rfl (fun z142 e142 => ?_)
              have i142 := in_mulc 32 32 960 (Or.inr e142) j109_8 rfl rfl
              refine g_iload 145 (gd rfl) rfl rfl ?_
              refine g_iadd 146 (gd rfl) rfl (fun z145 e145 => ?_)
              have i145 := in_add 32 990 e145 i142 i112 rfl rfl
              refine g_laload 147 (gd rfl) rfl (n := 1024) rfl (in_ix i145 rfl) (fun z146 e146 => ?_)
              refine g_lload 149 (gd rfl) rfl rfl ?_
              refine g_aload_n 150 (gd rfl) rfl rfl ?_
              refine g_getA (q2 := 85) 153 (gd rfl) rfl rfl rfl rfl ?_
              refine g_iload_n 154 (gd rfl) rfl rfl ?_
              refine g_bipush 32 156 (gd rfl) rfl rfl ?_
              refine g_imul 157 (gd rfl) rfl (fun z156 e156 => ?_)
              have i156 := in_mulc 32 0 960 (Or.inr e156) h1 rfl rfl
              refine g_iload 159 (gd rfl) rfl rfl ?_
              refine g_iadd 160 (gd rfl) rfl (fun z159 e159 => ?_)
              have i159 := in_add 0 990 e159 i156 i112 rfl rfl
              refine g_laload 161 (gd rfl) rfl (n := 1024) rfl (in_ix i159 rfl) (fun z160 e160 => ?_)
              refine g_lmul 162 (gd rfl) rfl (fun z161 e161 => ?_)
              refine g_ladd 163 (gd rfl) rfl (fun z162 e162 => ?_)
              refine g_ldc2_w 1000000007 166 (gd rfl) rfl rfl ?_
              refine g_lrem 167 (gd rfl) rfl (by decide) (fun z166 e166 => ?_)
              have i166 := l_rem (-1000000006) 1000000006 e166 rfl
              refine g_lastore 168 (gd rfl) rfl (n := 1024) rfl (in_ix i133 rfl) ?_
              have hI167 := inv_sL (q := 85) (j := z133.toNatClampNeg) (x := z166) hIc109 rfl (l_rng z166)
              refine g_iinc 171 (gd rfl) rfl rfl (Nat.le_of_ble_eq_true rfl) (fun z168 e168 => ?_)
              have i168 := in_add 1 31 e168 i112 (in_c 1 rfl) rfl rfl
              refine g_goto 109 (gd rfl) rfl ?_
              exact gg_w (by first | exact Nat.le_add_right _ _ | exact gw2 | exact gw3 | exact gwe rfl | exact gwf rfl | exact gwg rfl | exact gwh rfl | omega) (gg_f (gf_cons rfl (gf_cons rfl (gf_cons rfl (gf_cons rfl (gf_cons rfl (gf_cons rfl (gf_cons rfl (gf_cons rfl (gf_cons rfl gf_nil))))))))) (ih109 (sL sc109 85 z133.toNatClampNeg z166) y109_9 z168 hI167 (fr_sL rfl hFc109) (in_w 2 31 j109_2 rfl) (in_w 1 30 j109_8 rfl) (in_w 0 31 i168 rfl) (m_up mm109 (t_add e168 i112 (in_c 1 rfl) rfl) (in_w 1 1 (in_c 1 rfl) rfl))))
      refine g_iload 77 (gd rfl) rfl rfl ?_
      refine g_iload_n 78 (gd rfl) rfl rfl ?_
      refine g_cmp_ge 81 180 (gd rfl) rfl rfl (fun c78 => ?_) (fun c78 => ?_)
      · skip
        refine g_iload_n 181 (gd rfl) rfl rfl ?_
        refine g_iload_n 182 (gd rfl) rfl rfl ?_
        refine g_cmp_ne 185 190 (gd rfl) rfl rfl (fun c182 => ?_) (fun c182 => ?_)
        · skip
          refine g_ldc2_w 1000000007 193 (gd rfl) rfl rfl ?_
          refine g_lload 195 (gd rfl) rfl rfl ?_
          refine g_lsub 196 (gd rfl) rfl (fun z195 e195 => ?_)
          exact g_lreturn (gd rfl) rfl (hP _ _ ⟨sc75, hIc75, hFc75, z195, rfl, rfl⟩)
        · skip
          refine g_lload 187 (gd rfl) rfl rfl ?_
          refine g_goto 196 (gd rfl) rfl ?_
          exact g_lreturn (gd rfl) rfl (hP _ _ ⟨sc75, hIc75, hFc75, y75_4, rfl, rfl⟩)
      · skip
        have i78 := r_lt1 1 30 c78 j75_8 h2 rfl
        have i78a := r_lt2 2 31 c78 j75_8 h2 rfl
        refine g_ldc2_w 1000000007 84 (gd rfl) rfl rfl ?_
        refine g_aload_n 85 (gd rfl) rfl rfl ?_
        refine g_getA (q2 := 85) 88 (gd rfl) rfl rfl rfl rfl ?_
        refine g_iload 90 (gd rfl) rfl rfl ?_
        refine g_bipush 32 92 (gd rfl) rfl rfl ?_
        refine g_imul 93 (gd rfl) rfl (fun z92 e92 => ?_)
        have i92 := in_mulc 32 32 960 (Or.inr e92) i78 rfl rfl
        refine g_iload_n 94 (gd rfl) rfl rfl ?_
        refine g_iadd 95 (gd rfl) rfl (fun z94 e94 => ?_)
        have i94 := in_add 32 990 e94 i92 h1 rfl rfl
        refine g_laload 96 (gd rfl) rfl (n := 1024) rfl (in_ix i94 rfl) (fun z95 e95 => ?_)
        refine g_lsub 97 (gd rfl) rfl (fun z96 e96 => ?_)
        refine g_lload 99 (gd rfl) rfl rfl ?_
        refine g_lmul 100 (gd rfl) rfl (fun z99 e99 => ?_)
        refine g_ldc2_w 1000000007 103 (gd rfl) rfl rfl ?_
        refine g_lrem 104 (gd rfl) rfl (by decide) (fun z103 e103 => ?_)
        have i103 := l_rem (-1000000006) 1000000006 e103 rfl
        refine g_lstore 106 (gd rfl) rfl (Nat.le_of_ble_eq_true rfl) ?_
        refine g_iload_n 107 (gd rfl) rfl rfl ?_
        refine g_istore 109 (gd rfl) rfl (Nat.le_of_ble_eq_true rfl) ?_
        exact gg_w (by first | exact Nat.le_add_right _ _ | exact gw2 | exact gw3 | exact gwe rfl | exact gwf rfl | exact gwg rfl | exact gwh rfl | omega) (gg_f (gf_cons rfl (gf_cons rfl (gf_cons rfl (gf_cons rfl (gf_cons rfl (gf_cons rfl (gf_cons rfl (gf_cons rfl (gf_cons rfl gf_nil))))))))) (ct109 32 sc75 z103 x1 hIc75 hFc75 (in_w 2 31 i78a rfl) (in_w 1 30 i78 rfl) (in_w 0 31 h1 rfl) (m_in 32 (in_w 0 31 h1 rfl) rfl)))
  have ct2 : ∀ (k2 : Nat) (sc2 : GS) (y2_3 : Int32), Inv sc2 → Fr fm_190_76 s sc2 → (In y2_3 0 31) → 31 - (y2_3).toInt < (k2 : Int) → GG Z (d - 1) 190 post (gx xp) (976533 + k2 * 900) 2 (fun j => xlook j [(0, .ref (A 76)), (1, .int x1), (2, .int x2), (3, .int y2_3)]) [] (WW Z A sc2 ++ ex) 0 0 := by
    intro k2
    induction k2 with
    | zero => intro sc2 y2_3 hIc2 hFc2 j2_3 mm2; exact m_no mm2 j2_3 rfl
    | succ k2 ih2 =>
      intro sc2 y2_3 hIc2 hFc2 j2_3 mm2
      refine gg_w (M := 976533 + k2 * 900 + 900) gws ?_
      refine g_iload_n 3 (gd rfl) rfl rfl ?_
      refine g_iload_n 4 (gd rfl) rfl rfl ?_
      refine g_cmp_ge 7 29 (gd rfl) rfl rfl (fun c4 => ?_) (fun c4 => ?_)
      · skip
        have i4 := r_le2 1 31 c4 h2 j2_3 rfl
        refine g_iload_n 30 (gd rfl) rfl rfl ?_
        refine g_iload_n 31 (gd rfl) rfl rfl ?_
        refine g_cmp_lt 34 36 (gd rfl) rfl rfl (fun c31 => ?_) (fun c31 => ?_)
        · skip
          have i31 := r_lt1 1 30 c31 i4 h2 rfl
          have i31a := r_lt2 2 31 c31 i4 h2 rfl
          refine g_iload_n 37 (gd rfl) rfl rfl ?_
          refine g_iload_n 38 (gd rfl) rfl rfl ?_
          refine g_cmp_eq 41 47 (gd rfl) rfl rfl (fun c38 => ?_) (fun c38 => ?_)
          · skip
            have i38 := r_eq2 1 30 c38 i31 h1 rfl
            refine g_aload_n 48 (gd rfl) rfl rfl ?_
            refine g_getA (q2 := 85) 51 (gd rfl) rfl rfl rfl rfl ?_
            refine g_iload_n 52 (gd rfl) rfl rfl ?_
            refine g_bipush 32 54 (gd rfl) rfl rfl ?_
            refine g_imul 55 (gd rfl) rfl (fun z54 e54 => ?_)
            have i54 := in_mulc 32 32 960 (Or.inr e54) i38 rfl rfl
            refine g_iload_n 56 (gd rfl) rfl rfl ?_
            refine g_iadd 57 (gd rfl) rfl (fun z56 e56 => ?_)
            have i56 := in_add 33 990 e56 i54 i38 rfl rfl
            refine g_laload 58 (gd rfl) rfl (n := 1024) rfl (in_ix i56 rfl) (fun z57 e57 => ?_)
            refine g_lstore 60 (gd rfl) rfl (Nat.le_of_ble_eq_true rfl) ?_
            refine g_lload 62 (gd rfl) rfl rfl ?_
            refine g_ldc2_w 1000000005 65 (gd rfl) rfl rfl ?_
            refine g_calls (As := [.long z57, .long (Int64.ofInt 1000000005)]) (r := []) 68 (gd rfl) rfl rfl rfl rfl rfl (Nat.le_of_ble_eq_true rfl) (Nat.zero_le _) (Nat.zero_le _) (k_192 (by first | exact dq1 hd rfl | exact dq0 hd rfl | exact dq2 hd rfl | exact dq3 hd rfl | omega) hIc2 ) (fun v u h => ?_)
            obtain ⟨z65, rfl, rfl⟩ := h
            show GG _ _ _ _ _ _ _ _ [.long z65] _ _ _
            refine g_lstore 70 (gd rfl) rfl (Nat.le_of_ble_eq_true rfl) ?_
            refine g_iload_n 71 (gd rfl) rfl rfl ?_
            refine g_iconst 1 72 (gd rfl) rfl rfl ?_
            refine g_iadd 73 (gd rfl) rfl (fun z72 e72 => ?_)
            have i72 := in_add 2 31 e72 i38 (in_c 1 rfl) rfl rfl
            refine g_istore 75 (gd rfl) rfl (Nat.le_of_ble_eq_true rfl) ?_
            exact gg_w (by first | exact Nat.le_add_right _ _ | exact gw2 | exact gw3 | exact gwe rfl | exact gwf rfl | exact gwg rfl | exact gwh rfl | omega) (gg_f (gf_cons rfl (gf_cons rfl (gf_cons rfl (gf_cons rfl (gf_cons rfl (gf_cons rfl (gf_cons rfl gf_nil))))))) (ct75 31 sc2 y2_3 z57 z65 z72 hIc2 hFc2 (in_w 0 30 i31 rfl) (in_w 1 31 i72 rfl) (m_in 31 (in_w 1 31 i72 rfl) rfl)))
          · skip
            refine g_aload_n 42 (gd rfl) rfl rfl ?_
            refine g_iload_n 43 (gd rfl) rfl rfl ?_
            refine g_iload_n 44 (gd rfl) rfl rfl ?_
            refine g_callv (X := _) (As := [.int y2_3, .int x1]) (r := []) (b := A 76) (q := 76) 47 (gd rfl) rfl rfl rfl rfl rfl (ww_o rfl) (Nat.le_of_ble_eq_true rfl) (Nat.zero_le _) (Nat.zero_le _) (k_191_76 (by first | exact dq1 hd rfl | exact dq0 hd rfl | exact dq2 hd rfl | exact dq3 hd rfl | omega) hIc2 (in_w 0 30 i31 rfl) (in_w 0 30 h1 rfl)) (fun e u h => h) (fun v u h => ?_)
            obtain ⟨s44, hI44, hF44, rfl, rfl⟩ := h
            show GG _ _ _ _ _ _ _ _ [] _ _ _
            refine g_aload_n 48 (gd rfl) rfl rfl ?_
            refine g_getA (q2 := 85) 51 (gd rfl) rfl rfl rfl rfl ?_
            refine g_iload_n 52 (gd rfl) rfl rfl ?_
            refine g_bipush 32 54 (gd rfl) rfl rfl ?_
            refine g_imul 55 (gd rfl) rfl (fun z54 e54 => ?_)
            have i54 := in_mulc 32 0 960 (Or.inr e54) h1 rfl rfl
            refine g_iload_n 56 (gd rfl) rfl rfl ?_
            refine g_iadd 57 (gd rfl) rfl (fun z56 e56 => ?_)
            have i56 := in_add 0 990 e56 i54 h1 rfl rfl
            refine g_laload 58 (gd rfl) rfl (n := 1024) rfl (in_ix i56 rfl) (fun z57 e57 => ?_)
            refine g_lstore 60 (gd rfl) rfl (Nat.le_of_ble_eq_true rfl) ?_
            refine g_lload 62 (gd rfl) rfl rfl ?_
            refine g_ldc2_w 1000000005 65 (gd rfl) rfl rfl ?_
            refine g_calls (As := [.long z57, .long (Int64.ofInt 1000000005)]) (r := []) 68 (gd rfl) rfl rfl rfl rfl rfl (Nat.le_of_ble_eq_true rfl) (Nat.zero_le _) (Nat.zero_le _) (k_192 (by first | exact dq1 hd rfl | exact dq0 hd rfl | exact dq2 hd rfl | exact dq3 hd rfl | omega) hI44 ) (fun v u h => ?_)
            obtain ⟨z65, rfl, rfl⟩ := h
            show GG _ _ _ _ _ _ _ _ [.long z65] _ _ _
            refine g_lstore 70 (gd rfl) rfl (Nat.le_of_ble_eq_true rfl) ?_
            refine g_iload_n 71 (gd rfl) rfl rfl ?_
            refine g_iconst 1 72 (gd rfl) rfl rfl ?_
            refine g_iadd 73 (gd rfl) rfl (fun z72 e72 => ?_)
            have i72 := in_add 1 31 e72 h1 (in_c 1 rfl) rfl rfl
            refine g_istore 75 (gd rfl) rfl (Nat.le_of_ble_eq_true rfl) ?_
            exact gg_w (by first | exact Nat.le_add_right _ _ | exact gw2 | exact gw3 | exact gwe rfl | exact gwf rfl | exact gwg rfl | exact gwh rfl | omega) (gg_f (gf_cons rfl (gf_cons rfl (gf_cons rfl (gf_cons rfl (gf_cons rfl (gf_cons rfl (gf_cons rfl gf_nil))))))) (ct75 31 s44 y2_3 z57 z65 z72 hI44 (fr_tr rfl hFc2 hF44) (in_w 0 30 i31 rfl) (in_w 1 31 i72 rfl) (m_in 31 (in_w 1 31 i72 rfl) rfl)))
        · skip
          refine g_lconst 0 35 (gd rfl) rfl rfl ?_
          exact g_lreturn (gd rfl) rfl (hP _ _ ⟨sc2, hIc2, hFc2, (Int64.ofInt 0), rfl, rfl⟩)
      · skip
        have i4 := r_lt1 0 30 c4 j2_3 h2 rfl
        refine g_aload_n 8 (gd rfl) rfl rfl ?_
        refine g_getA (q2 := 85) 11 (gd rfl) rfl rfl rfl rfl ?_
        refine g_iload_n 12 (gd rfl) rfl rfl ?_
        refine g_bipush 32 14 (gd rfl) rfl rfl ?_
        refine g_imul 15 (gd rfl) rfl (fun z14 e14 => ?_)
        have i14 := in_mulc 32 0 960 (Or.inr e14) i4 rfl rfl
        refine g_iload_n 16 (gd rfl) rfl rfl ?_
        refine g_iadd 17 (gd rfl) rfl (fun z16 e16 => ?_)
        have i16 := in_add 0 990 e16 i14 h1 rfl rfl
        refine g_laload 18 (gd rfl) rfl (n := 1024) rfl (in_ix i16 rfl) (fun z17 e17 => ?_)
        refine g_lconst 0 19 (gd rfl) rfl rfl ?_
        refine g_lcmp 20 (gd rfl) rfl (fun z19 e19 => ?_)
        have i19 := lc_in e19
        refine g_if_ne 23 29 (gd rfl) rfl rfl (fun c20 => ?_) (fun c20 => ?_)
        · skip
          have c20a := lc_ne e19 c20
          refine g_iload_n 30 (gd rfl) rfl rfl ?_
          refine g_iload_n 31 (gd rfl) rfl rfl ?_
          refine g_cmp_lt 34 36 (gd rfl) rfl rfl (fun c31 => ?_) (fun c31 => ?_)
          · skip
            refine g_iload_n 37 (gd rfl) rfl rfl ?_
            refine g_iload_n 38 (gd rfl) rfl rfl ?_
            refine g_cmp_eq 41 47 (gd rfl) rfl rfl (fun c38 => ?_) (fun c38 => ?_)
            · skip
              refine g_aload_n 48 (gd rfl) rfl rfl ?_
              refine g_getA (q2 := 85) 51 (gd rfl) rfl rfl rfl rfl ?_
              refine g_iload_n 52 (gd rfl) rfl rfl ?_
              refine g_bipush 32 54 (gd rfl) rfl rfl ?_
              refine g_imul 55 (gd rfl) rfl (fun z54 e54 => ?_)
              have i54 := in_mulc 32 0 960 (Or.inr e54) h1 rfl rfl
              refine g_iload_n 56 (gd rfl) rfl rfl ?_
              refine g_iadd 57 (gd rfl) rfl (fun z56 e56 => ?_)
              have i56 := in_add 0 990 e56 i54 h1 rfl rfl
              refine g_laload 58 (gd rfl) rfl (n := 1024) rfl (in_ix i56 rfl) (fun z57 e57 => ?_)
              refine g_lstore 60 (gd rfl) rfl (Nat.le_of_ble_eq_true rfl) ?_
              refine g_lload 62 (gd rfl) rfl rfl ?_
              refine g_ldc2_w 1000000005 65 (gd rfl) rfl rfl ?_
              refine g_calls (As := [.long z57, .long (Int64.ofInt 1000000005)]) (r := []) 68 (gd rfl) rfl rfl rfl rfl rfl (Nat.le_of_ble_eq_true rfl) (Nat.zero_le _) (Nat.zero_le _) (k_192 (by first | exact dq1 hd rfl | exact dq0 hd rfl | exact dq2 hd rfl | exact dq3 hd rfl | omega) hIc2 ) (fun v u h => ?_)
              obtain ⟨z65, rfl, rfl⟩ := h
              show GG _ _ _ _ _ _ _ _ [.long z65] _ _ _
              refine g_lstore 70 (gd rfl) rfl (Nat.le_of_ble_eq_true rfl) ?_
              refine g_iload_n 71 (gd rfl) rfl rfl ?_
              refine g_iconst 1 72 (gd rfl) rfl rfl ?_
              refine g_iadd 73 (gd rfl) rfl (fun z72 e72 => ?_)
              have i72 := in_add 1 31 e72 h1 (in_c 1 rfl) rfl rfl
              refine g_istore 75 (gd rfl) rfl (Nat.le_of_ble_eq_true rfl) ?_
              exact gg_w (by first | exact Nat.le_add_right _ _ | exact gw2 | exact gw3 | exact gwe rfl | exact gwf rfl | exact gwg rfl | exact gwh rfl | omega) (gg_f (gf_cons rfl (gf_cons rfl (gf_cons rfl (gf_cons rfl (gf_cons rfl (gf_cons rfl (gf_cons rfl gf_nil))))))) (ct75 31 sc2 y2_3 z57 z65 z72 hIc2 hFc2 (in_w 0 30 i4 rfl) (in_w 1 31 i72 rfl) (m_in 31 (in_w 1 31 i72 rfl) rfl)))
            · skip
              refine g_aload_n 42 (gd rfl) rfl rfl ?_
              refine g_iload_n 43 (gd rfl) rfl rfl ?_
              refine g_iload_n 44 (gd rfl) rfl rfl ?_
              refine g_callv (X := _) (As := [.int y2_3, .int x1]) (r := []) (b := A 76) (q := 76) 47 (gd rfl) rfl rfl rfl rfl rfl (ww_o rfl) (Nat.le_of_ble_eq_true rfl) (Nat.zero_le _) (Nat.zero_le _) (k_191_76 (by first | exact dq1 hd rfl | exact dq0 hd rfl | exact dq2 hd rfl | exact dq3 hd rfl | omega) hIc2 (in_w 0 30 i4 rfl) (in_w 0 30 h1 rfl)) (fun e u h => h) (fun v u h => ?_)
              obtain ⟨s44, hI44, hF44, rfl, rfl⟩ := h
              show GG _ _ _ _ _ _ _ _ [] _ _ _
              refine g_aload_n 48 (gd rfl) rfl rfl ?_
              refine g_getA (q2 := 85) 51 (gd rfl) rfl rfl rfl rfl ?_
              refine g_iload_n 52 (gd rfl) rfl rfl ?_
              refine g_bipush 32 54 (gd rfl) rfl rfl ?_
              refine g_imul 55 (gd rfl) rfl (fun z54 e54 => ?_)
              have i54 := in_mulc 32 0 960 (Or.inr e54) h1 rfl rfl
              refine g_iload_n 56 (gd rfl) rfl rfl ?_
              refine g_iadd 57 (gd rfl) rfl (fun z56 e56 => ?_)
              have i56 := in_add 0 990 e56 i54 h1 rfl rfl
              refine g_laload 58 (gd rfl) rfl (n := 1024) rfl (in_ix i56 rfl) (fun z57 e57 => ?_)
              refine g_lstore 60 (gd rfl) rfl (Nat.le_of_ble_eq_true rfl) ?_
              refine g_lload 62 (gd rfl) rfl rfl ?_
              refine g_ldc2_w 1000000005 65 (gd rfl) rfl rfl ?_
              refine g_calls (As := [.long z57, .long (Int64.ofInt 1000000005)]) (r := []) 68 (gd rfl) rfl rfl rfl rfl rfl (Nat.le_of_ble_eq_true rfl) (Nat.zero_le _) (Nat.zero_le _) (k_192 (by first | exact dq1 hd rfl | exact dq0 hd rfl | exact dq2 hd rfl | exact dq3 hd rfl | omega) hI44 ) (fun v u h => ?_)
              obtain ⟨z65, rfl, rfl⟩ := h
              show GG _ _ _ _ _ _ _ _ [.long z65] _ _ _
              refine g_lstore 70 (gd rfl) rfl (Nat.le_of_ble_eq_true rfl) ?_
              refine g_iload_n 71 (gd rfl) rfl rfl ?_
              refine g_iconst 1 72 (gd rfl) rfl rfl ?_
              refine g_iadd 73 (gd rfl) rfl (fun z72 e72 => ?_)
              have i72 := in_add 1 31 e72 h1 (in_c 1 rfl) rfl rfl
              refine g_istore 75 (gd rfl) rfl (Nat.le_of_ble_eq_true rfl) ?_
              exact gg_w (by first | exact Nat.le_add_right _ _ | exact gw2 | exact gw3 | exact gwe rfl | exact gwf rfl | exact gwg rfl | exact gwh rfl | omega) (gg_f (gf_cons rfl (gf_cons rfl (gf_cons rfl (gf_cons rfl (gf_cons rfl (gf_cons rfl (gf_cons rfl gf_nil))))))) (ct75 31 s44 y2_3 z57 z65 z72 hI44 (fr_tr rfl hFc2 hF44) (in_w 0 30 i4 rfl) (in_w 1 31 i72 rfl) (m_in 31 (in_w 1 31 i72 rfl) rfl)))
          · skip
            have i31 := r_le1 1 30 c31 h2 i4 rfl
            have i31a := r_le2 1 30 c31 h2 i4 rfl
            refine g_lconst 0 35 (gd rfl) rfl rfl ?_
            exact g_lreturn (gd rfl) rfl (hP _ _ ⟨sc2, hIc2, hFc2, (Int64.ofInt 0), rfl, rfl⟩)
        · skip
          have i20 := z_eq 0 0 c20 i19 rfl
          have c20a := lc_eq e19 c20
          have i20a := lr_eq1 0 0 c20a (l_rng z17) (l_c 0 rfl) rfl
          refine g_iinc 26 (gd rfl) rfl rfl (Nat.le_of_ble_eq_true rfl) (fun z23 e23 => ?_)
          have i23 := in_add 1 31 e23 i4 (in_c 1 rfl) rfl rfl
          refine g_goto 2 (gd rfl) rfl ?_
          exact gg_w (by first | exact Nat.le_add_right _ _ | exact gw2 | exact gw3 | exact gwe rfl | exact gwf rfl | exact gwg rfl | exact gwh rfl | omega) (gg_f (gf_cons rfl (gf_cons rfl (gf_cons rfl (gf_cons rfl gf_nil)))) (ih2 sc2 z23 hIc2 hFc2 (in_w 0 31 i23 rfl) (m_up mm2 (t_add e23 i4 (in_c 1 rfl) rfl) (in_w 1 1 (in_c 1 rfl) rfl))))
  refine g_enter2 (k := 190) (N := 1006233) (by first | exact dq1 hd rfl | exact dq0 hd rfl | exact dq2 hd rfl | exact dq3 hd rfl | omega) rfl (Nat.le_of_ble_eq_true rfl) ?_
  refine g_iload_n 1 (gd rfl) rfl rfl ?_
  refine g_istore_n 2 (gd rfl) rfl (Nat.le_of_ble_eq_true rfl) ?_
  exact gg_w (by first | exact Nat.le_of_ble_eq_true rfl | omega) (gg_f (gf_cons rfl (gf_cons rfl (gf_cons rfl (gf_cons rfl gf_nil)))) (ct2 32 s x1 hI fr_rf (in_w 0 31 h1 rfl) (m_in 32 (in_w 0 31 h1 rfl) rfl)))
