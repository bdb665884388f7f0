section
/-! methods, by vc.py -/
def fm_54_60_32 : FM := ([61, 62, 63], [], [(60, 7)], [])
/-- GraphHouse$Colours.canLower -/
theorem k_54_60_32 {Z : AmZ} {A : Nat → Nat} {s : GS} {ex : va_W} {d : Nat} {X : AmX} {x2 : Int32} {x3 : Int32} {x4 : Int32} (hd : 381 ≤ d) (hI : Inv s) (h2 : In x2 0 31) (h3 : In x3 0 31) (h4 : In x4 0 31) : GC Z d 54 [.ref (A 60), .ref (A 32), .int x2, .int x3, .int x4] (WW Z A s ++ ex) 0 0 (fun v u => ∃ t : GS, Inv t ∧ Fr fm_54_60_32 s t ∧ ∃ z : Int32, v = some (.int z) ∧ u = WW Z A t ++ ex ∧ In z 0 1) X := by
  intro post xp hP hX
  obtain ⟨u_32_1, e_32_1⟩ : ∃ w, w = s.2.2.1 32 1 := ⟨_, rfl⟩
  have ro_32_1 := inv_F hI 0 32 rfl e_32_1
  obtain ⟨u_60_3, e_60_3⟩ : ∃ w, w = s.2.2.1 60 3 := ⟨_, rfl⟩
  have ro_60_3 := inv_F hI 0 32 rfl e_60_3
  have ct108 : ∀ (k108 : Nat) (sc108 : GS) (y108_5 : Int32) (y108_6 : Int32) (y108_7 : Int32) (y108_8 : Int32), Inv sc108 → Fr fm_54_60_32 s sc108 → (In y108_8 0 32) → 32 - (y108_8).toInt < (k108 : Int) → GG Z (d - 1) 54 post (gx xp) (1 + k108 * 900) 108 (fun j => xlook j [(0, .ref (A 60)), (1, .ref (A 32)), (2, .int x2), (3, .int x3), (4, .int x4), (5, .int y108_5), (6, .int y108_6), (7, .int y108_7), (8, .int y108_8)]) [] (WW Z A sc108 ++ ex) 0 0 := by
    intro k108
    induction k108 with
    | zero => intro sc108 y108_5 y108_6 y108_7 y108_8 hIc108 hFc108 j108_8 mm108; exact m_no mm108 j108_8 rfl
    | succ k108 ih108 =>
      intro sc108 y108_5 y108_6 y108_7 y108_8 hIc108 hFc108 j108_8 mm108
      refine gg_w (M := 1 + k108 * 900 + 900) gws ?_
      refine g_iload 110 (gd rfl) rfl rfl ?_
      refine g_aload_n 111 (gd rfl) rfl rfl ?_
      refine g_getI 114 (gd rfl) rfl rfl rfl (fun z111 e111 => ?_)
      have q111 : u_60_3 = z111 := (fr_F e_60_3 hFc108 rfl).trans e111.symm
      subst q111
      refine g_cmp_ge 117 135 (gd rfl) rfl rfl (fun c114 => ?_) (fun c114 => ?_)
      · skip
        refine g_aload_n 136 (gd rfl) rfl rfl ?_
        refine g_getA (q2 := 61) 139 (gd rfl) rfl rfl rfl rfl ?_
        refine g_iload_n 140 (gd rfl) rfl rfl ?_
        refine g_dup2 141 (gd rfl) rfl rfl rfl ?_
        refine g_iaload 142 (gd rfl) rfl (n := 32) rfl (in_ix h3 rfl) (fun z141 e141 => ?_)
        refine g_iload 144 (gd rfl) rfl rfl ?_
        refine g_ior 145 (gd rfl) rfl (fun z144 e144 => ?_)
        refine g_iastore 146 (gd rfl) rfl (n := 32) rfl (in_ix h3 rfl) ?_
        have hI145 := inv_sI (q := 61) (j := x3.toNatClampNeg) hIc108 rfl (in_w (-2147483648) 2147483647 (i_rng z144) rfl)
        refine g_aload_n 147 (gd rfl) rfl rfl ?_
        refine g_aload_n 148 (gd rfl) rfl rfl ?_
        refine g_getA (q2 := 39) 151 (gd rfl) rfl rfl rfl rfl ?_
        refine g_aload_n 152 (gd rfl) rfl rfl ?_
        refine g_callv (X := _) (As := []) (r := [.ref (A 39), .ref (A 60)]) (b := A 32) (q := 32) 155 (gd rfl) rfl rfl rfl rfl rfl (ww_o rfl) (Nat.le_of_ble_eq_true rfl) (mc := 0) (ms := 0) (Nat.zero_le _) (Nat.zero_le _) (P := fun v u => _) ?_ (fun e u h => h) (fun v u h => h)
        intro po152 xx152 hp152 hx152
        refine g_enter2 (k := 102) (N := 300) (by first | exact dq1 hd rfl | exact dq0 hd rfl | exact dq2 hd rfl | exact dq3 hd rfl | omega) rfl (Nat.le_of_ble_eq_true rfl) ?_
        refine g_aload_n 1 (gd rfl) rfl rfl ?_
        refine g_getI 4 (gd rfl) rfl rfl rfl (fun z152x1 e152x1 => ?_)
        have q152x1 : u_32_1 = z152x1 := (sI_F (fr_F e_32_1 hFc108 rfl)).trans e152x1.symm
        subst q152x1
        refine g_bipush 32 6 (gd rfl) rfl rfl ?_
        refine g_cmp_lt 9 13 (gd rfl) rfl rfl (fun c152x6 => ?_) (fun c152x6 => ?_)
        · skip
          have i152x6 := r_lt1 0 31 c152x6 ro_32_1 (in_c 32 rfl) rfl
          refine g_iconst 1 14 (gd rfl) rfl rfl ?_
          refine g_aload_n 15 (gd rfl) rfl rfl ?_
          refine g_getI 18 (gd rfl) rfl rfl rfl (fun z152x15 e152x15 => ?_)
          have q152x15 : u_32_1 = z152x15 := (sI_F (fr_F e_32_1 hFc108 rfl)).trans e152x15.symm
          subst q152x15
          refine g_ishl 19 (gd rfl) rfl (fun z152x18 e152x18 => ?_)
          refine g_iconst 1 20 (gd rfl) rfl rfl ?_
          refine g_isub 21 (gd rfl) rfl (fun z152x20 e152x20 => ?_)
          refine g_ireturn (gd rfl) rfl rfl (hp152 _ _ ?_)
          show GG _ _ _ _ _ _ _ _ [.int z152x20, .ref (A 39), .ref (A 60)] _ _ _
          refine g_iload 157 (gd rfl) rfl rfl ?_
          refine g_iconst (-1) 158 (gd rfl) rfl rfl ?_
          refine g_ixor 159 (gd rfl) rfl (fun z158 e158 => ?_)
          refine g_iand 160 (gd rfl) rfl (fun z159 e159 => ?_)
          refine g_iload 162 (gd rfl) rfl rfl ?_
          refine g_iconst (-1) 163 (gd rfl) rfl rfl ?_
          refine g_ixor 164 (gd rfl) rfl (fun z163 e163 => ?_)
          refine g_iand 165 (gd rfl) rfl (fun z164 e164 => ?_)
          refine g_iconst 0 166 (gd rfl) rfl rfl ?_
          refine g_callv (X := _) (As := [.ref (A 39), .int z164, .int (Int32.ofInt 0)]) (r := []) (b := A 60) (q := 60) 169 (gd rfl) rfl rfl rfl rfl rfl (ww_o rfl) (Nat.le_of_ble_eq_true rfl) (Nat.zero_le _) (Nat.zero_le _) (k_46_60_39 (by first | exact dq1 hd rfl | exact dq0 hd rfl | exact dq2 hd rfl | exact dq3 hd rfl | omega) hI145 (in_w 0 33 (in_c 0 rfl) rfl)) (fun e u h => h) (fun v u h => ?_)
          obtain ⟨s166, hI166, hF166, z166, rfl, rfl, i166⟩ := h
          show GG _ _ _ _ _ _ _ _ [.int z166] _ _ _
          refine g_if_eq 172 174 (gd rfl) rfl rfl (fun c169 => ?_) (fun c169 => ?_)
          · skip
            have i169 := z_eq 0 0 c169 i166 rfl
            refine g_aload_n 175 (gd rfl) rfl rfl ?_
            refine g_getA (q2 := 62) 178 (gd rfl) rfl rfl rfl rfl ?_
            refine g_iconst 0 179 (gd rfl) rfl rfl ?_
            refine g_aload_n 180 (gd rfl) rfl rfl ?_
            refine g_getA (q2 := 61) 183 (gd rfl) rfl rfl rfl rfl ?_
            refine g_iconst 0 184 (gd rfl) rfl rfl ?_
            refine g_bipush 32 186 (gd rfl) rfl rfl ?_
            refine g_cpI (q2 := 62) (q := 61) (n0 := 32) (n1 := 32) 189 (gd rfl) rfl rfl rfl rfl (Nat.le_of_ble_eq_true rfl) (cp_0 (in_c 0 rfl) rfl) (cp_0 (in_c 0 rfl) rfl) (cp_0 (in_c 32 rfl) rfl) (cp_1 (in_c 0 rfl) (in_c 32 rfl) rfl) (cp_1 (in_c 0 rfl) (in_c 32 rfl) rfl) hI166 rfl rfl rfl rfl (fun s186 hI186 hF186 cp186 => ?_)
            refine g_iconst 0 190 (gd rfl) rfl rfl ?_
            exact g_ireturn (gd rfl) rfl (nb01 (in_w 0 1 (in_c 0 rfl) rfl)) (hP _ _ ⟨s186, hI186, (fr_tr rfl (fr_tr rfl (fr_sI rfl hFc108) hF166) hF186), (Int32.ofInt 0), rfl, rfl, in_w 0 1 (in_c 0 rfl) rfl⟩)
          · skip
            have i169 := z_ne 1 1 c169 i166 rfl
            refine g_iconst 1 173 (gd rfl) rfl rfl ?_
            exact g_ireturn (gd rfl) rfl (nb01 (in_w 0 1 (in_c 1 rfl) rfl)) (hP _ _ ⟨s166, hI166, (fr_tr rfl (fr_sI rfl hFc108) hF166), (Int32.ofInt 1), rfl, rfl, in_w 0 1 (in_c 1 rfl) rfl⟩)
        · skip
          have i152x6 := r_le2 32 32 c152x6 (in_c 32 rfl) ro_32_1 rfl
          refine g_iconst (-1) 10 (gd rfl) rfl rfl ?_
          refine g_goto 21 (gd rfl) rfl ?_
          refine g_ireturn (gd rfl) rfl rfl (hp152 _ _ ?_)
          show GG _ _ _ _ _ _ _ _ [.int (Int32.ofInt (-1)), .ref (A 39), .ref (A 60)] _ _ _
          refine g_iload 157 (gd rfl) rfl rfl ?_
          refine g_iconst (-1) 158 (gd rfl) rfl rfl ?_
          refine g_ixor 159 (gd rfl) rfl (fun z158 e158 => ?_)
          refine g_iand 160 (gd rfl) rfl (fun z159 e159 => ?_)
          refine g_iload 162 (gd rfl) rfl rfl ?_
          refine g_iconst (-1) 163 (gd rfl) rfl rfl ?_
          refine g_ixor 164 (gd rfl) rfl (fun z163 e163 => ?_)
          refine g_iand 165 (gd rfl) rfl (fun z164 e164 => ?_)
          refine g_iconst 0 166 (gd rfl) rfl rfl ?_
          refine g_callv (X := _) (As := [.ref (A 39), .int z164, .int (Int32.ofInt 0)]) (r := []) (b := A 60) (q := 60) 169 (gd rfl) rfl rfl rfl rfl rfl (ww_o rfl) (Nat.le_of_ble_eq_true rfl) (Nat.zero_le _) (Nat.zero_le _) (k_46_60_39 (by first | exact dq1 hd rfl | exact dq0 hd rfl | exact dq2 hd rfl | exact dq3 hd rfl | omega) hI145 (in_w 0 33 (in_c 0 rfl) rfl)) (fun e u h => h) (fun v u h => ?_)
          obtain ⟨s166, hI166, hF166, z166, rfl, rfl, i166⟩ := h
          show GG _ _ _ _ _ _ _ _ [.int z166] _ _ _
          refine g_if_eq 172 174 (gd rfl) rfl rfl (fun c169 => ?_) (fun c169 => ?_)
          · skip
            have i169 := z_eq 0 0 c169 i166 rfl
            refine g_aload_n 175 (gd rfl) rfl rfl ?_
            refine g_getA (q2 := 62) 178 (gd rfl) rfl rfl rfl rfl ?_
            refine g_iconst 0 179 (gd rfl) rfl rfl ?_
            refine g_aload_n 180 (gd rfl) rfl rfl ?_
            refine g_getA (q2 := 61) 183 (gd rfl) rfl rfl rfl rfl ?_
            refine g_iconst 0 184 (gd rfl) rfl rfl ?_
            refine g_bipush 32 186 (gd rfl) rfl rfl ?_
            refine g_cpI (q2 := 62) (q := 61) (n0 := 32) (n1 := 32) 189 (gd rfl) rfl rfl rfl rfl (Nat.le_of_ble_eq_true rfl) (cp_0 (in_c 0 rfl) rfl) (cp_0 (in_c 0 rfl) rfl) (cp_0 (in_c 32 rfl) rfl) (cp_1 (in_c 0 rfl) (in_c 32 rfl) rfl) (cp_1 (in_c 0 rfl) (in_c 32 rfl) rfl) hI166 rfl rfl rfl rfl (fun s186 hI186 hF186 cp186 => ?_)
            refine g_iconst 0 190 (gd rfl) rfl rfl ?_
            exact g_ireturn (gd rfl) rfl (nb01 (in_w 0 1 (in_c 0 rfl) rfl)) (hP _ _ ⟨s186, hI186, (fr_tr rfl (fr_tr rfl (fr_sI rfl hFc108) hF166) hF186), (Int32.ofInt 0), rfl, rfl, in_w 0 1 (in_c 0 rfl) rfl⟩)
          · skip
            have i169 := z_ne 1 1 c169 i166 rfl
            refine g_iconst 1 173 (gd rfl) rfl rfl ?_
            exact g_ireturn (gd rfl) rfl (nb01 (in_w 0 1 (in_c 1 rfl) rfl)) (hP _ _ ⟨s166, hI166, (fr_tr rfl (fr_sI rfl hFc108) hF166), (Int32.ofInt 1), rfl, rfl, in_w 0 1 (in_c 1 rfl) rfl⟩)
      · skip
        have i114 := r_lt1 0 31 c114 j108_8 ro_60_3 rfl
        have i114a := r_lt2 1 32 c114 j108_8 ro_60_3 rfl
        refine g_aload_n 118 (gd rfl) rfl rfl ?_
        refine g_getA (q2 := 61) 121 (gd rfl) rfl rfl rfl rfl ?_
        refine g_iload 123 (gd rfl) rfl rfl ?_
        refine g_dup2 124 (gd rfl) rfl rfl rfl ?_
        refine g_iaload 125 (gd rfl) rfl (n := 32) rfl (in_ix i114 rfl) (fun z124 e124 => ?_)
        refine g_iload 127 (gd rfl) rfl rfl ?_
        refine g_iand 128 (gd rfl) rfl (fun z127 e127 => ?_)
        refine g_iastore 129 (gd rfl) rfl (n := 32) rfl (in_ix i114 rfl) ?_
        have hI128 := inv_sI (q := 61) (j := y108_8.toNatClampNeg) hIc108 rfl (in_w (-2147483648) 2147483647 (i_rng z127) rfl)
        refine g_iinc 132 (gd rfl) rfl rfl (Nat.le_of_ble_eq_true rfl) (fun z129 e129 => ?_)
        have i129 := in_add 1 32 e129 i114 (in_c 1 rfl) rfl rfl
        refine g_goto 108 (gd rfl) rfl ?_
        exact gg_w (by first | exact Nat.le_add_right _ _ | exact gw2 | exact gw3 | exact gwe rfl | exact gwf rfl | exact gwg rfl | exact gwh rfl | omega) (gg_f (gf_cons rfl (gf_cons rfl (gf_cons rfl (gf_cons rfl (gf_cons rfl (gf_cons rfl (gf_cons rfl (gf_cons rfl (gf_cons rfl gf_nil))))))))) (ih108 (sI sc108 61 y108_8.toNatClampNeg z127) y108_5 y108_6 y108_7 z129 hI128 (fr_sI rfl hFc108) (in_w 0 32 i129 rfl) (m_up mm108 (t_add e129 i114 (in_c 1 rfl) rfl) (in_w 1 1 (in_c 1 rfl) rfl))))
  refine g_enter2 (k := 54) (N := 30601) (by first | exact dq1 hd rfl | exact dq0 hd rfl | exact dq2 hd rfl | exact dq3 hd rfl | omega) rfl (Nat.le_of_ble_eq_true rfl) ?_
  refine g_iconst 1 1 (gd rfl) rfl rfl ?_
  refine g_iload_n 2 (gd rfl) rfl rfl ?_
  refine g_ishl 3 (gd rfl) rfl (fun z2 e2 => ?_)
  refine g_istore 5 (gd rfl) rfl (Nat.le_of_ble_eq_true rfl) ?_
  refine g_iload 7 (gd rfl) rfl rfl ?_
  refine g_iconst 1 8 (gd rfl) rfl rfl ?_
  refine g_isub 9 (gd rfl) rfl (fun z8 e8 => ?_)
  refine g_istore 11 (gd rfl) rfl (Nat.le_of_ble_eq_true rfl) ?_
  refine g_aload_n 12 (gd rfl) rfl rfl ?_
  refine g_getA (q2 := 61) 15 (gd rfl) rfl rfl rfl rfl ?_
  refine g_iload_n 16 (gd rfl) rfl rfl ?_
  refine g_iaload 17 (gd rfl) rfl (n := 32) rfl (in_ix h3 rfl) (fun z16 e16 => ?_)
  refine g_aload_n 18 (gd rfl) rfl rfl ?_
  refine g_getA (q2 := 39) 21 (gd rfl) rfl rfl rfl rfl ?_
  refine g_iload_n 22 (gd rfl) rfl rfl ?_
  refine g_iaload 23 (gd rfl) rfl (n := 32) rfl (in_ix h2 rfl) (fun z22 e22 => ?_)
  refine g_iand 24 (gd rfl) rfl (fun z23 e23 => ?_)
  refine g_iload 26 (gd rfl) rfl rfl ?_
  refine g_iand 27 (gd rfl) rfl (fun z26 e26 => ?_)
  refine g_if_eq 30 32 (gd rfl) rfl rfl (fun c27 => ?_) (fun c27 => ?_)
  · skip
    have i27 := z_eq 0 0 c27 (i_rng z26) rfl
    refine g_aload_n 33 (gd rfl) rfl rfl ?_
    refine g_getA (q2 := 39) 36 (gd rfl) rfl rfl rfl rfl ?_
    refine g_iload 38 (gd rfl) rfl rfl ?_
    refine g_aload_n 39 (gd rfl) rfl rfl ?_
    refine g_getA (q2 := 61) 42 (gd rfl) rfl rfl rfl rfl ?_
    refine g_iload_n 43 (gd rfl) rfl rfl ?_
    refine g_iaload 44 (gd rfl) rfl (n := 32) rfl (in_ix h3 rfl) (fun z43 e43 => ?_)
    have q43 : z16 = z43 := (e16).trans e43.symm
    subst q43
    refine g_aload_n 45 (gd rfl) rfl rfl ?_
    refine g_getA (q2 := 61) 48 (gd rfl) rfl rfl rfl rfl ?_
    refine g_iload 50 (gd rfl) rfl rfl ?_
    refine g_iaload 51 (gd rfl) rfl (n := 32) rfl (in_ix h4 rfl) (fun z50 e50 => ?_)
    refine g_ior 52 (gd rfl) rfl (fun z51 e51 => ?_)
    refine g_calls (As := [.ref (A 39), .int z2, .int z51]) (r := []) 55 (gd rfl) rfl rfl rfl rfl rfl (Nat.le_of_ble_eq_true rfl) (Nat.zero_le _) (Nat.zero_le _) (k_266_39 (by first | exact dq1 hd rfl | exact dq0 hd rfl | exact dq2 hd rfl | exact dq3 hd rfl | omega) hI ) (fun v u h => ?_)
    obtain ⟨z52, rfl, rfl, i52, p52⟩ := h
    show GG _ _ _ _ _ _ _ _ [.int z52] _ _ _
    refine g_istore 57 (gd rfl) rfl (Nat.le_of_ble_eq_true rfl) ?_
    refine g_iload 59 (gd rfl) rfl rfl ?_
    refine g_iload 61 (gd rfl) rfl rfl ?_
    refine g_iand 62 (gd rfl) rfl (fun z61 e61 => ?_)
    refine g_if_ne 65 90 (gd rfl) rfl rfl (fun c62 => ?_) (fun c62 => ?_)
    · skip
      refine g_aload_n 91 (gd rfl) rfl rfl ?_
      refine g_getA (q2 := 61) 94 (gd rfl) rfl rfl rfl rfl ?_
      refine g_iconst 0 95 (gd rfl) rfl rfl ?_
      refine g_aload_n 96 (gd rfl) rfl rfl ?_
      refine g_getA (q2 := 62) 99 (gd rfl) rfl rfl rfl rfl ?_
      refine g_iconst 0 100 (gd rfl) rfl rfl ?_
      refine g_bipush 32 102 (gd rfl) rfl rfl ?_
      refine g_cpI (q2 := 61) (q := 62) (n0 := 32) (n1 := 32) 105 (gd rfl) rfl rfl rfl rfl (Nat.le_of_ble_eq_true rfl) (cp_0 (in_c 0 rfl) rfl) (cp_0 (in_c 0 rfl) rfl) (cp_0 (in_c 32 rfl) rfl) (cp_1 (in_c 0 rfl) (in_c 32 rfl) rfl) (cp_1 (in_c 0 rfl) (in_c 32 rfl) rfl) hI rfl rfl rfl rfl (fun s102 hI102 hF102 cp102 => ?_)
      refine g_iconst 0 106 (gd rfl) rfl rfl ?_
      refine g_istore 108 (gd rfl) rfl (Nat.le_of_ble_eq_true rfl) ?_
      exact gg_w (by first | exact Nat.le_of_ble_eq_true rfl | omega) (gg_f (gf_cons rfl (gf_cons rfl (gf_cons rfl (gf_cons rfl (gf_cons rfl (gf_cons rfl (gf_cons rfl (gf_cons rfl (gf_cons rfl gf_nil))))))))) (ct108 33 s102 z2 z8 z52 (Int32.ofInt 0) hI102 (fr_tr rfl fr_rf hF102) (in_w 0 32 (in_c 0 rfl) rfl) (m_in 33 (in_w 0 32 (in_c 0 rfl) rfl) rfl)))
    · skip
      have i62 := z_eq 0 0 c62 (i_rng z61) rfl
      refine g_aload_n 66 (gd rfl) rfl rfl ?_
      refine g_getA (q2 := 61) 69 (gd rfl) rfl rfl rfl rfl ?_
      refine g_iload_n 70 (gd rfl) rfl rfl ?_
      refine g_dup2 71 (gd rfl) rfl rfl rfl ?_
      refine g_iaload 72 (gd rfl) rfl (n := 32) rfl (in_ix h3 rfl) (fun z71 e71 => ?_)
      have q71 : z16 = z71 := (e16).trans e71.symm
      subst q71
      refine g_iload 74 (gd rfl) rfl rfl ?_
      refine g_ixor 75 (gd rfl) rfl (fun z74 e74 => ?_)
      refine g_iastore 76 (gd rfl) rfl (n := 32) rfl (in_ix h3 rfl) ?_
      have hI75 := inv_sI (q := 61) (j := x3.toNatClampNeg) hI rfl (in_w (-2147483648) 2147483647 (i_rng z74) rfl)
      refine g_aload_n 77 (gd rfl) rfl rfl ?_
      refine g_getA (q2 := 61) 80 (gd rfl) rfl rfl rfl rfl ?_
      refine g_iload 82 (gd rfl) rfl rfl ?_
      refine g_dup2 83 (gd rfl) rfl rfl rfl ?_
      refine g_iaload 84 (gd rfl) rfl (n := 32) rfl (in_ix h4 rfl) (fun z83 e83 => ?_)
      refine g_iload 86 (gd rfl) rfl rfl ?_
      refine g_ixor 87 (gd rfl) rfl (fun z86 e86 => ?_)
      refine g_iastore 88 (gd rfl) rfl (n := 32) rfl (in_ix h4 rfl) ?_
      have hI87 := inv_sI (q := 61) (j := x4.toNatClampNeg) hI75 rfl (in_w (-2147483648) 2147483647 (i_rng z86) rfl)
      refine g_iconst 1 89 (gd rfl) rfl rfl ?_
      exact g_ireturn (gd rfl) rfl (nb01 (in_w 0 1 (in_c 1 rfl) rfl)) (hP _ _ ⟨(sI (sI s 61 x3.toNatClampNeg z74) 61 x4.toNatClampNeg z86), hI87, (fr_sI rfl (fr_sI rfl fr_rf)), (Int32.ofInt 1), rfl, rfl, in_w 0 1 (in_c 1 rfl) rfl⟩)
  · skip
    refine g_iconst 0 31 (gd rfl) rfl rfl ?_
    exact g_ireturn (gd rfl) rfl (nb01 (in_w 0 1 (in_c 0 rfl) rfl)) (hP _ _ ⟨s, hI, fr_rf, (Int32.ofInt 0), rfl, rfl, in_w 0 1 (in_c 0 rfl) rfl⟩)

def fm_63_102_2 : FM := ([9, 10, 11, 12, 13, 14, 15], [105, 106, 107, 108], [(2, 4), (102, 9)], [])
/-- GraphHouse$Engine.work -/
theorem k_63_102_2 {Z : AmZ} {A : Nat → Nat} {s : GS} {ex : va_W} {d : Nat} {X : AmX} {x2 : Int32} (hd : 7 ≤ d) (hI : Inv s) (h2 : In x2 0 200) : GC Z d 63 [.ref (A 102), .ref (A 2), .int x2] (WW Z A s ++ ex) 0 0 (fun v u => ∃ t : GS, Inv t ∧ Fr fm_63_102_2 s t ∧ ∃ z : Int32, v = some (.int z) ∧ u = WW Z A t ++ ex ∧ In z 0 200) X := by
  intro post xp hP hX
  obtain ⟨u_2_1, e_2_1⟩ : ∃ w, w = s.2.2.1 2 1 := ⟨_, rfl⟩
  have ro_2_1 := inv_F hI 0 32 rfl e_2_1
  have ct29 : ∀ (k29 : Nat) (sc29 : GS) (y29_3 : Int32) (w29_2_4 : Int32) (w29_2_0 : Int32), Inv sc29 → Fr fm_63_102_2 s sc29 → (In y29_3 1 400) → (w29_2_4 = sc29.2.2.1 2 4) → (w29_2_0 = sc29.2.2.1 2 0) → ((w29_2_4).toInt = (w29_2_0).toInt) → 400 - (y29_3).toInt < (k29 : Int) → GG Z (d - 1) 63 post (gx xp) (1 + k29 * 900) 29 (fun j => xlook j [(0, .ref (A 102)), (1, .ref (A 2)), (2, .int x2), (3, .int y29_3)]) [] (WW Z A sc29 ++ ex) 0 0 := by
    intro k29
    induction k29 with
    | zero => intro sc29 y29_3 w29_2_4 w29_2_0 hIc29 hFc29 j29_3 v29_2_4 v29_2_0 n29_0 mm29; exact m_no mm29 j29_3 rfl
    | succ k29 ih29 =>
      intro sc29 y29_3 w29_2_4 w29_2_0 hIc29 hFc29 j29_3 v29_2_4 v29_2_0 n29_0 mm29
      refine gg_w (M := 1 + k29 * 900 + 900) gws ?_
      refine g_iload_n 30 (gd rfl) rfl rfl ?_
      refine g_iload_n 31 (gd rfl) rfl rfl ?_
      refine g_cmp_gt 34 66 (gd rfl) rfl rfl (fun c31 => ?_) (fun c31 => ?_)
      · skip
        refine g_iload_n 67 (gd rfl) rfl rfl ?_
        exact g_ireturn (gd rfl) rfl rfl (hP _ _ ⟨sc29, hIc29, hFc29, x2, rfl, rfl, in_w 0 200 h2 rfl⟩)
      · skip
        have i31 := r_le1 1 200 c31 j29_3 h2 rfl
        have i31a := r_le2 1 200 c31 j29_3 h2 rfl
        refine g_aload_n 35 (gd rfl) rfl rfl ?_
        refine g_getA (q2 := 107) 38 (gd rfl) rfl rfl rfl rfl ?_
        refine g_iconst 0 39 (gd rfl) rfl rfl ?_
        refine g_aload_n 40 (gd rfl) rfl rfl ?_
        refine g_getA (q2 := 108) 43 (gd rfl) rfl rfl rfl rfl ?_
        refine g_iconst 0 44 (gd rfl) rfl rfl ?_
        refine g_bipush 32 46 (gd rfl) rfl rfl ?_
        refine g_cpL (q2 := 107) (q := 108) (n0 := 32) (n1 := 32) 49 (gd rfl) rfl rfl rfl rfl (Nat.le_of_ble_eq_true rfl) (cp_0 (in_c 0 rfl) rfl) (cp_0 (in_c 0 rfl) rfl) (cp_0 (in_c 32 rfl) rfl) (cp_1 (in_c 0 rfl) (in_c 32 rfl) rfl) (cp_1 (in_c 0 rfl) (in_c 32 rfl) rfl) hIc29 rfl rfl rfl (fun s46 hI46 hF46 cp46 => ?_)
        refine g_aload_n 50 (gd rfl) rfl rfl ?_
        refine g_aload_n 51 (gd rfl) rfl rfl ?_
        refine g_iload_n 52 (gd rfl) rfl rfl ?_
        have v52 : w29_2_4 = s46.2.2.1 2 4 := fr_F (v29_2_4) hF46 rfl
        have v52a : w29_2_0 = s46.2.2.1 2 0 := fr_F (v29_2_0) hF46 rfl
        have n52 : (w29_2_4).toInt = (w29_2_0).toInt := by first | exact n29_0 | (have a0 := oa5 i31a ro_2_1 ((inv_F hIc29 0 4000 rfl v29_2_0)) ((inv_F hIc29 (-1) 4000 rfl v29_2_4)) i31; omega)
        refine g_callv (X := _) (As := [.ref (A 2), .int y29_3]) (r := []) (b := A 102) (q := 102) 55 (gd rfl) rfl rfl rfl rfl rfl (ww_o rfl) (Nat.le_of_ble_eq_true rfl) (Nat.zero_le _) (Nat.zero_le _) (k_64_102_2 (by first | exact dq1 hd rfl | exact dq0 hd rfl | exact dq2 hd rfl | exact dq3 hd rfl | omega) hI46 (in_w 0 200 i31 rfl) v52 v52a n52) (fun e u h => h) (fun v u h => ?_)
        obtain ⟨s52, hI52, hF52, z52, rfl, rfl, i52⟩ := h
        show GG _ _ _ _ _ _ _ _ [.int z52] _ _ _
        refine g_if_ne 58 60 (gd rfl) rfl rfl (fun c55 => ?_) (fun c55 => ?_)
        · skip
          have i55 := z_ne 1 1 c55 i52 rfl
          refine g_iinc 63 (gd rfl) rfl rfl (Nat.le_of_ble_eq_true rfl) (fun z60 e60 => ?_)
          have i60 := in_add 2 201 e60 i31 (in_c 1 rfl) rfl rfl
          refine g_goto 29 (gd rfl) rfl ?_
          have v29 : w29_2_4 = s52.2.2.1 2 4 := fr_F (fr_F (v29_2_4) hF46 rfl) hF52 rfl
          have v29a : w29_2_0 = s52.2.2.1 2 0 := fr_F (fr_F (v29_2_0) hF46 rfl) hF52 rfl
          have n29 : (w29_2_4).toInt = (w29_2_0).toInt := by first | exact n29_0 | (have a0 := oa6 i31a ro_2_1 ((inv_F hIc29 0 4000 rfl v29_2_0)) ((inv_F hIc29 (-1) 4000 rfl v29_2_4)) i31 i60; have a6 := t_add e60 i31 (in_c 1 rfl) rfl; have a7 := in_u ((in_c 1 rfl)); omega)
          exact gg_w (by first | exact Nat.le_add_right _ _ | exact gw2 | exact gw3 | exact gwe rfl | exact gwf rfl | exact gwg rfl | exact gwh rfl | omega) (gg_f (gf_cons rfl (gf_cons rfl (gf_cons rfl (gf_cons rfl gf_nil)))) (ih29 s52 z60 w29_2_4 w29_2_0 hI52 (fr_tr rfl (fr_tr rfl hFc29 hF46) hF52) (in_w 1 400 i60 rfl) v29 v29a n29 (m_up mm29 (t_add e60 i31 (in_c 1 rfl) rfl) (in_w 1 1 (in_c 1 rfl) rfl))))
        · skip
          have i55 := z_eq 0 0 c55 i52 rfl
          refine g_iload_n 59 (gd rfl) rfl rfl ?_
          exact g_ireturn (gd rfl) rfl rfl (hP _ _ ⟨s52, hI52, (fr_tr rfl (fr_tr rfl hFc29 hF46) hF52), y29_3, rfl, rfl, in_w 0 200 i31 rfl⟩)
  refine g_enter2 (k := 63) (N := 360901) (by first | exact dq1 hd rfl | exact dq0 hd rfl | exact dq2 hd rfl | exact dq3 hd rfl | omega) rfl (Nat.le_of_ble_eq_true rfl) ?_
  refine g_aload_n 1 (gd rfl) rfl rfl ?_
  refine g_callv (X := _) (As := []) (r := []) (b := A 2) (q := 2) 4 (gd rfl) rfl rfl rfl rfl rfl (ww_o rfl) (Nat.le_of_ble_eq_true rfl) (Nat.zero_le _) (Nat.zero_le _) (k_106_2 (by first | exact dq1 hd rfl | exact dq0 hd rfl | exact dq2 hd rfl | exact dq3 hd rfl | omega) hI ) (fun e u h => h) (fun v u h => ?_)
  obtain ⟨s1, hI1, hF1, n1, rfl, rfl⟩ := h
  obtain ⟨z1a, e1⟩ : ∃ w, w = s1.2.2.1 2 4 := ⟨_, rfl⟩
  have i1a := inv_F hI1 (-1) 4000 rfl e1
  obtain ⟨z1b, e1a⟩ : ∃ w, w = s1.2.2.1 2 0 := ⟨_, rfl⟩
  have i1b := inv_F hI1 0 4000 rfl e1a
  rw [← (show z1a = s1.2.2.1 2 4 from e1)] at n1
  rw [← (show z1b = s1.2.2.1 2 0 from e1a)] at n1
  show GG _ _ _ _ _ _ _ _ [] _ _ _
  refine g_aload_n 5 (gd rfl) rfl rfl ?_
  refine g_aload_n 6 (gd rfl) rfl rfl ?_
  refine g_getI 9 (gd rfl) rfl rfl rfl (fun z6 e6 => ?_)
  have q6 : u_2_1 = z6 := (fr_F (e_2_1) hF1 rfl).trans e6.symm
  subst q6
  refine g_putI 12 (gd rfl) rfl rfl rfl rfl ?_
  have hI9 := inv_sF (q := 102) (j := 9) hI1 rfl (in_w 0 32 ro_2_1 rfl)
  refine g_aload_n 13 (gd rfl) rfl rfl ?_
  refine g_getA (q2 := 108) 16 (gd rfl) rfl rfl rfl rfl ?_
  refine g_lconst 0 17 (gd rfl) rfl rfl ?_
  refine g_calls (As := [.ref (A 108), .long (Int64.ofInt 0)]) (r := []) 20 (gd rfl) rfl rfl rfl rfl rfl (Nat.le_of_ble_eq_true rfl) (Nat.zero_le _) (Nat.zero_le _) (k_fillL 108 (by first | exact dq1 hd rfl | exact dq0 hd rfl | exact dq2 hd rfl | exact dq3 hd rfl | omega) hI9 (n := 32) rfl rfl rfl (l_rng (Int64.ofInt 0))) (fun v u h => ?_)
  obtain ⟨s17, hI17, hF17, rfl, rfl, fl17⟩ := h
  show GG _ _ _ _ _ _ _ _ [] _ _ _
  refine g_aload_n 21 (gd rfl) rfl rfl ?_
  refine g_aload_n 22 (gd rfl) rfl rfl ?_
  refine g_iconst 0 23 (gd rfl) rfl rfl ?_
  have v23 : z1a = s17.2.2.1 2 4 := fr_F (s := (sF s1 102 9 u_2_1)) (sF_ne rfl (e1)) hF17 rfl
  have v23a : z1b = s17.2.2.1 2 0 := fr_F (s := (sF s1 102 9 u_2_1)) (sF_ne rfl (e1a)) hF17 rfl
  have n23 : (z1a).toInt = (z1b).toInt := by have a0 := oa4 ro_2_1 h2 i1b i1a; omega
  refine g_callv (X := _) (As := [.ref (A 2), .int (Int32.ofInt 0)]) (r := []) (b := A 102) (q := 102) 26 (gd rfl) rfl rfl rfl rfl rfl (ww_o rfl) (Nat.le_of_ble_eq_true rfl) (Nat.zero_le _) (Nat.zero_le _) (k_64_102_2 (by first | exact dq1 hd rfl | exact dq0 hd rfl | exact dq2 hd rfl | exact dq3 hd rfl | omega) hI17 (in_w 0 200 (in_c 0 rfl) rfl) v23 v23a n23) (fun e u h => h) (fun v u h => ?_)
  obtain ⟨s23, hI23, hF23, z23, rfl, rfl, i23⟩ := h
  show GG _ _ _ _ _ _ _ _ [.int z23] _ _ _
  refine g_pop 27 (gd rfl) rfl rfl ?_
  refine g_iconst 1 28 (gd rfl) rfl rfl ?_
  refine g_istore_n 29 (gd rfl) rfl (Nat.le_of_ble_eq_true rfl) ?_
  have v29 : z1a = s23.2.2.1 2 4 := fr_F (fr_F (s := (sF s1 102 9 u_2_1)) (sF_ne rfl (e1)) hF17 rfl) hF23 rfl
  have v29a : z1b = s23.2.2.1 2 0 := fr_F (fr_F (s := (sF s1 102 9 u_2_1)) (sF_ne rfl (e1a)) hF17 rfl) hF23 rfl
  have n29 : (z1a).toInt = (z1b).toInt := by have a0 := oa5 ro_2_1 h2 ((in_c 1 rfl)) i1b i1a; omega
  exact gg_w (by first | exact Nat.le_of_ble_eq_true rfl | omega) (gg_f (gf_cons rfl (gf_cons rfl (gf_cons rfl (gf_cons rfl gf_nil)))) (ct29 400 s23 (Int32.ofInt 1) z1a z1b hI23 (fr_tr rfl (fr_tr rfl (fr_sF rfl (fr_tr rfl fr_rf hF1)) hF17) hF23) (in_w 1 400 (in_c 1 rfl) rfl) v29 v29a n29 (m_in 400 (in_w 1 400 (in_c 1 rfl) rfl) rfl)))

def fm_63_102_32 : FM := ([39, 40, 41, 42, 43, 44, 45], [105, 106, 107, 108], [(32, 4), (102, 9)], [])
/-- GraphHouse$Engine.work -/
theorem k_63_102_32 {Z : AmZ} {A : Nat → Nat} {s : GS} {ex : va_W} {d : Nat} {X : AmX} {x2 : Int32} (hd : 7 ≤ d) (hI : Inv s) (h2 : In x2 0 200) : GC Z d 63 [.ref (A 102), .ref (A 32), .int x2] (WW Z A s ++ ex) 0 0 (fun v u => ∃ t : GS, Inv t ∧ Fr fm_63_102_32 s t ∧ ∃ z : Int32, v = some (.int z) ∧ u = WW Z A t ++ ex ∧ In z 0 200) X := by
  intro post xp hP hX
  obtain ⟨u_32_1, e_32_1⟩ : ∃ w, w = s.2.2.1 32 1 := ⟨_, rfl⟩
  have ro_32_1 := inv_F hI 0 32 rfl e_32_1
  have ct29 : ∀ (k29 : Nat) (sc29 : GS) (y29_3 : Int32) (w29_32_4 : Int32) (w29_32_0 : Int32), Inv sc29 → Fr fm_63_102_32 s sc29 → (In y29_3 1 400) → (w29_32_4 = sc29.2.2.1 32 4) → (w29_32_0 = sc29.2.2.1 32 0) → ((w29_32_4).toInt = (w29_32_0).toInt) → 400 - (y29_3).toInt < (k29 : Int) → GG Z (d - 1) 63 post (gx xp) (1 + k29 * 900) 29 (fun j => xlook j [(0, .ref (A 102)), (1, .ref (A 32)), (2, .int x2), (3, .int y29_3)]) [] (WW Z A sc29 ++ ex) 0 0 := by
    intro k29
    induction k29 with
    | zero => intro sc29 y29_3 w29_32_4 w29_32_0 hIc29 hFc29 j29_3 v29_32_4 v29_32_0 n29_0 mm29; exact m_no mm29 j29_3 rfl
    | succ k29 ih29 =>
      intro sc29 y29_3 w29_32_4 w29_32_0 hIc29 hFc29 j29_3 v29_32_4 v29_32_0 n29_0 mm29
      refine gg_w (M := 1 + k29 * 900 + 900) gws ?_
      refine g_iload_n 30 (gd rfl) rfl rfl ?_
      refine g_iload_n 31 (gd rfl) rfl rfl ?_
      refine g_cmp_gt 34 66 (gd rfl) rfl rfl (fun c31 => ?_) (fun c31 => ?_)
      · skip
        refine g_iload_n 67 (gd rfl) rfl rfl ?_
        exact g_ireturn (gd rfl) rfl rfl (hP _ _ ⟨sc29, hIc29, hFc29, x2, rfl, rfl, in_w 0 200 h2 rfl⟩)
      · skip
        have i31 := r_le1 1 200 c31 j29_3 h2 rfl
        have i31a := r_le2 1 200 c31 j29_3 h2 rfl
        refine g_aload_n 35 (gd rfl) rfl rfl ?_
        refine g_getA (q2 := 107) 38 (gd rfl) rfl rfl rfl rfl ?_
        refine g_iconst 0 39 (gd rfl) rfl rfl ?_
        refine g_aload_n 40 (gd rfl) rfl rfl ?_
        refine g_getA (q2 := 108) 43 (gd rfl) rfl rfl rfl rfl ?_
        refine g_iconst 0 44 (gd rfl) rfl rfl ?_
        refine g_bipush 32 46 (gd rfl) rfl rfl ?_
        refine g_cpL (q2 := 107) (q := 108) (n0 := 32) (n1 := 32) 49 (gd rfl) rfl rfl rfl rfl (Nat.le_of_ble_eq_true rfl) (cp_0 (in_c 0 rfl) rfl) (cp_0 (in_c 0 rfl) rfl) (cp_0 (in_c 32 rfl) rfl) (cp_1 (in_c 0 rfl) (in_c 32 rfl) rfl) (cp_1 (in_c 0 rfl) (in_c 32 rfl) rfl) hIc29 rfl rfl rfl (fun s46 hI46 hF46 cp46 => ?_)
        refine g_aload_n 50 (gd rfl) rfl rfl ?_
        refine g_aload_n 51 (gd rfl) rfl rfl ?_
        refine g_iload_n 52 (gd rfl) rfl rfl ?_
        have v52 : w29_32_4 = s46.2.2.1 32 4 := fr_F (v29_32_4) hF46 rfl
        have v52a : w29_32_0 = s46.2.2.1 32 0 := fr_F (v29_32_0) hF46 rfl
        have n52 : (w29_32_4).toInt = (w29_32_0).toInt := by first | exact n29_0 | (have a0 := oa5 i31a ro_32_1 ((inv_F hIc29 0 4000 rfl v29_32_0)) ((inv_F hIc29 (-1) 4000 rfl v29_32_4)) i31; omega)
        refine g_callv (X := _) (As := [.ref (A 32), .int y29_3]) (r := []) (b := A 102) (q := 102) 55 (gd rfl) rfl rfl rfl rfl rfl (ww_o rfl) (Nat.le_of_ble_eq_true rfl) (Nat.zero_le _) (Nat.zero_le _) (k_64_102_32 (by first | exact dq1 hd rfl | exact dq0 hd rfl | exact dq2 hd rfl | exact dq3 hd rfl | omega) hI46 (in_w 0 200 i31 rfl) v52 v52a n52) (fun e u h => h) (fun v u h => ?_)
        obtain ⟨s52, hI52, hF52, z52, rfl, rfl, i52⟩ := h
        show GG _ _ _ _ _ _ _ _ [.int z52] _ _ _
        refine g_if_ne 58 60 (gd rfl) rfl rfl (fun c55 => ?_) (fun c55 => ?_)
        · skip
          have i55 := z_ne 1 1 c55 i52 rfl
          refine g_iinc 63 (gd rfl) rfl rfl (Nat.le_of_ble_eq_true rfl) (fun z60 e60 => ?_)
          have i60 := in_add 2 201 e60 i31 (in_c 1 rfl) rfl rfl
          refine g_goto 29 (gd rfl) rfl ?_
          have v29 : w29_32_4 = s52.2.2.1 32 4 := fr_F (fr_F (v29_32_4) hF46 rfl) hF52 rfl
          have v29a : w29_32_0 = s52.2.2.1 32 0 := fr_F (fr_F (v29_32_0) hF46 rfl) hF52 rfl
          have n29 : (w29_32_4).toInt = (w29_32_0).toInt := by first | exact n29_0 | (have a0 := oa6 i31a ro_32_1 ((inv_F hIc29 0 4000 rfl v29_32_0)) ((inv_F hIc29 (-1) 4000 rfl v29_32_4)) i31 i60; have a6 := t_add e60 i31 (in_c 1 rfl) rfl; have a7 := in_u ((in_c 1 rfl)); omega)
          exact gg_w (by first | exact Nat.le_add_right _ _ | exact gw2 | exact gw3 | exact gwe rfl | exact gwf rfl | exact gwg rfl | exact gwh rfl | omega) (gg_f (gf_cons rfl (gf_cons rfl (gf_cons rfl (gf_cons rfl gf_nil)))) (ih29 s52 z60 w29_32_4 w29_32_0 hI52 (fr_tr rfl (fr_tr rfl hFc29 hF46) hF52) (in_w 1 400 i60 rfl) v29 v29a n29 (m_up mm29 (t_add e60 i31 (in_c 1 rfl) rfl) (in_w 1 1 (in_c 1 rfl) rfl))))
        · skip
          have i55 := z_eq 0 0 c55 i52 rfl
          refine g_iload_n 59 (gd rfl) rfl rfl ?_
          exact g_ireturn (gd rfl) rfl rfl (hP _ _ ⟨s52, hI52, (fr_tr rfl (fr_tr rfl hFc29 hF46) hF52), y29_3, rfl, rfl, in_w 0 200 i31 rfl⟩)
  refine g_enter2 (k := 63) (N := 360901) (by first | exact dq1 hd rfl | exact dq0 hd rfl | exact dq2 hd rfl | exact dq3 hd rfl | omega) rfl (Nat.le_of_ble_eq_true rfl) ?_
  refine g_aload_n 1 (gd rfl) rfl rfl ?_
  refine g_callv (X := _) (As := []) (r := []) (b := A 32) (q := 32) 4 (gd rfl) rfl rfl rfl rfl rfl (ww_o rfl) (Nat.le_of_ble_eq_true rfl) (Nat.zero_le _) (Nat.zero_le _) (k_106_32 (by first | exact dq1 hd rfl | exact dq0 hd rfl | exact dq2 hd rfl | exact dq3 hd rfl | omega) hI ) (fun e u h => h) (fun v u h => ?_)
  obtain ⟨s1, hI1, hF1, n1, rfl, rfl⟩ := h
  obtain ⟨z1a, e1⟩ : ∃ w, w = s1.2.2.1 32 4 := ⟨_, rfl⟩
  have i1a := inv_F hI1 (-1) 4000 rfl e1
  obtain ⟨z1b, e1a⟩ : ∃ w, w = s1.2.2.1 32 0 := ⟨_, rfl⟩
  have i1b := inv_F hI1 0 4000 rfl e1a
  rw [← (show z1a = s1.2.2.1 32 4 from e1)] at n1
  rw [← (show z1b = s1.2.2.1 32 0 from e1a)] at n1
  show GG _ _ _ _ _ _ _ _ [] _ _ _
  refine g_aload_n 5 (gd rfl) rfl rfl ?_
  refine g_aload_n 6 (gd rfl) rfl rfl ?_
  refine g_getI 9 (gd rfl) rfl rfl rfl (fun z6 e6 => ?_)
  have q6 : u_32_1 = z6 := (fr_F (e_32_1) hF1 rfl).trans e6.symm
  subst q6
  refine g_putI 12 (gd rfl) rfl rfl rfl rfl ?_
  have hI9 := inv_sF (q := 102) (j := 9) hI1 rfl (in_w 0 32 ro_32_1 rfl)
  refine g_aload_n 13 (gd rfl) rfl rfl ?_
  refine g_getA (q2 := 108) 16 (gd rfl) rfl rfl rfl rfl ?_
  refine g_lconst 0 17 (gd rfl) rfl rfl ?_
  refine g_calls (As := [.ref (A 108), .long (Int64.ofInt 0)]) (r := []) 20 (gd rfl) rfl rfl rfl rfl rfl (Nat.le_of_ble_eq_true rfl) (Nat.zero_le _) (Nat.zero_le _) (k_fillL 108 (by first | exact dq1 hd rfl | exact dq0 hd rfl | exact dq2 hd rfl | exact dq3 hd rfl | omega) hI9 (n := 32) rfl rfl rfl (l_rng (Int64.ofInt 0))) (fun v u h => ?_)
  obtain ⟨s17, hI17, hF17, rfl, rfl, fl17⟩ := h
  show GG _ _ _ _ _ _ _ _ [] _ _ _
  refine g_aload_n 21 (gd rfl) rfl rfl ?_
  refine g_aload_n 22 (gd rfl) rfl rfl ?_
  refine g_iconst 0 23 (gd rfl) rfl rfl ?_
  have v23 : z1a = s17.2.2.1 32 4 := fr_F (s := (sF s1 102 9 u_32_1)) (sF_ne rfl (e1)) hF17 rfl
  have v23a : z1b = s17.2.2.1 32 0 := fr_F (s := (sF s1 102 9 u_32_1)) (sF_ne rfl (e1a)) hF17 rfl
  have n23 : (z1a).toInt = (z1b).toInt := by have a0 := oa4 ro_32_1 h2 i1b i1a; omega
  refine g_callv (X := _) (As := [.ref (A 32), .int (Int32.ofInt 0)]) (r := []) (b := A 102) (q := 102) 26 (gd rfl) rfl rfl rfl rfl rfl (ww_o rfl) (Nat.le_of_ble_eq_true rfl) (Nat.zero_le _) (Nat.zero_le _) (k_64_102_32 (by first | exact dq1 hd rfl | exact dq0 hd rfl | exact dq2 hd rfl | exact dq3 hd rfl | omega) hI17 (in_w 0 200 (in_c 0 rfl) rfl) v23 v23a n23) (fun e u h => h) (fun v u h => ?_)
  obtain ⟨s23, hI23, hF23, z23, rfl, rfl, i23⟩ := h
  show GG _ _ _ _ _ _ _ _ [.int z23] _ _ _
  refine g_pop 27 (gd rfl) rfl rfl ?_
  refine g_iconst 1 28 (gd rfl) rfl rfl ?_
  refine g_istore_n 29 (gd rfl) rfl (Nat.le_of_ble_eq_true rfl) ?_
  have v29 : z1a = s23.2.2.1 32 4 := fr_F (fr_F (s := (sF s1 102 9 u_32_1)) (sF_ne rfl (e1)) hF17 rfl) hF23 rfl
  have v29a : z1b = s23.2.2.1 32 0 := fr_F (fr_F (s := (sF s1 102 9 u_32_1)) (sF_ne rfl (e1a)) hF17 rfl) hF23 rfl
  have n29 : (z1a).toInt = (z1b).toInt := by have a0 := oa5 ro_32_1 h2 ((in_c 1 rfl)) i1b i1a; omega
  exact gg_w (by first | exact Nat.le_of_ble_eq_true rfl | omega) (gg_f (gf_cons rfl (gf_cons rfl (gf_cons rfl (gf_cons rfl gf_nil)))) (ct29 400 s23 (Int32.ofInt 1) z1a z1b hI23 (fr_tr rfl (fr_tr rfl (fr_sF rfl (fr_tr rfl fr_rf hF1)) hF17) hF23) (in_w 1 400 (in_c 1 rfl) rfl) v29 v29a n29 (m_in 400 (in_w 1 400 (in_c 1 rfl) rfl) rfl)))

def fm_81_65 : FM := ([68, 73, 74], [75], [], [])
/-- GraphHouse$Flows.turnEarners -/
theorem k_81_65 {Z : AmZ} {A : Nat → Nat} {s : GS} {ex : va_W} {d : Nat} {X : AmX} {x1 : Int32} {x2 : Int32} {x3 : Int32} (hd : 3 ≤ d) (hI : Inv s) (h1 : In x1 0 32) (h2 : In x2 1 1048576) (h3 : In x3 1 65536) : GC Z d 81 [.ref (A 65), .int x1, .int x2, .int x3] (WW Z A s ++ ex) 0 0 (fun v u => ∃ t : GS, Inv t ∧ Fr fm_81_65 s t ∧ v = none ∧ u = WW Z A t ++ ex) X := by
  intro post xp hP hX
  obtain ⟨u_65_8, e_65_8⟩ : ∃ w, w = s.2.2.1 65 8 := ⟨_, rfl⟩
  have ro_65_8 := inv_F hI 0 160 rfl e_65_8
  have ct17 : ∀ (k17 : Nat) (sc17 : GS) (y17_4 : Int32), Inv sc17 → Fr fm_81_65 s sc17 → (In y17_4 0 160) → 160 - (y17_4).toInt < (k17 : Int) → GG Z (d - 1) 81 post (gx xp) (1 + k17 * 900) 17 (fun j => xlook j [(0, .ref (A 65)), (1, .int x1), (2, .int x2), (3, .int x3), (4, .int y17_4)]) [] (WW Z A sc17 ++ ex) 0 0 := by
    intro k17
    induction k17 with
    | zero => intro sc17 y17_4 hIc17 hFc17 j17_4 mm17; exact m_no mm17 j17_4 rfl
    | succ k17 ih17 =>
      intro sc17 y17_4 hIc17 hFc17 j17_4 mm17
      refine gg_w (M := 1 + k17 * 900 + 900) gws ?_
      refine g_iload 19 (gd rfl) rfl rfl ?_
      refine g_aload_n 20 (gd rfl) rfl rfl ?_
      refine g_getI 23 (gd rfl) rfl rfl rfl (fun z20 e20 => ?_)
      have q20 : u_65_8 = z20 := (fr_F e_65_8 hFc17 rfl).trans e20.symm
      subst q20
      refine g_cmp_ge 26 141 (gd rfl) rfl rfl (fun c23 => ?_) (fun c23 => ?_)
      · skip
        exact g_return (gd rfl) rfl (hP _ _ ⟨sc17, hIc17, hFc17, rfl, rfl⟩)
      · skip
        have i23 := r_lt1 0 159 c23 j17_4 ro_65_8 rfl
        have i23a := r_lt2 1 160 c23 j17_4 ro_65_8 rfl
        refine g_aload_n 27 (gd rfl) rfl rfl ?_
        refine g_getA (q2 := 75) 30 (gd rfl) rfl rfl rfl rfl ?_
        refine g_aload_n 31 (gd rfl) rfl rfl ?_
        refine g_getA (q2 := 69) 34 (gd rfl) rfl rfl rfl rfl ?_
        refine g_iload 36 (gd rfl) rfl rfl ?_
        refine g_iaload 37 (gd rfl) rfl (n := 160) rfl (in_ix i23 rfl) (fun z36 e36 => ?_)
        have i36 := inv_I hIc17 (n := 160) (t := 0) 0 31 rfl (in_ix i23 rfl) rfl e36
        refine g_laload 38 (gd rfl) rfl (n := 32) rfl (in_ix i36 rfl) (fun z37 e37 => ?_)
        refine g_aload_n 39 (gd rfl) rfl rfl ?_
        refine g_getA (q2 := 71) 42 (gd rfl) rfl rfl rfl rfl ?_
        refine g_iload 44 (gd rfl) rfl rfl ?_
        refine g_iaload 45 (gd rfl) rfl (n := 160) rfl (in_ix i23 rfl) (fun z44 e44 => ?_)
        have i44 := inv_I hIc17 (n := 160) (t := 0) (-1000000) 1000000 rfl (in_ix i23 rfl) rfl e44
        refine g_i2l 46 (gd rfl) rfl (fun z45 e45 => ?_)
        have i45 := l_i e45 i44
        refine g_ladd 47 (gd rfl) rfl (fun z46 e46 => ?_)
        refine g_aload_n 48 (gd rfl) rfl rfl ?_
        refine g_getA (q2 := 75) 51 (gd rfl) rfl rfl rfl rfl ?_
        refine g_aload_n 52 (gd rfl) rfl rfl ?_
        refine g_getA (q2 := 70) 55 (gd rfl) rfl rfl rfl rfl ?_
        refine g_iload 57 (gd rfl) rfl rfl ?_
        refine g_iaload 58 (gd rfl) rfl (n := 160) rfl (in_ix i23 rfl) (fun z57 e57 => ?_)
        have i57 := inv_I hIc17 (n := 160) (t := 0) 0 31 rfl (in_ix i23 rfl) rfl e57
        refine g_laload 59 (gd rfl) rfl (n := 32) rfl (in_ix i57 rfl) (fun z58 e58 => ?_)
        refine g_lsub 60 (gd rfl) rfl (fun z59 e59 => ?_)
        refine g_lstore 62 (gd rfl) rfl (Nat.le_of_ble_eq_true rfl) ?_
        refine g_aload_n 63 (gd rfl) rfl rfl ?_
        refine g_getA (q2 := 72) 66 (gd rfl) rfl rfl rfl rfl ?_
        refine g_iload 68 (gd rfl) rfl rfl ?_
        refine g_iaload 69 (gd rfl) rfl (n := 160) rfl (in_ix i23 rfl) (fun z68 e68 => ?_)
        have i68 := inv_I hIc17 (n := 160) (t := 0) 0 1000000 rfl (in_ix i23 rfl) rfl e68
        refine g_aload_n 70 (gd rfl) rfl rfl ?_
        refine g_getA (q2 := 73) 73 (gd rfl) rfl rfl rfl rfl ?_
        refine g_iload 75 (gd rfl) rfl rfl ?_
        refine g_iaload 76 (gd rfl) rfl (n := 160) rfl (in_ix i23 rfl) (fun z75 e75 => ?_)
        refine g_isub 77 (gd rfl) rfl (fun z76 e76 => ?_)
        refine g_istore 79 (gd rfl) rfl (Nat.le_of_ble_eq_true rfl) ?_
        refine g_lload 81 (gd rfl) rfl rfl ?_
        refine g_lconst 0 82 (gd rfl) rfl rfl ?_
        refine g_lcmp 83 (gd rfl) rfl (fun z82 e82 => ?_)
        have i82 := lc_in e82
        refine g_if_ge 86 103 (gd rfl) rfl rfl (fun c83 => ?_) (fun c83 => ?_)
        · skip
          have i83 := z_ge 0 1 c83 i82 rfl
          have c83a := lc_ge e82 c83
          have i83a := lr_le2 0 9223372036854775807 c83a (l_c 0 rfl) (l_rng z59) rfl
          refine g_lload 105 (gd rfl) rfl rfl ?_
          refine g_lconst 0 106 (gd rfl) rfl rfl ?_
          refine g_lcmp 107 (gd rfl) rfl (fun z106 e106 => ?_)
          have i106 := lc_in e106
          refine g_if_le 110 135 (gd rfl) rfl rfl (fun c107 => ?_) (fun c107 => ?_)
          · skip
            have i107 := z_le (-1) 0 c107 i106 rfl
            have c107a := lc_le e106 c107
            have i107a := lr_le1 0 0 c107a i83a (l_c 0 rfl) rfl
            refine g_iinc 138 (gd rfl) rfl rfl (Nat.le_of_ble_eq_true rfl) (fun z135 e135 => ?_)
            have i135 := in_add 1 160 e135 i23 (in_c 1 rfl) rfl rfl
            refine g_goto 17 (gd rfl) rfl ?_
            exact gg_w (by first | exact Nat.le_add_right _ _ | exact gw2 | exact gw3 | exact gwe rfl | exact gwf rfl | exact gwg rfl | exact gwh rfl | omega) (gg_f (gf_cons rfl (gf_cons rfl (gf_cons rfl (gf_cons rfl (gf_cons rfl gf_nil))))) (ih17 sc17 z135 hIc17 hFc17 (in_w 0 160 i135 rfl) (m_up mm17 (t_add e135 i23 (in_c 1 rfl) rfl) (in_w 1 1 (in_c 1 rfl) rfl))))
          · skip
            have i107 := z_gt 1 1 c107 i106 rfl
            have c107a := lc_gt e106 c107
            have i107a := lr_lt2 1 9223372036854775807 c107a (l_c 0 rfl) i83a rfl
            refine g_aload_n 111 (gd rfl) rfl rfl ?_
            refine g_getA (q2 := 73) 114 (gd rfl) rfl rfl rfl rfl ?_
            refine g_iload 116 (gd rfl) rfl rfl ?_
            refine g_iaload 117 (gd rfl) rfl (n := 160) rfl (in_ix i23 rfl) (fun z116 e116 => ?_)
            have q116 : z75 = z116 := (e75).trans e116.symm
            subst q116
            refine g_iload_n 118 (gd rfl) rfl rfl ?_
            refine g_cmp_lt 121 135 (gd rfl) rfl rfl (fun c118 => ?_) (fun c118 => ?_)
            · skip
              have i118 := r_lt1 (-2147483648) 65535 c118 (i_rng z75) h3 rfl
              refine g_iinc 138 (gd rfl) rfl rfl (Nat.le_of_ble_eq_true rfl) (fun z135 e135 => ?_)
              have i135 := in_add 1 160 e135 i23 (in_c 1 rfl) rfl rfl
              refine g_goto 17 (gd rfl) rfl ?_
              exact gg_w (by first | exact Nat.le_add_right _ _ | exact gw2 | exact gw3 | exact gwe rfl | exact gwf rfl | exact gwg rfl | exact gwh rfl | omega) (gg_f (gf_cons rfl (gf_cons rfl (gf_cons rfl (gf_cons rfl (gf_cons rfl gf_nil))))) (ih17 sc17 z135 hIc17 hFc17 (in_w 0 160 i135 rfl) (m_up mm17 (t_add e135 i23 (in_c 1 rfl) rfl) (in_w 1 1 (in_c 1 rfl) rfl))))
            · skip
              have i118 := r_le2 1 2147483647 c118 h3 (i_rng z75) rfl
              refine g_aload_n 122 (gd rfl) rfl rfl ?_
              refine g_iload 124 (gd rfl) rfl rfl ?_
              refine g_aload_n 125 (gd rfl) rfl rfl ?_
              refine g_getA (q2 := 73) 128 (gd rfl) rfl rfl rfl rfl ?_
              refine g_iload 130 (gd rfl) rfl rfl ?_
              refine g_iaload 131 (gd rfl) rfl (n := 160) rfl (in_ix i23 rfl) (fun z130 e130 => ?_)
              have q130 : z75 = z130 := (e75).trans e130.symm
              subst q130
              refine g_ineg 132 (gd rfl) rfl (fun z131 e131 => ?_)
              have i131 := in_neg (-2147483647) (-1) e131 i118 rfl
              refine g_callv (X := _) (As := [.int y17_4, .int z131]) (r := []) (b := A 65) (q := 65) 135 (gd rfl) rfl rfl rfl rfl rfl (ww_o rfl) (Nat.le_of_ble_eq_true rfl) (mc := 0) (ms := 0) (Nat.zero_le _) (Nat.zero_le _) (P := fun v u => _) ?_ (fun e u h => h) (fun v u h => h)
              intro po132 xx132 hp132 hx132
              refine g_enter2 (k := 82) (N := 300) (by first | exact dq1 hd rfl | exact dq0 hd rfl | exact dq2 hd rfl | exact dq3 hd rfl | omega) rfl (Nat.le_of_ble_eq_true rfl) ?_
              refine g_aload_n 1 (gd rfl) rfl rfl ?_
              refine g_getA (q2 := 73) 4 (gd rfl) rfl rfl rfl rfl ?_
              refine g_iload_n 5 (gd rfl) rfl rfl ?_
              refine g_dup2 6 (gd rfl) rfl rfl rfl ?_
              refine g_iaload 7 (gd rfl) rfl (n := 160) rfl (in_ix i23 rfl) (fun z132x6 e132x6 => ?_)
              have q132x6 : z75 = z132x6 := (e75).trans e132x6.symm
              subst q132x6
              refine g_iload_n 8 (gd rfl) rfl rfl ?_
              refine g_iadd 9 (gd rfl) rfl (fun z132x8 e132x8 => ?_)
              have i132x8 := in_add (-2147483646) 2147483646 e132x8 i118 i131 rfl rfl
              refine g_iastore 10 (gd rfl) rfl (n := 160) rfl (in_ix i23 rfl) ?_
              have hI132x9 := inv_sI (q := 73) (j := y17_4.toNatClampNeg) hIc17 rfl (in_w (-2147483648) 2147483647 i132x8 rfl)
              refine g_aload_n 11 (gd rfl) rfl rfl ?_
              refine g_getA (q2 := 74) 14 (gd rfl) rfl rfl rfl rfl ?_
              refine g_aload_n 15 (gd rfl) rfl rfl ?_
              refine g_getA (q2 := 70) 18 (gd rfl) rfl rfl rfl rfl ?_
              refine g_iload_n 19 (gd rfl) rfl rfl ?_
              refine g_iaload 20 (gd rfl) rfl (n := 160) rfl (in_ix i23 rfl) (fun z132x19 e132x19 => ?_)
              have q132x19 : z57 = z132x19 := (sI_ne rfl (e57)).trans e132x19.symm
              subst q132x19
              refine g_dup2 21 (gd rfl) rfl rfl rfl ?_
              refine g_iaload 22 (gd rfl) rfl (n := 32) rfl (in_ix i57 rfl) (fun z132x21 e132x21 => ?_)
              refine g_iload_n 23 (gd rfl) rfl rfl ?_
              refine g_iadd 24 (gd rfl) rfl (fun z132x23 e132x23 => ?_)
              refine g_iastore 25 (gd rfl) rfl (n := 32) rfl (in_ix i57 rfl) ?_
              have hI132x24 := inv_sI (q := 74) (j := z57.toNatClampNeg) hI132x9 rfl (in_w (-2147483648) 2147483647 (i_rng z132x23) rfl)
              refine g_aload_n 26 (gd rfl) rfl rfl ?_
              refine g_getA (q2 := 74) 29 (gd rfl) rfl rfl rfl rfl ?_
              refine g_aload_n 30 (gd rfl) rfl rfl ?_
              refine g_getA (q2 := 69) 33 (gd rfl) rfl rfl rfl rfl ?_
              refine g_iload_n 34 (gd rfl) rfl rfl ?_
              refine g_iaload 35 (gd rfl) rfl (n := 160) rfl (in_ix i23 rfl) (fun z132x34 e132x34 => ?_)
              have q132x34 : z36 = z132x34 := (sI_ne rfl (sI_ne rfl (e36))).trans e132x34.symm
              subst q132x34
              refine g_dup2 36 (gd rfl) rfl rfl rfl ?_
              refine g_iaload 37 (gd rfl) rfl (n := 32) rfl (in_ix i36 rfl) (fun z132x36 e132x36 => ?_)
              refine g_iload_n 38 (gd rfl) rfl rfl ?_
              refine g_isub 39 (gd rfl) rfl (fun z132x38 e132x38 => ?_)
              refine g_iastore 40 (gd rfl) rfl (n := 32) rfl (in_ix i36 rfl) ?_
              have hI132x39 := inv_sI (q := 74) (j := z36.toNatClampNeg) hI132x24 rfl (in_w (-2147483648) 2147483647 (i_rng z132x38) rfl)
              refine g_return (gd rfl) rfl (hp132 _ _ ?_)
              show GG _ _ _ _ _ _ _ _ [] _ _ _
              refine g_iinc 138 (gd rfl) rfl rfl (Nat.le_of_ble_eq_true rfl) (fun z135 e135 => ?_)
              have i135 := in_add 1 160 e135 i23 (in_c 1 rfl) rfl rfl
              refine g_goto 17 (gd rfl) rfl ?_
              exact gg_w (by first | exact Nat.le_add_right _ _ | exact gw2 | exact gw3 | exact gwe rfl | exact gwf rfl | exact gwg rfl | exact gwh rfl | omega) (gg_f (gf_cons rfl (gf_cons rfl (gf_cons rfl (gf_cons rfl (gf_cons rfl gf_nil))))) (ih17 (sI (sI (sI sc17 73 y17_4.toNatClampNeg z132x8) 74 z57.toNatClampNeg z132x23) 74 z36.toNatClampNeg z132x38) z135 hI132x39 (fr_sI rfl (fr_sI rfl (fr_sI rfl hFc17))) (in_w 0 160 i135 rfl) (m_up mm17 (t_add e135 i23 (in_c 1 rfl) rfl) (in_w 1 1 (in_c 1 rfl) rfl))))
        · skip
          have i83 := z_lt (-1) (-1) c83 i82 rfl
          have c83a := lc_lt e82 c83
          have i83a := lr_lt1 (-9223372036854775808) (-1) c83a (l_rng z59) (l_c 0 rfl) rfl
          refine g_iload 88 (gd rfl) rfl rfl ?_
          refine g_iload_n 89 (gd rfl) rfl rfl ?_
          refine g_cmp_lt 92 103 (gd rfl) rfl rfl (fun c89 => ?_) (fun c89 => ?_)
          · skip
            have i89 := r_lt1 (-2147483648) 65535 c89 (i_rng z76) h3 rfl
            refine g_lload 105 (gd rfl) rfl rfl ?_
            refine g_lconst 0 106 (gd rfl) rfl rfl ?_
            refine g_lcmp 107 (gd rfl) rfl (fun z106 e106 => ?_)
            have i106 := lc_in e106
            refine g_if_le 110 135 (gd rfl) rfl rfl (fun c107 => ?_) (fun c107 => ?_)
            · skip
              have i107 := z_le (-1) 0 c107 i106 rfl
              have c107a := lc_le e106 c107
              refine g_iinc 138 (gd rfl) rfl rfl (Nat.le_of_ble_eq_true rfl) (fun z135 e135 => ?_)
              have i135 := in_add 1 160 e135 i23 (in_c 1 rfl) rfl rfl
              refine g_goto 17 (gd rfl) rfl ?_
              exact gg_w (by first | exact Nat.le_add_right _ _ | exact gw2 | exact gw3 | exact gwe rfl | exact gwf rfl | exact gwg rfl | exact gwh rfl | omega) (gg_f (gf_cons rfl (gf_cons rfl (gf_cons rfl (gf_cons rfl (gf_cons rfl gf_nil))))) (ih17 sc17 z135 hIc17 hFc17 (in_w 0 160 i135 rfl) (m_up mm17 (t_add e135 i23 (in_c 1 rfl) rfl) (in_w 1 1 (in_c 1 rfl) rfl))))
            · skip
              have i107 := z_gt 1 1 c107 i106 rfl
              have c107a := lc_gt e106 c107
              exact ln_lt c107a (l_c 0 rfl) i83a rfl
          · skip
            have i89 := r_le2 1 2147483647 c89 h3 (i_rng z76) rfl
            refine g_aload_n 93 (gd rfl) rfl rfl ?_
            refine g_iload 95 (gd rfl) rfl rfl ?_
            refine g_iload 97 (gd rfl) rfl rfl ?_
            refine g_callv (X := _) (As := [.int y17_4, .int z76]) (r := []) (b := A 65) (q := 65) 100 (gd rfl) rfl rfl rfl rfl rfl (ww_o rfl) (Nat.le_of_ble_eq_true rfl) (mc := 0) (ms := 0) (Nat.zero_le _) (Nat.zero_le _) (P := fun v u => _) ?_ (fun e u h => h) (fun v u h => h)
            intro po97 xx97 hp97 hx97
            refine g_enter2 (k := 82) (N := 300) (by first | exact dq1 hd rfl | exact dq0 hd rfl | exact dq2 hd rfl | exact dq3 hd rfl | omega) rfl (Nat.le_of_ble_eq_true rfl) ?_
            refine g_aload_n 1 (gd rfl) rfl rfl ?_
            refine g_getA (q2 := 73) 4 (gd rfl) rfl rfl rfl rfl ?_
            refine g_iload_n 5 (gd rfl) rfl rfl ?_
            refine g_dup2 6 (gd rfl) rfl rfl rfl ?_
            refine g_iaload 7 (gd rfl) rfl (n := 160) rfl (in_ix i23 rfl) (fun z97x6 e97x6 => ?_)
            have q97x6 : z75 = z97x6 := (e75).trans e97x6.symm
            subst q97x6
            refine g_iload_n 8 (gd rfl) rfl rfl ?_
            refine g_iadd 9 (gd rfl) rfl (fun z97x8 e97x8 => ?_)
            refine g_iastore 10 (gd rfl) rfl (n := 160) rfl (in_ix i23 rfl) ?_
            have hI97x9 := inv_sI (q := 73) (j := y17_4.toNatClampNeg) hIc17 rfl (in_w (-2147483648) 2147483647 (i_rng z97x8) rfl)
            refine g_aload_n 11 (gd rfl) rfl rfl ?_
            refine g_getA (q2 := 74) 14 (gd rfl) rfl rfl rfl rfl ?_
            refine g_aload_n 15 (gd rfl) rfl rfl ?_
            refine g_getA (q2 := 70) 18 (gd rfl) rfl rfl rfl rfl ?_
            refine g_iload_n 19 (gd rfl) rfl rfl ?_
            refine g_iaload 20 (gd rfl) rfl (n := 160) rfl (in_ix i23 rfl) (fun z97x19 e97x19 => ?_)
            have q97x19 : z57 = z97x19 := (sI_ne rfl (e57)).trans e97x19.symm
            subst q97x19
            refine g_dup2 21 (gd rfl) rfl rfl rfl ?_
            refine g_iaload 22 (gd rfl) rfl (n := 32) rfl (in_ix i57 rfl) (fun z97x21 e97x21 => ?_)
            refine g_iload_n 23 (gd rfl) rfl rfl ?_
            refine g_iadd 24 (gd rfl) rfl (fun z97x23 e97x23 => ?_)
            refine g_iastore 25 (gd rfl) rfl (n := 32) rfl (in_ix i57 rfl) ?_
            have hI97x24 := inv_sI (q := 74) (j := z57.toNatClampNeg) hI97x9 rfl (in_w (-2147483648) 2147483647 (i_rng z97x23) rfl)
            refine g_aload_n 26 (gd rfl) rfl rfl ?_
            refine g_getA (q2 := 74) 29 (gd rfl) rfl rfl rfl rfl ?_
            refine g_aload_n 30 (gd rfl) rfl rfl ?_
            refine g_getA (q2 := 69) 33 (gd rfl) rfl rfl rfl rfl ?_
            refine g_iload_n 34 (gd rfl) rfl rfl ?_
            refine g_iaload 35 (gd rfl) rfl (n := 160) rfl (in_ix i23 rfl) (fun z97x34 e97x34 => ?_)
            have q97x34 : z36 = z97x34 := (sI_ne rfl (sI_ne rfl (e36))).trans e97x34.symm
            subst q97x34
            refine g_dup2 36 (gd rfl) rfl rfl rfl ?_
            refine g_iaload 37 (gd rfl) rfl (n := 32) rfl (in_ix i36 rfl) (fun z97x36 e97x36 => ?_)
            refine g_iload_n 38 (gd rfl) rfl rfl ?_
            refine g_isub 39 (gd rfl) rfl (fun z97x38 e97x38 => ?_)
            refine g_iastore 40 (gd rfl) rfl (n := 32) rfl (in_ix i36 rfl) ?_
            have hI97x39 := inv_sI (q := 74) (j := z36.toNatClampNeg) hI97x24 rfl (in_w (-2147483648) 2147483647 (i_rng z97x38) rfl)
            refine g_return (gd rfl) rfl (hp97 _ _ ?_)
            show GG _ _ _ _ _ _ _ _ [] _ _ _
            refine g_goto 135 (gd rfl) rfl ?_
            refine g_iinc 138 (gd rfl) rfl rfl (Nat.le_of_ble_eq_true rfl) (fun z135 e135 => ?_)
            have i135 := in_add 1 160 e135 i23 (in_c 1 rfl) rfl rfl
            refine g_goto 17 (gd rfl) rfl ?_
            exact gg_w (by first | exact Nat.le_add_right _ _ | exact gw2 | exact gw3 | exact gwe rfl | exact gwf rfl | exact gwg rfl | exact gwh rfl | omega) (gg_f (gf_cons rfl (gf_cons rfl (gf_cons rfl (gf_cons rfl (gf_cons rfl gf_nil))))) (ih17 (sI (sI (sI sc17 73 y17_4.toNatClampNeg z97x8) 74 z57.toNatClampNeg z97x23) 74 z36.toNatClampNeg z97x38) z135 hI97x39 (fr_sI rfl (fr_sI rfl (fr_sI rfl hFc17))) (in_w 0 160 i135 rfl) (m_up mm17 (t_add e135 i23 (in_c 1 rfl) rfl) (in_w 1 1 (in_c 1 rfl) rfl))))
  refine g_enter2 (k := 81) (N := 145801) (by first | exact dq1 hd rfl | exact dq0 hd rfl | exact dq2 hd rfl | exact dq3 hd rfl | omega) rfl (Nat.le_of_ble_eq_true rfl) ?_
  refine g_aload_n 1 (gd rfl) rfl rfl ?_
  refine g_getA (q2 := 75) 4 (gd rfl) rfl rfl rfl rfl ?_
  refine g_lconst 0 5 (gd rfl) rfl rfl ?_
  refine g_calls (As := [.ref (A 75), .long (Int64.ofInt 0)]) (r := []) 8 (gd rfl) rfl rfl rfl rfl rfl (Nat.le_of_ble_eq_true rfl) (Nat.zero_le _) (Nat.zero_le _) (k_fillL 75 (by first | exact dq1 hd rfl | exact dq0 hd rfl | exact dq2 hd rfl | exact dq3 hd rfl | omega) hI (n := 32) rfl rfl rfl (l_rng (Int64.ofInt 0))) (fun v u h => ?_)
  obtain ⟨s5, hI5, hF5, rfl, rfl, fl5⟩ := h
  show GG _ _ _ _ _ _ _ _ [] _ _ _
  refine g_aload_n 9 (gd rfl) rfl rfl ?_
  refine g_iload_n 10 (gd rfl) rfl rfl ?_
  refine g_iload_n 11 (gd rfl) rfl rfl ?_
  refine g_callv (X := _) (As := [.int x1, .int x2]) (r := []) (b := A 65) (q := 65) 14 (gd rfl) rfl rfl rfl rfl rfl (ww_o rfl) (Nat.le_of_ble_eq_true rfl) (Nat.zero_le _) (Nat.zero_le _) (k_86_65 (by first | exact dq1 hd rfl | exact dq0 hd rfl | exact dq2 hd rfl | exact dq3 hd rfl | omega) hI5 (in_w 0 32 h1 rfl) (in_w 1 1048576 h2 rfl)) (fun e u h => h) (fun v u h => ?_)
  obtain ⟨s11, hI11, hF11, rfl, rfl⟩ := h
  show GG _ _ _ _ _ _ _ _ [] _ _ _
  refine g_iconst 0 15 (gd rfl) rfl rfl ?_
  refine g_istore 17 (gd rfl) rfl (Nat.le_of_ble_eq_true rfl) ?_
  exact gg_w (by first | exact Nat.le_of_ble_eq_true rfl | omega) (gg_f (gf_cons rfl (gf_cons rfl (gf_cons rfl (gf_cons rfl (gf_cons rfl gf_nil))))) (ct17 161 s11 (Int32.ofInt 0) hI11 (fr_tr rfl (fr_tr rfl fr_rf hF5) hF11) (in_w 0 160 (in_c 0 rfl) rfl) (m_in 161 (in_w 0 160 (in_c 0 rfl) rfl) rfl)))

def fm_85_65 : FM := ([68], [75], [], [])
/-- GraphHouse$Flows.nearestLack -/
theorem k_85_65 {Z : AmZ} {A : Nat → Nat} {s : GS} {ex : va_W} {d : Nat} {X : AmX} {x1 : Int32} {x2 : Int32} (hd : 3 ≤ d) (hI : Inv s) (h1 : In x1 0 32) (h2 : In x2 1 65536) : GC Z d 85 [.ref (A 65), .int x1, .int x2] (WW Z A s ++ ex) 0 0 (fun v u => ∃ t : GS, Inv t ∧ Fr fm_85_65 s t ∧ ∃ z : Int32, v = some (.int z) ∧ u = WW Z A t ++ ex ∧ In z (-1) 31) X := by
  intro post xp hP hX
  have ct54 : ∀ (k54 : Nat) (sc54 : GS) (y54_3 : Int32) (y54_4 : Int32), Inv sc54 → Fr fm_85_65 s sc54 → (In y54_3 (-1) 31) → (In y54_4 0 32) → 32 - (y54_4).toInt < (k54 : Int) → GG Z (d - 1) 85 post (gx xp) (1 + k54 * 900) 54 (fun j => xlook j [(0, .ref (A 65)), (1, .int x1), (2, .int x2), (3, .int y54_3), (4, .int y54_4)]) [] (WW Z A sc54 ++ ex) 0 0 := by
    intro k54
    induction k54 with
    | zero => intro sc54 y54_3 y54_4 hIc54 hFc54 j54_3 j54_4 mm54; exact m_no mm54 j54_4 rfl
    | succ k54 ih54 =>
      intro sc54 y54_3 y54_4 hIc54 hFc54 j54_3 j54_4 mm54
      refine gg_w (M := 1 + k54 * 900 + 900) gws ?_
      refine g_iload 56 (gd rfl) rfl rfl ?_
      refine g_iload_n 57 (gd rfl) rfl rfl ?_
      refine g_cmp_ge 60 117 (gd rfl) rfl rfl (fun c57 => ?_) (fun c57 => ?_)
      · skip
        refine g_iload_n 118 (gd rfl) rfl rfl ?_
        exact g_ireturn (gd rfl) rfl rfl (hP _ _ ⟨sc54, hIc54, hFc54, y54_3, rfl, rfl, in_w (-1) 31 j54_3 rfl⟩)
      · skip
        have i57 := r_lt1 0 31 c57 j54_4 h1 rfl
        have i57a := r_lt2 1 32 c57 j54_4 h1 rfl
        refine g_aload_n 61 (gd rfl) rfl rfl ?_
        refine g_getA (q2 := 74) 64 (gd rfl) rfl rfl rfl rfl ?_
        refine g_iload 66 (gd rfl) rfl rfl ?_
        refine g_iaload 67 (gd rfl) rfl (n := 32) rfl (in_ix i57 rfl) (fun z66 e66 => ?_)
        refine g_iload_n 68 (gd rfl) rfl rfl ?_
        refine g_ineg 69 (gd rfl) rfl (fun z68 e68 => ?_)
        have i68 := in_neg (-65536) (-1) e68 h2 rfl
        refine g_cmp_gt 72 111 (gd rfl) rfl rfl (fun c69 => ?_) (fun c69 => ?_)
        · skip
          have i69 := r_lt2 (-65535) 2147483647 c69 i68 (i_rng z66) rfl
          refine g_iinc 114 (gd rfl) rfl rfl (Nat.le_of_ble_eq_true rfl) (fun z111 e111 => ?_)
          have i111 := in_add 1 32 e111 i57 (in_c 1 rfl) rfl rfl
          refine g_goto 54 (gd rfl) rfl ?_
          exact gg_w (by first | exact Nat.le_add_right _ _ | exact gw2 | exact gw3 | exact gwe rfl | exact gwf rfl | exact gwg rfl | exact gwh rfl | omega) (gg_f (gf_cons rfl (gf_cons rfl (gf_cons rfl (gf_cons rfl (gf_cons rfl gf_nil))))) (ih54 sc54 y54_3 z111 hIc54 hFc54 (in_w (-1) 31 j54_3 rfl) (in_w 0 32 i111 rfl) (m_up mm54 (t_add e111 i57 (in_c 1 rfl) rfl) (in_w 1 1 (in_c 1 rfl) rfl))))
        · skip
          have i69 := r_le1 (-2147483648) (-1) c69 (i_rng z66) i68 rfl
          refine g_aload_n 73 (gd rfl) rfl rfl ?_
          refine g_getA (q2 := 75) 76 (gd rfl) rfl rfl rfl rfl ?_
          refine g_iload 78 (gd rfl) rfl rfl ?_
          refine g_laload 79 (gd rfl) rfl (n := 32) rfl (in_ix i57 rfl) (fun z78 e78 => ?_)
          refine g_ldc2_w 9223372036854775807 82 (gd rfl) rfl rfl ?_
          refine g_lcmp 83 (gd rfl) rfl (fun z82 e82 => ?_)
          have i82 := lc_in e82
          refine g_if_eq 86 111 (gd rfl) rfl rfl (fun c83 => ?_) (fun c83 => ?_)
          · skip
            have i83 := z_eq 0 0 c83 i82 rfl
            have c83a := lc_eq e82 c83
            have i83a := lr_eq1 9223372036854775807 9223372036854775807 c83a (l_rng z78) (l_c 9223372036854775807 rfl) rfl
            refine g_iinc 114 (gd rfl) rfl rfl (Nat.le_of_ble_eq_true rfl) (fun z111 e111 => ?_)
            have i111 := in_add 1 32 e111 i57 (in_c 1 rfl) rfl rfl
            refine g_goto 54 (gd rfl) rfl ?_
            exact gg_w (by first | exact Nat.le_add_right _ _ | exact gw2 | exact gw3 | exact gwe rfl | exact gwf rfl | exact gwg rfl | exact gwh rfl | omega) (gg_f (gf_cons rfl (gf_cons rfl (gf_cons rfl (gf_cons rfl (gf_cons rfl gf_nil))))) (ih54 sc54 y54_3 z111 hIc54 hFc54 (in_w (-1) 31 j54_3 rfl) (in_w 0 32 i111 rfl) (m_up mm54 (t_add e111 i57 (in_c 1 rfl) rfl) (in_w 1 1 (in_c 1 rfl) rfl))))
          · skip
            have c83a := lc_ne e82 c83
            have i83 := lr_ne1 (-9223372036854775808) 9223372036854775806 c83a (l_rng z78) (l_c 9223372036854775807 rfl) rfl
            refine g_iload_n 87 (gd rfl) rfl rfl ?_
            refine g_iconst (-1) 88 (gd rfl) rfl rfl ?_
            refine g_cmp_eq 91 108 (gd rfl) rfl rfl (fun c88 => ?_) (fun c88 => ?_)
            · skip
              have i88 := r_eq1 (-1) (-1) c88 j54_3 (in_c (-1) rfl) rfl
              refine g_iload 110 (gd rfl) rfl rfl ?_
              refine g_istore_n 111 (gd rfl) rfl (Nat.le_of_ble_eq_true rfl) ?_
              refine g_iinc 114 (gd rfl) rfl rfl (Nat.le_of_ble_eq_true rfl) (fun z111 e111 => ?_)
              have i111 := in_add 1 32 e111 i57 (in_c 1 rfl) rfl rfl
              refine g_goto 54 (gd rfl) rfl ?_
              exact gg_w (by first | exact Nat.le_add_right _ _ | exact gw2 | exact gw3 | exact gwe rfl | exact gwf rfl | exact gwg rfl | exact gwh rfl | omega) (gg_f (gf_cons rfl (gf_cons rfl (gf_cons rfl (gf_cons rfl (gf_cons rfl gf_nil))))) (ih54 sc54 y54_4 z111 hIc54 hFc54 (in_w (-1) 31 i57 rfl) (in_w 0 32 i111 rfl) (m_up mm54 (t_add e111 i57 (in_c 1 rfl) rfl) (in_w 1 1 (in_c 1 rfl) rfl))))
            · skip
              have i88 := r_ne1 0 31 c88 j54_3 (in_c (-1) rfl) rfl
              refine g_aload_n 92 (gd rfl) rfl rfl ?_
              refine g_getA (q2 := 75) 95 (gd rfl) rfl rfl rfl rfl ?_
              refine g_iload 97 (gd rfl) rfl rfl ?_
              refine g_laload 98 (gd rfl) rfl (n := 32) rfl (in_ix i57 rfl) (fun z97 e97 => ?_)
              refine g_aload_n 99 (gd rfl) rfl rfl ?_
              refine g_getA (q2 := 75) 102 (gd rfl) rfl rfl rfl rfl ?_
              refine g_iload_n 103 (gd rfl) rfl rfl ?_
              refine g_laload 104 (gd rfl) rfl (n := 32) rfl (in_ix i88 rfl) (fun z103 e103 => ?_)
              refine g_lcmp 105 (gd rfl) rfl (fun z104 e104 => ?_)
              have i104 := lc_in e104
              refine g_if_ge 108 111 (gd rfl) rfl rfl (fun c105 => ?_) (fun c105 => ?_)
              · skip
                have i105 := z_ge 0 1 c105 i104 rfl
                have c105a := lc_ge e104 c105
                refine g_iinc 114 (gd rfl) rfl rfl (Nat.le_of_ble_eq_true rfl) (fun z111 e111 => ?_)
                have i111 := in_add 1 32 e111 i57 (in_c 1 rfl) rfl rfl
                refine g_goto 54 (gd rfl) rfl ?_
                exact gg_w (by first | exact Nat.le_add_right _ _ | exact gw2 | exact gw3 | exact gwe rfl | exact gwf rfl | exact gwg rfl | exact gwh rfl | omega) (gg_f (gf_cons rfl (gf_cons rfl (gf_cons rfl (gf_cons rfl (gf_cons rfl gf_nil))))) (ih54 sc54 y54_3 z111 hIc54 hFc54 (in_w (-1) 31 i88 rfl) (in_w 0 32 i111 rfl) (m_up mm54 (t_add e111 i57 (in_c 1 rfl) rfl) (in_w 1 1 (in_c 1 rfl) rfl))))
              · skip
                have i105 := z_lt (-1) (-1) c105 i104 rfl
                have c105a := lc_lt e104 c105
                have i105a := lr_lt1 (-9223372036854775808) 9223372036854775806 c105a (l_rng z97) (l_rng z103) rfl
                have i105b := lr_lt2 (-9223372036854775807) 9223372036854775807 c105a (l_rng z97) (l_rng z103) rfl
                refine g_iload 110 (gd rfl) rfl rfl ?_
                refine g_istore_n 111 (gd rfl) rfl (Nat.le_of_ble_eq_true rfl) ?_
                refine g_iinc 114 (gd rfl) rfl rfl (Nat.le_of_ble_eq_true rfl) (fun z111 e111 => ?_)
                have i111 := in_add 1 32 e111 i57 (in_c 1 rfl) rfl rfl
                refine g_goto 54 (gd rfl) rfl ?_
                exact gg_w (by first | exact Nat.le_add_right _ _ | exact gw2 | exact gw3 | exact gwe rfl | exact gwf rfl | exact gwg rfl | exact gwh rfl | omega) (gg_f (gf_cons rfl (gf_cons rfl (gf_cons rfl (gf_cons rfl (gf_cons rfl gf_nil))))) (ih54 sc54 y54_4 z111 hIc54 hFc54 (in_w (-1) 31 i57 rfl) (in_w 0 32 i111 rfl) (m_up mm54 (t_add e111 i57 (in_c 1 rfl) rfl) (in_w 1 1 (in_c 1 rfl) rfl))))
  have ct2 : ∀ (k2 : Nat) (sc2 : GS) (y2_3 : Int32), Inv sc2 → Fr fm_85_65 s sc2 → (In y2_3 0 32) → 32 - (y2_3).toInt < (k2 : Int) → GG Z (d - 1) 85 post (gx xp) (29702 + k2 * 900) 2 (fun j => xlook j [(0, .ref (A 65)), (1, .int x1), (2, .int x2), (3, .int y2_3)]) [] (WW Z A sc2 ++ ex) 0 0 := by
    intro k2
    induction k2 with
    | zero => intro sc2 y2_3 hIc2 hFc2 j2_3 mm2; exact m_no mm2 j2_3 rfl
    | succ k2 ih2 =>
      intro sc2 y2_3 hIc2 hFc2 j2_3 mm2
      refine gg_w (M := 29702 + k2 * 900 + 900) gws ?_
      refine g_iload_n 3 (gd rfl) rfl rfl ?_
      refine g_iload_n 4 (gd rfl) rfl rfl ?_
      refine g_cmp_ge 7 43 (gd rfl) rfl rfl (fun c4 => ?_) (fun c4 => ?_)
      · skip
        refine g_aload_n 44 (gd rfl) rfl rfl ?_
        refine g_iload_n 45 (gd rfl) rfl rfl ?_
        refine g_iload_n 46 (gd rfl) rfl rfl ?_
        refine g_callv (X := _) (As := [.int x1, .int x2]) (r := []) (b := A 65) (q := 65) 49 (gd rfl) rfl rfl rfl rfl rfl (ww_o rfl) (Nat.le_of_ble_eq_true rfl) (Nat.zero_le _) (Nat.zero_le _) (k_86_65 (by first | exact dq1 hd rfl | exact dq0 hd rfl | exact dq2 hd rfl | exact dq3 hd rfl | omega) hIc2 (in_w 0 32 h1 rfl) (in_w 1 1048576 h2 rfl)) (fun e u h => h) (fun v u h => ?_)
        obtain ⟨s46, hI46, hF46, rfl, rfl⟩ := h
        show GG _ _ _ _ _ _ _ _ [] _ _ _
        refine g_iconst (-1) 50 (gd rfl) rfl rfl ?_
        refine g_istore_n 51 (gd rfl) rfl (Nat.le_of_ble_eq_true rfl) ?_
        refine g_iconst 0 52 (gd rfl) rfl rfl ?_
        refine g_istore 54 (gd rfl) rfl (Nat.le_of_ble_eq_true rfl) ?_
        exact gg_w (by first | exact Nat.le_add_right _ _ | exact gw2 | exact gw3 | exact gwe rfl | exact gwf rfl | exact gwg rfl | exact gwh rfl | omega) (gg_f (gf_cons rfl (gf_cons rfl (gf_cons rfl (gf_cons rfl (gf_cons rfl gf_nil))))) (ct54 33 s46 (Int32.ofInt (-1)) (Int32.ofInt 0) hI46 (fr_tr rfl hFc2 hF46) (in_w (-1) 31 (in_c (-1) rfl) rfl) (in_w 0 32 (in_c 0 rfl) rfl) (m_in 33 (in_w 0 32 (in_c 0 rfl) rfl) rfl)))
      · skip
        have i4 := r_lt1 0 31 c4 j2_3 h1 rfl
        have i4a := r_lt2 1 32 c4 j2_3 h1 rfl
        refine g_aload_n 8 (gd rfl) rfl rfl ?_
        refine g_getA (q2 := 75) 11 (gd rfl) rfl rfl rfl rfl ?_
        refine g_iload_n 12 (gd rfl) rfl rfl ?_
        refine g_aload_n 13 (gd rfl) rfl rfl ?_
        refine g_getA (q2 := 74) 16 (gd rfl) rfl rfl rfl rfl ?_
        refine g_iload_n 17 (gd rfl) rfl rfl ?_
        refine g_iaload 18 (gd rfl) rfl (n := 32) rfl (in_ix i4 rfl) (fun z17 e17 => ?_)
        refine g_iload_n 19 (gd rfl) rfl rfl ?_
        refine g_cmp_lt 22 26 (gd rfl) rfl rfl (fun c19 => ?_) (fun c19 => ?_)
        · skip
          have i19 := r_lt1 (-2147483648) 65535 c19 (i_rng z17) h2 rfl
          refine g_ldc2_w 9223372036854775807 29 (gd rfl) rfl rfl ?_
          refine g_lastore 30 (gd rfl) rfl (n := 32) rfl (in_ix i4 rfl) ?_
          have hI29 := inv_sL (q := 75) (j := y2_3.toNatClampNeg) (x := (Int64.ofInt 9223372036854775807)) hIc2 rfl (l_rng (Int64.ofInt 9223372036854775807))
          refine g_aload_n 31 (gd rfl) rfl rfl ?_
          refine g_getA (q2 := 68) 34 (gd rfl) rfl rfl rfl rfl ?_
          refine g_iload_n 35 (gd rfl) rfl rfl ?_
          refine g_iconst (-1) 36 (gd rfl) rfl rfl ?_
          refine g_iastore 37 (gd rfl) rfl (n := 32) rfl (in_ix i4 rfl) ?_
          have hI36 := inv_sI (q := 68) (j := y2_3.toNatClampNeg) hI29 rfl (in_w (-1) 319 (in_c (-1) rfl) rfl)
          refine g_iinc 40 (gd rfl) rfl rfl (Nat.le_of_ble_eq_true rfl) (fun z37 e37 => ?_)
          have i37 := in_add 1 32 e37 i4 (in_c 1 rfl) rfl rfl
          refine g_goto 2 (gd rfl) rfl ?_
          exact gg_w (by first | exact Nat.le_add_right _ _ | exact gw2 | exact gw3 | exact gwe rfl | exact gwf rfl | exact gwg rfl | exact gwh rfl | omega) (gg_f (gf_cons rfl (gf_cons rfl (gf_cons rfl (gf_cons rfl gf_nil)))) (ih2 (sI (sL sc2 75 y2_3.toNatClampNeg (Int64.ofInt 9223372036854775807)) 68 y2_3.toNatClampNeg (Int32.ofInt (-1))) z37 hI36 (fr_sI rfl (fr_sL rfl hFc2)) (in_w 0 32 i37 rfl) (m_up mm2 (t_add e37 i4 (in_c 1 rfl) rfl) (in_w 1 1 (in_c 1 rfl) rfl))))
        · skip
          have i19 := r_le2 1 2147483647 c19 h2 (i_rng z17) rfl
          refine g_lconst 0 23 (gd rfl) rfl rfl ?_
          refine g_goto 29 (gd rfl) rfl ?_
          refine g_lastore 30 (gd rfl) rfl (n := 32) rfl (in_ix i4 rfl) ?_
          have hI29 := inv_sL (q := 75) (j := y2_3.toNatClampNeg) (x := (Int64.ofInt 0)) hIc2 rfl (l_rng (Int64.ofInt 0))
          refine g_aload_n 31 (gd rfl) rfl rfl ?_
          refine g_getA (q2 := 68) 34 (gd rfl) rfl rfl rfl rfl ?_
          refine g_iload_n 35 (gd rfl) rfl rfl ?_
          refine g_iconst (-1) 36 (gd rfl) rfl rfl ?_
          refine g_iastore 37 (gd rfl) rfl (n := 32) rfl (in_ix i4 rfl) ?_
          have hI36 := inv_sI (q := 68) (j := y2_3.toNatClampNeg) hI29 rfl (in_w (-1) 319 (in_c (-1) rfl) rfl)
          refine g_iinc 40 (gd rfl) rfl rfl (Nat.le_of_ble_eq_true rfl) (fun z37 e37 => ?_)
          have i37 := in_add 1 32 e37 i4 (in_c 1 rfl) rfl rfl
          refine g_goto 2 (gd rfl) rfl ?_
          exact gg_w (by first | exact Nat.le_add_right _ _ | exact gw2 | exact gw3 | exact gwe rfl | exact gwf rfl | exact gwg rfl | exact gwh rfl | omega) (gg_f (gf_cons rfl (gf_cons rfl (gf_cons rfl (gf_cons rfl gf_nil)))) (ih2 (sI (sL sc2 75 y2_3.toNatClampNeg (Int64.ofInt 0)) 68 y2_3.toNatClampNeg (Int32.ofInt (-1))) z37 hI36 (fr_sI rfl (fr_sL rfl hFc2)) (in_w 0 32 i37 rfl) (m_up mm2 (t_add e37 i4 (in_c 1 rfl) rfl) (in_w 1 1 (in_c 1 rfl) rfl))))
  refine g_enter2 (k := 85) (N := 60302) (by first | exact dq1 hd rfl | exact dq0 hd rfl | exact dq2 hd rfl | exact dq3 hd rfl | omega) rfl (Nat.le_of_ble_eq_true rfl) ?_
  refine g_iconst 0 1 (gd rfl) rfl rfl ?_
  refine g_istore_n 2 (gd rfl) rfl (Nat.le_of_ble_eq_true rfl) ?_
  exact gg_w (by first | exact Nat.le_of_ble_eq_true rfl | omega) (gg_f (gf_cons rfl (gf_cons rfl (gf_cons rfl (gf_cons rfl gf_nil)))) (ct2 33 s (Int32.ofInt 0) hI fr_rf (in_w 0 32 (in_c 0 rfl) rfl) (m_in 33 (in_w 0 32 (in_c 0 rfl) rfl) rfl)))

def fm_89_65_2 : FM := ([68, 69, 70, 71, 72, 73, 74], [75], [(65, 8), (65, 16), (65, 17)], [(65, 18)])
/-- GraphHouse$Flows.pair -/
theorem k_89_65_2 {Z : AmZ} {A : Nat → Nat} {s : GS} {ex : va_W} {d : Nat} {X : AmX}  (hd : 4 ≤ d) (hI : Inv s)  : GC Z d 89 [.ref (A 65), .ref (A 2)] (WW Z A s ++ ex) 0 0 (fun v u => ∃ t : GS, Inv t ∧ Fr fm_89_65_2 s t ∧ v = none ∧ u = WW Z A t ++ ex) X := by
  intro post xp hP hX
  obtain ⟨u_2_0, e_2_0⟩ : ∃ w, w = s.2.2.1 2 0 := ⟨_, rfl⟩
  have ro_2_0 := inv_F hI 0 4000 rfl e_2_0
  obtain ⟨u_2_1, e_2_1⟩ : ∃ w, w = s.2.2.1 2 1 := ⟨_, rfl⟩
  have ro_2_1 := inv_F hI 0 32 rfl e_2_1
  obtain ⟨u_2_3, e_2_3⟩ : ∃ w, w = s.2.2.1 2 3 := ⟨_, rfl⟩
  have ro_2_3 := inv_F hI 0 160 rfl e_2_3
  have ct179 : ∀ (k179 : Nat) (sc179 : GS) (y179_2 : Int32) (w179_65_17 : Int32), Inv sc179 → Fr fm_89_65_2 s sc179 → (In y179_2 0 32) → (w179_65_17 = sc179.2.2.1 65 17) → ((w179_65_17).toInt ≤ (y179_2).toInt) → 32 - (y179_2).toInt < (k179 : Int) → GG Z (d - 1) 89 post (gx xp) (1 + k179 * 900) 179 (fun j => xlook j [(0, .ref (A 65)), (1, .ref (A 2)), (2, .int y179_2)]) [] (WW Z A sc179 ++ ex) 0 0 := by
    intro k179
    induction k179 with
    | zero => intro sc179 y179_2 w179_65_17 hIc179 hFc179 j179_2 v179_65_17 n179_0 mm179; exact m_no mm179 j179_2 rfl
    | succ k179 ih179 =>
      intro sc179 y179_2 w179_65_17 hIc179 hFc179 j179_2 v179_65_17 n179_0 mm179
      refine gg_w (M := 1 + k179 * 900 + 900) gws ?_
      refine g_iload_n 180 (gd rfl) rfl rfl ?_
      refine g_bipush 32 182 (gd rfl) rfl rfl ?_
      refine g_cmp_ge 185 231 (gd rfl) rfl rfl (fun c182 => ?_) (fun c182 => ?_)
      · skip
        have i182 := r_le2 32 32 c182 (in_c 32 rfl) j179_2 rfl
        exact g_return (gd rfl) rfl (hP _ _ ⟨sc179, hIc179, hFc179, rfl, rfl⟩)
      · skip
        have i182 := r_lt1 0 31 c182 j179_2 (in_c 32 rfl) rfl
        refine g_aload_n 186 (gd rfl) rfl rfl ?_
        refine g_aload_n 187 (gd rfl) rfl rfl ?_
        refine g_getI 190 (gd rfl) rfl rfl rfl (fun z187 e187 => ?_)
        have q187 : u_2_1 = z187 := (fr_F e_2_1 hFc179 rfl).trans e187.symm
        subst q187
        refine g_iconst 1 191 (gd rfl) rfl rfl ?_
        refine g_callv (X := _) (As := [.int u_2_1, .int (Int32.ofInt 1)]) (r := []) (b := A 65) (q := 65) 194 (gd rfl) rfl rfl rfl rfl rfl (ww_o rfl) (Nat.le_of_ble_eq_true rfl) (Nat.zero_le _) (Nat.zero_le _) (k_85_65 (by first | exact dq1 hd rfl | exact dq0 hd rfl | exact dq2 hd rfl | exact dq3 hd rfl | omega) hIc179 (in_w 0 32 ro_2_1 rfl) (in_w 1 65536 (in_c 1 rfl) rfl)) (fun e u h => h) (fun v u h => ?_)
        obtain ⟨s191, hI191, hF191, z191, rfl, rfl, i191⟩ := h
        show GG _ _ _ _ _ _ _ _ [.int z191] _ _ _
        refine g_istore_n 195 (gd rfl) rfl (Nat.le_of_ble_eq_true rfl) ?_
        refine g_iload_n 196 (gd rfl) rfl rfl ?_
        refine g_iconst (-1) 197 (gd rfl) rfl rfl ?_
        refine g_cmp_ne 200 201 (gd rfl) rfl rfl (fun c197 => ?_) (fun c197 => ?_)
        · skip
          have i197 := r_ne1 0 31 c197 i191 (in_c (-1) rfl) rfl
          refine g_aload_n 202 (gd rfl) rfl rfl ?_
          refine g_dup 203 (gd rfl) rfl rfl ?_
          refine g_getL 206 (gd rfl) rfl rfl rfl (fun z203 e203 => ?_)
          refine g_aload_n 207 (gd rfl) rfl rfl ?_
          refine g_iload_n 208 (gd rfl) rfl rfl ?_
          refine g_callv (X := _) (As := [.int z191]) (r := [.long z203, .ref (A 65)]) (b := A 65) (q := 65) 211 (gd rfl) rfl rfl rfl rfl rfl (ww_o rfl) (Nat.le_of_ble_eq_true rfl) (Nat.zero_le _) (Nat.zero_le _) (k_88_65 (by first | exact dq1 hd rfl | exact dq0 hd rfl | exact dq2 hd rfl | exact dq3 hd rfl | omega) hI191 (in_w 0 31 i197 rfl)) (fun e u h => h) (fun v u h => ?_)
          obtain ⟨s208, hI208, hF208, z208, rfl, rfl⟩ := h
          show GG _ _ _ _ _ _ _ _ [.long z208, .long z203, .ref (A 65)] _ _ _
          refine g_ladd 212 (gd rfl) rfl (fun z211 e211 => ?_)
          refine g_putL 215 (gd rfl) rfl rfl rfl rfl ?_
          have hI212 := inv_sG (q := 65) (j := 18) (x := z211) hI208 rfl (l_rng z211)
          refine g_aload_n 216 (gd rfl) rfl rfl ?_
          refine g_dup 217 (gd rfl) rfl rfl ?_
          refine g_getI 220 (gd rfl) rfl rfl rfl (fun z217 e217 => ?_)
          have q217 : w179_65_17 = z217 := (sG_F (fr_F (fr_F (v179_65_17) hF191 rfl) hF208 rfl)).trans e217.symm
          subst q217
          refine g_iconst 1 221 (gd rfl) rfl rfl ?_
          refine g_iadd 222 (gd rfl) rfl (fun z221 e221 => ?_)
          have i221 := in_add 1 33 e221 (inv_F hIc179 0 32 rfl v179_65_17) (in_c 1 rfl) rfl rfl
          have i222 : In z221 0 32 := by have a0 := oa7 ro_2_3 ro_2_1 ro_2_0 ((inv_F hIc179 0 32 rfl v179_65_17)) i182 i197 i221; have a7 := t_add e221 (inv_F hIc179 0 32 rfl v179_65_17) (in_c 1 rfl) rfl; have a8 := in_u ((in_c 1 rfl)); exact ⟨by omega, by omega⟩
          refine g_putI 225 (gd rfl) rfl rfl rfl rfl ?_
          have hI222 := inv_sF (q := 65) (j := 17) hI212 rfl (in_w 0 32 i222 rfl)
          refine g_iinc 228 (gd rfl) rfl rfl (Nat.le_of_ble_eq_true rfl) (fun z225 e225 => ?_)
          have i225 := in_add 1 32 e225 i182 (in_c 1 rfl) rfl rfl
          refine g_goto 179 (gd rfl) rfl ?_
          have v179 : z221 = (sF (sG s208 65 18 z211) 65 17 z221).2.2.1 65 17 := sF_get
          have n179 : (z221).toInt ≤ (z225).toInt := by have a0 := oa7 ro_2_3 ro_2_1 ro_2_0 ((inv_F hIc179 0 32 rfl v179_65_17)) i182 i197 i225; have a7 := t_add e225 i182 (in_c 1 rfl) rfl; have a8 := oa2 ((in_c 1 rfl)) i222; have a10 := t_add e221 (inv_F hIc179 0 32 rfl v179_65_17) (in_c 1 rfl) rfl; omega
          exact gg_w (by first | exact Nat.le_add_right _ _ | exact gw2 | exact gw3 | exact gwe rfl | exact gwf rfl | exact gwg rfl | exact gwh rfl | omega) (gg_f (gf_cons rfl (gf_cons rfl (gf_cons rfl gf_nil))) (ih179 (sF (sG s208 65 18 z211) 65 17 z221) z225 z221 hI222 (fr_sF rfl (fr_sG rfl (fr_tr rfl (fr_tr rfl hFc179 hF191) hF208))) (in_w 0 32 i225 rfl) v179 n179 (m_up mm179 (t_add e225 i182 (in_c 1 rfl) rfl) (in_w 1 1 (in_c 1 rfl) rfl))))
        · skip
          have i197 := r_eq1 (-1) (-1) c197 i191 (in_c (-1) rfl) rfl
          exact g_return (gd rfl) rfl (hP _ _ ⟨s191, hI191, (fr_tr rfl hFc179 hF191), rfl, rfl⟩)
  have ct72 : ∀ (k72 : Nat) (sc72 : GS) (y72_2 : Int32) (w72_65_17 : Int32), Inv sc72 → Fr fm_89_65_2 s sc72 → (In y72_2 0 160) → (w72_65_17 = sc72.2.2.1 65 17) → ((w72_65_17).toInt = 0) → 160 - (y72_2).toInt < (k72 : Int) → GG Z (d - 1) 89 post (gx xp) (29702 + k72 * 900) 72 (fun j => xlook j [(0, .ref (A 65)), (1, .ref (A 2)), (2, .int y72_2)]) [] (WW Z A sc72 ++ ex) 0 0 := by
    intro k72
    induction k72 with
    | zero => intro sc72 y72_2 w72_65_17 hIc72 hFc72 j72_2 v72_65_17 n72_0 mm72; exact m_no mm72 j72_2 rfl
    | succ k72 ih72 =>
      intro sc72 y72_2 w72_65_17 hIc72 hFc72 j72_2 v72_65_17 n72_0 mm72
      refine gg_w (M := 29702 + k72 * 900 + 900) gws ?_
      refine g_iload_n 73 (gd rfl) rfl rfl ?_
      refine g_aload_n 74 (gd rfl) rfl rfl ?_
      refine g_getI 77 (gd rfl) rfl rfl rfl (fun z74 e74 => ?_)
      have q74 : u_2_3 = z74 := (fr_F e_2_3 hFc72 rfl).trans e74.symm
      subst q74
      refine g_cmp_ge 80 177 (gd rfl) rfl rfl (fun c77 => ?_) (fun c77 => ?_)
      · skip
        refine g_iconst 0 178 (gd rfl) rfl rfl ?_
        refine g_istore_n 179 (gd rfl) rfl (Nat.le_of_ble_eq_true rfl) ?_
        have n179 : (w72_65_17).toInt ≤ ((Int32.ofInt 0)).toInt := by have a0 := oa6 ro_2_3 ro_2_1 ro_2_0 ((inv_F hIc72 0 32 rfl v72_65_17)) j72_2 ((in_c 0 rfl)); omega
        exact gg_w (by first | exact Nat.le_add_right _ _ | exact gw2 | exact gw3 | exact gwe rfl | exact gwf rfl | exact gwg rfl | exact gwh rfl | omega) (gg_f (gf_cons rfl (gf_cons rfl (gf_cons rfl gf_nil))) (ct179 33 sc72 (Int32.ofInt 0) w72_65_17 hIc72 hFc72 (in_w 0 32 (in_c 0 rfl) rfl) v72_65_17 n179 (m_in 33 (in_w 0 32 (in_c 0 rfl) rfl) rfl)))
      · skip
        have i77 := r_lt1 0 159 c77 j72_2 ro_2_3 rfl
        have i77a := r_lt2 1 160 c77 j72_2 ro_2_3 rfl
        refine g_aload_n 81 (gd rfl) rfl rfl ?_
        refine g_iload_n 82 (gd rfl) rfl rfl ?_
        refine g_callv (X := _) (As := [.int y72_2]) (r := []) (b := A 2) (q := 2) 85 (gd rfl) rfl rfl rfl rfl rfl (ww_o rfl) (Nat.le_of_ble_eq_true rfl) (mc := 0) (ms := 0) (Nat.zero_le _) (Nat.zero_le _) (P := fun v u => _) ?_ (fun e u h => h) (fun v u h => h)
        intro po82 xx82 hp82 hx82
        refine g_enter2 (k := 97) (N := 300) (by first | exact dq1 hd rfl | exact dq0 hd rfl | exact dq2 hd rfl | exact dq3 hd rfl | omega) rfl (Nat.le_of_ble_eq_true rfl) ?_
        refine g_aload_n 1 (gd rfl) rfl rfl ?_
        refine g_getA (q2 := 4) 4 (gd rfl) rfl rfl rfl rfl ?_
        refine g_iload_n 5 (gd rfl) rfl rfl ?_
        refine g_iaload 6 (gd rfl) rfl (n := 160) rfl (in_ix i77 rfl) (fun z82x5 e82x5 => ?_)
        have i82x5 := inv_I hIc72 (n := 160) (t := 0) (-1) 31 rfl (in_ix i77 rfl) rfl e82x5
        refine g_iconst (-1) 7 (gd rfl) rfl rfl ?_
        refine g_cmp_eq 10 29 (gd rfl) rfl rfl (fun c82x7 => ?_) (fun c82x7 => ?_)
        · skip
          have i82x7 := r_eq1 (-1) (-1) c82x7 i82x5 (in_c (-1) rfl) rfl
          refine g_iconst 0 30 (gd rfl) rfl rfl ?_
          refine g_ireturn (gd rfl) rfl (nb01 (in_w 0 1 (in_c 0 rfl) rfl)) (hp82 _ _ ?_)
          show GG _ _ _ _ _ _ _ _ [.int (Int32.ofInt 0)] _ _ _
          refine g_if_eq 88 171 (gd rfl) rfl rfl (fun c85 => ?_) (fun c85 => ?_)
          · skip
            refine g_iinc 174 (gd rfl) rfl rfl (Nat.le_of_ble_eq_true rfl) (fun z171 e171 => ?_)
            have i171 := in_add 1 160 e171 i77 (in_c 1 rfl) rfl rfl
            refine g_goto 72 (gd rfl) rfl ?_
            have n72 : (w72_65_17).toInt = 0 := by first | exact n72_0 | (have a0 := oa6 i77a ro_2_1 ro_2_0 ((inv_F hIc72 0 32 rfl v72_65_17)) i77 i171; have a6 := t_add e171 i77 (in_c 1 rfl) rfl; have a7 := in_u ((in_c 1 rfl)); omega)
            exact gg_w (by first | exact Nat.le_add_right _ _ | exact gw2 | exact gw3 | exact gwe rfl | exact gwf rfl | exact gwg rfl | exact gwh rfl | omega) (gg_f (gf_cons rfl (gf_cons rfl (gf_cons rfl gf_nil))) (ih72 sc72 z171 w72_65_17 hIc72 hFc72 (in_w 0 160 i171 rfl) v72_65_17 n72 (m_up mm72 (t_add e171 i77 (in_c 1 rfl) rfl) (in_w 1 1 (in_c 1 rfl) rfl))))
          · skip
            exact zn_ne c85 (in_c 0 rfl) rfl
        · skip
          have i82x7 := r_ne1 0 31 c82x7 i82x5 (in_c (-1) rfl) rfl
          refine g_aload_n 11 (gd rfl) rfl rfl ?_
          refine g_getA (q2 := 4) 14 (gd rfl) rfl rfl rfl rfl ?_
          refine g_iload_n 15 (gd rfl) rfl rfl ?_
          refine g_iaload 16 (gd rfl) rfl (n := 160) rfl (in_ix i77 rfl) (fun z82x15 e82x15 => ?_)
          have q82x15 : z82x5 = z82x15 := (e82x5).trans e82x15.symm
          subst q82x15
          refine g_aload_n 17 (gd rfl) rfl rfl ?_
          refine g_getA (q2 := 5) 20 (gd rfl) rfl rfl rfl rfl ?_
          refine g_iload_n 21 (gd rfl) rfl rfl ?_
          refine g_iaload 22 (gd rfl) rfl (n := 160) rfl (in_ix i77 rfl) (fun z82x21 e82x21 => ?_)
          have i82x21 := inv_I hIc72 (n := 160) (t := 0) 0 31 rfl (in_ix i77 rfl) rfl e82x21
          refine g_cmp_eq 25 29 (gd rfl) rfl rfl (fun c82x22 => ?_) (fun c82x22 => ?_)
          · skip
            refine g_iconst 0 30 (gd rfl) rfl rfl ?_
            refine g_ireturn (gd rfl) rfl (nb01 (in_w 0 1 (in_c 0 rfl) rfl)) (hp82 _ _ ?_)
            show GG _ _ _ _ _ _ _ _ [.int (Int32.ofInt 0)] _ _ _
            refine g_if_eq 88 171 (gd rfl) rfl rfl (fun c85 => ?_) (fun c85 => ?_)
            · skip
              refine g_iinc 174 (gd rfl) rfl rfl (Nat.le_of_ble_eq_true rfl) (fun z171 e171 => ?_)
              have i171 := in_add 1 160 e171 i77 (in_c 1 rfl) rfl rfl
              refine g_goto 72 (gd rfl) rfl ?_
              have n72 : (w72_65_17).toInt = 0 := by first | exact n72_0 | (have a0 := oa6 i77a ro_2_1 ro_2_0 ((inv_F hIc72 0 32 rfl v72_65_17)) i77 i171; have a6 := t_add e171 i77 (in_c 1 rfl) rfl; have a7 := in_u ((in_c 1 rfl)); omega)
              exact gg_w (by first | exact Nat.le_add_right _ _ | exact gw2 | exact gw3 | exact gwe rfl | exact gwf rfl | exact gwg rfl | exact gwh rfl | omega) (gg_f (gf_cons rfl (gf_cons rfl (gf_cons rfl gf_nil))) (ih72 sc72 z171 w72_65_17 hIc72 hFc72 (in_w 0 160 i171 rfl) v72_65_17 n72 (m_up mm72 (t_add e171 i77 (in_c 1 rfl) rfl) (in_w 1 1 (in_c 1 rfl) rfl))))
            · skip
              exact zn_ne c85 (in_c 0 rfl) rfl
          · skip
            refine g_iconst 1 26 (gd rfl) rfl rfl ?_
            refine g_goto 30 (gd rfl) rfl ?_
            refine g_ireturn (gd rfl) rfl (nb01 (in_w 0 1 (in_c 1 rfl) rfl)) (hp82 _ _ ?_)
            show GG _ _ _ _ _ _ _ _ [.int (Int32.ofInt 1)] _ _ _
            refine g_if_eq 88 171 (gd rfl) rfl rfl (fun c85 => ?_) (fun c85 => ?_)
            · skip
              exact zn_eq c85 (in_c 1 rfl) rfl
            · skip
              refine g_aload_n 89 (gd rfl) rfl rfl ?_
              refine g_aload_n 90 (gd rfl) rfl rfl ?_
              refine g_getA (q2 := 4) 93 (gd rfl) rfl rfl rfl rfl ?_
              refine g_iload_n 94 (gd rfl) rfl rfl ?_
              refine g_iaload 95 (gd rfl) rfl (n := 160) rfl (in_ix i77 rfl) (fun z94 e94 => ?_)
              have q94 : z82x5 = z94 := (e82x5).trans e94.symm
              subst q94
              refine g_calls (As := [.ref (A 2), .int z82x5]) (r := []) 98 (gd rfl) rfl rfl rfl rfl rfl (Nat.le_of_ble_eq_true rfl) (mc := 0) (ms := 0) (Nat.zero_le _) (Nat.zero_le _) (P := fun v u => _) ?_ (fun v u h => h)
              intro po95 xx95 hp95 hx95
              refine g_enter2 (k := 90) (N := 300) (by first | exact dq1 hd rfl | exact dq0 hd rfl | exact dq2 hd rfl | exact dq3 hd rfl | omega) rfl (Nat.le_of_ble_eq_true rfl) ?_
              refine g_aload_n 1 (gd rfl) rfl rfl ?_
              refine g_getA (q2 := 3) 4 (gd rfl) rfl rfl rfl rfl ?_
              refine g_iload_n 5 (gd rfl) rfl rfl ?_
              refine g_iaload 6 (gd rfl) rfl (n := 32) rfl (in_ix i82x7 rfl) (fun z95x5 e95x5 => ?_)
              have i95x5 := inv_I hIc72 (n := 32) (t := 0) 0 25 rfl (in_ix i82x7 rfl) rfl e95x5
              refine g_bipush 13 8 (gd rfl) rfl rfl ?_
              refine g_cmp_ge 11 15 (gd rfl) rfl rfl (fun c95x8 => ?_) (fun c95x8 => ?_)
              · skip
                have i95x8 := r_le2 13 25 c95x8 (in_c 13 rfl) i95x5 rfl
                refine g_iconst 0 16 (gd rfl) rfl rfl ?_
                refine g_ireturn (gd rfl) rfl (nb01 (in_w 0 1 (in_c 0 rfl) rfl)) (hp95 _ _ ?_)
                show GG _ _ _ _ _ _ _ _ [.int (Int32.ofInt 0)] _ _ _
                refine g_aload_n 99 (gd rfl) rfl rfl ?_
                refine g_aload_n 100 (gd rfl) rfl rfl ?_
                refine g_getA (q2 := 5) 103 (gd rfl) rfl rfl rfl rfl ?_
                refine g_iload_n 104 (gd rfl) rfl rfl ?_
                refine g_iaload 105 (gd rfl) rfl (n := 160) rfl (in_ix i77 rfl) (fun z104 e104 => ?_)
                have q104 : z82x21 = z104 := (e82x21).trans e104.symm
                subst q104
                refine g_calls (As := [.ref (A 2), .int z82x21]) (r := [.int (Int32.ofInt 0)]) 108 (gd rfl) rfl rfl rfl rfl rfl (Nat.le_of_ble_eq_true rfl) (mc := 0) (ms := 0) (Nat.zero_le _) (Nat.zero_le _) (P := fun v u => _) ?_ (fun v u h => h)
                intro po105 xx105 hp105 hx105
                refine g_enter2 (k := 90) (N := 300) (by first | exact dq1 hd rfl | exact dq0 hd rfl | exact dq2 hd rfl | exact dq3 hd rfl | omega) rfl (Nat.le_of_ble_eq_true rfl) ?_
                refine g_aload_n 1 (gd rfl) rfl rfl ?_
                refine g_getA (q2 := 3) 4 (gd rfl) rfl rfl rfl rfl ?_
                refine g_iload_n 5 (gd rfl) rfl rfl ?_
                refine g_iaload 6 (gd rfl) rfl (n := 32) rfl (in_ix i82x21 rfl) (fun z105x5 e105x5 => ?_)
                have i105x5 := inv_I hIc72 (n := 32) (t := 0) 0 25 rfl (in_ix i82x21 rfl) rfl e105x5
                refine g_bipush 13 8 (gd rfl) rfl rfl ?_
                refine g_cmp_ge 11 15 (gd rfl) rfl rfl (fun c105x8 => ?_) (fun c105x8 => ?_)
                · skip
                  have i105x8 := r_le2 13 25 c105x8 (in_c 13 rfl) i105x5 rfl
                  refine g_iconst 0 16 (gd rfl) rfl rfl ?_
                  refine g_ireturn (gd rfl) rfl (nb01 (in_w 0 1 (in_c 0 rfl) rfl)) (hp105 _ _ ?_)
                  show GG _ _ _ _ _ _ _ _ [.int (Int32.ofInt 0), .int (Int32.ofInt 0)] _ _ _
                  refine g_cmp_eq 111 171 (gd rfl) rfl rfl (fun c108 => ?_) (fun c108 => ?_)
                  · skip
                    refine g_iinc 174 (gd rfl) rfl rfl (Nat.le_of_ble_eq_true rfl) (fun z171 e171 => ?_)
                    have i171 := in_add 1 160 e171 i77 (in_c 1 rfl) rfl rfl
                    refine g_goto 72 (gd rfl) rfl ?_
                    have n72 : (w72_65_17).toInt = 0 := by first | exact n72_0 | (have a0 := oa6 i77a ro_2_1 ro_2_0 ((inv_F hIc72 0 32 rfl v72_65_17)) i77 i171; have a6 := t_add e171 i77 (in_c 1 rfl) rfl; have a7 := in_u ((in_c 1 rfl)); omega)
                    exact gg_w (by first | exact Nat.le_add_right _ _ | exact gw2 | exact gw3 | exact gwe rfl | exact gwf rfl | exact gwg rfl | exact gwh rfl | omega) (gg_f (gf_cons rfl (gf_cons rfl (gf_cons rfl gf_nil))) (ih72 sc72 z171 w72_65_17 hIc72 hFc72 (in_w 0 160 i171 rfl) v72_65_17 n72 (m_up mm72 (t_add e171 i77 (in_c 1 rfl) rfl) (in_w 1 1 (in_c 1 rfl) rfl))))
                  · skip
                    exact n_ne c108 (in_c 0 rfl) (in_c 0 rfl) rfl
                · skip
                  have i105x8 := r_lt1 0 12 c105x8 i105x5 (in_c 13 rfl) rfl
                  refine g_iconst 1 12 (gd rfl) rfl rfl ?_
                  refine g_goto 16 (gd rfl) rfl ?_
                  refine g_ireturn (gd rfl) rfl (nb01 (in_w 0 1 (in_c 1 rfl) rfl)) (hp105 _ _ ?_)
                  show GG _ _ _ _ _ _ _ _ [.int (Int32.ofInt 1), .int (Int32.ofInt 0)] _ _ _
                  refine g_cmp_eq 111 171 (gd rfl) rfl rfl (fun c108 => ?_) (fun c108 => ?_)
                  · skip
                    exact n_eq c108 (in_c 0 rfl) (in_c 1 rfl) rfl
                  · skip
                    refine g_aload_n 112 (gd rfl) rfl rfl ?_
                    refine g_aload_n 113 (gd rfl) rfl rfl ?_
                    refine g_getA (q2 := 4) 116 (gd rfl) rfl rfl rfl rfl ?_
                    refine g_iload_n 117 (gd rfl) rfl rfl ?_
                    refine g_iaload 118 (gd rfl) rfl (n := 160) rfl (in_ix i77 rfl) (fun z117 e117 => ?_)
                    have q117 : z82x5 = z117 := (e82x5).trans e117.symm
                    subst q117
                    refine g_calls (As := [.ref (A 2), .int z82x5]) (r := []) 121 (gd rfl) rfl rfl rfl rfl rfl (Nat.le_of_ble_eq_true rfl) (mc := 0) (ms := 0) (Nat.zero_le _) (Nat.zero_le _) (P := fun v u => _) ?_ (fun v u h => h)
                    intro po118 xx118 hp118 hx118
                    refine g_enter2 (k := 90) (N := 300) (by first | exact dq1 hd rfl | exact dq0 hd rfl | exact dq2 hd rfl | exact dq3 hd rfl | omega) rfl (Nat.le_of_ble_eq_true rfl) ?_
                    refine g_aload_n 1 (gd rfl) rfl rfl ?_
                    refine g_getA (q2 := 3) 4 (gd rfl) rfl rfl rfl rfl ?_
                    refine g_iload_n 5 (gd rfl) rfl rfl ?_
                    refine g_iaload 6 (gd rfl) rfl (n := 32) rfl (in_ix i82x7 rfl) (fun z118x5 e118x5 => ?_)
                    have q118x5 : z95x5 = z118x5 := (e95x5).trans e118x5.symm
                    subst q118x5
                    refine g_bipush 13 8 (gd rfl) rfl rfl ?_
                    refine g_cmp_ge 11 15 (gd rfl) rfl rfl (fun c118x8 => ?_) (fun c118x8 => ?_)
                    · skip
                      refine g_iconst 0 16 (gd rfl) rfl rfl ?_
                      refine g_ireturn (gd rfl) rfl (nb01 (in_w 0 1 (in_c 0 rfl) rfl)) (hp118 _ _ ?_)
                      show GG _ _ _ _ _ _ _ _ [.int (Int32.ofInt 0)] _ _ _
                      refine g_istore_n 122 (gd rfl) rfl (Nat.le_of_ble_eq_true rfl) ?_
                      refine g_aload_n 123 (gd rfl) rfl rfl ?_
                      refine g_iload_n 124 (gd rfl) rfl rfl ?_
                      refine g_if_eq 127 136 (gd rfl) rfl rfl (fun c124 => ?_) (fun c124 => ?_)
                      · skip
                        refine g_aload_n 137 (gd rfl) rfl rfl ?_
                        refine g_getA (q2 := 5) 140 (gd rfl) rfl rfl rfl rfl ?_
                        refine g_iload_n 141 (gd rfl) rfl rfl ?_
                        refine g_iaload 142 (gd rfl) rfl (n := 160) rfl (in_ix i77 rfl) (fun z141 e141 => ?_)
                        have q141 : z82x21 = z141 := (e82x21).trans e141.symm
                        subst q141
                        refine g_iload_n 143 (gd rfl) rfl rfl ?_
                        refine g_if_eq 146 155 (gd rfl) rfl rfl (fun c143 => ?_) (fun c143 => ?_)
                        · skip
                          refine g_aload_n 156 (gd rfl) rfl rfl ?_
                          refine g_getA (q2 := 4) 159 (gd rfl) rfl rfl rfl rfl ?_
                          refine g_iload_n 160 (gd rfl) rfl rfl ?_
                          refine g_iaload 161 (gd rfl) rfl (n := 160) rfl (in_ix i77 rfl) (fun z160 e160 => ?_)
                          have q160 : z82x5 = z160 := (e82x5).trans e160.symm
                          subst q160
                          refine g_aload_n 162 (gd rfl) rfl rfl ?_
                          refine g_getA (q2 := 6) 165 (gd rfl) rfl rfl rfl rfl ?_
                          refine g_iload_n 166 (gd rfl) rfl rfl ?_
                          refine g_iaload 167 (gd rfl) rfl (n := 160) rfl (in_ix i77 rfl) (fun z166 e166 => ?_)
                          have i166 := inv_I hIc72 (n := 160) (t := 0) (-1000000) 1000000 rfl (in_ix i77 rfl) rfl e166
                          refine g_iconst 1 168 (gd rfl) rfl rfl ?_
                          refine g_callv (X := _) (As := [.int z82x21, .int z82x5, .int z166, .int (Int32.ofInt 1)]) (r := []) (b := A 65) (q := 65) 171 (gd rfl) rfl rfl rfl rfl rfl (ww_o rfl) (Nat.le_of_ble_eq_true rfl) (Nat.zero_le _) (Nat.zero_le _) (k_84_65 (by first | exact dq1 hd rfl | exact dq0 hd rfl | exact dq2 hd rfl | exact dq3 hd rfl | omega) hIc72 (in_w 0 31 i82x21 rfl) (in_w 0 31 i82x7 rfl) (in_w (-1000000) 1000000 i166 rfl) (in_w 0 1000000 (in_c 1 rfl) rfl)) (fun e u h => h) (fun v u h => ?_)
                          obtain ⟨s168, hI168, hF168, rfl, rfl⟩ := h
                          show GG _ _ _ _ _ _ _ _ [] _ _ _
                          refine g_iinc 174 (gd rfl) rfl rfl (Nat.le_of_ble_eq_true rfl) (fun z171 e171 => ?_)
                          have i171 := in_add 1 160 e171 i77 (in_c 1 rfl) rfl rfl
                          refine g_goto 72 (gd rfl) rfl ?_
                          have v72 : w72_65_17 = s168.2.2.1 65 17 := fr_F (v72_65_17) hF168 rfl
                          have n72 : (w72_65_17).toInt = 0 := by first | exact n72_0 | (have a0 := oa7 i77a ro_2_1 ro_2_0 ((inv_F hIc72 0 32 rfl v72_65_17)) i77 ((in_c 0 rfl)) i171; have a7 := t_add e171 i77 (in_c 1 rfl) rfl; have a8 := in_u ((in_c 1 rfl)); omega)
                          exact gg_w (by first | exact Nat.le_add_right _ _ | exact gw2 | exact gw3 | exact gwe rfl | exact gwf rfl | exact gwg rfl | exact gwh rfl | omega) (gg_f (gf_cons rfl (gf_cons rfl (gf_cons rfl gf_nil))) (ih72 s168 z171 w72_65_17 hI168 (fr_tr rfl hFc72 hF168) (in_w 0 160 i171 rfl) v72 n72 (m_up mm72 (t_add e171 i77 (in_c 1 rfl) rfl) (in_w 1 1 (in_c 1 rfl) rfl))))
                        · skip
                          exact zn_ne c143 (in_c 0 rfl) rfl
                      · skip
                        exact zn_ne c124 (in_c 0 rfl) rfl
                    · skip
                      exact n_lt c118x8 i95x8 (in_c 13 rfl) rfl
              · skip
                have i95x8 := r_lt1 0 12 c95x8 i95x5 (in_c 13 rfl) rfl
                refine g_iconst 1 12 (gd rfl) rfl rfl ?_
                refine g_goto 16 (gd rfl) rfl ?_
                refine g_ireturn (gd rfl) rfl (nb01 (in_w 0 1 (in_c 1 rfl) rfl)) (hp95 _ _ ?_)
                show GG _ _ _ _ _ _ _ _ [.int (Int32.ofInt 1)] _ _ _
                refine g_aload_n 99 (gd rfl) rfl rfl ?_
                refine g_aload_n 100 (gd rfl) rfl rfl ?_
                refine g_getA (q2 := 5) 103 (gd rfl) rfl rfl rfl rfl ?_
                refine g_iload_n 104 (gd rfl) rfl rfl ?_
                refine g_iaload 105 (gd rfl) rfl (n := 160) rfl (in_ix i77 rfl) (fun z104 e104 => ?_)
                have q104 : z82x21 = z104 := (e82x21).trans e104.symm
                subst q104
                refine g_calls (As := [.ref (A 2), .int z82x21]) (r := [.int (Int32.ofInt 1)]) 108 (gd rfl) rfl rfl rfl rfl rfl (Nat.le_of_ble_eq_true rfl) (mc := 0) (ms := 0) (Nat.zero_le _) (Nat.zero_le _) (P := fun v u => _) ?_ (fun v u h => h)
                intro po105 xx105 hp105 hx105
                refine g_enter2 (k := 90) (N := 300) (by first | exact dq1 hd rfl | exact dq0 hd rfl | exact dq2 hd rfl | exact dq3 hd rfl | omega) rfl (Nat.le_of_ble_eq_true rfl) ?_
                refine g_aload_n 1 (gd rfl) rfl rfl ?_
                refine g_getA (q2 := 3) 4 (gd rfl) rfl rfl rfl rfl ?_
                refine g_iload_n 5 (gd rfl) rfl rfl ?_
                refine g_iaload 6 (gd rfl) rfl (n := 32) rfl (in_ix i82x21 rfl) (fun z105x5 e105x5 => ?_)
                have i105x5 := inv_I hIc72 (n := 32) (t := 0) 0 25 rfl (in_ix i82x21 rfl) rfl e105x5
                refine g_bipush 13 8 (gd rfl) rfl rfl ?_
                refine g_cmp_ge 11 15 (gd rfl) rfl rfl (fun c105x8 => ?_) (fun c105x8 => ?_)
                · skip
                  have i105x8 := r_le2 13 25 c105x8 (in_c 13 rfl) i105x5 rfl
                  refine g_iconst 0 16 (gd rfl) rfl rfl ?_
                  refine g_ireturn (gd rfl) rfl (nb01 (in_w 0 1 (in_c 0 rfl) rfl)) (hp105 _ _ ?_)
                  show GG _ _ _ _ _ _ _ _ [.int (Int32.ofInt 0), .int (Int32.ofInt 1)] _ _ _
                  refine g_cmp_eq 111 171 (gd rfl) rfl rfl (fun c108 => ?_) (fun c108 => ?_)
                  · skip
                    exact n_eq c108 (in_c 1 rfl) (in_c 0 rfl) rfl
                  · skip
                    refine g_aload_n 112 (gd rfl) rfl rfl ?_
                    refine g_aload_n 113 (gd rfl) rfl rfl ?_
                    refine g_getA (q2 := 4) 116 (gd rfl) rfl rfl rfl rfl ?_
                    refine g_iload_n 117 (gd rfl) rfl rfl ?_
                    refine g_iaload 118 (gd rfl) rfl (n := 160) rfl (in_ix i77 rfl) (fun z117 e117 => ?_)
                    have q117 : z82x5 = z117 := (e82x5).trans e117.symm
                    subst q117
                    refine g_calls (As := [.ref (A 2), .int z82x5]) (r := []) 121 (gd rfl) rfl rfl rfl rfl rfl (Nat.le_of_ble_eq_true rfl) (mc := 0) (ms := 0) (Nat.zero_le _) (Nat.zero_le _) (P := fun v u => _) ?_ (fun v u h => h)
                    intro po118 xx118 hp118 hx118
                    refine g_enter2 (k := 90) (N := 300) (by first | exact dq1 hd rfl | exact dq0 hd rfl | exact dq2 hd rfl | exact dq3 hd rfl | omega) rfl (Nat.le_of_ble_eq_true rfl) ?_
                    refine g_aload_n 1 (gd rfl) rfl rfl ?_
                    refine g_getA (q2 := 3) 4 (gd rfl) rfl rfl rfl rfl ?_
                    refine g_iload_n 5 (gd rfl) rfl rfl ?_
                    refine g_iaload 6 (gd rfl) rfl (n := 32) rfl (in_ix i82x7 rfl) (fun z118x5 e118x5 => ?_)
                    have q118x5 : z95x5 = z118x5 := (e95x5).trans e118x5.symm
                    subst q118x5
                    refine g_bipush 13 8 (gd rfl) rfl rfl ?_
                    refine g_cmp_ge 11 15 (gd rfl) rfl rfl (fun c118x8 => ?_) (fun c118x8 => ?_)
                    · skip
                      exact n_le c118x8 (in_c 13 rfl) i95x8 rfl
                    · skip
                      refine g_iconst 1 12 (gd rfl) rfl rfl ?_
                      refine g_goto 16 (gd rfl) rfl ?_
                      refine g_ireturn (gd rfl) rfl (nb01 (in_w 0 1 (in_c 1 rfl) rfl)) (hp118 _ _ ?_)
                      show GG _ _ _ _ _ _ _ _ [.int (Int32.ofInt 1)] _ _ _
                      refine g_istore_n 122 (gd rfl) rfl (Nat.le_of_ble_eq_true rfl) ?_
                      refine g_aload_n 123 (gd rfl) rfl rfl ?_
                      refine g_iload_n 124 (gd rfl) rfl rfl ?_
                      refine g_if_eq 127 136 (gd rfl) rfl rfl (fun c124 => ?_) (fun c124 => ?_)
                      · skip
                        exact zn_eq c124 (in_c 1 rfl) rfl
                      · skip
                        refine g_aload_n 128 (gd rfl) rfl rfl ?_
                        refine g_getA (q2 := 4) 131 (gd rfl) rfl rfl rfl rfl ?_
                        refine g_iload_n 132 (gd rfl) rfl rfl ?_
                        refine g_iaload 133 (gd rfl) rfl (n := 160) rfl (in_ix i77 rfl) (fun z132 e132 => ?_)
                        have q132 : z82x5 = z132 := (e82x5).trans e132.symm
                        subst q132
                        refine g_goto 142 (gd rfl) rfl ?_
                        refine g_iload_n 143 (gd rfl) rfl rfl ?_
                        refine g_if_eq 146 155 (gd rfl) rfl rfl (fun c143 => ?_) (fun c143 => ?_)
                        · skip
                          exact zn_eq c143 (in_c 1 rfl) rfl
                        · skip
                          refine g_aload_n 147 (gd rfl) rfl rfl ?_
                          refine g_getA (q2 := 5) 150 (gd rfl) rfl rfl rfl rfl ?_
                          refine g_iload_n 151 (gd rfl) rfl rfl ?_
                          refine g_iaload 152 (gd rfl) rfl (n := 160) rfl (in_ix i77 rfl) (fun z151 e151 => ?_)
                          have q151 : z82x21 = z151 := (e82x21).trans e151.symm
                          subst q151
                          refine g_goto 161 (gd rfl) rfl ?_
                          refine g_aload_n 162 (gd rfl) rfl rfl ?_
                          refine g_getA (q2 := 6) 165 (gd rfl) rfl rfl rfl rfl ?_
                          refine g_iload_n 166 (gd rfl) rfl rfl ?_
                          refine g_iaload 167 (gd rfl) rfl (n := 160) rfl (in_ix i77 rfl) (fun z166 e166 => ?_)
                          have i166 := inv_I hIc72 (n := 160) (t := 0) (-1000000) 1000000 rfl (in_ix i77 rfl) rfl e166
                          refine g_iconst 1 168 (gd rfl) rfl rfl ?_
                          refine g_callv (X := _) (As := [.int z82x5, .int z82x21, .int z166, .int (Int32.ofInt 1)]) (r := []) (b := A 65) (q := 65) 171 (gd rfl) rfl rfl rfl rfl rfl (ww_o rfl) (Nat.le_of_ble_eq_true rfl) (Nat.zero_le _) (Nat.zero_le _) (k_84_65 (by first | exact dq1 hd rfl | exact dq0 hd rfl | exact dq2 hd rfl | exact dq3 hd rfl | omega) hIc72 (in_w 0 31 i82x7 rfl) (in_w 0 31 i82x21 rfl) (in_w (-1000000) 1000000 i166 rfl) (in_w 0 1000000 (in_c 1 rfl) rfl)) (fun e u h => h) (fun v u h => ?_)
                          obtain ⟨s168, hI168, hF168, rfl, rfl⟩ := h
                          show GG _ _ _ _ _ _ _ _ [] _ _ _
                          refine g_iinc 174 (gd rfl) rfl rfl (Nat.le_of_ble_eq_true rfl) (fun z171 e171 => ?_)
                          have i171 := in_add 1 160 e171 i77 (in_c 1 rfl) rfl rfl
                          refine g_goto 72 (gd rfl) rfl ?_
                          have v72 : w72_65_17 = s168.2.2.1 65 17 := fr_F (v72_65_17) hF168 rfl
                          have n72 : (w72_65_17).toInt = 0 := by first | exact n72_0 | (have a0 := oa7 i77a ro_2_1 ro_2_0 ((inv_F hIc72 0 32 rfl v72_65_17)) i77 ((in_c 1 rfl)) i171; have a7 := t_add e171 i77 (in_c 1 rfl) rfl; omega)
                          exact gg_w (by first | exact Nat.le_add_right _ _ | exact gw2 | exact gw3 | exact gwe rfl | exact gwf rfl | exact gwg rfl | exact gwh rfl | omega) (gg_f (gf_cons rfl (gf_cons rfl (gf_cons rfl gf_nil))) (ih72 s168 z171 w72_65_17 hI168 (fr_tr rfl hFc72 hF168) (in_w 0 160 i171 rfl) v72 n72 (m_up mm72 (t_add e171 i77 (in_c 1 rfl) rfl) (in_w 1 1 (in_c 1 rfl) rfl))))
                · skip
                  have i105x8 := r_lt1 0 12 c105x8 i105x5 (in_c 13 rfl) rfl
                  refine g_iconst 1 12 (gd rfl) rfl rfl ?_
                  refine g_goto 16 (gd rfl) rfl ?_
                  refine g_ireturn (gd rfl) rfl (nb01 (in_w 0 1 (in_c 1 rfl) rfl)) (hp105 _ _ ?_)
                  show GG _ _ _ _ _ _ _ _ [.int (Int32.ofInt 1), .int (Int32.ofInt 1)] _ _ _
                  refine g_cmp_eq 111 171 (gd rfl) rfl rfl (fun c108 => ?_) (fun c108 => ?_)
                  · skip
                    refine g_iinc 174 (gd rfl) rfl rfl (Nat.le_of_ble_eq_true rfl) (fun z171 e171 => ?_)
                    have i171 := in_add 1 160 e171 i77 (in_c 1 rfl) rfl rfl
                    refine g_goto 72 (gd rfl) rfl ?_
                    have n72 : (w72_65_17).toInt = 0 := by first | exact n72_0 | (have a0 := oa6 i77a ro_2_1 ro_2_0 ((inv_F hIc72 0 32 rfl v72_65_17)) i77 i171; have a6 := t_add e171 i77 (in_c 1 rfl) rfl; have a7 := in_u ((in_c 1 rfl)); omega)
                    exact gg_w (by first | exact Nat.le_add_right _ _ | exact gw2 | exact gw3 | exact gwe rfl | exact gwf rfl | exact gwg rfl | exact gwh rfl | omega) (gg_f (gf_cons rfl (gf_cons rfl (gf_cons rfl gf_nil))) (ih72 sc72 z171 w72_65_17 hIc72 hFc72 (in_w 0 160 i171 rfl) v72_65_17 n72 (m_up mm72 (t_add e171 i77 (in_c 1 rfl) rfl) (in_w 1 1 (in_c 1 rfl) rfl))))
                  · skip
                    exact n_ne c108 (in_c 1 rfl) (in_c 1 rfl) rfl
  have ct37 : ∀ (k37 : Nat) (sc37 : GS) (y37_2 : Int32) (w37_65_17 : Int32), Inv sc37 → Fr fm_89_65_2 s sc37 → (In y37_2 0 32) → (w37_65_17 = sc37.2.2.1 65 17) → ((w37_65_17).toInt = 0) → 32 - (y37_2).toInt < (k37 : Int) → GG Z (d - 1) 89 post (gx xp) (174603 + k37 * 900) 37 (fun j => xlook j [(0, .ref (A 65)), (1, .ref (A 2)), (2, .int y37_2)]) [] (WW Z A sc37 ++ ex) 0 0 := by
    intro k37
    induction k37 with
    | zero => intro sc37 y37_2 w37_65_17 hIc37 hFc37 j37_2 v37_65_17 n37_0 mm37; exact m_no mm37 j37_2 rfl
    | succ k37 ih37 =>
      intro sc37 y37_2 w37_65_17 hIc37 hFc37 j37_2 v37_65_17 n37_0 mm37
      refine gg_w (M := 174603 + k37 * 900 + 900) gws ?_
      refine g_iload_n 38 (gd rfl) rfl rfl ?_
      refine g_aload_n 39 (gd rfl) rfl rfl ?_
      refine g_getI 42 (gd rfl) rfl rfl rfl (fun z39 e39 => ?_)
      have q39 : u_2_1 = z39 := (fr_F e_2_1 hFc37 rfl).trans e39.symm
      subst q39
      refine g_cmp_ge 45 70 (gd rfl) rfl rfl (fun c42 => ?_) (fun c42 => ?_)
      · skip
        refine g_iconst 0 71 (gd rfl) rfl rfl ?_
        refine g_istore_n 72 (gd rfl) rfl (Nat.le_of_ble_eq_true rfl) ?_
        have n72 : (w37_65_17).toInt = 0 := by first | exact n37_0 | (have a0 := oa6 ro_2_3 ro_2_1 ro_2_0 ((inv_F hIc37 0 32 rfl v37_65_17)) j37_2 ((in_c 0 rfl)); omega)
        exact gg_w (by first | exact Nat.le_add_right _ _ | exact gw2 | exact gw3 | exact gwe rfl | exact gwf rfl | exact gwg rfl | exact gwh rfl | omega) (gg_f (gf_cons rfl (gf_cons rfl (gf_cons rfl gf_nil))) (ct72 161 sc37 (Int32.ofInt 0) w37_65_17 hIc37 hFc37 (in_w 0 160 (in_c 0 rfl) rfl) v37_65_17 n72 (m_in 161 (in_w 0 160 (in_c 0 rfl) rfl) rfl)))
      · skip
        have i42 := r_lt1 0 31 c42 j37_2 ro_2_1 rfl
        have i42a := r_lt2 1 32 c42 j37_2 ro_2_1 rfl
        refine g_aload_n 46 (gd rfl) rfl rfl ?_
        refine g_getA (q2 := 74) 49 (gd rfl) rfl rfl rfl rfl ?_
        refine g_iload_n 50 (gd rfl) rfl rfl ?_
        refine g_aload_n 51 (gd rfl) rfl rfl ?_
        refine g_iload_n 52 (gd rfl) rfl rfl ?_
        refine g_calls (As := [.ref (A 2), .int y37_2]) (r := [.int y37_2, .ref (A 74)]) 55 (gd rfl) rfl rfl rfl rfl rfl (Nat.le_of_ble_eq_true rfl) (mc := 0) (ms := 0) (Nat.zero_le _) (Nat.zero_le _) (P := fun v u => _) ?_ (fun v u h => h)
        intro po52 xx52 hp52 hx52
        refine g_enter2 (k := 90) (N := 300) (by first | exact dq1 hd rfl | exact dq0 hd rfl | exact dq2 hd rfl | exact dq3 hd rfl | omega) rfl (Nat.le_of_ble_eq_true rfl) ?_
        refine g_aload_n 1 (gd rfl) rfl rfl ?_
        refine g_getA (q2 := 3) 4 (gd rfl) rfl rfl rfl rfl ?_
        refine g_iload_n 5 (gd rfl) rfl rfl ?_
        refine g_iaload 6 (gd rfl) rfl (n := 32) rfl (in_ix i42 rfl) (fun z52x5 e52x5 => ?_)
        have i52x5 := inv_I hIc37 (n := 32) (t := 0) 0 25 rfl (in_ix i42 rfl) rfl e52x5
        refine g_bipush 13 8 (gd rfl) rfl rfl ?_
        refine g_cmp_ge 11 15 (gd rfl) rfl rfl (fun c52x8 => ?_) (fun c52x8 => ?_)
        · skip
          have i52x8 := r_le2 13 25 c52x8 (in_c 13 rfl) i52x5 rfl
          refine g_iconst 0 16 (gd rfl) rfl rfl ?_
          refine g_ireturn (gd rfl) rfl (nb01 (in_w 0 1 (in_c 0 rfl) rfl)) (hp52 _ _ ?_)
          show GG _ _ _ _ _ _ _ _ [.int (Int32.ofInt 0), .int y37_2, .ref (A 74)] _ _ _
          refine g_if_eq 58 62 (gd rfl) rfl rfl (fun c55 => ?_) (fun c55 => ?_)
          · skip
            refine g_iconst (-1) 63 (gd rfl) rfl rfl ?_
            refine g_iastore 64 (gd rfl) rfl (n := 32) rfl (in_ix i42 rfl) ?_
            have hI63 := inv_sI (q := 74) (j := y37_2.toNatClampNeg) hIc37 rfl (in_w (-2147483648) 2147483647 (in_c (-1) rfl) rfl)
            refine g_iinc 67 (gd rfl) rfl rfl (Nat.le_of_ble_eq_true rfl) (fun z64 e64 => ?_)
            have i64 := in_add 1 32 e64 i42 (in_c 1 rfl) rfl rfl
            refine g_goto 37 (gd rfl) rfl ?_
            have v37 : w37_65_17 = (sI sc37 74 y37_2.toNatClampNeg (Int32.ofInt (-1))).2.2.1 65 17 := sI_F (v37_65_17)
            have n37 : (w37_65_17).toInt = 0 := by first | exact n37_0 | (have a0 := oa6 ro_2_3 i42a ro_2_0 ((inv_F hIc37 0 32 rfl v37_65_17)) i42 i64; have a6 := t_add e64 i42 (in_c 1 rfl) rfl; have a7 := in_u ((in_c 1 rfl)); omega)
            exact gg_w (by first | exact Nat.le_add_right _ _ | exact gw2 | exact gw3 | exact gwe rfl | exact gwf rfl | exact gwg rfl | exact gwh rfl | omega) (gg_f (gf_cons rfl (gf_cons rfl (gf_cons rfl gf_nil))) (ih37 (sI sc37 74 y37_2.toNatClampNeg (Int32.ofInt (-1))) z64 w37_65_17 hI63 (fr_sI rfl hFc37) (in_w 0 32 i64 rfl) v37 n37 (m_up mm37 (t_add e64 i42 (in_c 1 rfl) rfl) (in_w 1 1 (in_c 1 rfl) rfl))))
          · skip
            exact zn_ne c55 (in_c 0 rfl) rfl
        · skip
          have i52x8 := r_lt1 0 12 c52x8 i52x5 (in_c 13 rfl) rfl
          refine g_iconst 1 12 (gd rfl) rfl rfl ?_
          refine g_goto 16 (gd rfl) rfl ?_
          refine g_ireturn (gd rfl) rfl (nb01 (in_w 0 1 (in_c 1 rfl) rfl)) (hp52 _ _ ?_)
          show GG _ _ _ _ _ _ _ _ [.int (Int32.ofInt 1), .int y37_2, .ref (A 74)] _ _ _
          refine g_if_eq 58 62 (gd rfl) rfl rfl (fun c55 => ?_) (fun c55 => ?_)
          · skip
            exact zn_eq c55 (in_c 1 rfl) rfl
          · skip
            refine g_iconst 1 59 (gd rfl) rfl rfl ?_
            refine g_goto 63 (gd rfl) rfl ?_
            refine g_iastore 64 (gd rfl) rfl (n := 32) rfl (in_ix i42 rfl) ?_
            have hI63 := inv_sI (q := 74) (j := y37_2.toNatClampNeg) hIc37 rfl (in_w (-2147483648) 2147483647 (in_c 1 rfl) rfl)
            refine g_iinc 67 (gd rfl) rfl rfl (Nat.le_of_ble_eq_true rfl) (fun z64 e64 => ?_)
            have i64 := in_add 1 32 e64 i42 (in_c 1 rfl) rfl rfl
            refine g_goto 37 (gd rfl) rfl ?_
            have v37 : w37_65_17 = (sI sc37 74 y37_2.toNatClampNeg (Int32.ofInt 1)).2.2.1 65 17 := sI_F (v37_65_17)
            have n37 : (w37_65_17).toInt = 0 := by first | exact n37_0 | (have a0 := oa6 ro_2_3 i42a ro_2_0 ((inv_F hIc37 0 32 rfl v37_65_17)) i42 i64; have a6 := t_add e64 i42 (in_c 1 rfl) rfl; have a7 := in_u ((in_c 1 rfl)); omega)
            exact gg_w (by first | exact Nat.le_add_right _ _ | exact gw2 | exact gw3 | exact gwe rfl | exact gwf rfl | exact gwg rfl | exact gwh rfl | omega) (gg_f (gf_cons rfl (gf_cons rfl (gf_cons rfl gf_nil))) (ih37 (sI sc37 74 y37_2.toNatClampNeg (Int32.ofInt 1)) z64 w37_65_17 hI63 (fr_sI rfl hFc37) (in_w 0 32 i64 rfl) v37 n37 (m_up mm37 (t_add e64 i42 (in_c 1 rfl) rfl) (in_w 1 1 (in_c 1 rfl) rfl))))
  refine g_enter2 (k := 89) (N := 205203) (by first | exact dq1 hd rfl | exact dq0 hd rfl | exact dq2 hd rfl | exact dq3 hd rfl | omega) rfl (Nat.le_of_ble_eq_true rfl) ?_
  refine g_aload_n 1 (gd rfl) rfl rfl ?_
  refine g_getI 4 (gd rfl) rfl rfl rfl (fun z1 e1 => ?_)
  have i1 := inv_F hI (-1) 4000 rfl e1
  refine g_aload_n 5 (gd rfl) rfl rfl ?_
  refine g_getI 8 (gd rfl) rfl rfl rfl (fun z5 e5 => ?_)
  have q5 : u_2_0 = z5 := (e_2_0).trans e5.symm
  subst q5
  refine g_cmp_ne 11 12 (gd rfl) rfl rfl (fun c8 => ?_) (fun c8 => ?_)
  · skip
    refine g_aload_n 13 (gd rfl) rfl rfl ?_
    refine g_aload_n 14 (gd rfl) rfl rfl ?_
    refine g_getI 17 (gd rfl) rfl rfl rfl (fun z14 e14 => ?_)
    have q14 : u_2_0 = z14 := (e_2_0).trans e14.symm
    subst q14
    refine g_putI 20 (gd rfl) rfl rfl rfl rfl ?_
    have hI17 := inv_sF (q := 65) (j := 16) hI rfl (in_w (-1) 4000 ro_2_0 rfl)
    refine g_aload_n 21 (gd rfl) rfl rfl ?_
    refine g_iconst 0 22 (gd rfl) rfl rfl ?_
    refine g_putI 25 (gd rfl) rfl rfl rfl rfl ?_
    have hI22 := inv_sF (q := 65) (j := 17) hI17 rfl (in_w 0 32 (in_c 0 rfl) rfl)
    refine g_aload_n 26 (gd rfl) rfl rfl ?_
    refine g_lconst 0 27 (gd rfl) rfl rfl ?_
    refine g_putL 30 (gd rfl) rfl rfl rfl rfl ?_
    have hI27 := inv_sG (q := 65) (j := 18) (x := (Int64.ofInt 0)) hI22 rfl (l_rng (Int64.ofInt 0))
    refine g_aload_n 31 (gd rfl) rfl rfl ?_
    refine g_iconst 0 32 (gd rfl) rfl rfl ?_
    refine g_putI 35 (gd rfl) rfl rfl rfl rfl ?_
    have hI32 := inv_sF (q := 65) (j := 8) hI27 rfl (in_w 0 160 (in_c 0 rfl) rfl)
    refine g_iconst 0 36 (gd rfl) rfl rfl ?_
    refine g_istore_n 37 (gd rfl) rfl (Nat.le_of_ble_eq_true rfl) ?_
    have v37 : (Int32.ofInt 0) = (sF (sG (sF (sF s 65 16 u_2_0) 65 17 (Int32.ofInt 0)) 65 18 (Int64.ofInt 0)) 65 8 (Int32.ofInt 0)).2.2.1 65 17 := sF_ne rfl (sG_F (sF_get))
    have n37 : ((Int32.ofInt 0)).toInt = 0 := by have a0 := oa4 ro_2_3 ro_2_1 ro_2_0 ((in_c 0 rfl)); omega
    exact gg_w (by first | exact Nat.le_of_ble_eq_true rfl | omega) (gg_f (gf_cons rfl (gf_cons rfl (gf_cons rfl gf_nil))) (ct37 33 (sF (sG (sF (sF s 65 16 u_2_0) 65 17 (Int32.ofInt 0)) 65 18 (Int64.ofInt 0)) 65 8 (Int32.ofInt 0)) (Int32.ofInt 0) (Int32.ofInt 0) hI32 (fr_sF rfl (fr_sG rfl (fr_sF rfl (fr_sF rfl fr_rf)))) (in_w 0 32 (in_c 0 rfl) rfl) v37 n37 (m_in 33 (in_w 0 32 (in_c 0 rfl) rfl) rfl)))
  · skip
    have i8 := r_eq1 0 4000 c8 i1 ro_2_0 rfl
    exact g_return (gd rfl) rfl (hP _ _ ⟨s, hI, fr_rf, rfl, rfl⟩)

def fm_89_65_32 : FM := ([68, 69, 70, 71, 72, 73, 74], [75], [(65, 8), (65, 16), (65, 17)], [(65, 18)])
/-- GraphHouse$Flows.pair -/
theorem k_89_65_32 {Z : AmZ} {A : Nat → Nat} {s : GS} {ex : va_W} {d : Nat} {X : AmX}  (hd : 4 ≤ d) (hI : Inv s)  : GC Z d 89 [.ref (A 65), .ref (A 32)] (WW Z A s ++ ex) 0 0 (fun v u => ∃ t : GS, Inv t ∧ Fr fm_89_65_32 s t ∧ v = none ∧ u = WW Z A t ++ ex) X := by
  intro post xp hP hX
  obtain ⟨u_32_0, e_32_0⟩ : ∃ w, w = s.2.2.1 32 0 := ⟨_, rfl⟩
  have ro_32_0 := inv_F hI 0 4000 rfl e_32_0
  obtain ⟨u_32_1, e_32_1⟩ : ∃ w, w = s.2.2.1 32 1 := ⟨_, rfl⟩
  have ro_32_1 := inv_F hI 0 32 rfl e_32_1
  obtain ⟨u_32_3, e_32_3⟩ : ∃ w, w = s.2.2.1 32 3 := ⟨_, rfl⟩
  have ro_32_3 := inv_F hI 0 160 rfl e_32_3
  have ct179 : ∀ (k179 : Nat) (sc179 : GS) (y179_2 : Int32) (w179_65_17 : Int32), Inv sc179 → Fr fm_89_65_32 s sc179 → (In y179_2 0 32) → (w179_65_17 = sc179.2.2.1 65 17) → ((w179_65_17).toInt ≤ (y179_2).toInt) → 32 - (y179_2).toInt < (k179 : Int) → GG Z (d - 1) 89 post (gx xp) (1 + k179 * 900) 179 (fun j => xlook j [(0, .ref (A 65)), (1, .ref (A 32)), (2, .int y179_2)]) [] (WW Z A sc179 ++ ex) 0 0 := by
    intro k179
    induction k179 with
    | zero => intro sc179 y179_2 w179_65_17 hIc179 hFc179 j179_2 v179_65_17 n179_0 mm179; exact m_no mm179 j179_2 rfl
    | succ k179 ih179 =>
      intro sc179 y179_2 w179_65_17 hIc179 hFc179 j179_2 v179_65_17 n179_0 mm179
      refine gg_w (M := 1 + k179 * 900 + 900) gws ?_
      refine g_iload_n 180 (gd rfl) rfl rfl ?_
      refine g_bipush 32 182 (gd rfl) rfl rfl ?_
      refine g_cmp_ge 185 231 (gd rfl) rfl rfl (fun c182 => ?_) (fun c182 => ?_)
      · skip
        have i182 := r_le2 32 32 c182 (in_c 32 rfl) j179_2 rfl
        exact g_return (gd rfl) rfl (hP _ _ ⟨sc179, hIc179, hFc179, rfl, rfl⟩)
      · skip
        have i182 := r_lt1 0 31 c182 j179_2 (in_c 32 rfl) rfl
        refine g_aload_n 186 (gd rfl) rfl rfl ?_
        refine g_aload_n 187 (gd rfl) rfl rfl ?_
        refine g_getI 190 (gd rfl) rfl rfl rfl (fun z187 e187 => ?_)
        have q187 : u_32_1 = z187 := (fr_F e_32_1 hFc179 rfl).trans e187.symm
        subst q187
        refine g_iconst 1 191 (gd rfl) rfl rfl ?_
        refine g_callv (X := _) (As := [.int u_32_1, .int (Int32.ofInt 1)]) (r := []) (b := A 65) (q := 65) 194 (gd rfl) rfl rfl rfl rfl rfl (ww_o rfl) (Nat.le_of_ble_eq_true rfl) (Nat.zero_le _) (Nat.zero_le _) (k_85_65 (by first | exact dq1 hd rfl | exact dq0 hd rfl | exact dq2 hd rfl | exact dq3 hd rfl | omega) hIc179 (in_w 0 32 ro_32_1 rfl) (in_w 1 65536 (in_c 1 rfl) rfl)) (fun e u h => h) (fun v u h => ?_)
        obtain ⟨s191, hI191, hF191, z191, rfl, rfl, i191⟩ := h
        show GG _ _ _ _ _ _ _ _ [.int z191] _ _ _
        refine g_istore_n 195 (gd rfl) rfl (Nat.le_of_ble_eq_true rfl) ?_
        refine g_iload_n 196 (gd rfl) rfl rfl ?_
        refine g_iconst (-1) 197 (gd rfl) rfl rfl ?_
        refine g_cmp_ne 200 201 (gd rfl) rfl rfl (fun c197 => ?_) (fun c197 => ?_)
        · skip
          have i197 := r_ne1 0 31 c197 i191 (in_c (-1) rfl) rfl
          refine g_aload_n 202 (gd rfl) rfl rfl ?_
          refine g_dup 203 (gd rfl) rfl rfl ?_
          refine g_getL 206 (gd rfl) rfl rfl rfl (fun z203 e203 => ?_)
          refine g_aload_n 207 (gd rfl) rfl rfl ?_
          refine g_iload_n 208 (gd rfl) rfl rfl ?_
          refine g_callv (X := _) (As := [.int z191]) (r := [.long z203, .ref (A 65)]) (b := A 65) (q := 65) 211 (gd rfl) rfl rfl rfl rfl rfl (ww_o rfl) (Nat.le_of_ble_eq_true rfl) (Nat.zero_le _) (Nat.zero_le _) (k_88_65 (by first | exact dq1 hd rfl | exact dq0 hd rfl | exact dq2 hd rfl | exact dq3 hd rfl | omega) hI191 (in_w 0 31 i197 rfl)) (fun e u h => h) (fun v u h => ?_)
          obtain ⟨s208, hI208, hF208, z208, rfl, rfl⟩ := h
          show GG _ _ _ _ _ _ _ _ [.long z208, .long z203, .ref (A 65)] _ _ _
          refine g_ladd 212 (gd rfl) rfl (fun z211 e211 => ?_)
          refine g_putL 215 (gd rfl) rfl rfl rfl rfl ?_
          have hI212 := inv_sG (q := 65) (j := 18) (x := z211) hI208 rfl (l_rng z211)
          refine g_aload_n 216 (gd rfl) rfl rfl ?_
          refine g_dup 217 (gd rfl) rfl rfl ?_
          refine g_getI 220 (gd rfl) rfl rfl rfl (fun z217 e217 => ?_)
          have q217 : w179_65_17 = z217 := (sG_F (fr_F (fr_F (v179_65_17) hF191 rfl) hF208 rfl)).trans e217.symm
          subst q217
          refine g_iconst 1 221 (gd rfl) rfl rfl ?_
          refine g_iadd 222 (gd rfl) rfl (fun z221 e221 => ?_)
          have i221 := in_add 1 33 e221 (inv_F hIc179 0 32 rfl v179_65_17) (in_c 1 rfl) rfl rfl
          have i222 : In z221 0 32 := by have a0 := oa7 ro_32_3 ro_32_1 ro_32_0 ((inv_F hIc179 0 32 rfl v179_65_17)) i182 i197 i221; have a7 := t_add e221 (inv_F hIc179 0 32 rfl v179_65_17) (in_c 1 rfl) rfl; have a8 := in_u ((in_c 1 rfl)); exact ⟨by omega, by omega⟩
          refine g_putI 225 (gd rfl) rfl rfl rfl rfl ?_
          have hI222 := inv_sF (q := 65) (j := 17) hI212 rfl (in_w 0 32 i222 rfl)
          refine g_iinc 228 (gd rfl) rfl rfl (Nat.le_of_ble_eq_true rfl) (fun z225 e225 => ?_)
          have i225 := in_add 1 32 e225 i182 (in_c 1 rfl) rfl rfl
          refine g_goto 179 (gd rfl) rfl ?_
          have v179 : z221 = (sF (sG s208 65 18 z211) 65 17 z221).2.2.1 65 17 := sF_get
          have n179 : (z221).toInt ≤ (z225).toInt := by have a0 := oa7 ro_32_3 ro_32_1 ro_32_0 ((inv_F hIc179 0 32 rfl v179_65_17)) i182 i197 i225; have a7 := t_add e225 i182 (in_c 1 rfl) rfl; have a8 := oa2 ((in_c 1 rfl)) i222; have a10 := t_add e221 (inv_F hIc179 0 32 rfl v179_65_17) (in_c 1 rfl) rfl; omega
          exact gg_w (by first | exact Nat.le_add_right _ _ | exact gw2 | exact gw3 | exact gwe rfl | exact gwf rfl | exact gwg rfl | exact gwh rfl | omega) (gg_f (gf_cons rfl (gf_cons rfl (gf_cons rfl gf_nil))) (ih179 (sF (sG s208 65 18 z211) 65 17 z221) z225 z221 hI222 (fr_sF rfl (fr_sG rfl (fr_tr rfl (fr_tr rfl hFc179 hF191) hF208))) (in_w 0 32 i225 rfl) v179 n179 (m_up mm179 (t_add e225 i182 (in_c 1 rfl) rfl) (in_w 1 1 (in_c 1 rfl) rfl))))
        · skip
          have i197 := r_eq1 (-1) (-1) c197 i191 (in_c (-1) rfl) rfl
          exact g_return (gd rfl) rfl (hP _ _ ⟨s191, hI191, (fr_tr rfl hFc179 hF191), rfl, rfl⟩)
  have ct72 : ∀ (k72 : Nat) (sc72 : GS) (y72_2 : Int32) (w72_65_17 : Int32), Inv sc72 → Fr fm_89_65_32 s sc72 → (In y72_2 0 160) → (w72_65_17 = sc72.2.2.1 65 17) → ((w72_65_17).toInt = 0) → 160 - (y72_2).toInt < (k72 : Int) → GG Z (d - 1) 89 post (gx xp) (29702 + k72 * 900) 72 (fun j => xlook j [(0, .ref (A 65)), (1, .ref (A 32)), (2, .int y72_2)]) [] (WW Z A sc72 ++ ex) 0 0 := by
    intro k72
    induction k72 with
    | zero => intro sc72 y72_2 w72_65_17 hIc72 hFc72 j72_2 v72_65_17 n72_0 mm72; exact m_no mm72 j72_2 rfl
    | succ k72 ih72 =>
      intro sc72 y72_2 w72_65_17 hIc72 hFc72 j72_2 v72_65_17 n72_0 mm72
      refine gg_w (M := 29702 + k72 * 900 + 900) gws ?_
      refine g_iload_n 73 (gd rfl) rfl rfl ?_
      refine g_aload_n 74 (gd rfl) rfl rfl ?_
      refine g_getI 77 (gd rfl) rfl rfl rfl (fun z74 e74 => ?_)
      have q74 : u_32_3 = z74 := (fr_F e_32_3 hFc72 rfl).trans e74.symm
      subst q74
      refine g_cmp_ge 80 177 (gd rfl) rfl rfl (fun c77 => ?_) (fun c77 => ?_)
      · skip
        refine g_iconst 0 178 (gd rfl) rfl rfl ?_
        refine g_istore_n 179 (gd rfl) rfl (Nat.le_of_ble_eq_true rfl) ?_
        have n179 : (w72_65_17).toInt ≤ ((Int32.ofInt 0)).toInt := by have a0 := oa6 ro_32_3 ro_32_1 ro_32_0 ((inv_F hIc72 0 32 rfl v72_65_17)) j72_2 ((in_c 0 rfl)); omega
        exact gg_w (by first | exact Nat.le_add_right _ _ | exact gw2 | exact gw3 | exact gwe rfl | exact gwf rfl | exact gwg rfl | exact gwh rfl | omega) (gg_f (gf_cons rfl (gf_cons rfl (gf_cons rfl gf_nil))) (ct179 33 sc72 (Int32.ofInt 0) w72_65_17 hIc72 hFc72 (in_w 0 32 (in_c 0 rfl) rfl) v72_65_17 n179 (m_in 33 (in_w 0 32 (in_c 0 rfl) rfl) rfl)))
      · skip
        have i77 := r_lt1 0 159 c77 j72_2 ro_32_3 rfl
        have i77a := r_lt2 1 160 c77 j72_2 ro_32_3 rfl
        refine g_aload_n 81 (gd rfl) rfl rfl ?_
        refine g_iload_n 82 (gd rfl) rfl rfl ?_
        refine g_callv (X := _) (As := [.int y72_2]) (r := []) (b := A 32) (q := 32) 85 (gd rfl) rfl rfl rfl rfl rfl (ww_o rfl) (Nat.le_of_ble_eq_true rfl) (mc := 0) (ms := 0) (Nat.zero_le _) (Nat.zero_le _) (P := fun v u => _) ?_ (fun e u h => h) (fun v u h => h)
        intro po82 xx82 hp82 hx82
        refine g_enter2 (k := 97) (N := 300) (by first | exact dq1 hd rfl | exact dq0 hd rfl | exact dq2 hd rfl | exact dq3 hd rfl | omega) rfl (Nat.le_of_ble_eq_true rfl) ?_
        refine g_aload_n 1 (gd rfl) rfl rfl ?_
        refine g_getA (q2 := 34) 4 (gd rfl) rfl rfl rfl rfl ?_
        refine g_iload_n 5 (gd rfl) rfl rfl ?_
        refine g_iaload 6 (gd rfl) rfl (n := 160) rfl (in_ix i77 rfl) (fun z82x5 e82x5 => ?_)
        have i82x5 := inv_I hIc72 (n := 160) (t := 0) (-1) 31 rfl (in_ix i77 rfl) rfl e82x5
        refine g_iconst (-1) 7 (gd rfl) rfl rfl ?_
        refine g_cmp_eq 10 29 (gd rfl) rfl rfl (fun c82x7 => ?_) (fun c82x7 => ?_)
        · skip
          have i82x7 := r_eq1 (-1) (-1) c82x7 i82x5 (in_c (-1) rfl) rfl
          refine g_iconst 0 30 (gd rfl) rfl rfl ?_
          refine g_ireturn (gd rfl) rfl (nb01 (in_w 0 1 (in_c 0 rfl) rfl)) (hp82 _ _ ?_)
          show GG _ _ _ _ _ _ _ _ [.int (Int32.ofInt 0)] _ _ _
          refine g_if_eq 88 171 (gd rfl) rfl rfl (fun c85 => ?_) (fun c85 => ?_)
          · skip
            refine g_iinc 174 (gd rfl) rfl rfl (Nat.le_of_ble_eq_true rfl) (fun z171 e171 => ?_)
            have i171 := in_add 1 160 e171 i77 (in_c 1 rfl) rfl rfl
            refine g_goto 72 (gd rfl) rfl ?_
            have n72 : (w72_65_17).toInt = 0 := by first | exact n72_0 | (have a0 := oa6 i77a ro_32_1 ro_32_0 ((inv_F hIc72 0 32 rfl v72_65_17)) i77 i171; have a6 := t_add e171 i77 (in_c 1 rfl) rfl; have a7 := in_u ((in_c 1 rfl)); omega)
            exact gg_w (by first | exact Nat.le_add_right _ _ | exact gw2 | exact gw3 | exact gwe rfl | exact gwf rfl | exact gwg rfl | exact gwh rfl | omega) (gg_f (gf_cons rfl (gf_cons rfl (gf_cons rfl gf_nil))) (ih72 sc72 z171 w72_65_17 hIc72 hFc72 (in_w 0 160 i171 rfl) v72_65_17 n72 (m_up mm72 (t_add e171 i77 (in_c 1 rfl) rfl) (in_w 1 1 (in_c 1 rfl) rfl))))
          · skip
            exact zn_ne c85 (in_c 0 rfl) rfl
        · skip
          have i82x7 := r_ne1 0 31 c82x7 i82x5 (in_c (-1) rfl) rfl
          refine g_aload_n 11 (gd rfl) rfl rfl ?_
          refine g_getA (q2 := 34) 14 (gd rfl) rfl rfl rfl rfl ?_
          refine g_iload_n 15 (gd rfl) rfl rfl ?_
          refine g_iaload 16 (gd rfl) rfl (n := 160) rfl (in_ix i77 rfl) (fun z82x15 e82x15 => ?_)
          have q82x15 : z82x5 = z82x15 := (e82x5).trans e82x15.symm
          subst q82x15
          refine g_aload_n 17 (gd rfl) rfl rfl ?_
          refine g_getA (q2 := 35) 20 (gd rfl) rfl rfl rfl rfl ?_
          refine g_iload_n 21 (gd rfl) rfl rfl ?_
          refine g_iaload 22 (gd rfl) rfl (n := 160) rfl (in_ix i77 rfl) (fun z82x21 e82x21 => ?_)
          have i82x21 := inv_I hIc72 (n := 160) (t := 0) 0 31 rfl (in_ix i77 rfl) rfl e82x21
          refine g_cmp_eq 25 29 (gd rfl) rfl rfl (fun c82x22 => ?_) (fun c82x22 => ?_)
          · skip
            refine g_iconst 0 30 (gd rfl) rfl rfl ?_
            refine g_ireturn (gd rfl) rfl (nb01 (in_w 0 1 (in_c 0 rfl) rfl)) (hp82 _ _ ?_)
            show GG _ _ _ _ _ _ _ _ [.int (Int32.ofInt 0)] _ _ _
            refine g_if_eq 88 171 (gd rfl) rfl rfl (fun c85 => ?_) (fun c85 => ?_)
            · skip
              refine g_iinc 174 (gd rfl) rfl rfl (Nat.le_of_ble_eq_true rfl) (fun z171 e171 => ?_)
              have i171 := in_add 1 160 e171 i77 (in_c 1 rfl) rfl rfl
              refine g_goto 72 (gd rfl) rfl ?_
              have n72 : (w72_65_17).toInt = 0 := by first | exact n72_0 | (have a0 := oa6 i77a ro_32_1 ro_32_0 ((inv_F hIc72 0 32 rfl v72_65_17)) i77 i171; have a6 := t_add e171 i77 (in_c 1 rfl) rfl; have a7 := in_u ((in_c 1 rfl)); omega)
              exact gg_w (by first | exact Nat.le_add_right _ _ | exact gw2 | exact gw3 | exact gwe rfl | exact gwf rfl | exact gwg rfl | exact gwh rfl | omega) (gg_f (gf_cons rfl (gf_cons rfl (gf_cons rfl gf_nil))) (ih72 sc72 z171 w72_65_17 hIc72 hFc72 (in_w 0 160 i171 rfl) v72_65_17 n72 (m_up mm72 (t_add e171 i77 (in_c 1 rfl) rfl) (in_w 1 1 (in_c 1 rfl) rfl))))
            · skip
              exact zn_ne c85 (in_c 0 rfl) rfl
          · skip
            refine g_iconst 1 26 (gd rfl) rfl rfl ?_
            refine g_goto 30 (gd rfl) rfl ?_
            refine g_ireturn (gd rfl) rfl (nb01 (in_w 0 1 (in_c 1 rfl) rfl)) (hp82 _ _ ?_)
            show GG _ _ _ _ _ _ _ _ [.int (Int32.ofInt 1)] _ _ _
            refine g_if_eq 88 171 (gd rfl) rfl rfl (fun c85 => ?_) (fun c85 => ?_)
            · skip
              exact zn_eq c85 (in_c 1 rfl) rfl
            · skip
              refine g_aload_n 89 (gd rfl) rfl rfl ?_
              refine g_aload_n 90 (gd rfl) rfl rfl ?_
              refine g_getA (q2 := 34) 93 (gd rfl) rfl rfl rfl rfl ?_
              refine g_iload_n 94 (gd rfl) rfl rfl ?_
              refine g_iaload 95 (gd rfl) rfl (n := 160) rfl (in_ix i77 rfl) (fun z94 e94 => ?_)
              have q94 : z82x5 = z94 := (e82x5).trans e94.symm
              subst q94
              refine g_calls (As := [.ref (A 32), .int z82x5]) (r := []) 98 (gd rfl) rfl rfl rfl rfl rfl (Nat.le_of_ble_eq_true rfl) (mc := 0) (ms := 0) (Nat.zero_le _) (Nat.zero_le _) (P := fun v u => _) ?_ (fun v u h => h)
              intro po95 xx95 hp95 hx95
              refine g_enter2 (k := 90) (N := 300) (by first | exact dq1 hd rfl | exact dq0 hd rfl | exact dq2 hd rfl | exact dq3 hd rfl | omega) rfl (Nat.le_of_ble_eq_true rfl) ?_
              refine g_aload_n 1 (gd rfl) rfl rfl ?_
              refine g_getA (q2 := 33) 4 (gd rfl) rfl rfl rfl rfl ?_
              refine g_iload_n 5 (gd rfl) rfl rfl ?_
              refine g_iaload 6 (gd rfl) rfl (n := 32) rfl (in_ix i82x7 rfl) (fun z95x5 e95x5 => ?_)
              have i95x5 := inv_I hIc72 (n := 32) (t := 0) 0 25 rfl (in_ix i82x7 rfl) rfl e95x5
              refine g_bipush 13 8 (gd rfl) rfl rfl ?_
              refine g_cmp_ge 11 15 (gd rfl) rfl rfl (fun c95x8 => ?_) (fun c95x8 => ?_)
              · skip
                have i95x8 := r_le2 13 25 c95x8 (in_c 13 rfl) i95x5 rfl
                refine g_iconst 0 16 (gd rfl) rfl rfl ?_
                refine g_ireturn (gd rfl) rfl (nb01 (in_w 0 1 (in_c 0 rfl) rfl)) (hp95 _ _ ?_)
                show GG _ _ _ _ _ _ _ _ [.int (Int32.ofInt 0)] _ _ _
                refine g_aload_n 99 (gd rfl) rfl rfl ?_
                refine g_aload_n 100 (gd rfl) rfl rfl ?_
                refine g_getA (q2 := 35) 103 (gd rfl) rfl rfl rfl rfl ?_
                refine g_iload_n 104 (gd rfl) rfl rfl ?_
                refine g_iaload 105 (gd rfl) rfl (n := 160) rfl (in_ix i77 rfl) (fun z104 e104 => ?_)
                have q104 : z82x21 = z104 := (e82x21).trans e104.symm
                subst q104
                refine g_calls (As := [.ref (A 32), .int z82x21]) (r := [.int (Int32.ofInt 0)]) 108 (gd rfl) rfl rfl rfl rfl rfl (Nat.le_of_ble_eq_true rfl) (mc := 0) (ms := 0) (Nat.zero_le _) (Nat.zero_le _) (P := fun v u => _) ?_ (fun v u h => h)
                intro po105 xx105 hp105 hx105
                refine g_enter2 (k := 90) (N := 300) (by first | exact dq1 hd rfl | exact dq0 hd rfl | exact dq2 hd rfl | exact dq3 hd rfl | omega) rfl (Nat.le_of_ble_eq_true rfl) ?_
                refine g_aload_n 1 (gd rfl) rfl rfl ?_
                refine g_getA (q2 := 33) 4 (gd rfl) rfl rfl rfl rfl ?_
                refine g_iload_n 5 (gd rfl) rfl rfl ?_
                refine g_iaload 6 (gd rfl) rfl (n := 32) rfl (in_ix i82x21 rfl) (fun z105x5 e105x5 => ?_)
                have i105x5 := inv_I hIc72 (n := 32) (t := 0) 0 25 rfl (in_ix i82x21 rfl) rfl e105x5
                refine g_bipush 13 8 (gd rfl) rfl rfl ?_
                refine g_cmp_ge 11 15 (gd rfl) rfl rfl (fun c105x8 => ?_) (fun c105x8 => ?_)
                · skip
                  have i105x8 := r_le2 13 25 c105x8 (in_c 13 rfl) i105x5 rfl
                  refine g_iconst 0 16 (gd rfl) rfl rfl ?_
                  refine g_ireturn (gd rfl) rfl (nb01 (in_w 0 1 (in_c 0 rfl) rfl)) (hp105 _ _ ?_)
                  show GG _ _ _ _ _ _ _ _ [.int (Int32.ofInt 0), .int (Int32.ofInt 0)] _ _ _
                  refine g_cmp_eq 111 171 (gd rfl) rfl rfl (fun c108 => ?_) (fun c108 => ?_)
                  · skip
                    refine g_iinc 174 (gd rfl) rfl rfl (Nat.le_of_ble_eq_true rfl) (fun z171 e171 => ?_)
                    have i171 := in_add 1 160 e171 i77 (in_c 1 rfl) rfl rfl
                    refine g_goto 72 (gd rfl) rfl ?_
                    have n72 : (w72_65_17).toInt = 0 := by first | exact n72_0 | (have a0 := oa6 i77a ro_32_1 ro_32_0 ((inv_F hIc72 0 32 rfl v72_65_17)) i77 i171; have a6 := t_add e171 i77 (in_c 1 rfl) rfl; have a7 := in_u ((in_c 1 rfl)); omega)
                    exact gg_w (by first | exact Nat.le_add_right _ _ | exact gw2 | exact gw3 | exact gwe rfl | exact gwf rfl | exact gwg rfl | exact gwh rfl | omega) (gg_f (gf_cons rfl (gf_cons rfl (gf_cons rfl gf_nil))) (ih72 sc72 z171 w72_65_17 hIc72 hFc72 (in_w 0 160 i171 rfl) v72_65_17 n72 (m_up mm72 (t_add e171 i77 (in_c 1 rfl) rfl) (in_w 1 1 (in_c 1 rfl) rfl))))
                  · skip
                    exact n_ne c108 (in_c 0 rfl) (in_c 0 rfl) rfl
                · skip
                  have i105x8 := r_lt1 0 12 c105x8 i105x5 (in_c 13 rfl) rfl
                  refine g_iconst 1 12 (gd rfl) rfl rfl ?_
                  refine g_goto 16 (gd rfl) rfl ?_
                  refine g_ireturn (gd rfl) rfl (nb01 (in_w 0 1 (in_c 1 rfl) rfl)) (hp105 _ _ ?_)
                  show GG _ _ _ _ _ _ _ _ [.int (Int32.ofInt 1), .int (Int32.ofInt 0)] _ _ _
                  refine g_cmp_eq 111 171 (gd rfl) rfl rfl (fun c108 => ?_) (fun c108 => ?_)
                  · skip
                    exact n_eq c108 (in_c 0 rfl) (in_c 1 rfl) rfl
                  · skip
                    refine g_aload_n 112 (gd rfl) rfl rfl ?_
                    refine g_aload_n 113 (gd rfl) rfl rfl ?_
                    refine g_getA (q2 := 34) 116 (gd rfl) rfl rfl rfl rfl ?_
                    refine g_iload_n 117 (gd rfl) rfl rfl ?_
                    refine g_iaload 118 (gd rfl) rfl (n := 160) rfl (in_ix i77 rfl) (fun z117 e117 => ?_)
                    have q117 : z82x5 = z117 := (e82x5).trans e117.symm
                    subst q117
                    refine g_calls (As := [.ref (A 32), .int z82x5]) (r := []) 121 (gd rfl) rfl rfl rfl rfl rfl (Nat.le_of_ble_eq_true rfl) (mc := 0) (ms := 0) (Nat.zero_le _) (Nat.zero_le _) (P := fun v u => _) ?_ (fun v u h => h)
                    intro po118 xx118 hp118 hx118
                    refine g_enter2 (k := 90) (N := 300) (by first | exact dq1 hd rfl | exact dq0 hd rfl | exact dq2 hd rfl | exact dq3 hd rfl | omega) rfl (Nat.le_of_ble_eq_true rfl) ?_
                    refine g_aload_n 1 (gd rfl) rfl rfl ?_
                    refine g_getA (q2 := 33) 4 (gd rfl) rfl rfl rfl rfl ?_
                    refine g_iload_n 5 (gd rfl) rfl rfl ?_
                    refine g_iaload 6 (gd rfl) rfl (n := 32) rfl (in_ix i82x7 rfl) (fun z118x5 e118x5 => ?_)
                    have q118x5 : z95x5 = z118x5 := (e95x5).trans e118x5.symm
                    subst q118x5
                    refine g_bipush 13 8 (gd rfl) rfl rfl ?_
                    refine g_cmp_ge 11 15 (gd rfl) rfl rfl (fun c118x8 => ?_) (fun c118x8 => ?_)
                    · skip
                      refine g_iconst 0 16 (gd rfl) rfl rfl ?_
                      refine g_ireturn (gd rfl) rfl (nb01 (in_w 0 1 (in_c 0 rfl) rfl)) (hp118 _ _ ?_)
                      show GG _ _ _ _ _ _ _ _ [.int (Int32.ofInt 0)] _ _ _
                      refine g_istore_n 122 (gd rfl) rfl (Nat.le_of_ble_eq_true rfl) ?_
                      refine g_aload_n 123 (gd rfl) rfl rfl ?_
                      refine g_iload_n 124 (gd rfl) rfl rfl ?_
                      refine g_if_eq 127 136 (gd rfl) rfl rfl (fun c124 => ?_) (fun c124 => ?_)
                      · skip
                        refine g_aload_n 137 (gd rfl) rfl rfl ?_
                        refine g_getA (q2 := 35) 140 (gd rfl) rfl rfl rfl rfl ?_
                        refine g_iload_n 141 (gd rfl) rfl rfl ?_
                        refine g_iaload 142 (gd rfl) rfl (n := 160) rfl (in_ix i77 rfl) (fun z141 e141 => ?_)
                        have q141 : z82x21 = z141 := (e82x21).trans e141.symm
                        subst q141
                        refine g_iload_n 143 (gd rfl) rfl rfl ?_
                        refine g_if_eq 146 155 (gd rfl) rfl rfl (fun c143 => ?_) (fun c143 => ?_)
                        · skip
                          refine g_aload_n 156 (gd rfl) rfl rfl ?_
                          refine g_getA (q2 := 34) 159 (gd rfl) rfl rfl rfl rfl ?_
                          refine g_iload_n 160 (gd rfl) rfl rfl ?_
                          refine g_iaload 161 (gd rfl) rfl (n := 160) rfl (in_ix i77 rfl) (fun z160 e160 => ?_)
                          have q160 : z82x5 = z160 := (e82x5).trans e160.symm
                          subst q160
                          refine g_aload_n 162 (gd rfl) rfl rfl ?_
                          refine g_getA (q2 := 36) 165 (gd rfl) rfl rfl rfl rfl ?_
                          refine g_iload_n 166 (gd rfl) rfl rfl ?_
                          refine g_iaload 167 (gd rfl) rfl (n := 160) rfl (in_ix i77 rfl) (fun z166 e166 => ?_)
                          have i166 := inv_I hIc72 (n := 160) (t := 0) (-1000000) 1000000 rfl (in_ix i77 rfl) rfl e166
                          refine g_iconst 1 168 (gd rfl) rfl rfl ?_
                          refine g_callv (X := _) (As := [.int z82x21, .int z82x5, .int z166, .int (Int32.ofInt 1)]) (r := []) (b := A 65) (q := 65) 171 (gd rfl) rfl rfl rfl rfl rfl (ww_o rfl) (Nat.le_of_ble_eq_true rfl) (Nat.zero_le _) (Nat.zero_le _) (k_84_65 (by first | exact dq1 hd rfl | exact dq0 hd rfl | exact dq2 hd rfl | exact dq3 hd rfl | omega) hIc72 (in_w 0 31 i82x21 rfl) (in_w 0 31 i82x7 rfl) (in_w (-1000000) 1000000 i166 rfl) (in_w 0 1000000 (in_c 1 rfl) rfl)) (fun e u h => h) (fun v u h => ?_)
                          obtain ⟨s168, hI168, hF168, rfl, rfl⟩ := h
                          show GG _ _ _ _ _ _ _ _ [] _ _ _
                          refine g_iinc 174 (gd rfl) rfl rfl (Nat.le_of_ble_eq_true rfl) (fun z171 e171 => ?_)
                          have i171 := in_add 1 160 e171 i77 (in_c 1 rfl) rfl rfl
                          refine g_goto 72 (gd rfl) rfl ?_
                          have v72 : w72_65_17 = s168.2.2.1 65 17 := fr_F (v72_65_17) hF168 rfl
                          have n72 : (w72_65_17).toInt = 0 := by first | exact n72_0 | (have a0 := oa7 i77a ro_32_1 ro_32_0 ((inv_F hIc72 0 32 rfl v72_65_17)) i77 ((in_c 0 rfl)) i171; have a7 := t_add e171 i77 (in_c 1 rfl) rfl; have a8 := in_u ((in_c 1 rfl)); omega)
                          exact gg_w (by first | exact Nat.le_add_right _ _ | exact gw2 | exact gw3 | exact gwe rfl | exact gwf rfl | exact gwg rfl | exact gwh rfl | omega) (gg_f (gf_cons rfl (gf_cons rfl (gf_cons rfl gf_nil))) (ih72 s168 z171 w72_65_17 hI168 (fr_tr rfl hFc72 hF168) (in_w 0 160 i171 rfl) v72 n72 (m_up mm72 (t_add e171 i77 (in_c 1 rfl) rfl) (in_w 1 1 (in_c 1 rfl) rfl))))
                        · skip
                          exact zn_ne c143 (in_c 0 rfl) rfl
                      · skip
                        exact zn_ne c124 (in_c 0 rfl) rfl
                    · skip
                      exact n_lt c118x8 i95x8 (in_c 13 rfl) rfl
              · skip
                have i95x8 := r_lt1 0 12 c95x8 i95x5 (in_c 13 rfl) rfl
                refine g_iconst 1 12 (gd rfl) rfl rfl ?_
                refine g_goto 16 (gd rfl) rfl ?_
                refine g_ireturn (gd rfl) rfl (nb01 (in_w 0 1 (in_c 1 rfl) rfl)) (hp95 _ _ ?_)
                show GG _ _ _ _ _ _ _ _ [.int (Int32.ofInt 1)] _ _ _
                refine g_aload_n 99 (gd rfl) rfl rfl ?_
                refine g_aload_n 100 (gd rfl) rfl rfl ?_
                refine g_getA (q2 := 35) 103 (gd rfl) rfl rfl rfl rfl ?_
                refine g_iload_n 104 (gd rfl) rfl rfl ?_
                refine g_iaload 105 (gd rfl) rfl (n := 160) rfl (in_ix i77 rfl) (fun z104 e104 => ?_)
                have q104 : z82x21 = z104 := (e82x21).trans e104.symm
                subst q104
                refine g_calls (As := [.ref (A 32), .int z82x21]) (r := [.int (Int32.ofInt 1)]) 108 (gd rfl) rfl rfl rfl rfl rfl (Nat.le_of_ble_eq_true rfl) (mc := 0) (ms := 0) (Nat.zero_le _) (Nat.zero_le _) (P := fun v u => _) ?_ (fun v u h => h)
                intro po105 xx105 hp105 hx105
                refine g_enter2 (k := 90) (N := 300) (by first | exact dq1 hd rfl | exact dq0 hd rfl | exact dq2 hd rfl | exact dq3 hd rfl | omega) rfl (Nat.le_of_ble_eq_true rfl) ?_
                refine g_aload_n 1 (gd rfl) rfl rfl ?_
                refine g_getA (q2 := 33) 4 (gd rfl) rfl rfl rfl rfl ?_
                refine g_iload_n 5 (gd rfl) rfl rfl ?_
                refine g_iaload 6 (gd rfl) rfl (n := 32) rfl (in_ix i82x21 rfl) (fun z105x5 e105x5 => ?_)
                have i105x5 := inv_I hIc72 (n := 32) (t := 0) 0 25 rfl (in_ix i82x21 rfl) rfl e105x5
                refine g_bipush 13 8 (gd rfl) rfl rfl ?_
                refine g_cmp_ge 11 15 (gd rfl) rfl rfl (fun c105x8 => ?_) (fun c105x8 => ?_)
                · skip
                  have i105x8 := r_le2 13 25 c105x8 (in_c 13 rfl) i105x5 rfl
                  refine g_iconst 0 16 (gd rfl) rfl rfl ?_
                  refine g_ireturn (gd rfl) rfl (nb01 (in_w 0 1 (in_c 0 rfl) rfl)) (hp105 _ _ ?_)
                  show GG _ _ _ _ _ _ _ _ [.int (Int32.ofInt 0), .int (Int32.ofInt 1)] _ _ _
                  refine g_cmp_eq 111 171 (gd rfl) rfl rfl (fun c108 => ?_) (fun c108 => ?_)
                  · skip
                    exact n_eq c108 (in_c 1 rfl) (in_c 0 rfl) rfl
                  · skip
                    refine g_aload_n 112 (gd rfl) rfl rfl ?_
                    refine g_aload_n 113 (gd rfl) rfl rfl ?_
                    refine g_getA (q2 := 34) 116 (gd rfl) rfl rfl rfl rfl ?_
                    refine g_iload_n 117 (gd rfl) rfl rfl ?_
                    refine g_iaload 118 (gd rfl) rfl (n := 160) rfl (in_ix i77 rfl) (fun z117 e117 => ?_)
                    have q117 : z82x5 = z117 := (e82x5).trans e117.symm
                    subst q117
                    refine g_calls (As := [.ref (A 32), .int z82x5]) (r := []) 121 (gd rfl) rfl rfl rfl rfl rfl (Nat.le_of_ble_eq_true rfl) (mc := 0) (ms := 0) (Nat.zero_le _) (Nat.zero_le _) (P := fun v u => _) ?_ (fun v u h => h)
                    intro po118 xx118 hp118 hx118
                    refine g_enter2 (k := 90) (N := 300) (by first | exact dq1 hd rfl | exact dq0 hd rfl | exact dq2 hd rfl | exact dq3 hd rfl | omega) rfl (Nat.le_of_ble_eq_true rfl) ?_
                    refine g_aload_n 1 (gd rfl) rfl rfl ?_
                    refine g_getA (q2 := 33) 4 (gd rfl) rfl rfl rfl rfl ?_
                    refine g_iload_n 5 (gd rfl) rfl rfl ?_
                    refine g_iaload 6 (gd rfl) rfl (n := 32) rfl (in_ix i82x7 rfl) (fun z118x5 e118x5 => ?_)
                    have q118x5 : z95x5 = z118x5 := (e95x5).trans e118x5.symm
                    subst q118x5
                    refine g_bipush 13 8 (gd rfl) rfl rfl ?_
                    refine g_cmp_ge 11 15 (gd rfl) rfl rfl (fun c118x8 => ?_) (fun c118x8 => ?_)
                    · skip
                      exact n_le c118x8 (in_c 13 rfl) i95x8 rfl
                    · skip
                      refine g_iconst 1 12 (gd rfl) rfl rfl ?_
                      refine g_goto 16 (gd rfl) rfl ?_
                      refine g_ireturn (gd rfl) rfl (nb01 (in_w 0 1 (in_c 1 rfl) rfl)) (hp118 _ _ ?_)
                      show GG _ _ _ _ _ _ _ _ [.int (Int32.ofInt 1)] _ _ _
                      refine g_istore_n 122 (gd rfl) rfl (Nat.le_of_ble_eq_true rfl) ?_
                      refine g_aload_n 123 (gd rfl) rfl rfl ?_
                      refine g_iload_n 124 (gd rfl) rfl rfl ?_
                      refine g_if_eq 127 136 (gd rfl) rfl rfl (fun c124 => ?_) (fun c124 => ?_)
                      · skip
                        exact zn_eq c124 (in_c 1 rfl) rfl
                      · skip
                        refine g_aload_n 128 (gd rfl) rfl rfl ?_
                        refine g_getA (q2 := 34) 131 (gd rfl) rfl rfl rfl rfl ?_
                        refine g_iload_n 132 (gd rfl) rfl rfl ?_
                        refine g_iaload 133 (gd rfl) rfl (n := 160) rfl (in_ix i77 rfl) (fun z132 e132 => ?_)
                        have q132 : z82x5 = z132 := (e82x5).trans e132.symm
                        subst q132
                        refine g_goto 142 (gd rfl) rfl ?_
                        refine g_iload_n 143 (gd rfl) rfl rfl ?_
                        refine g_if_eq 146 155 (gd rfl) rfl rfl (fun c143 => ?_) (fun c143 => ?_)
                        · skip
                          exact zn_eq c143 (in_c 1 rfl) rfl
                        · skip
                          refine g_aload_n 147 (gd rfl) rfl rfl ?_
                          refine g_getA (q2 := 35) 150 (gd rfl) rfl rfl rfl rfl ?_
                          refine g_iload_n 151 (gd rfl) rfl rfl ?_
                          refine g_iaload 152 (gd rfl) rfl (n := 160) rfl (in_ix i77 rfl) (fun z151 e151 => ?_)
                          have q151 : z82x21 = z151 := (e82x21).trans e151.symm
                          subst q151
                          refine g_goto 161 (gd rfl) rfl ?_
                          refine g_aload_n 162 (gd rfl) rfl rfl ?_
                          refine g_getA (q2 := 36) 165 (gd rfl) rfl rfl rfl rfl ?_
                          refine g_iload_n 166 (gd rfl) rfl rfl ?_
                          refine g_iaload 167 (gd rfl) rfl (n := 160) rfl (in_ix i77 rfl) (fun z166 e166 => ?_)
                          have i166 := inv_I hIc72 (n := 160) (t := 0) (-1000000) 1000000 rfl (in_ix i77 rfl) rfl e166
                          refine g_iconst 1 168 (gd rfl) rfl rfl ?_
                          refine g_callv (X := _) (As := [.int z82x5, .int z82x21, .int z166, .int (Int32.ofInt 1)]) (r := []) (b := A 65) (q := 65) 171 (gd rfl) rfl rfl rfl rfl rfl (ww_o rfl) (Nat.le_of_ble_eq_true rfl) (Nat.zero_le _) (Nat.zero_le _) (k_84_65 (by first | exact dq1 hd rfl | exact dq0 hd rfl | exact dq2 hd rfl | exact dq3 hd rfl | omega) hIc72 (in_w 0 31 i82x7 rfl) (in_w 0 31 i82x21 rfl) (in_w (-1000000) 1000000 i166 rfl) (in_w 0 1000000 (in_c 1 rfl) rfl)) (fun e u h => h) (fun v u h => ?_)
                          obtain ⟨s168, hI168, hF168, rfl, rfl⟩ := h
                          show GG _ _ _ _ _ _ _ _ [] _ _ _
                          refine g_iinc 174 (gd rfl) rfl rfl (Nat.le_of_ble_eq_true rfl) (fun z171 e171 => ?_)
                          have i171 := in_add 1 160 e171 i77 (in_c 1 rfl) rfl rfl
                          refine g_goto 72 (gd rfl) rfl ?_
                          have v72 : w72_65_17 = s168.2.2.1 65 17 := fr_F (v72_65_17) hF168 rfl
                          have n72 : (w72_65_17).toInt = 0 := by first | exact n72_0 | (have a0 := oa7 i77a ro_32_1 ro_32_0 ((inv_F hIc72 0 32 rfl v72_65_17)) i77 ((in_c 1 rfl)) i171; have a7 := t_add e171 i77 (in_c 1 rfl) rfl; omega)
                          exact gg_w (by first | exact Nat.le_add_right _ _ | exact gw2 | exact gw3 | exact gwe rfl | exact gwf rfl | exact gwg rfl | exact gwh rfl | omega) (gg_f (gf_cons rfl (gf_cons rfl (gf_cons rfl gf_nil))) (ih72 s168 z171 w72_65_17 hI168 (fr_tr rfl hFc72 hF168) (in_w 0 160 i171 rfl) v72 n72 (m_up mm72 (t_add e171 i77 (in_c 1 rfl) rfl) (in_w 1 1 (in_c 1 rfl) rfl))))
                · skip
                  have i105x8 := r_lt1 0 12 c105x8 i105x5 (in_c 13 rfl) rfl
                  refine g_iconst 1 12 (gd rfl) rfl rfl ?_
                  refine g_goto 16 (gd rfl) rfl ?_
                  refine g_ireturn (gd rfl) rfl (nb01 (in_w 0 1 (in_c 1 rfl) rfl)) (hp105 _ _ ?_)
                  show GG _ _ _ _ _ _ _ _ [.int (Int32.ofInt 1), .int (Int32.ofInt 1)] _ _ _
                  refine g_cmp_eq 111 171 (gd rfl) rfl rfl (fun c108 => ?_) (fun c108 => ?_)
                  · skip
                    refine g_iinc 174 (gd rfl) rfl rfl (Nat.le_of_ble_eq_true rfl) (fun z171 e171 => ?_)
                    have i171 := in_add 1 160 e171 i77 (in_c 1 rfl) rfl rfl
                    refine g_goto 72 (gd rfl) rfl ?_
                    have n72 : (w72_65_17).toInt = 0 := by first | exact n72_0 | (have a0 := oa6 i77a ro_32_1 ro_32_0 ((inv_F hIc72 0 32 rfl v72_65_17)) i77 i171; have a6 := t_add e171 i77 (in_c 1 rfl) rfl; have a7 := in_u ((in_c 1 rfl)); omega)
                    exact gg_w (by first | exact Nat.le_add_right _ _ | exact gw2 | exact gw3 | exact gwe rfl | exact gwf rfl | exact gwg rfl | exact gwh rfl | omega) (gg_f (gf_cons rfl (gf_cons rfl (gf_cons rfl gf_nil))) (ih72 sc72 z171 w72_65_17 hIc72 hFc72 (in_w 0 160 i171 rfl) v72_65_17 n72 (m_up mm72 (t_add e171 i77 (in_c 1 rfl) rfl) (in_w 1 1 (in_c 1 rfl) rfl))))
                  · skip
                    exact n_ne c108 (in_c 1 rfl) (in_c 1 rfl) rfl
  have ct37 : ∀ (k37 : Nat) (sc37 : GS) (y37_2 : Int32) (w37_65_17 : Int32), Inv sc37 → Fr fm_89_65_32 s sc37 → (In y37_2 0 32) → (w37_65_17 = sc37.2.2.1 65 17) → ((w37_65_17).toInt = 0) → 32 - (y37_2).toInt < (k37 : Int) → GG Z (d - 1) 89 post (gx xp) (174603 + k37 * 900) 37 (fun j => xlook j [(0, .ref (A 65)), (1, .ref (A 32)), (2, .int y37_2)]) [] (WW Z A sc37 ++ ex) 0 0 := by
    intro k37
    induction k37 with
    | zero => intro sc37 y37_2 w37_65_17 hIc37 hFc37 j37_2 v37_65_17 n37_0 mm37; exact m_no mm37 j37_2 rfl
    | succ k37 ih37 =>
      intro sc37 y37_2 w37_65_17 hIc37 hFc37 j37_2 v37_65_17 n37_0 mm37
      refine gg_w (M := 174603 + k37 * 900 + 900) gws ?_
      refine g_iload_n 38 (gd rfl) rfl rfl ?_
      refine g_aload_n 39 (gd rfl) rfl rfl ?_
      refine g_getI 42 (gd rfl) rfl rfl rfl (fun z39 e39 => ?_)
      have q39 : u_32_1 = z39 := (fr_F e_32_1 hFc37 rfl).trans e39.symm
      subst q39
      refine g_cmp_ge 45 70 (gd rfl) rfl rfl (fun c42 => ?_) (fun c42 => ?_)
      · skip
        refine g_iconst 0 71 (gd rfl) rfl rfl ?_
        refine g_istore_n 72 (gd rfl) rfl (Nat.le_of_ble_eq_true rfl) ?_
        have n72 : (w37_65_17).toInt = 0 := by first | exact n37_0 | (have a0 := oa6 ro_32_3 ro_32_1 ro_32_0 ((inv_F hIc37 0 32 rfl v37_65_17)) j37_2 ((in_c 0 rfl)); omega)
        exact gg_w (by first | exact Nat.le_add_right _ _ | exact gw2 | exact gw3 | exact gwe rfl | exact gwf rfl | exact gwg rfl | exact gwh rfl | omega) (gg_f (gf_cons rfl (gf_cons rfl (gf_cons rfl gf_nil))) (ct72 161 sc37 (Int32.ofInt 0) w37_65_17 hIc37 hFc37 (in_w 0 160 (in_c 0 rfl) rfl) v37_65_17 n72 (m_in 161 (in_w 0 160 (in_c 0 rfl) rfl) rfl)))
      · skip
        have i42 := r_lt1 0 31 c42 j37_2 ro_32_1 rfl
        have i42a := r_lt2 1 32 c42 j37_2 ro_32_1 rfl
        refine g_aload_n 46 (gd rfl) rfl rfl ?_
        refine g_getA (q2 := 74) 49 (gd rfl) rfl rfl rfl rfl ?_
        refine g_iload_n 50 (gd rfl) rfl rfl ?_
        refine g_aload_n 51 (gd rfl) rfl rfl ?_
        refine g_iload_n 52 (gd rfl) rfl rfl ?_
        refine g_calls (As := [.ref (A 32), .int y37_2]) (r := [.int y37_2, .ref (A 74)]) 55 (gd rfl) rfl rfl rfl rfl rfl (Nat.le_of_ble_eq_true rfl) (mc := 0) (ms := 0) (Nat.zero_le _) (Nat.zero_le _) (P := fun v u => _) ?_ (fun v u h => h)
        intro po52 xx52 hp52 hx52
        refine g_enter2 (k := 90) (N := 300) (by first | exact dq1 hd rfl | exact dq0 hd rfl | exact dq2 hd rfl | exact dq3 hd rfl | omega) rfl (Nat.le_of_ble_eq_true rfl) ?_
        refine g_aload_n 1 (gd rfl) rfl rfl ?_
        refine g_getA (q2 := 33) 4 (gd rfl) rfl rfl rfl rfl ?_
        refine g_iload_n 5 (gd rfl) rfl rfl ?_
        refine g_iaload 6 (gd rfl) rfl (n := 32) rfl (in_ix i42 rfl) (fun z52x5 e52x5 => ?_)
        have i52x5 := inv_I hIc37 (n := 32) (t := 0) 0 25 rfl (in_ix i42 rfl) rfl e52x5
        refine g_bipush 13 8 (gd rfl) rfl rfl ?_
        refine g_cmp_ge 11 15 (gd rfl) rfl rfl (fun c52x8 => ?_) (fun c52x8 => ?_)
        · skip
          have i52x8 := r_le2 13 25 c52x8 (in_c 13 rfl) i52x5 rfl
          refine g_iconst 0 16 (gd rfl) rfl rfl ?_
          refine g_ireturn (gd rfl) rfl (nb01 (in_w 0 1 (in_c 0 rfl) rfl)) (hp52 _ _ ?_)
          show GG _ _ _ _ _ _ _ _ [.int (Int32.ofInt 0), .int y37_2, .ref (A 74)] _ _ _
          refine g_if_eq 58 62 (gd rfl) rfl rfl (fun c55 => ?_) (fun c55 => ?_)
          · skip
            refine g_iconst (-1) 63 (gd rfl) rfl rfl ?_
            refine g_iastore 64 (gd rfl) rfl (n := 32) rfl (in_ix i42 rfl) ?_
            have hI63 := inv_sI (q := 74) (j := y37_2.toNatClampNeg) hIc37 rfl (in_w (-2147483648) 2147483647 (in_c (-1) rfl) rfl)
            refine g_iinc 67 (gd rfl) rfl rfl (Nat.le_of_ble_eq_true rfl) (fun z64 e64 => ?_)
            have i64 := in_add 1 32 e64 i42 (in_c 1 rfl) rfl rfl
            refine g_goto 37 (gd rfl) rfl ?_
            have v37 : w37_65_17 = (sI sc37 74 y37_2.toNatClampNeg (Int32.ofInt (-1))).2.2.1 65 17 := sI_F (v37_65_17)
            have n37 : (w37_65_17).toInt = 0 := by first | exact n37_0 | (have a0 := oa6 ro_32_3 i42a ro_32_0 ((inv_F hIc37 0 32 rfl v37_65_17)) i42 i64; have a6 := t_add e64 i42 (in_c 1 rfl) rfl; have a7 := in_u ((in_c 1 rfl)); omega)
            exact gg_w (by first | exact Nat.le_add_right _ _ | exact gw2 | exact gw3 | exact gwe rfl | exact gwf rfl | exact gwg rfl | exact gwh rfl | omega) (gg_f (gf_cons rfl (gf_cons rfl (gf_cons rfl gf_nil))) (ih37 (sI sc37 74 y37_2.toNatClampNeg (Int32.ofInt (-1))) z64 w37_65_17 hI63 (fr_sI rfl hFc37) (in_w 0 32 i64 rfl) v37 n37 (m_up mm37 (t_add e64 i42 (in_c 1 rfl) rfl) (in_w 1 1 (in_c 1 rfl) rfl))))
          · skip
            exact zn_ne c55 (in_c 0 rfl) rfl
        · skip
          have i52x8 := r_lt1 0 12 c52x8 i52x5 (in_c 13 rfl) rfl
          refine g_iconst 1 12 (gd rfl) rfl rfl ?_
          refine g_goto 16 (gd rfl) rfl ?_
          refine g_ireturn (gd rfl) rfl (nb01 (in_w 0 1 (in_c 1 rfl) rfl)) (hp52 _ _ ?_)
          show GG _ _ _ _ _ _ _ _ [.int (Int32.ofInt 1), .int y37_2, .ref (A 74)] _ _ _
          refine g_if_eq 58 62 (gd rfl) rfl rfl (fun c55 => ?_) (fun c55 => ?_)
          · skip
            exact zn_eq c55 (in_c 1 rfl) rfl
          · skip
            refine g_iconst 1 59 (gd rfl) rfl rfl ?_
            refine g_goto 63 (gd rfl) rfl ?_
            refine g_iastore 64 (gd rfl) rfl (n := 32) rfl (in_ix i42 rfl) ?_
            have hI63 := inv_sI (q := 74) (j := y37_2.toNatClampNeg) hIc37 rfl (in_w (-2147483648) 2147483647 (in_c 1 rfl) rfl)
            refine g_iinc 67 (gd rfl) rfl rfl (Nat.le_of_ble_eq_true rfl) (fun z64 e64 => ?_)
            have i64 := in_add 1 32 e64 i42 (in_c 1 rfl) rfl rfl
            refine g_goto 37 (gd rfl) rfl ?_
            have v37 : w37_65_17 = (sI sc37 74 y37_2.toNatClampNeg (Int32.ofInt 1)).2.2.1 65 17 := sI_F (v37_65_17)
            have n37 : (w37_65_17).toInt = 0 := by first | exact n37_0 | (have a0 := oa6 ro_32_3 i42a ro_32_0 ((inv_F hIc37 0 32 rfl v37_65_17)) i42 i64; have a6 := t_add e64 i42 (in_c 1 rfl) rfl; have a7 := in_u ((in_c 1 rfl)); omega)
            exact gg_w (by first | exact Nat.le_add_right _ _ | exact gw2 | exact gw3 | exact gwe rfl | exact gwf rfl | exact gwg rfl | exact gwh rfl | omega) (gg_f (gf_cons rfl (gf_cons rfl (gf_cons rfl gf_nil))) (ih37 (sI sc37 74 y37_2.toNatClampNeg (Int32.ofInt 1)) z64 w37_65_17 hI63 (fr_sI rfl hFc37) (in_w 0 32 i64 rfl) v37 n37 (m_up mm37 (t_add e64 i42 (in_c 1 rfl) rfl) (in_w 1 1 (in_c 1 rfl) rfl))))
  refine g_enter2 (k := 89) (N := 205203) (by first | exact dq1 hd rfl | exact dq0 hd rfl | exact dq2 hd rfl | exact dq3 hd rfl | omega) rfl (Nat.le_of_ble_eq_true rfl) ?_
  refine g_aload_n 1 (gd rfl) rfl rfl ?_
  refine g_getI 4 (gd rfl) rfl rfl rfl (fun z1 e1 => ?_)
  have i1 := inv_F hI (-1) 4000 rfl e1
  refine g_aload_n 5 (gd rfl) rfl rfl ?_
  refine g_getI 8 (gd rfl) rfl rfl rfl (fun z5 e5 => ?_)
  have q5 : u_32_0 = z5 := (e_32_0).trans e5.symm
  subst q5
  refine g_cmp_ne 11 12 (gd rfl) rfl rfl (fun c8 => ?_) (fun c8 => ?_)
  · skip
    refine g_aload_n 13 (gd rfl) rfl rfl ?_
    refine g_aload_n 14 (gd rfl) rfl rfl ?_
    refine g_getI 17 (gd rfl) rfl rfl rfl (fun z14 e14 => ?_)
    have q14 : u_32_0 = z14 := (e_32_0).trans e14.symm
    subst q14
    refine g_putI 20 (gd rfl) rfl rfl rfl rfl ?_
    have hI17 := inv_sF (q := 65) (j := 16) hI rfl (in_w (-1) 4000 ro_32_0 rfl)
    refine g_aload_n 21 (gd rfl) rfl rfl ?_
    refine g_iconst 0 22 (gd rfl) rfl rfl ?_
    refine g_putI 25 (gd rfl) rfl rfl rfl rfl ?_
    have hI22 := inv_sF (q := 65) (j := 17) hI17 rfl (in_w 0 32 (in_c 0 rfl) rfl)
    refine g_aload_n 26 (gd rfl) rfl rfl ?_
    refine g_lconst 0 27 (gd rfl) rfl rfl ?_
    refine g_putL 30 (gd rfl) rfl rfl rfl rfl ?_
    have hI27 := inv_sG (q := 65) (j := 18) (x := (Int64.ofInt 0)) hI22 rfl (l_rng (Int64.ofInt 0))
    refine g_aload_n 31 (gd rfl) rfl rfl ?_
    refine g_iconst 0 32 (gd rfl) rfl rfl ?_
    refine g_putI 35 (gd rfl) rfl rfl rfl rfl ?_
    have hI32 := inv_sF (q := 65) (j := 8) hI27 rfl (in_w 0 160 (in_c 0 rfl) rfl)
    refine g_iconst 0 36 (gd rfl) rfl rfl ?_
    refine g_istore_n 37 (gd rfl) rfl (Nat.le_of_ble_eq_true rfl) ?_
    have v37 : (Int32.ofInt 0) = (sF (sG (sF (sF s 65 16 u_32_0) 65 17 (Int32.ofInt 0)) 65 18 (Int64.ofInt 0)) 65 8 (Int32.ofInt 0)).2.2.1 65 17 := sF_ne rfl (sG_F (sF_get))
    have n37 : ((Int32.ofInt 0)).toInt = 0 := by have a0 := oa4 ro_32_3 ro_32_1 ro_32_0 ((in_c 0 rfl)); omega
    exact gg_w (by first | exact Nat.le_of_ble_eq_true rfl | omega) (gg_f (gf_cons rfl (gf_cons rfl (gf_cons rfl gf_nil))) (ct37 33 (sF (sG (sF (sF s 65 16 u_32_0) 65 17 (Int32.ofInt 0)) 65 18 (Int64.ofInt 0)) 65 8 (Int32.ofInt 0)) (Int32.ofInt 0) (Int32.ofInt 0) hI32 (fr_sF rfl (fr_sG rfl (fr_sF rfl (fr_sF rfl fr_rf)))) (in_w 0 32 (in_c 0 rfl) rfl) v37 n37 (m_in 33 (in_w 0 32 (in_c 0 rfl) rfl) rfl)))
  · skip
    have i8 := r_eq1 0 4000 c8 i1 ro_32_0 rfl
    exact g_return (gd rfl) rfl (hP _ _ ⟨s, hI, fr_rf, rfl, rfl⟩)

def fm_113_86_2 : FM := ([9, 10, 11, 12, 13, 14, 15, 89, 90, 91, 92, 93], [], [(2, 4), (86, 4), (86, 5)], [])
/-- GraphHouse$Groups.settle -/
theorem k_113_86_2 {Z : AmZ} {A : Nat → Nat} {s : GS} {ex : va_W} {d : Nat} {X : AmX}  (hd : 6 ≤ d) (hI : Inv s)  : GC Z d 113 [.ref (A 86), .ref (A 2)] (WW Z A s ++ ex) 0 0 (fun v u => ∃ t : GS, Inv t ∧ Fr fm_113_86_2 s t ∧ v = none ∧ u = WW Z A t ++ ex) X := by
  intro post xp hP hX
  obtain ⟨u_2_0, e_2_0⟩ : ∃ w, w = s.2.2.1 2 0 := ⟨_, rfl⟩
  have ro_2_0 := inv_F hI 0 4000 rfl e_2_0
  obtain ⟨u_2_1, e_2_1⟩ : ∃ w, w = s.2.2.1 2 1 := ⟨_, rfl⟩
  have ro_2_1 := inv_F hI 0 32 rfl e_2_1
  have ct29 : ∀ (k29 : Nat) (sc29 : GS) (y29_2 : Int32) (y29_3 : Int32) (w29_2_4 : Int32) (w29_2_0 : Int32), Inv sc29 → Fr fm_113_86_2 s sc29 → (In y29_2 0 1) → (In y29_3 0 20) → (w29_2_4 = sc29.2.2.1 2 4) → (w29_2_0 = sc29.2.2.1 2 0) → ((w29_2_4).toInt = (w29_2_0).toInt) → 20 - (y29_3).toInt < (k29 : Int) → GG Z (d - 1) 113 post (gx xp) (1 + k29 * 32401) 29 (fun j => xlook j [(0, .ref (A 86)), (1, .ref (A 2)), (2, .int y29_2), (3, .int y29_3)]) [] (WW Z A sc29 ++ ex) 0 0 := by
    intro k29
    induction k29 with
    | zero => intro sc29 y29_2 y29_3 w29_2_4 w29_2_0 hIc29 hFc29 j29_2 j29_3 v29_2_4 v29_2_0 n29_0 mm29; exact m_no mm29 j29_3 rfl
    | succ k29 ih29 =>
      intro sc29 y29_2 y29_3 w29_2_4 w29_2_0 hIc29 hFc29 j29_2 j29_3 v29_2_4 v29_2_0 n29_0 mm29
      refine gg_w (M := 1 + k29 * 32401 + 32401) gws ?_
      have ct44 : ∀ (k44 : Nat) (sc44 : GS) (y44_2 : Int32) (y44_4 : Int32) (w44_2_4 : Int32) (w44_2_0 : Int32), Inv sc44 → Fr fm_113_86_2 s sc44 → (In y44_2 0 1) → (In y29_3 0 19) → (In y44_4 0 32) → (w44_2_4 = sc44.2.2.1 2 4) → (w44_2_0 = sc44.2.2.1 2 0) → ((w44_2_4).toInt = (w44_2_0).toInt) → 32 - (y44_4).toInt < (k44 : Int) → GG Z (d - 1) 113 post (gx xp) (1 + k29 * 32401 + 1 + k44 * 900) 44 (fun j => xlook j [(0, .ref (A 86)), (1, .ref (A 2)), (2, .int y44_2), (3, .int y29_3), (4, .int y44_4)]) [] (WW Z A sc44 ++ ex) 0 0 := by
        intro k44
        induction k44 with
        | zero => intro sc44 y44_2 y44_4 w44_2_4 w44_2_0 hIc44 hFc44 j44_2 j44_3 j44_4 v44_2_4 v44_2_0 n44_0 mm44; exact m_no mm44 j44_4 rfl
        | succ k44 ih44 =>
          intro sc44 y44_2 y44_4 w44_2_4 w44_2_0 hIc44 hFc44 j44_2 j44_3 j44_4 v44_2_4 v44_2_0 n44_0 mm44
          refine gg_w (M := 1 + k29 * 32401 + 1 + k44 * 900 + 900) gws ?_
          refine g_iload 46 (gd rfl) rfl rfl ?_
          refine g_aload_n 47 (gd rfl) rfl rfl ?_
          refine g_getI 50 (gd rfl) rfl rfl rfl (fun z47 e47 => ?_)
          have q47 : u_2_1 = z47 := (fr_F e_2_1 hFc44 rfl).trans e47.symm
          subst q47
          refine g_cmp_ge 53 69 (gd rfl) rfl rfl (fun c50 => ?_) (fun c50 => ?_)
          · skip
            refine g_iinc 72 (gd rfl) rfl rfl (Nat.le_of_ble_eq_true rfl) (fun z69 e69 => ?_)
            have i69 := in_add 1 20 e69 j44_3 (in_c 1 rfl) rfl rfl
            refine g_goto 29 (gd rfl) rfl ?_
            have n29 : (w44_2_4).toInt = (w44_2_0).toInt := by first | exact n44_0 | (have a0 := oa7 j44_3 ro_2_1 ((inv_F hIc44 0 4000 rfl v44_2_0)) ((inv_F hIc44 (-1) 4000 rfl v44_2_4)) j44_4 j44_2 i69; have a7 := t_add e69 j44_3 (in_c 1 rfl) rfl; have a8 := in_u ((in_c 1 rfl)); omega)
            exact gg_w (by first | exact Nat.le_add_right _ _ | exact gw2 | exact gw3 | exact gwe rfl | exact gwf rfl | exact gwg rfl | exact gwh rfl | omega) (gg_f (gf_cons rfl (gf_cons rfl (gf_cons rfl (gf_cons rfl gf_nil)))) (ih29 sc44 y44_2 z69 w44_2_4 w44_2_0 hIc44 hFc44 (in_w 0 1 j44_2 rfl) (in_w 0 20 i69 rfl) v44_2_4 v44_2_0 n29 (m_up mm29 (t_add e69 j44_3 (in_c 1 rfl) rfl) (in_w 1 1 (in_c 1 rfl) rfl))))
          · skip
            have i50 := r_lt1 0 31 c50 j44_4 ro_2_1 rfl
            have i50a := r_lt2 1 32 c50 j44_4 ro_2_1 rfl
            refine g_iload_n 54 (gd rfl) rfl rfl ?_
            refine g_aload_n 55 (gd rfl) rfl rfl ?_
            refine g_aload_n 56 (gd rfl) rfl rfl ?_
            refine g_iload 58 (gd rfl) rfl rfl ?_
            have n58 : (w44_2_4).toInt = (w44_2_0).toInt := by first | exact n44_0 | (have a0 := oa6 j44_3 i50a ((inv_F hIc44 0 4000 rfl v44_2_0)) ((inv_F hIc44 (-1) 4000 rfl v44_2_4)) i50 j44_2; omega)
            refine g_callv (X := _) (As := [.ref (A 2), .int y44_4]) (r := [.int y44_2]) (b := A 86) (q := 86) 61 (gd rfl) rfl rfl rfl rfl rfl (ww_o rfl) (Nat.le_of_ble_eq_true rfl) (Nat.zero_le _) (Nat.zero_le _) (k_115_86_2 (by first | exact dq1 hd rfl | exact dq0 hd rfl | exact dq2 hd rfl | exact dq3 hd rfl | omega) hIc44 (in_w 0 31 i50 rfl) v44_2_4 v44_2_0 n58) (fun e u h => h) (fun v u h => ?_)
            obtain ⟨s58, hI58, hF58, z58, rfl, rfl, i58⟩ := h
            show GG _ _ _ _ _ _ _ _ [.int z58, .int y44_2] _ _ _
            refine g_ior 62 (gd rfl) rfl (fun z61 e61 => ?_)
            have i61 := in_or 1 e61 (in_w 0 1 j44_2 rfl) (in_w 0 1 i58 rfl) rfl
            refine g_istore_n 63 (gd rfl) rfl (Nat.le_of_ble_eq_true rfl) ?_
            refine g_iinc 66 (gd rfl) rfl rfl (Nat.le_of_ble_eq_true rfl) (fun z63 e63 => ?_)
            have i63 := in_add 1 32 e63 i50 (in_c 1 rfl) rfl rfl
            refine g_goto 44 (gd rfl) rfl ?_
            have v44 : w44_2_4 = s58.2.2.1 2 4 := fr_F (v44_2_4) hF58 rfl
            have v44a : w44_2_0 = s58.2.2.1 2 0 := fr_F (v44_2_0) hF58 rfl
            have n44 : (w44_2_4).toInt = (w44_2_0).toInt := by first | exact n44_0 | (have a0 := oa7 j44_3 i50a ((inv_F hIc44 0 4000 rfl v44_2_0)) ((inv_F hIc44 (-1) 4000 rfl v44_2_4)) i50 j44_2 i63; have a7 := t_add e63 i50 (in_c 1 rfl) rfl; have a8 := oa2 ((in_c 1 rfl)) i61; omega)
            exact gg_w (by first | exact Nat.le_add_right _ _ | exact gw2 | exact gw3 | exact gwe rfl | exact gwf rfl | exact gwg rfl | exact gwh rfl | omega) (gg_f (gf_cons rfl (gf_cons rfl (gf_cons rfl (gf_cons rfl (gf_cons rfl gf_nil))))) (ih44 s58 z61 z63 w44_2_4 w44_2_0 hI58 (fr_tr rfl hFc44 hF58) (in_w 0 1 i61 rfl) (in_w 0 19 j44_3 rfl) (in_w 0 32 i63 rfl) v44 v44a n44 (m_up mm44 (t_add e63 i50 (in_c 1 rfl) rfl) (in_w 1 1 (in_c 1 rfl) rfl))))
      refine g_iload_n 30 (gd rfl) rfl rfl ?_
      refine g_bipush 20 32 (gd rfl) rfl rfl ?_
      refine g_cmp_ge 35 75 (gd rfl) rfl rfl (fun c32 => ?_) (fun c32 => ?_)
      · skip
        have i32 := r_le2 20 20 c32 (in_c 20 rfl) j29_3 rfl
        exact g_return (gd rfl) rfl (hP _ _ ⟨sc29, hIc29, hFc29, rfl, rfl⟩)
      · skip
        have i32 := r_lt1 0 19 c32 j29_3 (in_c 20 rfl) rfl
        refine g_iload_n 36 (gd rfl) rfl rfl ?_
        refine g_if_eq 39 75 (gd rfl) rfl rfl (fun c36 => ?_) (fun c36 => ?_)
        · skip
          have i36 := z_eq 0 0 c36 j29_2 rfl
          exact g_return (gd rfl) rfl (hP _ _ ⟨sc29, hIc29, hFc29, rfl, rfl⟩)
        · skip
          have i36 := z_ne 1 1 c36 j29_2 rfl
          refine g_iconst 0 40 (gd rfl) rfl rfl ?_
          refine g_istore_n 41 (gd rfl) rfl (Nat.le_of_ble_eq_true rfl) ?_
          refine g_iconst 0 42 (gd rfl) rfl rfl ?_
          refine g_istore 44 (gd rfl) rfl (Nat.le_of_ble_eq_true rfl) ?_
          have n44 : (w29_2_4).toInt = (w29_2_0).toInt := by first | exact n29_0 | (have a0 := oa6 ro_2_1 ((inv_F hIc29 0 4000 rfl v29_2_0)) ((inv_F hIc29 (-1) 4000 rfl v29_2_4)) i32 i36 ((in_c 0 rfl)); omega)
          exact gg_w (by first | exact Nat.le_add_right _ _ | exact gw2 | exact gw3 | exact gwe rfl | exact gwf rfl | exact gwg rfl | exact gwh rfl | omega) (gg_f (gf_cons rfl (gf_cons rfl (gf_cons rfl (gf_cons rfl (gf_cons rfl gf_nil))))) (ct44 33 sc29 (Int32.ofInt 0) (Int32.ofInt 0) w29_2_4 w29_2_0 hIc29 hFc29 (in_w 0 1 (in_c 0 rfl) rfl) (in_w 0 19 i32 rfl) (in_w 0 32 (in_c 0 rfl) rfl) v29_2_4 v29_2_0 n44 (m_in 33 (in_w 0 32 (in_c 0 rfl) rfl) rfl)))
  refine g_enter2 (k := 113) (N := 681322) (by first | exact dq1 hd rfl | exact dq0 hd rfl | exact dq2 hd rfl | exact dq3 hd rfl | omega) rfl (Nat.le_of_ble_eq_true rfl) ?_
  refine g_aload_n 1 (gd rfl) rfl rfl ?_
  refine g_getI 4 (gd rfl) rfl rfl rfl (fun z1 e1 => ?_)
  have i1 := inv_F hI (-1) 4000 rfl e1
  refine g_aload_n 5 (gd rfl) rfl rfl ?_
  refine g_getI 8 (gd rfl) rfl rfl rfl (fun z5 e5 => ?_)
  have q5 : u_2_0 = z5 := (e_2_0).trans e5.symm
  subst q5
  refine g_cmp_ne 11 12 (gd rfl) rfl rfl (fun c8 => ?_) (fun c8 => ?_)
  · skip
    refine g_aload_n 13 (gd rfl) rfl rfl ?_
    refine g_aload_n 14 (gd rfl) rfl rfl ?_
    refine g_getI 17 (gd rfl) rfl rfl rfl (fun z14 e14 => ?_)
    have q14 : u_2_0 = z14 := (e_2_0).trans e14.symm
    subst q14
    refine g_putI 20 (gd rfl) rfl rfl rfl rfl ?_
    have hI17 := inv_sF (q := 86) (j := 4) hI rfl (in_w (-1) 4000 ro_2_0 rfl)
    refine g_aload_n 21 (gd rfl) rfl rfl ?_
    refine g_aload_n 22 (gd rfl) rfl rfl ?_
    refine g_callv (X := _) (As := [.ref (A 2)]) (r := []) (b := A 86) (q := 86) 25 (gd rfl) rfl rfl rfl rfl rfl (ww_o rfl) (Nat.le_of_ble_eq_true rfl) (Nat.zero_le _) (Nat.zero_le _) (k_114_86_2 (by first | exact dq1 hd rfl | exact dq0 hd rfl | exact dq2 hd rfl | exact dq3 hd rfl | omega) hI17 ) (fun e u h => h) (fun v u h => ?_)
    obtain ⟨s22, hI22, hF22, n22, rfl, rfl⟩ := h
    obtain ⟨z22a, e22⟩ : ∃ w, w = s22.2.2.1 2 4 := ⟨_, rfl⟩
    have i22a := inv_F hI22 (-1) 4000 rfl e22
    rw [← (show z22a = s22.2.2.1 2 4 from e22)] at n22
    rw [← (show u_2_0 = s22.2.2.1 2 0 from fr_F (s := (sF s 86 4 u_2_0)) (sF_ne rfl (e_2_0)) hF22 rfl)] at n22
    show GG _ _ _ _ _ _ _ _ [] _ _ _
    refine g_iconst 1 26 (gd rfl) rfl rfl ?_
    refine g_istore_n 27 (gd rfl) rfl (Nat.le_of_ble_eq_true rfl) ?_
    refine g_iconst 0 28 (gd rfl) rfl rfl ?_
    refine g_istore_n 29 (gd rfl) rfl (Nat.le_of_ble_eq_true rfl) ?_
    have v29 : u_2_0 = s22.2.2.1 2 0 := fr_F (s := (sF s 86 4 u_2_0)) (sF_ne rfl (e_2_0)) hF22 rfl
    have n29 : (z22a).toInt = (u_2_0).toInt := by have a0 := oa5 ro_2_1 ro_2_0 ((in_c 0 rfl)) ((in_c 1 rfl)) i22a; omega
    exact gg_w (by first | exact Nat.le_of_ble_eq_true rfl | omega) (gg_f (gf_cons rfl (gf_cons rfl (gf_cons rfl (gf_cons rfl gf_nil)))) (ct29 21 s22 (Int32.ofInt 1) (Int32.ofInt 0) z22a u_2_0 hI22 (fr_tr rfl (fr_sF rfl fr_rf) hF22) (in_w 0 1 (in_c 1 rfl) rfl) (in_w 0 20 (in_c 0 rfl) rfl) e22 v29 n29 (m_in 21 (in_w 0 20 (in_c 0 rfl) rfl) rfl)))
  · skip
    have i8 := r_eq1 0 4000 c8 i1 ro_2_0 rfl
    exact g_return (gd rfl) rfl (hP _ _ ⟨s, hI, fr_rf, rfl, rfl⟩)

def fm_113_86_32 : FM := ([39, 40, 41, 42, 43, 44, 45, 89, 90, 91, 92, 93], [], [(32, 4), (86, 4), (86, 5)], [])
/-- GraphHouse$Groups.settle -/
theorem k_113_86_32 {Z : AmZ} {A : Nat → Nat} {s : GS} {ex : va_W} {d : Nat} {X : AmX}  (hd : 6 ≤ d) (hI : Inv s)  : GC Z d 113 [.ref (A 86), .ref (A 32)] (WW Z A s ++ ex) 0 0 (fun v u => ∃ t : GS, Inv t ∧ Fr fm_113_86_32 s t ∧ v = none ∧ u = WW Z A t ++ ex) X := by
  intro post xp hP hX
  obtain ⟨u_32_0, e_32_0⟩ : ∃ w, w = s.2.2.1 32 0 := ⟨_, rfl⟩
  have ro_32_0 := inv_F hI 0 4000 rfl e_32_0
  obtain ⟨u_32_1, e_32_1⟩ : ∃ w, w = s.2.2.1 32 1 := ⟨_, rfl⟩
  have ro_32_1 := inv_F hI 0 32 rfl e_32_1
  have ct29 : ∀ (k29 : Nat) (sc29 : GS) (y29_2 : Int32) (y29_3 : Int32) (w29_32_4 : Int32) (w29_32_0 : Int32), Inv sc29 → Fr fm_113_86_32 s sc29 → (In y29_2 0 1) → (In y29_3 0 20) → (w29_32_4 = sc29.2.2.1 32 4) → (w29_32_0 = sc29.2.2.1 32 0) → ((w29_32_4).toInt = (w29_32_0).toInt) → 20 - (y29_3).toInt < (k29 : Int) → GG Z (d - 1) 113 post (gx xp) (1 + k29 * 32401) 29 (fun j => xlook j [(0, .ref (A 86)), (1, .ref (A 32)), (2, .int y29_2), (3, .int y29_3)]) [] (WW Z A sc29 ++ ex) 0 0 := by
    intro k29
    induction k29 with
    | zero => intro sc29 y29_2 y29_3 w29_32_4 w29_32_0 hIc29 hFc29 j29_2 j29_3 v29_32_4 v29_32_0 n29_0 mm29; exact m_no mm29 j29_3 rfl
    | succ k29 ih29 =>
      intro sc29 y29_2 y29_3 w29_32_4 w29_32_0 hIc29 hFc29 j29_2 j29_3 v29_32_4 v29_32_0 n29_0 mm29
      refine gg_w (M := 1 + k29 * 32401 + 32401) gws ?_
      have ct44 : ∀ (k44 : Nat) (sc44 : GS) (y44_2 : Int32) (y44_4 : Int32) (w44_32_4 : Int32) (w44_32_0 : Int32), Inv sc44 → Fr fm_113_86_32 s sc44 → (In y44_2 0 1) → (In y29_3 0 19) → (In y44_4 0 32) → (w44_32_4 = sc44.2.2.1 32 4) → (w44_32_0 = sc44.2.2.1 32 0) → ((w44_32_4).toInt = (w44_32_0).toInt) → 32 - (y44_4).toInt < (k44 : Int) → GG Z (d - 1) 113 post (gx xp) (1 + k29 * 32401 + 1 + k44 * 900) 44 (fun j => xlook j [(0, .ref (A 86)), (1, .ref (A 32)), (2, .int y44_2), (3, .int y29_3), (4, .int y44_4)]) [] (WW Z A sc44 ++ ex) 0 0 := by
        intro k44
        induction k44 with
        | zero => intro sc44 y44_2 y44_4 w44_32_4 w44_32_0 hIc44 hFc44 j44_2 j44_3 j44_4 v44_32_4 v44_32_0 n44_0 mm44; exact m_no mm44 j44_4 rfl
        | succ k44 ih44 =>
          intro sc44 y44_2 y44_4 w44_32_4 w44_32_0 hIc44 hFc44 j44_2 j44_3 j44_4 v44_32_4 v44_32_0 n44_0 mm44
          refine gg_w (M := 1 + k29 * 32401 + 1 + k44 * 900 + 900) gws ?_
          refine g_iload 46 (gd rfl) rfl rfl ?_
          refine g_aload_n 47 (gd rfl) rfl rfl ?_
          refine g_getI 50 (gd rfl) rfl rfl rfl (fun z47 e47 => ?_)
          have q47 : u_32_1 = z47 := (fr_F e_32_1 hFc44 rfl).trans e47.symm
          subst q47
          refine g_cmp_ge 53 69 (gd rfl) rfl rfl (fun c50 => ?_) (fun c50 => ?_)
          · skip
            refine g_iinc 72 (gd rfl) rfl rfl (Nat.le_of_ble_eq_true rfl) (fun z69 e69 => ?_)
            have i69 := in_add 1 20 e69 j44_3 (in_c 1 rfl) rfl rfl
            refine g_goto 29 (gd rfl) rfl ?_
            have n29 : (w44_32_4).toInt = (w44_32_0).toInt := by first | exact n44_0 | (have a0 := oa7 j44_3 ro_32_1 ((inv_F hIc44 0 4000 rfl v44_32_0)) ((inv_F hIc44 (-1) 4000 rfl v44_32_4)) j44_4 j44_2 i69; have a7 := t_add e69 j44_3 (in_c 1 rfl) rfl; have a8 := in_u ((in_c 1 rfl)); omega)
            exact gg_w (by first | exact Nat.le_add_right _ _ | exact gw2 | exact gw3 | exact gwe rfl | exact gwf rfl | exact gwg rfl | exact gwh rfl | omega) (gg_f (gf_cons rfl (gf_cons rfl (gf_cons rfl (gf_cons rfl gf_nil)))) (ih29 sc44 y44_2 z69 w44_32_4 w44_32_0 hIc44 hFc44 (in_w 0 1 j44_2 rfl) (in_w 0 20 i69 rfl) v44_32_4 v44_32_0 n29 (m_up mm29 (t_add e69 j44_3 (in_c 1 rfl) rfl) (in_w 1 1 (in_c 1 rfl) rfl))))
          · skip
            have i50 := r_lt1 0 31 c50 j44_4 ro_32_1 rfl
            have i50a := r_lt2 1 32 c50 j44_4 ro_32_1 rfl
            refine g_iload_n 54 (gd rfl) rfl rfl ?_
            refine g_aload_n 55 (gd rfl) rfl rfl ?_
            refine g_aload_n 56 (gd rfl) rfl rfl ?_
            refine g_iload 58 (gd rfl) rfl rfl ?_
            have n58 : (w44_32_4).toInt = (w44_32_0).toInt := by first | exact n44_0 | (have a0 := oa6 j44_3 i50a ((inv_F hIc44 0 4000 rfl v44_32_0)) ((inv_F hIc44 (-1) 4000 rfl v44_32_4)) i50 j44_2; omega)
            refine g_callv (X := _) (As := [.ref (A 32), .int y44_4]) (r := [.int y44_2]) (b := A 86) (q := 86) 61 (gd rfl) rfl rfl rfl rfl rfl (ww_o rfl) (Nat.le_of_ble_eq_true rfl) (Nat.zero_le _) (Nat.zero_le _) (k_115_86_32 (by first | exact dq1 hd rfl | exact dq0 hd rfl | exact dq2 hd rfl | exact dq3 hd rfl | omega) hIc44 (in_w 0 31 i50 rfl) v44_32_4 v44_32_0 n58) (fun e u h => h) (fun v u h => ?_)
            obtain ⟨s58, hI58, hF58, z58, rfl, rfl, i58⟩ := h
            show GG _ _ _ _ _ _ _ _ [.int z58, .int y44_2] _ _ _
            refine g_ior 62 (gd rfl) rfl (fun z61 e61 => ?_)
            have i61 := in_or 1 e61 (in_w 0 1 j44_2 rfl) (in_w 0 1 i58 rfl) rfl
            refine g_istore_n 63 (gd rfl) rfl (Nat.le_of_ble_eq_true rfl) ?_
            refine g_iinc 66 (gd rfl) rfl rfl (Nat.le_of_ble_eq_true rfl) (fun z63 e63 => ?_)
            have i63 := in_add 1 32 e63 i50 (in_c 1 rfl) rfl rfl
            refine g_goto 44 (gd rfl) rfl ?_
            have v44 : w44_32_4 = s58.2.2.1 32 4 := fr_F (v44_32_4) hF58 rfl
            have v44a : w44_32_0 = s58.2.2.1 32 0 := fr_F (v44_32_0) hF58 rfl
            have n44 : (w44_32_4).toInt = (w44_32_0).toInt := by first | exact n44_0 | (have a0 := oa7 j44_3 i50a ((inv_F hIc44 0 4000 rfl v44_32_0)) ((inv_F hIc44 (-1) 4000 rfl v44_32_4)) i50 j44_2 i63; have a7 := t_add e63 i50 (in_c 1 rfl) rfl; have a8 := oa2 ((in_c 1 rfl)) i61; omega)
            exact gg_w (by first | exact Nat.le_add_right _ _ | exact gw2 | exact gw3 | exact gwe rfl | exact gwf rfl | exact gwg rfl | exact gwh rfl | omega) (gg_f (gf_cons rfl (gf_cons rfl (gf_cons rfl (gf_cons rfl (gf_cons rfl gf_nil))))) (ih44 s58 z61 z63 w44_32_4 w44_32_0 hI58 (fr_tr rfl hFc44 hF58) (in_w 0 1 i61 rfl) (in_w 0 19 j44_3 rfl) (in_w 0 32 i63 rfl) v44 v44a n44 (m_up mm44 (t_add e63 i50 (in_c 1 rfl) rfl) (in_w 1 1 (in_c 1 rfl) rfl))))
      refine g_iload_n 30 (gd rfl) rfl rfl ?_
      refine g_bipush 20 32 (gd rfl) rfl rfl ?_
      refine g_cmp_ge 35 75 (gd rfl) rfl rfl (fun c32 => ?_) (fun c32 => ?_)
      · skip
        have i32 := r_le2 20 20 c32 (in_c 20 rfl) j29_3 rfl
        exact g_return (gd rfl) rfl (hP _ _ ⟨sc29, hIc29, hFc29, rfl, rfl⟩)
      · skip
        have i32 := r_lt1 0 19 c32 j29_3 (in_c 20 rfl) rfl
        refine g_iload_n 36 (gd rfl) rfl rfl ?_
        refine g_if_eq 39 75 (gd rfl) rfl rfl (fun c36 => ?_) (fun c36 => ?_)
        · skip
          have i36 := z_eq 0 0 c36 j29_2 rfl
          exact g_return (gd rfl) rfl (hP _ _ ⟨sc29, hIc29, hFc29, rfl, rfl⟩)
        · skip
          have i36 := z_ne 1 1 c36 j29_2 rfl
          refine g_iconst 0 40 (gd rfl) rfl rfl ?_
          refine g_istore_n 41 (gd rfl) rfl (Nat.le_of_ble_eq_true rfl) ?_
          refine g_iconst 0 42 (gd rfl) rfl rfl ?_
          refine g_istore 44 (gd rfl) rfl (Nat.le_of_ble_eq_true rfl) ?_
          have n44 : (w29_32_4).toInt = (w29_32_0).toInt := by first | exact n29_0 | (have a0 := oa6 ro_32_1 ((inv_F hIc29 0 4000 rfl v29_32_0)) ((inv_F hIc29 (-1) 4000 rfl v29_32_4)) i32 i36 ((in_c 0 rfl)); omega)
          exact gg_w (by first | exact Nat.le_add_right _ _ | exact gw2 | exact gw3 | exact gwe rfl | exact gwf rfl | exact gwg rfl | exact gwh rfl | omega) (gg_f (gf_cons rfl (gf_cons rfl (gf_cons rfl (gf_cons rfl (gf_cons rfl gf_nil))))) (ct44 33 sc29 (Int32.ofInt 0) (Int32.ofInt 0) w29_32_4 w29_32_0 hIc29 hFc29 (in_w 0 1 (in_c 0 rfl) rfl) (in_w 0 19 i32 rfl) (in_w 0 32 (in_c 0 rfl) rfl) v29_32_4 v29_32_0 n44 (m_in 33 (in_w 0 32 (in_c 0 rfl) rfl) rfl)))
  refine g_enter2 (k := 113) (N := 681322) (by first | exact dq1 hd rfl | exact dq0 hd rfl | exact dq2 hd rfl | exact dq3 hd rfl | omega) rfl (Nat.le_of_ble_eq_true rfl) ?_
  refine g_aload_n 1 (gd rfl) rfl rfl ?_
  refine g_getI 4 (gd rfl) rfl rfl rfl (fun z1 e1 => ?_)
  have i1 := inv_F hI (-1) 4000 rfl e1
  refine g_aload_n 5 (gd rfl) rfl rfl ?_
  refine g_getI 8 (gd rfl) rfl rfl rfl (fun z5 e5 => ?_)
  have q5 : u_32_0 = z5 := (e_32_0).trans e5.symm
  subst q5
  refine g_cmp_ne 11 12 (gd rfl) rfl rfl (fun c8 => ?_) (fun c8 => ?_)
  · skip
    refine g_aload_n 13 (gd rfl) rfl rfl ?_
    refine g_aload_n 14 (gd rfl) rfl rfl ?_
    refine g_getI 17 (gd rfl) rfl rfl rfl (fun z14 e14 => ?_)
    have q14 : u_32_0 = z14 := (e_32_0).trans e14.symm
    subst q14
    refine g_putI 20 (gd rfl) rfl rfl rfl rfl ?_
    have hI17 := inv_sF (q := 86) (j := 4) hI rfl (in_w (-1) 4000 ro_32_0 rfl)
    refine g_aload_n 21 (gd rfl) rfl rfl ?_
    refine g_aload_n 22 (gd rfl) rfl rfl ?_
    refine g_callv (X := _) (As := [.ref (A 32)]) (r := []) (b := A 86) (q := 86) 25 (gd rfl) rfl rfl rfl rfl rfl (ww_o rfl) (Nat.le_of_ble_eq_true rfl) (Nat.zero_le _) (Nat.zero_le _) (k_114_86_32 (by first | exact dq1 hd rfl | exact dq0 hd rfl | exact dq2 hd rfl | exact dq3 hd rfl | omega) hI17 ) (fun e u h => h) (fun v u h => ?_)
    obtain ⟨s22, hI22, hF22, n22, rfl, rfl⟩ := h
    obtain ⟨z22a, e22⟩ : ∃ w, w = s22.2.2.1 32 4 := ⟨_, rfl⟩
    have i22a := inv_F hI22 (-1) 4000 rfl e22
    rw [← (show z22a = s22.2.2.1 32 4 from e22)] at n22
    rw [← (show u_32_0 = s22.2.2.1 32 0 from fr_F (s := (sF s 86 4 u_32_0)) (sF_ne rfl (e_32_0)) hF22 rfl)] at n22
    show GG _ _ _ _ _ _ _ _ [] _ _ _
    refine g_iconst 1 26 (gd rfl) rfl rfl ?_
    refine g_istore_n 27 (gd rfl) rfl (Nat.le_of_ble_eq_true rfl) ?_
    refine g_iconst 0 28 (gd rfl) rfl rfl ?_
    refine g_istore_n 29 (gd rfl) rfl (Nat.le_of_ble_eq_true rfl) ?_
    have v29 : u_32_0 = s22.2.2.1 32 0 := fr_F (s := (sF s 86 4 u_32_0)) (sF_ne rfl (e_32_0)) hF22 rfl
    have n29 : (z22a).toInt = (u_32_0).toInt := by have a0 := oa5 ro_32_1 ro_32_0 ((in_c 0 rfl)) ((in_c 1 rfl)) i22a; omega
    exact gg_w (by first | exact Nat.le_of_ble_eq_true rfl | omega) (gg_f (gf_cons rfl (gf_cons rfl (gf_cons rfl (gf_cons rfl gf_nil)))) (ct29 21 s22 (Int32.ofInt 1) (Int32.ofInt 0) z22a u_32_0 hI22 (fr_tr rfl (fr_sF rfl fr_rf) hF22) (in_w 0 1 (in_c 1 rfl) rfl) (in_w 0 20 (in_c 0 rfl) rfl) e22 v29 n29 (m_in 21 (in_w 0 20 (in_c 0 rfl) rfl) rfl)))
  · skip
    have i8 := r_eq1 0 4000 c8 i1 ro_32_0 rfl
    exact g_return (gd rfl) rfl (hP _ _ ⟨s, hI, fr_rf, rfl, rfl⟩)

def fm_163_94_2 : FM := ([9, 10, 11, 12, 13, 14, 15], [99, 100, 101], [(2, 4)], [])
/-- GraphHouse$Question.leastFit -/
theorem k_163_94_2 {Z : AmZ} {A : Nat → Nat} {s : GS} {ex : va_W} {d : Nat} {X : AmX} {x2 : Int32} {x3 : Int32} (hd : 6 ≤ d) (hI : Inv s) (h2 : In x2 0 31) (h3 : In x3 0 31) : GC Z d 163 [.ref (A 94), .ref (A 2), .int x2, .int x3] (WW Z A s ++ ex) 0 0 (fun v u => ∃ t : GS, Inv t ∧ Fr fm_163_94_2 s t ∧ ∃ z : Int32, v = some (.int z) ∧ u = WW Z A t ++ ex ∧ In z (-1) 1952) X := by
  intro post xp hP hX
  have ct43 : ∀ (k43 : Nat) (sc43 : GS) (y43_4 : Int32), Inv sc43 → Fr fm_163_94_2 s sc43 → (In y43_4 0 2001) → 2001 - (y43_4).toInt < (k43 : Int) → GG Z (d - 1) 163 post (gx xp) (1 + k43 * 900) 43 (fun j => xlook j [(0, .ref (A 94)), (1, .ref (A 2)), (2, .int x2), (3, .int x3), (4, .int y43_4)]) [] (WW Z A sc43 ++ ex) 0 0 := by
    intro k43
    induction k43 with
    | zero => intro sc43 y43_4 hIc43 hFc43 j43_4 mm43; exact m_no mm43 j43_4 rfl
    | succ k43 ih43 =>
      intro sc43 y43_4 hIc43 hFc43 j43_4 mm43
      refine gg_w (M := 1 + k43 * 900 + 900) gws ?_
      refine g_iload 45 (gd rfl) rfl rfl ?_
      refine g_sipush 1952 48 (gd rfl) rfl rfl ?_
      refine g_cmp_gt 51 86 (gd rfl) rfl rfl (fun c48 => ?_) (fun c48 => ?_)
      · skip
        have i48 := r_lt2 1953 2001 c48 (in_c 1952 rfl) j43_4 rfl
        refine g_iconst (-1) 87 (gd rfl) rfl rfl ?_
        exact g_ireturn (gd rfl) rfl rfl (hP _ _ ⟨sc43, hIc43, hFc43, (Int32.ofInt (-1)), rfl, rfl, in_w (-1) 1952 (in_c (-1) rfl) rfl⟩)
      · skip
        have i48 := r_le1 0 1952 c48 j43_4 (in_c 1952 rfl) rfl
        refine g_aload_n 52 (gd rfl) rfl rfl ?_
        refine g_getA (q2 := 101) 55 (gd rfl) rfl rfl rfl rfl ?_
        refine g_iload_n 56 (gd rfl) rfl rfl ?_
        refine g_laload 57 (gd rfl) rfl (n := 32) rfl (in_ix h3 rfl) (fun z56 e56 => ?_)
        have i56 := inv_L hIc43 (n := 32) 0 2305843009213693951 rfl (in_ix h3 rfl) rfl e56
        refine g_aload_n 58 (gd rfl) rfl rfl ?_
        refine g_getL 61 (gd rfl) rfl rfl rfl (fun z58 e58 => ?_)
        have i58 := inv_G hIc43 0 2305843009213693951 rfl e58
        refine g_land 62 (gd rfl) rfl (fun z61 e61 => ?_)
        have i61 := inl_and2 e61 i58 rfl
        refine g_lconst 0 63 (gd rfl) rfl rfl ?_
        refine g_lcmp 64 (gd rfl) rfl (fun z63 e63 => ?_)
        have i63 := lc_in e63
        refine g_if_eq 67 70 (gd rfl) rfl rfl (fun c64 => ?_) (fun c64 => ?_)
        · skip
          have i64 := z_eq 0 0 c64 i63 rfl
          have c64a := lc_eq e63 c64
          have i64a := lr_eq1 0 0 c64a i61 (l_c 0 rfl) rfl
          refine g_aload_n 71 (gd rfl) rfl rfl ?_
          refine g_aload_n 72 (gd rfl) rfl rfl ?_
          refine g_callv (X := _) (As := [.ref (A 2)]) (r := []) (b := A 94) (q := 94) 75 (gd rfl) rfl rfl rfl rfl rfl (ww_o rfl) (Nat.le_of_ble_eq_true rfl) (Nat.zero_le _) (Nat.zero_le _) (k_164_94_2 (by first | exact dq1 hd rfl | exact dq0 hd rfl | exact dq2 hd rfl | exact dq3 hd rfl | omega) hIc43 ) (fun e u h => h) (fun v u h => ?_)
          obtain ⟨s72, hI72, hF72, z72, rfl, rfl, i72⟩ := h
          show GG _ _ _ _ _ _ _ _ [.int z72] _ _ _
          refine g_if_ne 78 80 (gd rfl) rfl rfl (fun c75 => ?_) (fun c75 => ?_)
          · skip
            have i75 := z_ne 1 1 c75 i72 rfl
            refine g_iinc 83 (gd rfl) rfl rfl (Nat.le_of_ble_eq_true rfl) (fun z80 e80 => ?_)
            have i80 := in_add 1 1953 e80 i48 (in_c 1 rfl) rfl rfl
            refine g_goto 43 (gd rfl) rfl ?_
            exact gg_w (by first | exact Nat.le_add_right _ _ | exact gw2 | exact gw3 | exact gwe rfl | exact gwf rfl | exact gwg rfl | exact gwh rfl | omega) (gg_f (gf_cons rfl (gf_cons rfl (gf_cons rfl (gf_cons rfl (gf_cons rfl gf_nil))))) (ih43 s72 z80 hI72 (fr_tr rfl hFc43 hF72) (in_w 0 2001 i80 rfl) (m_up mm43 (t_add e80 i48 (in_c 1 rfl) rfl) (in_w 1 1 (in_c 1 rfl) rfl))))
          · skip
            have i75 := z_eq 0 0 c75 i72 rfl
            refine g_iconst (-1) 79 (gd rfl) rfl rfl ?_
            exact g_ireturn (gd rfl) rfl rfl (hP _ _ ⟨s72, hI72, (fr_tr rfl hFc43 hF72), (Int32.ofInt (-1)), rfl, rfl, in_w (-1) 1952 (in_c (-1) rfl) rfl⟩)
        · skip
          have c64a := lc_ne e63 c64
          have i64 := lr_ne1 1 2305843009213693951 c64a i61 (l_c 0 rfl) rfl
          refine g_iload 69 (gd rfl) rfl rfl ?_
          exact g_ireturn (gd rfl) rfl rfl (hP _ _ ⟨sc43, hIc43, hFc43, y43_4, rfl, rfl, in_w (-1) 1952 i48 rfl⟩)
  refine g_enter2 (k := 163) (N := 1802701) (by first | exact dq1 hd rfl | exact dq0 hd rfl | exact dq2 hd rfl | exact dq3 hd rfl | omega) rfl (Nat.le_of_ble_eq_true rfl) ?_
  refine g_aload_n 1 (gd rfl) rfl rfl ?_
  refine g_callv (X := _) (As := []) (r := []) (b := A 2) (q := 2) 4 (gd rfl) rfl rfl rfl rfl rfl (ww_o rfl) (Nat.le_of_ble_eq_true rfl) (Nat.zero_le _) (Nat.zero_le _) (k_106_2 (by first | exact dq1 hd rfl | exact dq0 hd rfl | exact dq2 hd rfl | exact dq3 hd rfl | omega) hI ) (fun e u h => h) (fun v u h => ?_)
  obtain ⟨s1, hI1, hF1, n1, rfl, rfl⟩ := h
  obtain ⟨z1a, e1⟩ : ∃ w, w = s1.2.2.1 2 4 := ⟨_, rfl⟩
  have i1a := inv_F hI1 (-1) 4000 rfl e1
  obtain ⟨z1b, e1a⟩ : ∃ w, w = s1.2.2.1 2 0 := ⟨_, rfl⟩
  have i1b := inv_F hI1 0 4000 rfl e1a
  rw [← (show z1a = s1.2.2.1 2 4 from e1)] at n1
  rw [← (show z1b = s1.2.2.1 2 0 from e1a)] at n1
  show GG _ _ _ _ _ _ _ _ [] _ _ _
  refine g_aload_n 5 (gd rfl) rfl rfl ?_
  refine g_getA (q2 := 99) 8 (gd rfl) rfl rfl rfl rfl ?_
  refine g_lconst 0 9 (gd rfl) rfl rfl ?_
  refine g_calls (As := [.ref (A 99), .long (Int64.ofInt 0)]) (r := []) 12 (gd rfl) rfl rfl rfl rfl rfl (Nat.le_of_ble_eq_true rfl) (Nat.zero_le _) (Nat.zero_le _) (k_fillL 99 (by first | exact dq1 hd rfl | exact dq0 hd rfl | exact dq2 hd rfl | exact dq3 hd rfl | omega) hI1 (n := 32) rfl rfl rfl (lw 0 2305843009213693951 (l_c 0 rfl) rfl)) (fun v u h => ?_)
  obtain ⟨s9, hI9, hF9, rfl, rfl, fl9⟩ := h
  show GG _ _ _ _ _ _ _ _ [] _ _ _
  refine g_aload_n 13 (gd rfl) rfl rfl ?_
  refine g_getA (q2 := 101) 16 (gd rfl) rfl rfl rfl rfl ?_
  refine g_lconst 0 17 (gd rfl) rfl rfl ?_
  refine g_calls (As := [.ref (A 101), .long (Int64.ofInt 0)]) (r := []) 20 (gd rfl) rfl rfl rfl rfl rfl (Nat.le_of_ble_eq_true rfl) (Nat.zero_le _) (Nat.zero_le _) (k_fillL 101 (by first | exact dq1 hd rfl | exact dq0 hd rfl | exact dq2 hd rfl | exact dq3 hd rfl | omega) hI9 (n := 32) rfl rfl rfl (lw 0 2305843009213693951 (l_c 0 rfl) rfl)) (fun v u h => ?_)
  obtain ⟨s17, hI17, hF17, rfl, rfl, fl17⟩ := h
  show GG _ _ _ _ _ _ _ _ [] _ _ _
  refine g_aload_n 21 (gd rfl) rfl rfl ?_
  refine g_getA (q2 := 99) 24 (gd rfl) rfl rfl rfl rfl ?_
  refine g_iload_n 25 (gd rfl) rfl rfl ?_
  refine g_aload_n 26 (gd rfl) rfl rfl ?_
  refine g_getL 29 (gd rfl) rfl rfl rfl (fun z26 e26 => ?_)
  have i26 := inv_G hI17 0 2305843009213693951 rfl e26
  refine g_lastore 30 (gd rfl) rfl (n := 32) rfl (in_ix h2 rfl) ?_
  have hI29 := inv_sL (q := 99) (j := x2.toNatClampNeg) (x := z26) hI17 rfl (lw 0 2305843009213693951 i26 rfl)
  refine g_aload_n 31 (gd rfl) rfl rfl ?_
  refine g_getA (q2 := 101) 34 (gd rfl) rfl rfl rfl rfl ?_
  refine g_iload_n 35 (gd rfl) rfl rfl ?_
  refine g_aload_n 36 (gd rfl) rfl rfl ?_
  refine g_getL 39 (gd rfl) rfl rfl rfl (fun z36 e36 => ?_)
  have i36 := inv_G hI29 0 2305843009213693951 rfl e36
  refine g_lastore 40 (gd rfl) rfl (n := 32) rfl (in_ix h2 rfl) ?_
  have hI39 := inv_sL (q := 101) (j := x2.toNatClampNeg) (x := z36) hI29 rfl (lw 0 2305843009213693951 i36 rfl)
  refine g_iconst 0 41 (gd rfl) rfl rfl ?_
  refine g_istore 43 (gd rfl) rfl (Nat.le_of_ble_eq_true rfl) ?_
  exact gg_w (by first | exact Nat.le_of_ble_eq_true rfl | omega) (gg_f (gf_cons rfl (gf_cons rfl (gf_cons rfl (gf_cons rfl (gf_cons rfl gf_nil))))) (ct43 2002 (sL (sL s17 99 x2.toNatClampNeg z26) 101 x2.toNatClampNeg z36) (Int32.ofInt 0) hI39 (fr_sL rfl (fr_sL rfl (fr_tr rfl (fr_tr rfl (fr_tr rfl fr_rf hF1) hF9) hF17))) (in_w 0 2001 (in_c 0 rfl) rfl) (m_in 2002 (in_w 0 2001 (in_c 0 rfl) rfl) rfl)))

def fm_163_94_32 : FM := ([39, 40, 41, 42, 43, 44, 45], [99, 100, 101], [(32, 4)], [])
/-- GraphHouse$Question.leastFit -/
theorem k_163_94_32 {Z : AmZ} {A : Nat → Nat} {s : GS} {ex : va_W} {d : Nat} {X : AmX} {x2 : Int32} {x3 : Int32} (hd : 6 ≤ d) (hI : Inv s) (h2 : In x2 0 31) (h3 : In x3 0 31) : GC Z d 163 [.ref (A 94), .ref (A 32), .int x2, .int x3] (WW Z A s ++ ex) 0 0 (fun v u => ∃ t : GS, Inv t ∧ Fr fm_163_94_32 s t ∧ ∃ z : Int32, v = some (.int z) ∧ u = WW Z A t ++ ex ∧ In z (-1) 1952) X := by
  intro post xp hP hX
  have ct43 : ∀ (k43 : Nat) (sc43 : GS) (y43_4 : Int32), Inv sc43 → Fr fm_163_94_32 s sc43 → (In y43_4 0 2001) → 2001 - (y43_4).toInt < (k43 : Int) → GG Z (d - 1) 163 post (gx xp) (1 + k43 * 900) 43 (fun j => xlook j [(0, .ref (A 94)), (1, .ref (A 32)), (2, .int x2), (3, .int x3), (4, .int y43_4)]) [] (WW Z A sc43 ++ ex) 0 0 := by
    intro k43
    induction k43 with
    | zero => intro sc43 y43_4 hIc43 hFc43 j43_4 mm43; exact m_no mm43 j43_4 rfl
    | succ k43 ih43 =>
      intro sc43 y43_4 hIc43 hFc43 j43_4 mm43
      refine gg_w (M := 1 + k43 * 900 + 900) gws ?_
      refine g_iload 45 (gd rfl) rfl rfl ?_
      refine g_sipush 1952 48 (gd rfl) rfl rfl ?_
      refine g_cmp_gt 51 86 (gd rfl) rfl rfl (fun c48 => ?_) (fun c48 => ?_)
      · skip
        have i48 := r_lt2 1953 2001 c48 (in_c 1952 rfl) j43_4 rfl
        refine g_iconst (-1) 87 (gd rfl) rfl rfl ?_
        exact g_ireturn (gd rfl) rfl rfl (hP _ _ ⟨sc43, hIc43, hFc43, (Int32.ofInt (-1)), rfl, rfl, in_w (-1) 1952 (in_c (-1) rfl) rfl⟩)
      · skip
        have i48 := r_le1 0 1952 c48 j43_4 (in_c 1952 rfl) rfl
        refine g_aload_n 52 (gd rfl) rfl rfl ?_
        refine g_getA (q2 := 101) 55 (gd rfl) rfl rfl rfl rfl ?_
        refine g_iload_n 56 (gd rfl) rfl rfl ?_
        refine g_laload 57 (gd rfl) rfl (n := 32) rfl (in_ix h3 rfl) (fun z56 e56 => ?_)
        have i56 := inv_L hIc43 (n := 32) 0 2305843009213693951 rfl (in_ix h3 rfl) rfl e56
        refine g_aload_n 58 (gd rfl) rfl rfl ?_
        refine g_getL 61 (gd rfl) rfl rfl rfl (fun z58 e58 => ?_)
        have i58 := inv_G hIc43 0 2305843009213693951 rfl e58
        refine g_land 62 (gd rfl) rfl (fun z61 e61 => ?_)
        have i61 := inl_and2 e61 i58 rfl
        refine g_lconst 0 63 (gd rfl) rfl rfl ?_
        refine g_lcmp 64 (gd rfl) rfl (fun z63 e63 => ?_)
        have i63 := lc_in e63
        refine g_if_eq 67 70 (gd rfl) rfl rfl (fun c64 => ?_) (fun c64 => ?_)
        · skip
          have i64 := z_eq 0 0 c64 i63 rfl
          have c64a := lc_eq e63 c64
          have i64a := lr_eq1 0 0 c64a i61 (l_c 0 rfl) rfl
          refine g_aload_n 71 (gd rfl) rfl rfl ?_
          refine g_aload_n 72 (gd rfl) rfl rfl ?_
          refine g_callv (X := _) (As := [.ref (A 32)]) (r := []) (b := A 94) (q := 94) 75 (gd rfl) rfl rfl rfl rfl rfl (ww_o rfl) (Nat.le_of_ble_eq_true rfl) (Nat.zero_le _) (Nat.zero_le _) (k_164_94_32 (by first | exact dq1 hd rfl | exact dq0 hd rfl | exact dq2 hd rfl | exact dq3 hd rfl | omega) hIc43 ) (fun e u h => h) (fun v u h => ?_)
          obtain ⟨s72, hI72, hF72, z72, rfl, rfl, i72⟩ := h
          show GG _ _ _ _ _ _ _ _ [.int z72] _ _ _
          refine g_if_ne 78 80 (gd rfl) rfl rfl (fun c75 => ?_) (fun c75 => ?_)
          · skip
            have i75 := z_ne 1 1 c75 i72 rfl
            refine g_iinc 83 (gd rfl) rfl rfl (Nat.le_of_ble_eq_true rfl) (fun z80 e80 => ?_)
            have i80 := in_add 1 1953 e80 i48 (in_c 1 rfl) rfl rfl
            refine g_goto 43 (gd rfl) rfl ?_
            exact gg_w (by first | exact Nat.le_add_right _ _ | exact gw2 | exact gw3 | exact gwe rfl | exact gwf rfl | exact gwg rfl | exact gwh rfl | omega) (gg_f (gf_cons rfl (gf_cons rfl (gf_cons rfl (gf_cons rfl (gf_cons rfl gf_nil))))) (ih43 s72 z80 hI72 (fr_tr rfl hFc43 hF72) (in_w 0 2001 i80 rfl) (m_up mm43 (t_add e80 i48 (in_c 1 rfl) rfl) (in_w 1 1 (in_c 1 rfl) rfl))))
          · skip
            have i75 := z_eq 0 0 c75 i72 rfl
            refine g_iconst (-1) 79 (gd rfl) rfl rfl ?_
            exact g_ireturn (gd rfl) rfl rfl (hP _ _ ⟨s72, hI72, (fr_tr rfl hFc43 hF72), (Int32.ofInt (-1)), rfl, rfl, in_w (-1) 1952 (in_c (-1) rfl) rfl⟩)
        · skip
          have c64a := lc_ne e63 c64
          have i64 := lr_ne1 1 2305843009213693951 c64a i61 (l_c 0 rfl) rfl
          refine g_iload 69 (gd rfl) rfl rfl ?_
          exact g_ireturn (gd rfl) rfl rfl (hP _ _ ⟨sc43, hIc43, hFc43, y43_4, rfl, rfl, in_w (-1) 1952 i48 rfl⟩)
  refine g_enter2 (k := 163) (N := 1802701) (by first | exact dq1 hd rfl | exact dq0 hd rfl | exact dq2 hd rfl | exact dq3 hd rfl | omega) rfl (Nat.le_of_ble_eq_true rfl) ?_
  refine g_aload_n 1 (gd rfl) rfl rfl ?_
  refine g_callv (X := _) (As := []) (r := []) (b := A 32) (q := 32) 4 (gd rfl) rfl rfl rfl rfl rfl (ww_o rfl) (Nat.le_of_ble_eq_true rfl) (Nat.zero_le _) (Nat.zero_le _) (k_106_32 (by first | exact dq1 hd rfl | exact dq0 hd rfl | exact dq2 hd rfl | exact dq3 hd rfl | omega) hI ) (fun e u h => h) (fun v u h => ?_)
  obtain ⟨s1, hI1, hF1, n1, rfl, rfl⟩ := h
  obtain ⟨z1a, e1⟩ : ∃ w, w = s1.2.2.1 32 4 := ⟨_, rfl⟩
  have i1a := inv_F hI1 (-1) 4000 rfl e1
  obtain ⟨z1b, e1a⟩ : ∃ w, w = s1.2.2.1 32 0 := ⟨_, rfl⟩
  have i1b := inv_F hI1 0 4000 rfl e1a
  rw [← (show z1a = s1.2.2.1 32 4 from e1)] at n1
  rw [← (show z1b = s1.2.2.1 32 0 from e1a)] at n1
  show GG _ _ _ _ _ _ _ _ [] _ _ _
  refine g_aload_n 5 (gd rfl) rfl rfl ?_
  refine g_getA (q2 := 99) 8 (gd rfl) rfl rfl rfl rfl ?_
  refine g_lconst 0 9 (gd rfl) rfl rfl ?_
  refine g_calls (As := [.ref (A 99), .long (Int64.ofInt 0)]) (r := []) 12 (gd rfl) rfl rfl rfl rfl rfl (Nat.le_of_ble_eq_true rfl) (Nat.zero_le _) (Nat.zero_le _) (k_fillL 99 (by first | exact dq1 hd rfl | exact dq0 hd rfl | exact dq2 hd rfl | exact dq3 hd rfl | omega) hI1 (n := 32) rfl rfl rfl (lw 0 2305843009213693951 (l_c 0 rfl) rfl)) (fun v u h => ?_)
  obtain ⟨s9, hI9, hF9, rfl, rfl, fl9⟩ := h
  show GG _ _ _ _ _ _ _ _ [] _ _ _
  refine g_aload_n 13 (gd rfl) rfl rfl ?_
  refine g_getA (q2 := 101) 16 (gd rfl) rfl rfl rfl rfl ?_
  refine g_lconst 0 17 (gd rfl) rfl rfl ?_
  refine g_calls (As := [.ref (A 101), .long (Int64.ofInt 0)]) (r := []) 20 (gd rfl) rfl rfl rfl rfl rfl (Nat.le_of_ble_eq_true rfl) (Nat.zero_le _) (Nat.zero_le _) (k_fillL 101 (by first | exact dq1 hd rfl | exact dq0 hd rfl | exact dq2 hd rfl | exact dq3 hd rfl | omega) hI9 (n := 32) rfl rfl rfl (lw 0 2305843009213693951 (l_c 0 rfl) rfl)) (fun v u h => ?_)
  obtain ⟨s17, hI17, hF17, rfl, rfl, fl17⟩ := h
  show GG _ _ _ _ _ _ _ _ [] _ _ _
  refine g_aload_n 21 (gd rfl) rfl rfl ?_
  refine g_getA (q2 := 99) 24 (gd rfl) rfl rfl rfl rfl ?_
  refine g_iload_n 25 (gd rfl) rfl rfl ?_
  refine g_aload_n 26 (gd rfl) rfl rfl ?_
  refine g_getL 29 (gd rfl) rfl rfl rfl (fun z26 e26 => ?_)
  have i26 := inv_G hI17 0 2305843009213693951 rfl e26
  refine g_lastore 30 (gd rfl) rfl (n := 32) rfl (in_ix h2 rfl) ?_
  have hI29 := inv_sL (q := 99) (j := x2.toNatClampNeg) (x := z26) hI17 rfl (lw 0 2305843009213693951 i26 rfl)
  refine g_aload_n 31 (gd rfl) rfl rfl ?_
  refine g_getA (q2 := 101) 34 (gd rfl) rfl rfl rfl rfl ?_
  refine g_iload_n 35 (gd rfl) rfl rfl ?_
  refine g_aload_n 36 (gd rfl) rfl rfl ?_
  refine g_getL 39 (gd rfl) rfl rfl rfl (fun z36 e36 => ?_)
  have i36 := inv_G hI29 0 2305843009213693951 rfl e36
  refine g_lastore 40 (gd rfl) rfl (n := 32) rfl (in_ix h2 rfl) ?_
  have hI39 := inv_sL (q := 101) (j := x2.toNatClampNeg) (x := z36) hI29 rfl (lw 0 2305843009213693951 i36 rfl)
  refine g_iconst 0 41 (gd rfl) rfl rfl ?_
  refine g_istore 43 (gd rfl) rfl (Nat.le_of_ble_eq_true rfl) ?_
  exact gg_w (by first | exact Nat.le_of_ble_eq_true rfl | omega) (gg_f (gf_cons rfl (gf_cons rfl (gf_cons rfl (gf_cons rfl (gf_cons rfl gf_nil))))) (ct43 2002 (sL (sL s17 99 x2.toNatClampNeg z26) 101 x2.toNatClampNeg z36) (Int32.ofInt 0) hI39 (fr_sL rfl (fr_sL rfl (fr_tr rfl (fr_tr rfl (fr_tr rfl fr_rf hF1) hF9) hF17))) (in_w 0 2001 (in_c 0 rfl) rfl) (m_in 2002 (in_w 0 2001 (in_c 0 rfl) rfl) rfl)))

def fm_189_76_2 : FM := ([], [85], [], [])
/-- GraphHouse$Trees.countTrees -/
theorem k_189_76_2 {Z : AmZ} {A : Nat → Nat} {s : GS} {ex : va_W} {d : Nat} {X : AmX}  (hd : 3 ≤ d) (hI : Inv s)  : GC Z d 189 [.ref (A 76), .ref (A 2)] (WW Z A s ++ ex) 0 0 (fun v u => ∃ t : GS, Inv t ∧ Fr fm_189_76_2 s t ∧ ∃ z : Int32, v = some (.int z) ∧ u = WW Z A t ++ ex ∧ In z (-2147483648) 2147483647) X := by
  intro post xp hP hX
  obtain ⟨u_2_1, e_2_1⟩ : ∃ w, w = s.2.2.1 2 1 := ⟨_, rfl⟩
  have ro_2_1 := inv_F hI 0 32 rfl e_2_1
  obtain ⟨u_2_3, e_2_3⟩ : ∃ w, w = s.2.2.1 2 3 := ⟨_, rfl⟩
  have ro_2_3 := inv_F hI 0 160 rfl e_2_3
  have ct179 : ∀ (k179 : Nat) (sc179 : GS) (y179_2 : Int32) (y179_3 : Int64) (y179_5 : Int32), Inv sc179 → Fr fm_189_76_2 s sc179 → (In y179_2 (-1) 31) → (In y179_5 0 31) → 31 - (y179_5).toInt < (k179 : Int) → GG Z (d - 1) 189 post (gx xp) (1 + k179 * 900) 179 (fun j => xlook j [(0, .ref (A 76)), (1, .ref (A 2)), (2, .int y179_2), (3, .long y179_3), (5, .int y179_5)]) [] (WW Z A sc179 ++ ex) 0 0 := by
    intro k179
    induction k179 with
    | zero => intro sc179 y179_2 y179_3 y179_5 hIc179 hFc179 j179_2 j179_5 mm179; exact m_no mm179 j179_5 rfl
    | succ k179 ih179 =>
      intro sc179 y179_2 y179_3 y179_5 hIc179 hFc179 j179_2 j179_5 mm179
      refine gg_w (M := 1 + k179 * 900 + 900) gws ?_
      refine g_iload 181 (gd rfl) rfl rfl ?_
      refine g_iload_n 182 (gd rfl) rfl rfl ?_
      refine g_cmp_ge 185 211 (gd rfl) rfl rfl (fun c182 => ?_) (fun c182 => ?_)
      · skip
        refine g_lload_n 212 (gd rfl) rfl rfl ?_
        refine g_l2i 213 (gd rfl) rfl (fun z212 e212 => ?_)
        exact g_ireturn (gd rfl) rfl rfl (hP _ _ ⟨sc179, hIc179, hFc179, z212, rfl, rfl, in_w (-2147483648) 2147483647 (i_rng z212) rfl⟩)
      · skip
        have i182 := r_lt1 0 30 c182 j179_5 j179_2 rfl
        have i182a := r_lt2 1 31 c182 j179_5 j179_2 rfl
        refine g_lload_n 186 (gd rfl) rfl rfl ?_
        refine g_lconst 0 187 (gd rfl) rfl rfl ?_
        refine g_lcmp 188 (gd rfl) rfl (fun z187 e187 => ?_)
        have i187 := lc_in e187
        refine g_if_eq 191 211 (gd rfl) rfl rfl (fun c188 => ?_) (fun c188 => ?_)
        · skip
          have i188 := z_eq 0 0 c188 i187 rfl
          have c188a := lc_eq e187 c188
          have i188a := lr_eq1 0 0 c188a (l_rng y179_3) (l_c 0 rfl) rfl
          refine g_lload_n 212 (gd rfl) rfl rfl ?_
          refine g_l2i 213 (gd rfl) rfl (fun z212 e212 => ?_)
          exact g_ireturn (gd rfl) rfl rfl (hP _ _ ⟨sc179, hIc179, hFc179, z212, rfl, rfl, in_w (-2147483648) 2147483647 (i_rng z212) rfl⟩)
        · skip
          have c188a := lc_ne e187 c188
          refine g_lload_n 192 (gd rfl) rfl rfl ?_
          refine g_aload_n 193 (gd rfl) rfl rfl ?_
          refine g_iload 195 (gd rfl) rfl rfl ?_
          refine g_iload_n 196 (gd rfl) rfl rfl ?_
          refine g_callv (X := _) (As := [.int y179_5, .int y179_2]) (r := [.long y179_3]) (b := A 76) (q := 76) 199 (gd rfl) rfl rfl rfl rfl rfl (ww_o rfl) (Nat.le_of_ble_eq_true rfl) (Nat.zero_le _) (Nat.zero_le _) (k_190_76 (by first | exact dq1 hd rfl | exact dq0 hd rfl | exact dq2 hd rfl | exact dq3 hd rfl | omega) hIc179 (in_w 0 30 i182 rfl) (in_w 1 31 i182a rfl)) (fun e u h => h) (fun v u h => ?_)
          obtain ⟨s196, hI196, hF196, z196, rfl, rfl⟩ := h
          show GG _ _ _ _ _ _ _ _ [.long z196, .long y179_3] _ _ _
          refine g_lmul 200 (gd rfl) rfl (fun z199 e199 => ?_)
          refine g_ldc2_w 1000000007 203 (gd rfl) rfl rfl ?_
          refine g_lrem 204 (gd rfl) rfl (by decide) (fun z203 e203 => ?_)
          have i203 := l_rem (-1000000006) 1000000006 e203 rfl
          refine g_lstore_n 205 (gd rfl) rfl (Nat.le_of_ble_eq_true rfl) ?_
          refine g_iinc 208 (gd rfl) rfl rfl (Nat.le_of_ble_eq_true rfl) (fun z205 e205 => ?_)
          have i205 := in_add 1 31 e205 i182 (in_c 1 rfl) rfl rfl
          refine g_goto 179 (gd rfl) rfl ?_
          exact gg_w (by first | exact Nat.le_add_right _ _ | exact gw2 | exact gw3 | exact gwe rfl | exact gwf rfl | exact gwg rfl | exact gwh rfl | omega) (gg_f (gf_cons rfl (gf_cons rfl (gf_cons rfl (gf_cons rfl (gf_cons rfl gf_nil))))) (ih179 s196 y179_2 z203 z205 hI196 (fr_tr rfl hFc179 hF196) (in_w (-1) 31 i182a rfl) (in_w 0 31 i205 rfl) (m_up mm179 (t_add e205 i182 (in_c 1 rfl) rfl) (in_w 1 1 (in_c 1 rfl) rfl))))
  have ct134 : ∀ (k134 : Nat) (sc134 : GS) (y134_2 : Int32), Inv sc134 → Fr fm_189_76_2 s sc134 → (In y134_2 0 2001) → 2001 - (y134_2).toInt < (k134 : Int) → GG Z (d - 1) 189 post (gx xp) (28802 + k134 * 900) 134 (fun j => xlook j [(0, .ref (A 76)), (1, .ref (A 2)), (2, .int y134_2)]) [] (WW Z A sc134 ++ ex) 0 0 := by
    intro k134
    induction k134 with
    | zero => intro sc134 y134_2 hIc134 hFc134 j134_2 mm134; exact m_no mm134 j134_2 rfl
    | succ k134 ih134 =>
      intro sc134 y134_2 hIc134 hFc134 j134_2 mm134
      refine gg_w (M := 28802 + k134 * 900 + 900) gws ?_
      refine g_iload_n 135 (gd rfl) rfl rfl ?_
      refine g_aload_n 136 (gd rfl) rfl rfl ?_
      refine g_getA (q2 := 85) 139 (gd rfl) rfl rfl rfl rfl ?_
      refine g_alen (n := 1024) (t := 1) 1024 140 (gd rfl) rfl rfl (Nat.le_of_ble_eq_true rfl) rfl ?_
      refine g_cmp_ge 143 167 (gd rfl) rfl rfl (fun c140 => ?_) (fun c140 => ?_)
      · skip
        have i140 := r_le2 1024 2001 c140 (in_c 1024 rfl) j134_2 rfl
        refine g_aload_n 168 (gd rfl) rfl rfl ?_
        refine g_getI 171 (gd rfl) rfl rfl rfl (fun z168 e168 => ?_)
        have q168 : u_2_1 = z168 := (fr_F e_2_1 hFc134 rfl).trans e168.symm
        subst q168
        refine g_iconst 1 172 (gd rfl) rfl rfl ?_
        refine g_isub 173 (gd rfl) rfl (fun z172 e172 => ?_)
        have i172 := in_sub (-1) 31 e172 ro_2_1 (in_c 1 rfl) rfl rfl
        refine g_istore_n 174 (gd rfl) rfl (Nat.le_of_ble_eq_true rfl) ?_
        refine g_lconst 1 175 (gd rfl) rfl rfl ?_
        refine g_lstore_n 176 (gd rfl) rfl (Nat.le_of_ble_eq_true rfl) ?_
        refine g_iconst 0 177 (gd rfl) rfl rfl ?_
        refine g_istore 179 (gd rfl) rfl (Nat.le_of_ble_eq_true rfl) ?_
        exact gg_w (by first | exact Nat.le_add_right _ _ | exact gw2 | exact gw3 | exact gwe rfl | exact gwf rfl | exact gwg rfl | exact gwh rfl | omega) (gg_f (gf_cons rfl (gf_cons rfl (gf_cons rfl (gf_cons rfl (gf_cons rfl gf_nil))))) (ct179 32 sc134 z172 (Int64.ofInt 1) (Int32.ofInt 0) hIc134 hFc134 (in_w (-1) 31 i172 rfl) (in_w 0 31 (in_c 0 rfl) rfl) (m_in 32 (in_w 0 31 (in_c 0 rfl) rfl) rfl)))
      · skip
        have i140 := r_lt1 0 1023 c140 j134_2 (in_c 1024 rfl) rfl
        refine g_aload_n 144 (gd rfl) rfl rfl ?_
        refine g_getA (q2 := 85) 147 (gd rfl) rfl rfl rfl rfl ?_
        refine g_iload_n 148 (gd rfl) rfl rfl ?_
        refine g_aload_n 149 (gd rfl) rfl rfl ?_
        refine g_getA (q2 := 85) 152 (gd rfl) rfl rfl rfl rfl ?_
        refine g_iload_n 153 (gd rfl) rfl rfl ?_
        refine g_laload 154 (gd rfl) rfl (n := 1024) rfl (in_ix i140 rfl) (fun z153 e153 => ?_)
        refine g_ldc2_w 1000000007 157 (gd rfl) rfl rfl ?_
        refine g_calls (As := [.long z153, .long (Int64.ofInt 1000000007)]) (r := [.int y134_2, .ref (A 85)]) 160 (gd rfl) rfl rfl rfl rfl rfl (Nat.le_of_ble_eq_true rfl) (mc := 0) (ms := 0) (Nat.zero_le _) (Nat.zero_le _) (P := fun v u => _) ?_ (fun v u h => h)
        intro po157 xx157 hp157 hx157
        refine g_enter2 (k := 419) (N := 300) (by first | exact dq1 hd rfl | exact dq0 hd rfl | exact dq2 hd rfl | exact dq3 hd rfl | omega) rfl (Nat.le_of_ble_eq_true rfl) ?_
        refine g_lload_n 1 (gd rfl) rfl rfl ?_
        refine g_lload_n 2 (gd rfl) rfl rfl ?_
        refine g_lrem 3 (gd rfl) rfl (by decide) (fun z157x2 e157x2 => ?_)
        have i157x2 := l_rem (-1000000006) 1000000006 e157x2 rfl
        refine g_lstore 5 (gd rfl) rfl (Nat.le_of_ble_eq_true rfl) ?_
        refine g_lload_n 6 (gd rfl) rfl rfl ?_
        refine g_lload_n 7 (gd rfl) rfl rfl ?_
        refine g_lxor 8 (gd rfl) rfl (fun z157x7 e157x7 => ?_)
        refine g_lconst 0 9 (gd rfl) rfl rfl ?_
        refine g_lcmp 10 (gd rfl) rfl (fun z157x9 e157x9 => ?_)
        have i157x9 := lc_in e157x9
        refine g_if_ge 13 25 (gd rfl) rfl rfl (fun c157x10 => ?_) (fun c157x10 => ?_)
        · skip
          have i157x10 := z_ge 0 1 c157x10 i157x9 rfl
          have c157x10a := lc_ge e157x9 c157x10
          have i157x10a := lr_le2 0 9223372036854775807 c157x10a (l_c 0 rfl) (l_rng z157x7) rfl
          refine g_lload 27 (gd rfl) rfl rfl ?_
          refine g_lreturn (gd rfl) rfl (hp157 _ _ ?_)
          show GG _ _ _ _ _ _ _ _ [.long z157x2, .int y134_2, .ref (A 85)] _ _ _
          refine g_lastore 161 (gd rfl) rfl (n := 1024) rfl (in_ix i140 rfl) ?_
          have hI160 := inv_sL (q := 85) (j := y134_2.toNatClampNeg) (x := z157x2) hIc134 rfl (l_rng z157x2)
          refine g_iinc 164 (gd rfl) rfl rfl (Nat.le_of_ble_eq_true rfl) (fun z161 e161 => ?_)
          have i161 := in_add 1 1024 e161 i140 (in_c 1 rfl) rfl rfl
          refine g_goto 134 (gd rfl) rfl ?_
          exact gg_w (by first | exact Nat.le_add_right _ _ | exact gw2 | exact gw3 | exact gwe rfl | exact gwf rfl | exact gwg rfl | exact gwh rfl | omega) (gg_f (gf_cons rfl (gf_cons rfl (gf_cons rfl gf_nil))) (ih134 (sL sc134 85 y134_2.toNatClampNeg z157x2) z161 hI160 (fr_sL rfl hFc134) (in_w 0 2001 i161 rfl) (m_up mm134 (t_add e161 i140 (in_c 1 rfl) rfl) (in_w 1 1 (in_c 1 rfl) rfl))))
        · skip
          have i157x10 := z_lt (-1) (-1) c157x10 i157x9 rfl
          have c157x10a := lc_lt e157x9 c157x10
          have i157x10a := lr_lt1 (-9223372036854775808) (-1) c157x10a (l_rng z157x7) (l_c 0 rfl) rfl
          refine g_lload 15 (gd rfl) rfl rfl ?_
          refine g_lconst 0 16 (gd rfl) rfl rfl ?_
          refine g_lcmp 17 (gd rfl) rfl (fun z157x16 e157x16 => ?_)
          have i157x16 := lc_in e157x16
          refine g_if_eq 20 25 (gd rfl) rfl rfl (fun c157x17 => ?_) (fun c157x17 => ?_)
          · skip
            have i157x17 := z_eq 0 0 c157x17 i157x16 rfl
            have c157x17a := lc_eq e157x16 c157x17
            have i157x17a := lr_eq1 0 0 c157x17a i157x2 (l_c 0 rfl) rfl
            refine g_lload 27 (gd rfl) rfl rfl ?_
            refine g_lreturn (gd rfl) rfl (hp157 _ _ ?_)
            show GG _ _ _ _ _ _ _ _ [.long z157x2, .int y134_2, .ref (A 85)] _ _ _
            refine g_lastore 161 (gd rfl) rfl (n := 1024) rfl (in_ix i140 rfl) ?_
            have hI160 := inv_sL (q := 85) (j := y134_2.toNatClampNeg) (x := z157x2) hIc134 rfl (l_rng z157x2)
            refine g_iinc 164 (gd rfl) rfl rfl (Nat.le_of_ble_eq_true rfl) (fun z161 e161 => ?_)
            have i161 := in_add 1 1024 e161 i140 (in_c 1 rfl) rfl rfl
            refine g_goto 134 (gd rfl) rfl ?_
            exact gg_w (by first | exact Nat.le_add_right _ _ | exact gw2 | exact gw3 | exact gwe rfl | exact gwf rfl | exact gwg rfl | exact gwh rfl | omega) (gg_f (gf_cons rfl (gf_cons rfl (gf_cons rfl gf_nil))) (ih134 (sL sc134 85 y134_2.toNatClampNeg z157x2) z161 hI160 (fr_sL rfl hFc134) (in_w 0 2001 i161 rfl) (m_up mm134 (t_add e161 i140 (in_c 1 rfl) rfl) (in_w 1 1 (in_c 1 rfl) rfl))))
          · skip
            have c157x17a := lc_ne e157x16 c157x17
            refine g_lload 22 (gd rfl) rfl rfl ?_
            refine g_lload_n 23 (gd rfl) rfl rfl ?_
            refine g_ladd 24 (gd rfl) rfl (fun z157x23 e157x23 => ?_)
            have i157x23 := l_add 1 2000000013 e157x23 i157x2 (l_c 1000000007 rfl) rfl
            refine g_lreturn (gd rfl) rfl (hp157 _ _ ?_)
            show GG _ _ _ _ _ _ _ _ [.long z157x23, .int y134_2, .ref (A 85)] _ _ _
            refine g_lastore 161 (gd rfl) rfl (n := 1024) rfl (in_ix i140 rfl) ?_
            have hI160 := inv_sL (q := 85) (j := y134_2.toNatClampNeg) (x := z157x23) hIc134 rfl (l_rng z157x23)
            refine g_iinc 164 (gd rfl) rfl rfl (Nat.le_of_ble_eq_true rfl) (fun z161 e161 => ?_)
            have i161 := in_add 1 1024 e161 i140 (in_c 1 rfl) rfl rfl
            refine g_goto 134 (gd rfl) rfl ?_
            exact gg_w (by first | exact Nat.le_add_right _ _ | exact gw2 | exact gw3 | exact gwe rfl | exact gwf rfl | exact gwg rfl | exact gwh rfl | omega) (gg_f (gf_cons rfl (gf_cons rfl (gf_cons rfl gf_nil))) (ih134 (sL sc134 85 y134_2.toNatClampNeg z157x23) z161 hI160 (fr_sL rfl hFc134) (in_w 0 2001 i161 rfl) (m_up mm134 (t_add e161 i140 (in_c 1 rfl) rfl) (in_w 1 1 (in_c 1 rfl) rfl))))
  have ct10 : ∀ (k10 : Nat) (sc10 : GS) (y10_2 : Int32), Inv sc10 → Fr fm_189_76_2 s sc10 → (In y10_2 0 160) → 160 - (y10_2).toInt < (k10 : Int) → GG Z (d - 1) 189 post (gx xp) (1830603 + k10 * 900) 10 (fun j => xlook j [(0, .ref (A 76)), (1, .ref (A 2)), (2, .int y10_2)]) [] (WW Z A sc10 ++ ex) 0 0 := by
    intro k10
    induction k10 with
    | zero => intro sc10 y10_2 hIc10 hFc10 j10_2 mm10; exact m_no mm10 j10_2 rfl
    | succ k10 ih10 =>
      intro sc10 y10_2 hIc10 hFc10 j10_2 mm10
      refine gg_w (M := 1830603 + k10 * 900 + 900) gws ?_
      refine g_iload_n 11 (gd rfl) rfl rfl ?_
      refine g_aload_n 12 (gd rfl) rfl rfl ?_
      refine g_getI 15 (gd rfl) rfl rfl rfl (fun z12 e12 => ?_)
      have q12 : u_2_3 = z12 := (fr_F e_2_3 hFc10 rfl).trans e12.symm
      subst q12
      refine g_cmp_ge 18 132 (gd rfl) rfl rfl (fun c15 => ?_) (fun c15 => ?_)
      · skip
        refine g_iconst 0 133 (gd rfl) rfl rfl ?_
        refine g_istore_n 134 (gd rfl) rfl (Nat.le_of_ble_eq_true rfl) ?_
        exact gg_w (by first | exact Nat.le_add_right _ _ | exact gw2 | exact gw3 | exact gwe rfl | exact gwf rfl | exact gwg rfl | exact gwh rfl | omega) (gg_f (gf_cons rfl (gf_cons rfl (gf_cons rfl gf_nil))) (ct134 2002 sc10 (Int32.ofInt 0) hIc10 hFc10 (in_w 0 2001 (in_c 0 rfl) rfl) (m_in 2002 (in_w 0 2001 (in_c 0 rfl) rfl) rfl)))
      · skip
        have i15 := r_lt1 0 159 c15 j10_2 ro_2_3 rfl
        have i15a := r_lt2 1 160 c15 j10_2 ro_2_3 rfl
        refine g_aload_n 19 (gd rfl) rfl rfl ?_
        refine g_iload_n 20 (gd rfl) rfl rfl ?_
        refine g_callv (X := _) (As := [.int y10_2]) (r := []) (b := A 2) (q := 2) 23 (gd rfl) rfl rfl rfl rfl rfl (ww_o rfl) (Nat.le_of_ble_eq_true rfl) (mc := 0) (ms := 0) (Nat.zero_le _) (Nat.zero_le _) (P := fun v u => _) ?_ (fun e u h => h) (fun v u h => h)
        intro po20 xx20 hp20 hx20
        refine g_enter2 (k := 97) (N := 300) (by first | exact dq1 hd rfl | exact dq0 hd rfl | exact dq2 hd rfl | exact dq3 hd rfl | omega) rfl (Nat.le_of_ble_eq_true rfl) ?_
        refine g_aload_n 1 (gd rfl) rfl rfl ?_
        refine g_getA (q2 := 4) 4 (gd rfl) rfl rfl rfl rfl ?_
        refine g_iload_n 5 (gd rfl) rfl rfl ?_
        refine g_iaload 6 (gd rfl) rfl (n := 160) rfl (in_ix i15 rfl) (fun z20x5 e20x5 => ?_)
        have i20x5 := inv_I hIc10 (n := 160) (t := 0) (-1) 31 rfl (in_ix i15 rfl) rfl e20x5
        refine g_iconst (-1) 7 (gd rfl) rfl rfl ?_
        refine g_cmp_eq 10 29 (gd rfl) rfl rfl (fun c20x7 => ?_) (fun c20x7 => ?_)
        · skip
          have i20x7 := r_eq1 (-1) (-1) c20x7 i20x5 (in_c (-1) rfl) rfl
          refine g_iconst 0 30 (gd rfl) rfl rfl ?_
          refine g_ireturn (gd rfl) rfl (nb01 (in_w 0 1 (in_c 0 rfl) rfl)) (hp20 _ _ ?_)
          show GG _ _ _ _ _ _ _ _ [.int (Int32.ofInt 0)] _ _ _
          refine g_if_eq 26 126 (gd rfl) rfl rfl (fun c23 => ?_) (fun c23 => ?_)
          · skip
            refine g_iinc 129 (gd rfl) rfl rfl (Nat.le_of_ble_eq_true rfl) (fun z126 e126 => ?_)
            have i126 := in_add 1 160 e126 i15 (in_c 1 rfl) rfl rfl
            refine g_goto 10 (gd rfl) rfl ?_
            exact gg_w (by first | exact Nat.le_add_right _ _ | exact gw2 | exact gw3 | exact gwe rfl | exact gwf rfl | exact gwg rfl | exact gwh rfl | omega) (gg_f (gf_cons rfl (gf_cons rfl (gf_cons rfl gf_nil))) (ih10 sc10 z126 hIc10 hFc10 (in_w 0 160 i126 rfl) (m_up mm10 (t_add e126 i15 (in_c 1 rfl) rfl) (in_w 1 1 (in_c 1 rfl) rfl))))
          · skip
            exact zn_ne c23 (in_c 0 rfl) rfl
        · skip
          have i20x7 := r_ne1 0 31 c20x7 i20x5 (in_c (-1) rfl) rfl
          refine g_aload_n 11 (gd rfl) rfl rfl ?_
          refine g_getA (q2 := 4) 14 (gd rfl) rfl rfl rfl rfl ?_
          refine g_iload_n 15 (gd rfl) rfl rfl ?_
          refine g_iaload 16 (gd rfl) rfl (n := 160) rfl (in_ix i15 rfl) (fun z20x15 e20x15 => ?_)
          have q20x15 : z20x5 = z20x15 := (e20x5).trans e20x15.symm
          subst q20x15
          refine g_aload_n 17 (gd rfl) rfl rfl ?_
          refine g_getA (q2 := 5) 20 (gd rfl) rfl rfl rfl rfl ?_
          refine g_iload_n 21 (gd rfl) rfl rfl ?_
          refine g_iaload 22 (gd rfl) rfl (n := 160) rfl (in_ix i15 rfl) (fun z20x21 e20x21 => ?_)
          have i20x21 := inv_I hIc10 (n := 160) (t := 0) 0 31 rfl (in_ix i15 rfl) rfl e20x21
          refine g_cmp_eq 25 29 (gd rfl) rfl rfl (fun c20x22 => ?_) (fun c20x22 => ?_)
          · skip
            refine g_iconst 0 30 (gd rfl) rfl rfl ?_
            refine g_ireturn (gd rfl) rfl (nb01 (in_w 0 1 (in_c 0 rfl) rfl)) (hp20 _ _ ?_)
            show GG _ _ _ _ _ _ _ _ [.int (Int32.ofInt 0)] _ _ _
            refine g_if_eq 26 126 (gd rfl) rfl rfl (fun c23 => ?_) (fun c23 => ?_)
            · skip
              refine g_iinc 129 (gd rfl) rfl rfl (Nat.le_of_ble_eq_true rfl) (fun z126 e126 => ?_)
              have i126 := in_add 1 160 e126 i15 (in_c 1 rfl) rfl rfl
              refine g_goto 10 (gd rfl) rfl ?_
              exact gg_w (by first | exact Nat.le_add_right _ _ | exact gw2 | exact gw3 | exact gwe rfl | exact gwf rfl | exact gwg rfl | exact gwh rfl | omega) (gg_f (gf_cons rfl (gf_cons rfl (gf_cons rfl gf_nil))) (ih10 sc10 z126 hIc10 hFc10 (in_w 0 160 i126 rfl) (m_up mm10 (t_add e126 i15 (in_c 1 rfl) rfl) (in_w 1 1 (in_c 1 rfl) rfl))))
            · skip
              exact zn_ne c23 (in_c 0 rfl) rfl
          · skip
            refine g_iconst 1 26 (gd rfl) rfl rfl ?_
            refine g_goto 30 (gd rfl) rfl ?_
            refine g_ireturn (gd rfl) rfl (nb01 (in_w 0 1 (in_c 1 rfl) rfl)) (hp20 _ _ ?_)
            show GG _ _ _ _ _ _ _ _ [.int (Int32.ofInt 1)] _ _ _
            refine g_if_eq 26 126 (gd rfl) rfl rfl (fun c23 => ?_) (fun c23 => ?_)
            · skip
              exact zn_eq c23 (in_c 1 rfl) rfl
            · skip
              refine g_aload_n 27 (gd rfl) rfl rfl ?_
              refine g_getA (q2 := 85) 30 (gd rfl) rfl rfl rfl rfl ?_
              refine g_aload_n 31 (gd rfl) rfl rfl ?_
              refine g_getA (q2 := 4) 34 (gd rfl) rfl rfl rfl rfl ?_
              refine g_iload_n 35 (gd rfl) rfl rfl ?_
              refine g_iaload 36 (gd rfl) rfl (n := 160) rfl (in_ix i15 rfl) (fun z35 e35 => ?_)
              have q35 : z20x5 = z35 := (e20x5).trans e35.symm
              subst q35
              refine g_bipush 32 38 (gd rfl) rfl rfl ?_
              refine g_imul 39 (gd rfl) rfl (fun z38 e38 => ?_)
              have i38 := in_mulc 32 0 992 (Or.inr e38) i20x7 rfl rfl
              refine g_aload_n 40 (gd rfl) rfl rfl ?_
              refine g_getA (q2 := 4) 43 (gd rfl) rfl rfl rfl rfl ?_
              refine g_iload_n 44 (gd rfl) rfl rfl ?_
              refine g_iaload 45 (gd rfl) rfl (n := 160) rfl (in_ix i15 rfl) (fun z44 e44 => ?_)
              have q44 : z20x5 = z44 := (e20x5).trans e44.symm
              subst q44
              refine g_iadd 46 (gd rfl) rfl (fun z45 e45 => ?_)
              have i45 := in_add 0 1023 e45 i38 i20x7 rfl rfl
              refine g_dup2 47 (gd rfl) rfl rfl rfl ?_
              refine g_laload 48 (gd rfl) rfl (n := 1024) rfl (in_ix i45 rfl) (fun z47 e47 => ?_)
              refine g_lconst 1 49 (gd rfl) rfl rfl ?_
              refine g_ladd 50 (gd rfl) rfl (fun z49 e49 => ?_)
              refine g_lastore 51 (gd rfl) rfl (n := 1024) rfl (in_ix i45 rfl) ?_
              have hI50 := inv_sL (q := 85) (j := z45.toNatClampNeg) (x := z49) hIc10 rfl (l_rng z49)
              refine g_aload_n 52 (gd rfl) rfl rfl ?_
              refine g_getA (q2 := 85) 55 (gd rfl) rfl rfl rfl rfl ?_
              refine g_aload_n 56 (gd rfl) rfl rfl ?_
              refine g_getA (q2 := 5) 59 (gd rfl) rfl rfl rfl rfl ?_
              refine g_iload_n 60 (gd rfl) rfl rfl ?_
              refine g_iaload 61 (gd rfl) rfl (n := 160) rfl (in_ix i15 rfl) (fun z60 e60 => ?_)
              have q60 : z20x21 = z60 := (sL_I (e20x21)).trans e60.symm
              subst q60
              refine g_bipush 32 63 (gd rfl) rfl rfl ?_
              refine g_imul 64 (gd rfl) rfl (fun z63 e63 => ?_)
              have i63 := in_mulc 32 0 992 (Or.inr e63) i20x21 rfl rfl
              refine g_aload_n 65 (gd rfl) rfl rfl ?_
              refine g_getA (q2 := 5) 68 (gd rfl) rfl rfl rfl rfl ?_
              refine g_iload_n 69 (gd rfl) rfl rfl ?_
              refine g_iaload 70 (gd rfl) rfl (n := 160) rfl (in_ix i15 rfl) (fun z69 e69 => ?_)
              have q69 : z20x21 = z69 := (sL_I (e20x21)).trans e69.symm
              subst q69
              refine g_iadd 71 (gd rfl) rfl (fun z70 e70 => ?_)
              have i70 := in_add 0 1023 e70 i63 i20x21 rfl rfl
              refine g_dup2 72 (gd rfl) rfl rfl rfl ?_
              refine g_laload 73 (gd rfl) rfl (n := 1024) rfl (in_ix i70 rfl) (fun z72 e72 => ?_)
              refine g_lconst 1 74 (gd rfl) rfl rfl ?_
              refine g_ladd 75 (gd rfl) rfl (fun z74 e74 => ?_)
              refine g_lastore 76 (gd rfl) rfl (n := 1024) rfl (in_ix i70 rfl) ?_
              have hI75 := inv_sL (q := 85) (j := z70.toNatClampNeg) (x := z74) hI50 rfl (l_rng z74)
              refine g_aload_n 77 (gd rfl) rfl rfl ?_
              refine g_getA (q2 := 85) 80 (gd rfl) rfl rfl rfl rfl ?_
              refine g_aload_n 81 (gd rfl) rfl rfl ?_
              refine g_getA (q2 := 4) 84 (gd rfl) rfl rfl rfl rfl ?_
              refine g_iload_n 85 (gd rfl) rfl rfl ?_
              refine g_iaload 86 (gd rfl) rfl (n := 160) rfl (in_ix i15 rfl) (fun z85 e85 => ?_)
              have q85 : z20x5 = z85 := (sL_I (sL_I (e20x5))).trans e85.symm
              subst q85
              refine g_bipush 32 88 (gd rfl) rfl rfl ?_
              refine g_imul 89 (gd rfl) rfl (fun z88 e88 => ?_)
              have i88 := in_mulc 32 0 992 (Or.inr e88) i20x7 rfl rfl
              refine g_aload_n 90 (gd rfl) rfl rfl ?_
              refine g_getA (q2 := 5) 93 (gd rfl) rfl rfl rfl rfl ?_
              refine g_iload_n 94 (gd rfl) rfl rfl ?_
              refine g_iaload 95 (gd rfl) rfl (n := 160) rfl (in_ix i15 rfl) (fun z94 e94 => ?_)
              have q94 : z20x21 = z94 := (sL_I (sL_I (e20x21))).trans e94.symm
              subst q94
              refine g_iadd 96 (gd rfl) rfl (fun z95 e95 => ?_)
              have i95 := in_add 0 1023 e95 i88 i20x21 rfl rfl
              refine g_dup2 97 (gd rfl) rfl rfl rfl ?_
              refine g_laload 98 (gd rfl) rfl (n := 1024) rfl (in_ix i95 rfl) (fun z97 e97 => ?_)
              refine g_lconst 1 99 (gd rfl) rfl rfl ?_
              refine g_lsub 100 (gd rfl) rfl (fun z99 e99 => ?_)
              refine g_lastore 101 (gd rfl) rfl (n := 1024) rfl (in_ix i95 rfl) ?_
              have hI100 := inv_sL (q := 85) (j := z95.toNatClampNeg) (x := z99) hI75 rfl (l_rng z99)
              refine g_aload_n 102 (gd rfl) rfl rfl ?_
              refine g_getA (q2 := 85) 105 (gd rfl) rfl rfl rfl rfl ?_
              refine g_aload_n 106 (gd rfl) rfl rfl ?_
              refine g_getA (q2 := 5) 109 (gd rfl) rfl rfl rfl rfl ?_
              refine g_iload_n 110 (gd rfl) rfl rfl ?_
              refine g_iaload 111 (gd rfl) rfl (n := 160) rfl (in_ix i15 rfl) (fun z110 e110 => ?_)
              have q110 : z20x21 = z110 := (sL_I (sL_I (sL_I (e20x21)))).trans e110.symm
              subst q110
              refine g_bipush 32 113 (gd rfl) rfl rfl ?_
              refine g_imul 114 (gd rfl) rfl (fun z113 e113 => ?_)
              have i113 := in_mulc 32 0 992 (Or.inr e113) i20x21 rfl rfl
              refine g_aload_n 115 (gd rfl) rfl rfl ?_
              refine g_getA (q2 := 4) 118 (gd rfl) rfl rfl rfl rfl ?_
              refine g_iload_n 119 (gd rfl) rfl rfl ?_
              refine g_iaload 120 (gd rfl) rfl (n := 160) rfl (in_ix i15 rfl) (fun z119 e119 => ?_)
              have q119 : z20x5 = z119 := (sL_I (sL_I (sL_I (e20x5)))).trans e119.symm
              subst q119
              refine g_iadd 121 (gd rfl) rfl (fun z120 e120 => ?_)
              have i120 := in_add 0 1023 e120 i113 i20x7 rfl rfl
              refine g_dup2 122 (gd rfl) rfl rfl rfl ?_
              refine g_laload 123 (gd rfl) rfl (n := 1024) rfl (in_ix i120 rfl) (fun z122 e122 => ?_)
              refine g_lconst 1 124 (gd rfl) rfl rfl ?_
              refine g_lsub 125 (gd rfl) rfl (fun z124 e124 => ?_)
              refine g_lastore 126 (gd rfl) rfl (n := 1024) rfl (in_ix i120 rfl) ?_
              have hI125 := inv_sL (q := 85) (j := z120.toNatClampNeg) (x := z124) hI100 rfl (l_rng z124)
              refine g_iinc 129 (gd rfl) rfl rfl (Nat.le_of_ble_eq_true rfl) (fun z126 e126 => ?_)
              have i126 := in_add 1 160 e126 i15 (in_c 1 rfl) rfl rfl
              refine g_goto 10 (gd rfl) rfl ?_
              exact gg_w (by first | exact Nat.le_add_right _ _ | exact gw2 | exact gw3 | exact gwe rfl | exact gwf rfl | exact gwg rfl | exact gwh rfl | omega) (gg_f (gf_cons rfl (gf_cons rfl (gf_cons rfl gf_nil))) (ih10 (sL (sL (sL (sL sc10 85 z45.toNatClampNeg z49) 85 z70.toNatClampNeg z74) 85 z95.toNatClampNeg z99) 85 z120.toNatClampNeg z124) z126 hI125 (fr_sL rfl (fr_sL rfl (fr_sL rfl (fr_sL rfl hFc10)))) (in_w 0 160 i126 rfl) (m_up mm10 (t_add e126 i15 (in_c 1 rfl) rfl) (in_w 1 1 (in_c 1 rfl) rfl))))
  refine g_enter2 (k := 189) (N := 1976403) (by first | exact dq1 hd rfl | exact dq0 hd rfl | exact dq2 hd rfl | exact dq3 hd rfl | omega) rfl (Nat.le_of_ble_eq_true rfl) ?_
  refine g_aload_n 1 (gd rfl) rfl rfl ?_
  refine g_getA (q2 := 85) 4 (gd rfl) rfl rfl rfl rfl ?_
  refine g_lconst 0 5 (gd rfl) rfl rfl ?_
  refine g_calls (As := [.ref (A 85), .long (Int64.ofInt 0)]) (r := []) 8 (gd rfl) rfl rfl rfl rfl rfl (Nat.le_of_ble_eq_true rfl) (Nat.zero_le _) (Nat.zero_le _) (k_fillL 85 (by first | exact dq1 hd rfl | exact dq0 hd rfl | exact dq2 hd rfl | exact dq3 hd rfl | omega) hI (n := 1024) rfl rfl rfl (l_rng (Int64.ofInt 0))) (fun v u h => ?_)
  obtain ⟨s5, hI5, hF5, rfl, rfl, fl5⟩ := h
  show GG _ _ _ _ _ _ _ _ [] _ _ _
  refine g_iconst 0 9 (gd rfl) rfl rfl ?_
  refine g_istore_n 10 (gd rfl) rfl (Nat.le_of_ble_eq_true rfl) ?_
  exact gg_w (by first | exact Nat.le_of_ble_eq_true rfl | omega) (gg_f (gf_cons rfl (gf_cons rfl (gf_cons rfl gf_nil))) (ct10 161 s5 (Int32.ofInt 0) hI5 (fr_tr rfl fr_rf hF5) (in_w 0 160 (in_c 0 rfl) rfl) (m_in 161 (in_w 0 160 (in_c 0 rfl) rfl) rfl)))

def fm_189_76_32 : FM := ([], [85], [], [])
/-- GraphHouse$Trees.countTrees -/
theorem k_189_76_32 {Z : AmZ} {A : Nat → Nat} {s : GS} {ex : va_W} {d : Nat} {X : AmX}  (hd : 3 ≤ d) (hI : Inv s)  : GC Z d 189 [.ref (A 76), .ref (A 32)] (WW Z A s ++ ex) 0 0 (fun v u => ∃ t : GS, Inv t ∧ Fr fm_189_76_32 s t ∧ ∃ z : Int32, v = some (.int z) ∧ u = WW Z A t ++ ex ∧ In z (-2147483648) 2147483647) X := by
  intro post xp hP hX
  obtain ⟨u_32_1, e_32_1⟩ : ∃ w, w = s.2.2.1 32 1 := ⟨_, rfl⟩
  have ro_32_1 := inv_F hI 0 32 rfl e_32_1
  obtain ⟨u_32_3, e_32_3⟩ : ∃ w, w = s.2.2.1 32 3 := ⟨_, rfl⟩
  have ro_32_3 := inv_F hI 0 160 rfl e_32_3
  have ct179 : ∀ (k179 : Nat) (sc179 : GS) (y179_2 : Int32) (y179_3 : Int64) (y179_5 : Int32), Inv sc179 → Fr fm_189_76_32 s sc179 → (In y179_2 (-1) 31) → (In y179_5 0 31) → 31 - (y179_5).toInt < (k179 : Int) → GG Z (d - 1) 189 post (gx xp) (1 + k179 * 900) 179 (fun j => xlook j [(0, .ref (A 76)), (1, .ref (A 32)), (2, .int y179_2), (3, .long y179_3), (5, .int y179_5)]) [] (WW Z A sc179 ++ ex) 0 0 := by
    intro k179
    induction k179 with
    | zero => intro sc179 y179_2 y179_3 y179_5 hIc179 hFc179 j179_2 j179_5 mm179; exact m_no mm179 j179_5 rfl
    | succ k179 ih179 =>
      intro sc179 y179_2 y179_3 y179_5 hIc179 hFc179 j179_2 j179_5 mm179
      refine gg_w (M := 1 + k179 * 900 + 900) gws ?_
      refine g_iload 181 (gd rfl) rfl rfl ?_
      refine g_iload_n 182 (gd rfl) rfl rfl ?_
      refine g_cmp_ge 185 211 (gd rfl) rfl rfl (fun c182 => ?_) (fun c182 => ?_)
      · skip
        refine g_lload_n 212 (gd rfl) rfl rfl ?_
        refine g_l2i 213 (gd rfl) rfl (fun z212 e212 => ?_)
        exact g_ireturn (gd rfl) rfl rfl (hP _ _ ⟨sc179, hIc179, hFc179, z212, rfl, rfl, in_w (-2147483648) 2147483647 (i_rng z212) rfl⟩)
      · skip
        have i182 := r_lt1 0 30 c182 j179_5 j179_2 rfl
        have i182a := r_lt2 1 31 c182 j179_5 j179_2 rfl
        refine g_lload_n 186 (gd rfl) rfl rfl ?_
        refine g_lconst 0 187 (gd rfl) rfl rfl ?_
        refine g_lcmp 188 (gd rfl) rfl (fun z187 e187 => ?_)
        have i187 := lc_in e187
        refine g_if_eq 191 211 (gd rfl) rfl rfl (fun c188 => ?_) (fun c188 => ?_)
        · skip
          have i188 := z_eq 0 0 c188 i187 rfl
          have c188a := lc_eq e187 c188
          have i188a := lr_eq1 0 0 c188a (l_rng y179_3) (l_c 0 rfl) rfl
          refine g_lload_n 212 (gd rfl) rfl rfl ?_
          refine g_l2i 213 (gd rfl) rfl (fun z212 e212 => ?_)
          exact g_ireturn (gd rfl) rfl rfl (hP _ _ ⟨sc179, hIc179, hFc179, z212, rfl, rfl, in_w (-2147483648) 2147483647 (i_rng z212) rfl⟩)
        · skip
          have c188a := lc_ne e187 c188
          refine g_lload_n 192 (gd rfl) rfl rfl ?_
          refine g_aload_n 193 (gd rfl) rfl rfl ?_
          refine g_iload 195 (gd rfl) rfl rfl ?_
          refine g_iload_n 196 (gd rfl) rfl rfl ?_
          refine g_callv (X := _) (As := [.int y179_5, .int y179_2]) (r := [.long y179_3]) (b := A 76) (q := 76) 199 (gd rfl) rfl rfl rfl rfl rfl (ww_o rfl) (Nat.le_of_ble_eq_true rfl) (Nat.zero_le _) (Nat.zero_le _) (k_190_76 (by first | exact dq1 hd rfl | exact dq0 hd rfl | exact dq2 hd rfl | exact dq3 hd rfl | omega) hIc179 (in_w 0 30 i182 rfl) (in_w 1 31 i182a rfl)) (fun e u h => h) (fun v u h => ?_)
          obtain ⟨s196, hI196, hF196, z196, rfl, rfl⟩ := h
          show GG _ _ _ _ _ _ _ _ [.long z196, .long y179_3] _ _ _
          refine g_lmul 200 (gd rfl) rfl (fun z199 e199 => ?_)
          refine g_ldc2_w 1000000007 203 (gd rfl) rfl rfl ?_
          refine g_lrem 204 (gd rfl) rfl (by decide) (fun z203 e203 => ?_)
          have i203 := l_rem (-1000000006) 1000000006 e203 rfl
          refine g_lstore_n 205 (gd rfl) rfl (Nat.le_of_ble_eq_true rfl) ?_
          refine g_iinc 208 (gd rfl) rfl rfl (Nat.le_of_ble_eq_true rfl) (fun z205 e205 => ?_)
          have i205 := in_add 1 31 e205 i182 (in_c 1 rfl) rfl rfl
          refine g_goto 179 (gd rfl) rfl ?_
          exact gg_w (by first | exact Nat.le_add_right _ _ | exact gw2 | exact gw3 | exact gwe rfl | exact gwf rfl | exact gwg rfl | exact gwh rfl | omega) (gg_f (gf_cons rfl (gf_cons rfl (gf_cons rfl (gf_cons rfl (gf_cons rfl gf_nil))))) (ih179 s196 y179_2 z203 z205 hI196 (fr_tr rfl hFc179 hF196) (in_w (-1) 31 i182a rfl) (in_w 0 31 i205 rfl) (m_up mm179 (t_add e205 i182 (in_c 1 rfl) rfl) (in_w 1 1 (in_c 1 rfl) rfl))))
  have ct134 : ∀ (k134 : Nat) (sc134 : GS) (y134_2 : Int32), Inv sc134 → Fr fm_189_76_32 s sc134 → (In y134_2 0 2001) → 2001 - (y134_2).toInt < (k134 : Int) → GG Z (d - 1) 189 post (gx xp) (28802 + k134 * 900) 134 (fun j => xlook j [(0, .ref (A 76)), (1, .ref (A 32)), (2, .int y134_2)]) [] (WW Z A sc134 ++ ex) 0 0 := by
    intro k134
    induction k134 with
    | zero => intro sc134 y134_2 hIc134 hFc134 j134_2 mm134; exact m_no mm134 j134_2 rfl
    | succ k134 ih134 =>
      intro sc134 y134_2 hIc134 hFc134 j134_2 mm134
      refine gg_w (M := 28802 + k134 * 900 + 900) gws ?_
      refine g_iload_n 135 (gd rfl) rfl rfl ?_
      refine g_aload_n 136 (gd rfl) rfl rfl ?_
      refine g_getA (q2 := 85) 139 (gd rfl) rfl rfl rfl rfl ?_
      refine g_alen (n := 1024) (t := 1) 1024 140 (gd rfl) rfl rfl (Nat.le_of_ble_eq_true rfl) rfl ?_
      refine g_cmp_ge 143 167 (gd rfl) rfl rfl (fun c140 => ?_) (fun c140 => ?_)
      · skip
        have i140 := r_le2 1024 2001 c140 (in_c 1024 rfl) j134_2 rfl
        refine g_aload_n 168 (gd rfl) rfl rfl ?_
        refine g_getI 171 (gd rfl) rfl rfl rfl (fun z168 e168 => ?_)
        have q168 : u_32_1 = z168 := (fr_F e_32_1 hFc134 rfl).trans e168.symm
        subst q168
        refine g_iconst 1 172 (gd rfl) rfl rfl ?_
        refine g_isub 173 (gd rfl) rfl (fun z172 e172 => ?_)
        have i172 := in_sub (-1) 31 e172 ro_32_1 (in_c 1 rfl) rfl rfl
        refine g_istore_n 174 (gd rfl) rfl (Nat.le_of_ble_eq_true rfl) ?_
        refine g_lconst 1 175 (gd rfl) rfl rfl ?_
        refine g_lstore_n 176 (gd rfl) rfl (Nat.le_of_ble_eq_true rfl) ?_
        refine g_iconst 0 177 (gd rfl) rfl rfl ?_
        refine g_istore 179 (gd rfl) rfl (Nat.le_of_ble_eq_true rfl) ?_
        exact gg_w (by first | exact Nat.le_add_right _ _ | exact gw2 | exact gw3 | exact gwe rfl | exact gwf rfl | exact gwg rfl | exact gwh rfl | omega) (gg_f (gf_cons rfl (gf_cons rfl (gf_cons rfl (gf_cons rfl (gf_cons rfl gf_nil))))) (ct179 32 sc134 z172 (Int64.ofInt 1) (Int32.ofInt 0) hIc134 hFc134 (in_w (-1) 31 i172 rfl) (in_w 0 31 (in_c 0 rfl) rfl) (m_in 32 (in_w 0 31 (in_c 0 rfl) rfl) rfl)))
      · skip
        have i140 := r_lt1 0 1023 c140 j134_2 (in_c 1024 rfl) rfl
        refine g_aload_n 144 (gd rfl) rfl rfl ?_
        refine g_getA (q2 := 85) 147 (gd rfl) rfl rfl rfl rfl ?_
        refine g_iload_n 148 (gd rfl) rfl rfl ?_
        refine g_aload_n 149 (gd rfl) rfl rfl ?_
        refine g_getA (q2 := 85) 152 (gd rfl) rfl rfl rfl rfl ?_
        refine g_iload_n 153 (gd rfl) rfl rfl ?_
        refine g_laload 154 (gd rfl) rfl (n := 1024) rfl (in_ix i140 rfl) (fun z153 e153 => ?_)
        refine g_ldc2_w 1000000007 157 (gd rfl) rfl rfl ?_
        refine g_calls (As := [.long z153, .long (Int64.ofInt 1000000007)]) (r := [.int y134_2, .ref (A 85)]) 160 (gd rfl) rfl rfl rfl rfl rfl (Nat.le_of_ble_eq_true rfl) (mc := 0) (ms := 0) (Nat.zero_le _) (Nat.zero_le _) (P := fun v u => _) ?_ (fun v u h => h)
        intro po157 xx157 hp157 hx157
        refine g_enter2 (k := 419) (N := 300) (by first | exact dq1 hd rfl | exact dq0 hd rfl | exact dq2 hd rfl | exact dq3 hd rfl | omega) rfl (Nat.le_of_ble_eq_true rfl) ?_
        refine g_lload_n 1 (gd rfl) rfl rfl ?_
        refine g_lload_n 2 (gd rfl) rfl rfl ?_
        refine g_lrem 3 (gd rfl) rfl (by decide) (fun z157x2 e157x2 => ?_)
        have i157x2 := l_rem (-1000000006) 1000000006 e157x2 rfl
        refine g_lstore 5 (gd rfl) rfl (Nat.le_of_ble_eq_true rfl) ?_
        refine g_lload_n 6 (gd rfl) rfl rfl ?_
        refine g_lload_n 7 (gd rfl) rfl rfl ?_
        refine g_lxor 8 (gd rfl) rfl (fun z157x7 e157x7 => ?_)
        refine g_lconst 0 9 (gd rfl) rfl rfl ?_
        refine g_lcmp 10 (gd rfl) rfl (fun z157x9 e157x9 => ?_)
        have i157x9 := lc_in e157x9
        refine g_if_ge 13 25 (gd rfl) rfl rfl (fun c157x10 => ?_) (fun c157x10 => ?_)
        · skip
          have i157x10 := z_ge 0 1 c157x10 i157x9 rfl
          have c157x10a := lc_ge e157x9 c157x10
          have i157x10a := lr_le2 0 9223372036854775807 c157x10a (l_c 0 rfl) (l_rng z157x7) rfl
          refine g_lload 27 (gd rfl) rfl rfl ?_
          refine g_lreturn (gd rfl) rfl (hp157 _ _ ?_)
          show GG _ _ _ _ _ _ _ _ [.long z157x2, .int y134_2, .ref (A 85)] _ _ _
          refine g_lastore 161 (gd rfl) rfl (n := 1024) rfl (in_ix i140 rfl) ?_
          have hI160 := inv_sL (q := 85) (j := y134_2.toNatClampNeg) (x := z157x2) hIc134 rfl (l_rng z157x2)
          refine g_iinc 164 (gd rfl) rfl rfl (Nat.le_of_ble_eq_true rfl) (fun z161 e161 => ?_)
          have i161 := in_add 1 1024 e161 i140 (in_c 1 rfl) rfl rfl
          refine g_goto 134 (gd rfl) rfl ?_
          exact gg_w (by first | exact Nat.le_add_right _ _ | exact gw2 | exact gw3 | exact gwe rfl | exact gwf rfl | exact gwg rfl | exact gwh rfl | omega) (gg_f (gf_cons rfl (gf_cons rfl (gf_cons rfl gf_nil))) (ih134 (sL sc134 85 y134_2.toNatClampNeg z157x2) z161 hI160 (fr_sL rfl hFc134) (in_w 0 2001 i161 rfl) (m_up mm134 (t_add e161 i140 (in_c 1 rfl) rfl) (in_w 1 1 (in_c 1 rfl) rfl))))
        · skip
          have i157x10 := z_lt (-1) (-1) c157x10 i157x9 rfl
          have c157x10a := lc_lt e157x9 c157x10
          have i157x10a := lr_lt1 (-9223372036854775808) (-1) c157x10a (l_rng z157x7) (l_c 0 rfl) rfl
          refine g_lload 15 (gd rfl) rfl rfl ?_
          refine g_lconst 0 16 (gd rfl) rfl rfl ?_
          refine g_lcmp 17 (gd rfl) rfl (fun z157x16 e157x16 => ?_)
          have i157x16 := lc_in e157x16
          refine g_if_eq 20 25 (gd rfl) rfl rfl (fun c157x17 => ?_) (fun c157x17 => ?_)
          · skip
            have i157x17 := z_eq 0 0 c157x17 i157x16 rfl
            have c157x17a := lc_eq e157x16 c157x17
            have i157x17a := lr_eq1 0 0 c157x17a i157x2 (l_c 0 rfl) rfl
            refine g_lload 27 (gd rfl) rfl rfl ?_
            refine g_lreturn (gd rfl) rfl (hp157 _ _ ?_)
            show GG _ _ _ _ _ _ _ _ [.long z157x2, .int y134_2, .ref (A 85)] _ _ _
            refine g_lastore 161 (gd rfl) rfl (n := 1024) rfl (in_ix i140 rfl) ?_
            have hI160 := inv_sL (q := 85) (j := y134_2.toNatClampNeg) (x := z157x2) hIc134 rfl (l_rng z157x2)
            refine g_iinc 164 (gd rfl) rfl rfl (Nat.le_of_ble_eq_true rfl) (fun z161 e161 => ?_)
            have i161 := in_add 1 1024 e161 i140 (in_c 1 rfl) rfl rfl
            refine g_goto 134 (gd rfl) rfl ?_
            exact gg_w (by first | exact Nat.le_add_right _ _ | exact gw2 | exact gw3 | exact gwe rfl | exact gwf rfl | exact gwg rfl | exact gwh rfl | omega) (gg_f (gf_cons rfl (gf_cons rfl (gf_cons rfl gf_nil))) (ih134 (sL sc134 85 y134_2.toNatClampNeg z157x2) z161 hI160 (fr_sL rfl hFc134) (in_w 0 2001 i161 rfl) (m_up mm134 (t_add e161 i140 (in_c 1 rfl) rfl) (in_w 1 1 (in_c 1 rfl) rfl))))
          · skip
            have c157x17a := lc_ne e157x16 c157x17
            refine g_lload 22 (gd rfl) rfl rfl ?_
            refine g_lload_n 23 (gd rfl) rfl rfl ?_
            refine g_ladd 24 (gd rfl) rfl (fun z157x23 e157x23 => ?_)
            have i157x23 := l_add 1 2000000013 e157x23 i157x2 (l_c 1000000007 rfl) rfl
            refine g_lreturn (gd rfl) rfl (hp157 _ _ ?_)
            show GG _ _ _ _ _ _ _ _ [.long z157x23, .int y134_2, .ref (A 85)] _ _ _
            refine g_lastore 161 (gd rfl) rfl (n := 1024) rfl (in_ix i140 rfl) ?_
            have hI160 := inv_sL (q := 85) (j := y134_2.toNatClampNeg) (x := z157x23) hIc134 rfl (l_rng z157x23)
            refine g_iinc 164 (gd rfl) rfl rfl (Nat.le_of_ble_eq_true rfl) (fun z161 e161 => ?_)
            have i161 := in_add 1 1024 e161 i140 (in_c 1 rfl) rfl rfl
            refine g_goto 134 (gd rfl) rfl ?_
            exact gg_w (by first | exact Nat.le_add_right _ _ | exact gw2 | exact gw3 | exact gwe rfl | exact gwf rfl | exact gwg rfl | exact gwh rfl | omega) (gg_f (gf_cons rfl (gf_cons rfl (gf_cons rfl gf_nil))) (ih134 (sL sc134 85 y134_2.toNatClampNeg z157x23) z161 hI160 (fr_sL rfl hFc134) (in_w 0 2001 i161 rfl) (m_up mm134 (t_add e161 i140 (in_c 1 rfl) rfl) (in_w 1 1 (in_c 1 rfl) rfl))))
  have ct10 : ∀ (k10 : Nat) (sc10 : GS) (y10_2 : Int32), Inv sc10 → Fr fm_189_76_32 s sc10 → (In y10_2 0 160) → 160 - (y10_2).toInt < (k10 : Int) → GG Z (d - 1) 189 post (gx xp) (1830603 + k10 * 900) 10 (fun j => xlook j [(0, .ref (A 76)), (1, .ref (A 32)), (2, .int y10_2)]) [] (WW Z A sc10 ++ ex) 0 0 := by
    intro k10
    induction k10 with
    | zero => intro sc10 y10_2 hIc10 hFc10 j10_2 mm10; exact m_no mm10 j10_2 rfl
    | succ k10 ih10 =>
      intro sc10 y10_2 hIc10 hFc10 j10_2 mm10
      refine gg_w (M := 1830603 + k10 * 900 + 900) gws ?_
      refine g_iload_n 11 (gd rfl) rfl rfl ?_
      refine g_aload_n 12 (gd rfl) rfl rfl ?_
      refine g_getI 15 (gd rfl) rfl rfl rfl (fun z12 e12 => ?_)
      have q12 : u_32_3 = z12 := (fr_F e_32_3 hFc10 rfl).trans e12.symm
      subst q12
      refine g_cmp_ge 18 132 (gd rfl) rfl rfl (fun c15 => ?_) (fun c15 => ?_)
      · skip
        refine g_iconst 0 133 (gd rfl) rfl rfl ?_
        refine g_istore_n 134 (gd rfl) rfl (Nat.le_of_ble_eq_true rfl) ?_
        exact gg_w (by first | exact Nat.le_add_right _ _ | exact gw2 | exact gw3 | exact gwe rfl | exact gwf rfl | exact gwg rfl | exact gwh rfl | omega) (gg_f (gf_cons rfl (gf_cons rfl (gf_cons rfl gf_nil))) (ct134 2002 sc10 (Int32.ofInt 0) hIc10 hFc10 (in_w 0 2001 (in_c 0 rfl) rfl) (m_in 2002 (in_w 0 2001 (in_c 0 rfl) rfl) rfl)))
      · skip
        have i15 := r_lt1 0 159 c15 j10_2 ro_32_3 rfl
        have i15a := r_lt2 1 160 c15 j10_2 ro_32_3 rfl
        refine g_aload_n 19 (gd rfl) rfl rfl ?_
        refine g_iload_n 20 (gd rfl) rfl rfl ?_
        refine g_callv (X := _) (As := [.int y10_2]) (r := []) (b := A 32) (q := 32) 23 (gd rfl) rfl rfl rfl rfl rfl (ww_o rfl) (Nat.le_of_ble_eq_true rfl) (mc := 0) (ms := 0) (Nat.zero_le _) (Nat.zero_le _) (P := fun v u => _) ?_ (fun e u h => h) (fun v u h => h)
        intro po20 xx20 hp20 hx20
        refine g_enter2 (k := 97) (N := 300) (by first | exact dq1 hd rfl | exact dq0 hd rfl | exact dq2 hd rfl | exact dq3 hd rfl | omega) rfl (Nat.le_of_ble_eq_true rfl) ?_
        refine g_aload_n 1 (gd rfl) rfl rfl ?_
        refine g_getA (q2 := 34) 4 (gd rfl) rfl rfl rfl rfl ?_
        refine g_iload_n 5 (gd rfl) rfl rfl ?_
        refine g_iaload 6 (gd rfl) rfl (n := 160) rfl (in_ix i15 rfl) (fun z20x5 e20x5 => ?_)
        have i20x5 := inv_I hIc10 (n := 160) (t := 0) (-1) 31 rfl (in_ix i15 rfl) rfl e20x5
        refine g_iconst (-1) 7 (gd rfl) rfl rfl ?_
        refine g_cmp_eq 10 29 (gd rfl) rfl rfl (fun c20x7 => ?_) (fun c20x7 => ?_)
        · skip
          have i20x7 := r_eq1 (-1) (-1) c20x7 i20x5 (in_c (-1) rfl) rfl
          refine g_iconst 0 30 (gd rfl) rfl rfl ?_
          refine g_ireturn (gd rfl) rfl (nb01 (in_w 0 1 (in_c 0 rfl) rfl)) (hp20 _ _ ?_)
          show GG _ _ _ _ _ _ _ _ [.int (Int32.ofInt 0)] _ _ _
          refine g_if_eq 26 126 (gd rfl) rfl rfl (fun c23 => ?_) (fun c23 => ?_)
          · skip
            refine g_iinc 129 (gd rfl) rfl rfl (Nat.le_of_ble_eq_true rfl) (fun z126 e126 => ?_)
            have i126 := in_add 1 160 e126 i15 (in_c 1 rfl) rfl rfl
            refine g_goto 10 (gd rfl) rfl ?_
            exact gg_w (by first | exact Nat.le_add_right _ _ | exact gw2 | exact gw3 | exact gwe rfl | exact gwf rfl | exact gwg rfl | exact gwh rfl | omega) (gg_f (gf_cons rfl (gf_cons rfl (gf_cons rfl gf_nil))) (ih10 sc10 z126 hIc10 hFc10 (in_w 0 160 i126 rfl) (m_up mm10 (t_add e126 i15 (in_c 1 rfl) rfl) (in_w 1 1 (in_c 1 rfl) rfl))))
          · skip
            exact zn_ne c23 (in_c 0 rfl) rfl
        · skip
          have i20x7 := r_ne1 0 31 c20x7 i20x5 (in_c (-1) rfl) rfl
          refine g_aload_n 11 (gd rfl) rfl rfl ?_
          refine g_getA (q2 := 34) 14 (gd rfl) rfl rfl rfl rfl ?_
          refine g_iload_n 15 (gd rfl) rfl rfl ?_
          refine g_iaload 16 (gd rfl) rfl (n := 160) rfl (in_ix i15 rfl) (fun z20x15 e20x15 => ?_)
          have q20x15 : z20x5 = z20x15 := (e20x5).trans e20x15.symm
          subst q20x15
          refine g_aload_n 17 (gd rfl) rfl rfl ?_
          refine g_getA (q2 := 35) 20 (gd rfl) rfl rfl rfl rfl ?_
          refine g_iload_n 21 (gd rfl) rfl rfl ?_
          refine g_iaload 22 (gd rfl) rfl (n := 160) rfl (in_ix i15 rfl) (fun z20x21 e20x21 => ?_)
          have i20x21 := inv_I hIc10 (n := 160) (t := 0) 0 31 rfl (in_ix i15 rfl) rfl e20x21
          refine g_cmp_eq 25 29 (gd rfl) rfl rfl (fun c20x22 => ?_) (fun c20x22 => ?_)
          · skip
            refine g_iconst 0 30 (gd rfl) rfl rfl ?_
            refine g_ireturn (gd rfl) rfl (nb01 (in_w 0 1 (in_c 0 rfl) rfl)) (hp20 _ _ ?_)
            show GG _ _ _ _ _ _ _ _ [.int (Int32.ofInt 0)] _ _ _
            refine g_if_eq 26 126 (gd rfl) rfl rfl (fun c23 => ?_) (fun c23 => ?_)
            · skip
              refine g_iinc 129 (gd rfl) rfl rfl (Nat.le_of_ble_eq_true rfl) (fun z126 e126 => ?_)
              have i126 := in_add 1 160 e126 i15 (in_c 1 rfl) rfl rfl
              refine g_goto 10 (gd rfl) rfl ?_
              exact gg_w (by first | exact Nat.le_add_right _ _ | exact gw2 | exact gw3 | exact gwe rfl | exact gwf rfl | exact gwg rfl | exact gwh rfl | omega) (gg_f (gf_cons rfl (gf_cons rfl (gf_cons rfl gf_nil))) (ih10 sc10 z126 hIc10 hFc10 (in_w 0 160 i126 rfl) (m_up mm10 (t_add e126 i15 (in_c 1 rfl) rfl) (in_w 1 1 (in_c 1 rfl) rfl))))
            · skip
              exact zn_ne c23 (in_c 0 rfl) rfl
          · skip
            refine g_iconst 1 26 (gd rfl) rfl rfl ?_
            refine g_goto 30 (gd rfl) rfl ?_
            refine g_ireturn (gd rfl) rfl (nb01 (in_w 0 1 (in_c 1 rfl) rfl)) (hp20 _ _ ?_)
            show GG _ _ _ _ _ _ _ _ [.int (Int32.ofInt 1)] _ _ _
            refine g_if_eq 26 126 (gd rfl) rfl rfl (fun c23 => ?_) (fun c23 => ?_)
            · skip
              exact zn_eq c23 (in_c 1 rfl) rfl
            · skip
              refine g_aload_n 27 (gd rfl) rfl rfl ?_
              refine g_getA (q2 := 85) 30 (gd rfl) rfl rfl rfl rfl ?_
              refine g_aload_n 31 (gd rfl) rfl rfl ?_
              refine g_getA (q2 := 34) 34 (gd rfl) rfl rfl rfl rfl ?_
              refine g_iload_n 35 (gd rfl) rfl rfl ?_
              refine g_iaload 36 (gd rfl) rfl (n := 160) rfl (in_ix i15 rfl) (fun z35 e35 => ?_)
              have q35 : z20x5 = z35 := (e20x5).trans e35.symm
              subst q35
              refine g_bipush 32 38 (gd rfl) rfl rfl ?_
              refine g_imul 39 (gd rfl) rfl (fun z38 e38 => ?_)
              have i38 := in_mulc 32 0 992 (Or.inr e38) i20x7 rfl rfl
              refine g_aload_n 40 (gd rfl) rfl rfl ?_
              refine g_getA (q2 := 34) 43 (gd rfl) rfl rfl rfl rfl ?_
              refine g_iload_n 44 (gd rfl) rfl rfl ?_
              refine g_iaload 45 (gd rfl) rfl (n := 160) rfl (in_ix i15 rfl) (fun z44 e44 => ?_)
              have q44 : z20x5 = z44 := (e20x5).trans e44.symm
              subst q44
              refine g_iadd 46 (gd rfl) rfl (fun z45 e45 => ?_)
              have i45 := in_add 0 1023 e45 i38 i20x7 rfl rfl
              refine g_dup2 47 (gd rfl) rfl rfl rfl ?_
              refine g_laload 48 (gd rfl) rfl (n := 1024) rfl (in_ix i45 rfl) (fun z47 e47 => ?_)
              refine g_lconst 1 49 (gd rfl) rfl rfl ?_
              refine g_ladd 50 (gd rfl) rfl (fun z49 e49 => ?_)
              refine g_lastore 51 (gd rfl) rfl (n := 1024) rfl (in_ix i45 rfl) ?_
              have hI50 := inv_sL (q := 85) (j := z45.toNatClampNeg) (x := z49) hIc10 rfl (l_rng z49)
              refine g_aload_n 52 (gd rfl) rfl rfl ?_
              refine g_getA (q2 := 85) 55 (gd rfl) rfl rfl rfl rfl ?_
              refine g_aload_n 56 (gd rfl) rfl rfl ?_
              refine g_getA (q2 := 35) 59 (gd rfl) rfl rfl rfl rfl ?_
              refine g_iload_n 60 (gd rfl) rfl rfl ?_
              refine g_iaload 61 (gd rfl) rfl (n := 160) rfl (in_ix i15 rfl) (fun z60 e60 => ?_)
              have q60 : z20x21 = z60 := (sL_I (e20x21)).trans e60.symm
              subst q60
              refine g_bipush 32 63 (gd rfl) rfl rfl ?_
              refine g_imul 64 (gd rfl) rfl (fun z63 e63 => ?_)
              have i63 := in_mulc 32 0 992 (Or.inr e63) i20x21 rfl rfl
              refine g_aload_n 65 (gd rfl) rfl rfl ?_
              refine g_getA (q2 := 35) 68 (gd rfl) rfl rfl rfl rfl ?_
              refine g_iload_n 69 (gd rfl) rfl rfl ?_
              refine g_iaload 70 (gd rfl) rfl (n := 160) rfl (in_ix i15 rfl) (fun z69 e69 => ?_)
              have q69 : z20x21 = z69 := (sL_I (e20x21)).trans e69.symm
              subst q69
              refine g_iadd 71 (gd rfl) rfl (fun z70 e70 => ?_)
              have i70 := in_add 0 1023 e70 i63 i20x21 rfl rfl
              refine g_dup2 72 (gd rfl) rfl rfl rfl ?_
              refine g_laload 73 (gd rfl) rfl (n := 1024) rfl (in_ix i70 rfl) (fun z72 e72 => ?_)
              refine g_lconst 1 74 (gd rfl) rfl rfl ?_
              refine g_ladd 75 (gd rfl) rfl (fun z74 e74 => ?_)
              refine g_lastore 76 (gd rfl) rfl (n := 1024) rfl (in_ix i70 rfl) ?_
              have hI75 := inv_sL (q := 85) (j := z70.toNatClampNeg) (x := z74) hI50 rfl (l_rng z74)
              refine g_aload_n 77 (gd rfl) rfl rfl ?_
              refine g_getA (q2 := 85) 80 (gd rfl) rfl rfl rfl rfl ?_
              refine g_aload_n 81 (gd rfl) rfl rfl ?_
              refine g_getA (q2 := 34) 84 (gd rfl) rfl rfl rfl rfl ?_
              refine g_iload_n 85 (gd rfl) rfl rfl ?_
              refine g_iaload 86 (gd rfl) rfl (n := 160) rfl (in_ix i15 rfl) (fun z85 e85 => ?_)
              have q85 : z20x5 = z85 := (sL_I (sL_I (e20x5))).trans e85.symm
              subst q85
              refine g_bipush 32 88 (gd rfl) rfl rfl ?_
              refine g_imul 89 (gd rfl) rfl (fun z88 e88 => ?_)
              have i88 := in_mulc 32 0 992 (Or.inr e88) i20x7 rfl rfl
              refine g_aload_n 90 (gd rfl) rfl rfl ?_
              refine g_getA (q2 := 35) 93 (gd rfl) rfl rfl rfl rfl ?_
              refine g_iload_n 94 (gd rfl) rfl rfl ?_
              refine g_iaload 95 (gd rfl) rfl (n := 160) rfl (in_ix i15 rfl) (fun z94 e94 => ?_)
              have q94 : z20x21 = z94 := (sL_I (sL_I (e20x21))).trans e94.symm
              subst q94
              refine g_iadd 96 (gd rfl) rfl (fun z95 e95 => ?_)
              have i95 := in_add 0 1023 e95 i88 i20x21 rfl rfl
              refine g_dup2 97 (gd rfl) rfl rfl rfl ?_
              refine g_laload 98 (gd rfl) rfl (n := 1024) rfl (in_ix i95 rfl) (fun z97 e97 => ?_)
              refine g_lconst 1 99 (gd rfl) rfl rfl ?_
              refine g_lsub 100 (gd rfl) rfl (fun z99 e99 => ?_)
              refine g_lastore 101 (gd rfl) rfl (n := 1024) rfl (in_ix i95 rfl) ?_
              have hI100 := inv_sL (q := 85) (j := z95.toNatClampNeg) (x := z99) hI75 rfl (l_rng z99)
              refine g_aload_n 102 (gd rfl) rfl rfl ?_
              refine g_getA (q2 := 85) 105 (gd rfl) rfl rfl rfl rfl ?_
              refine g_aload_n 106 (gd rfl) rfl rfl ?_
              refine g_getA (q2 := 35) 109 (gd rfl) rfl rfl rfl rfl ?_
              refine g_iload_n 110 (gd rfl) rfl rfl ?_
              refine g_iaload 111 (gd rfl) rfl (n := 160) rfl (in_ix i15 rfl) (fun z110 e110 => ?_)
              have q110 : z20x21 = z110 := (sL_I (sL_I (sL_I (e20x21)))).trans e110.symm
              subst q110
              refine g_bipush 32 113 (gd rfl) rfl rfl ?_
              refine g_imul 114 (gd rfl) rfl (fun z113 e113 => ?_)
              have i113 := in_mulc 32 0 992 (Or.inr e113) i20x21 rfl rfl
              refine g_aload_n 115 (gd rfl) rfl rfl ?_
              refine g_getA (q2 := 34) 118 (gd rfl) rfl rfl rfl rfl ?_
              refine g_iload_n 119 (gd rfl) rfl rfl ?_
              refine g_iaload 120 (gd rfl) rfl (n := 160) rfl (in_ix i15 rfl) (fun z119 e119 => ?_)
              have q119 : z20x5 = z119 := (sL_I (sL_I (sL_I (e20x5)))).trans e119.symm
              subst q119
              refine g_iadd 121 (gd rfl) rfl (fun z120 e120 => ?_)
              have i120 := in_add 0 1023 e120 i113 i20x7 rfl rfl
              refine g_dup2 122 (gd rfl) rfl rfl rfl ?_
              refine g_laload 123 (gd rfl) rfl (n := 1024) rfl (in_ix i120 rfl) (fun z122 e122 => ?_)
              refine g_lconst 1 124 (gd rfl) rfl rfl ?_
              refine g_lsub 125 (gd rfl) rfl (fun z124 e124 => ?_)
              refine g_lastore 126 (gd rfl) rfl (n := 1024) rfl (in_ix i120 rfl) ?_
              have hI125 := inv_sL (q := 85) (j := z120.toNatClampNeg) (x := z124) hI100 rfl (l_rng z124)
              refine g_iinc 129 (gd rfl) rfl rfl (Nat.le_of_ble_eq_true rfl) (fun z126 e126 => ?_)
              have i126 := in_add 1 160 e126 i15 (in_c 1 rfl) rfl rfl
              refine g_goto 10 (gd rfl) rfl ?_
              exact gg_w (by first | exact Nat.le_add_right _ _ | exact gw2 | exact gw3 | exact gwe rfl | exact gwf rfl | exact gwg rfl | exact gwh rfl | omega) (gg_f (gf_cons rfl (gf_cons rfl (gf_cons rfl gf_nil))) (ih10 (sL (sL (sL (sL sc10 85 z45.toNatClampNeg z49) 85 z70.toNatClampNeg z74) 85 z95.toNatClampNeg z99) 85 z120.toNatClampNeg z124) z126 hI125 (fr_sL rfl (fr_sL rfl (fr_sL rfl (fr_sL rfl hFc10)))) (in_w 0 160 i126 rfl) (m_up mm10 (t_add e126 i15 (in_c 1 rfl) rfl) (in_w 1 1 (in_c 1 rfl) rfl))))
  refine g_enter2 (k := 189) (N := 1976403) (by first | exact dq1 hd rfl | exact dq0 hd rfl | exact dq2 hd rfl | exact dq3 hd rfl | omega) rfl (Nat.le_of_ble_eq_true rfl) ?_
  refine g_aload_n 1 (gd rfl) rfl rfl ?_
  refine g_getA (q2 := 85) 4 (gd rfl) rfl rfl rfl rfl ?_
  refine g_lconst 0 5 (gd rfl) rfl rfl ?_
  refine g_calls (As := [.ref (A 85), .long (Int64.ofInt 0)]) (r := []) 8 (gd rfl) rfl rfl rfl rfl rfl (Nat.le_of_ble_eq_true rfl) (Nat.zero_le _) (Nat.zero_le _) (k_fillL 85 (by first | exact dq1 hd rfl | exact dq0 hd rfl | exact dq2 hd rfl | exact dq3 hd rfl | omega) hI (n := 1024) rfl rfl rfl (l_rng (Int64.ofInt 0))) (fun v u h => ?_)
  obtain ⟨s5, hI5, hF5, rfl, rfl, fl5⟩ := h
  show GG _ _ _ _ _ _ _ _ [] _ _ _
  refine g_iconst 0 9 (gd rfl) rfl rfl ?_
  refine g_istore_n 10 (gd rfl) rfl (Nat.le_of_ble_eq_true rfl) ?_
  exact gg_w (by first | exact Nat.le_of_ble_eq_true rfl | omega) (gg_f (gf_cons rfl (gf_cons rfl (gf_cons rfl gf_nil))) (ct10 161 s5 (Int32.ofInt 0) hI5 (fr_tr rfl fr_rf hF5) (in_w 0 160 (in_c 0 rfl) rfl) (m_in 161 (in_w 0 160 (in_c 0 rfl) rfl) rfl)))

def fm_195_49_2 : FM := ([9, 10, 11, 12, 13, 14, 15], [50], [(2, 4), (49, 0), (49, 1), (49, 2)], [])
/-- GraphHouse$Ways.leastArc -/
theorem k_195_49_2 {Z : AmZ} {A : Nat → Nat} {s : GS} {ex : va_W} {d : Nat} {X : AmX} {x2 : Int32} {x3 : Int32} {x4 : Int32} (hd : 6 ≤ d) (hI : Inv s) (h2 : In x2 0 31) (h3 : In x3 0 31) (h4 : In x4 0 2147483647) : GC Z d 195 [.ref (A 49), .ref (A 2), .int x2, .int x3, .int x4] (WW Z A s ++ ex) 0 0 (fun v u => ∃ t : GS, Inv t ∧ Fr fm_195_49_2 s t ∧ ∃ z : Int32, v = some (.int z) ∧ u = WW Z A t ++ ex ∧ In z (-1) 159) X := by
  intro post xp hP hX
  have ct60 : ∀ (k60 : Nat) (sc60 : GS) (y60_5 : Int32) (y60_6 : Int32) (y60_7 : Int32), Inv sc60 → Fr fm_195_49_2 s sc60 → (In x4 0 2046) → (In y60_5 (-1) 159) → (In y60_6 0 31) → (In y60_7 0 4000) → 4000 - (y60_7).toInt < (k60 : Int) → GG Z (d - 1) 195 post (gx xp) (1 + k60 * 900) 60 (fun j => xlook j [(0, .ref (A 49)), (1, .ref (A 2)), (2, .int x2), (3, .int x3), (4, .int x4), (5, .int y60_5), (6, .int y60_6), (7, .int y60_7)]) [] (WW Z A sc60 ++ ex) 0 0 := by
    intro k60
    induction k60 with
    | zero => intro sc60 y60_5 y60_6 y60_7 hIc60 hFc60 j60_4 j60_5 j60_6 j60_7 mm60; exact m_no mm60 j60_7 rfl
    | succ k60 ih60 =>
      intro sc60 y60_5 y60_6 y60_7 hIc60 hFc60 j60_4 j60_5 j60_6 j60_7 mm60
      refine gg_w (M := 1 + k60 * 900 + 900) gws ?_
      refine g_iload 62 (gd rfl) rfl rfl ?_
      refine g_iload 64 (gd rfl) rfl rfl ?_
      refine g_cmp_gt 67 99 (gd rfl) rfl rfl (fun c64 => ?_) (fun c64 => ?_)
      · skip
        have i64 := r_lt2 1 4000 c64 j60_4 j60_7 rfl
        refine g_iload 101 (gd rfl) rfl rfl ?_
        exact g_ireturn (gd rfl) rfl rfl (hP _ _ ⟨sc60, hIc60, hFc60, y60_5, rfl, rfl, in_w (-1) 159 j60_5 rfl⟩)
      · skip
        have i64 := r_le1 0 2046 c64 j60_7 j60_4 rfl
        refine g_aload_n 68 (gd rfl) rfl rfl ?_
        refine g_aload_n 69 (gd rfl) rfl rfl ?_
        refine g_iload 71 (gd rfl) rfl rfl ?_
        refine g_callv (X := _) (As := [.ref (A 2), .int y60_6]) (r := []) (b := A 49) (q := 49) 74 (gd rfl) rfl rfl rfl rfl rfl (ww_o rfl) (Nat.le_of_ble_eq_true rfl) (Nat.zero_le _) (Nat.zero_le _) (k_196_49_2 (by first | exact dq1 hd rfl | exact dq0 hd rfl | exact dq2 hd rfl | exact dq3 hd rfl | omega) hIc60 (in_w 0 31 j60_6 rfl)) (fun e u h => h) (fun v u h => ?_)
        obtain ⟨z71, rfl, rfl, i71⟩ := h
        show GG _ _ _ _ _ _ _ _ [.int z71] _ _ _
        refine g_istore 76 (gd rfl) rfl (Nat.le_of_ble_eq_true rfl) ?_
        refine g_iload 78 (gd rfl) rfl rfl ?_
        refine g_iconst (-1) 79 (gd rfl) rfl rfl ?_
        refine g_cmp_ne 82 84 (gd rfl) rfl rfl (fun c79 => ?_) (fun c79 => ?_)
        · skip
          have i79 := r_ne1 0 159 c79 i71 (in_c (-1) rfl) rfl
          refine g_aload_n 85 (gd rfl) rfl rfl ?_
          refine g_getA (q2 := 5) 88 (gd rfl) rfl rfl rfl rfl ?_
          refine g_iload 90 (gd rfl) rfl rfl ?_
          refine g_iaload 91 (gd rfl) rfl (n := 160) rfl (in_ix i79 rfl) (fun z90 e90 => ?_)
          have i90 := inv_I hIc60 (n := 160) (t := 0) 0 31 rfl (in_ix i79 rfl) rfl e90
          refine g_istore 93 (gd rfl) rfl (Nat.le_of_ble_eq_true rfl) ?_
          refine g_iinc 96 (gd rfl) rfl rfl (Nat.le_of_ble_eq_true rfl) (fun z93 e93 => ?_)
          have i93 := in_add 1 2047 e93 i64 (in_c 1 rfl) rfl rfl
          refine g_goto 60 (gd rfl) rfl ?_
          exact gg_w (by first | exact Nat.le_add_right _ _ | exact gw2 | exact gw3 | exact gwe rfl | exact gwf rfl | exact gwg rfl | exact gwh rfl | omega) (gg_f (gf_cons rfl (gf_cons rfl (gf_cons rfl (gf_cons rfl (gf_cons rfl (gf_cons rfl (gf_cons rfl (gf_cons rfl gf_nil)))))))) (ih60 sc60 z71 z90 z93 hIc60 hFc60 (in_w 0 2046 j60_4 rfl) (in_w (-1) 159 i79 rfl) (in_w 0 31 i90 rfl) (in_w 0 4000 i93 rfl) (m_up mm60 (t_add e93 i64 (in_c 1 rfl) rfl) (in_w 1 1 (in_c 1 rfl) rfl))))
        · skip
          have i79 := r_eq1 (-1) (-1) c79 i71 (in_c (-1) rfl) rfl
          refine g_iconst (-1) 83 (gd rfl) rfl rfl ?_
          exact g_ireturn (gd rfl) rfl rfl (hP _ _ ⟨sc60, hIc60, hFc60, (Int32.ofInt (-1)), rfl, rfl, in_w (-1) 159 (in_c (-1) rfl) rfl⟩)
  refine g_enter2 (k := 195) (N := 3601801) (by first | exact dq1 hd rfl | exact dq0 hd rfl | exact dq2 hd rfl | exact dq3 hd rfl | omega) rfl (Nat.le_of_ble_eq_true rfl) ?_
  refine g_aload_n 1 (gd rfl) rfl rfl ?_
  refine g_aload_n 2 (gd rfl) rfl rfl ?_
  refine g_iload_n 3 (gd rfl) rfl rfl ?_
  refine g_callv (X := _) (As := [.ref (A 2), .int x3]) (r := []) (b := A 49) (q := 49) 6 (gd rfl) rfl rfl rfl rfl rfl (ww_o rfl) (Nat.le_of_ble_eq_true rfl) (Nat.zero_le _) (Nat.zero_le _) (k_198_49_2 (by first | exact dq1 hd rfl | exact dq0 hd rfl | exact dq2 hd rfl | exact dq3 hd rfl | omega) hI (in_w 0 31 h3 rfl)) (fun e u h => h) (fun v u h => ?_)
  obtain ⟨s3, hI3, hF3, rfl, rfl⟩ := h
  show GG _ _ _ _ _ _ _ _ [] _ _ _
  refine g_aload_n 7 (gd rfl) rfl rfl ?_
  refine g_getI 10 (gd rfl) rfl rfl rfl (fun z7 e7 => ?_)
  refine g_iload_n 11 (gd rfl) rfl rfl ?_
  refine g_ishr 12 (gd rfl) rfl (fun z11 e11 => ?_)
  refine g_iconst 1 13 (gd rfl) rfl rfl ?_
  refine g_iand 14 (gd rfl) rfl (fun z13 e13 => ?_)
  have i13 := in_and2 e13 (in_c 1 rfl) rfl
  refine g_if_ne 17 49 (gd rfl) rfl rfl (fun c14 => ?_) (fun c14 => ?_)
  · skip
    have i14 := z_ne 1 1 c14 i13 rfl
    refine g_iconst (-1) 50 (gd rfl) rfl rfl ?_
    exact g_ireturn (gd rfl) rfl rfl (hP _ _ ⟨s3, hI3, (fr_tr rfl fr_rf hF3), (Int32.ofInt (-1)), rfl, rfl, in_w (-1) 159 (in_c (-1) rfl) rfl⟩)
  · skip
    have i14 := z_eq 0 0 c14 i13 rfl
    refine g_aload_n 18 (gd rfl) rfl rfl ?_
    refine g_getA (q2 := 50) 21 (gd rfl) rfl rfl rfl rfl ?_
    refine g_iload_n 22 (gd rfl) rfl rfl ?_
    refine g_laload 23 (gd rfl) rfl (n := 32) rfl (in_ix h2 rfl) (fun z22 e22 => ?_)
    refine g_ldc2_w 9223372036854775807 26 (gd rfl) rfl rfl ?_
    refine g_lcmp 27 (gd rfl) rfl (fun z26 e26 => ?_)
    have i26 := lc_in e26
    refine g_if_eq 30 49 (gd rfl) rfl rfl (fun c27 => ?_) (fun c27 => ?_)
    · skip
      have i27 := z_eq 0 0 c27 i26 rfl
      have c27a := lc_eq e26 c27
      have i27a := lr_eq1 9223372036854775807 9223372036854775807 c27a (l_rng z22) (l_c 9223372036854775807 rfl) rfl
      refine g_iconst (-1) 50 (gd rfl) rfl rfl ?_
      exact g_ireturn (gd rfl) rfl rfl (hP _ _ ⟨s3, hI3, (fr_tr rfl fr_rf hF3), (Int32.ofInt (-1)), rfl, rfl, in_w (-1) 159 (in_c (-1) rfl) rfl⟩)
    · skip
      have c27a := lc_ne e26 c27
      have i27 := lr_ne1 (-9223372036854775808) 9223372036854775806 c27a (l_rng z22) (l_c 9223372036854775807 rfl) rfl
      refine g_iload 32 (gd rfl) rfl rfl ?_
      refine g_i2l 33 (gd rfl) rfl (fun z32 e32 => ?_)
      have i32 := l_i e32 h4
      refine g_aload_n 34 (gd rfl) rfl rfl ?_
      refine g_getA (q2 := 50) 37 (gd rfl) rfl rfl rfl rfl ?_
      refine g_iload_n 38 (gd rfl) rfl rfl ?_
      refine g_laload 39 (gd rfl) rfl (n := 32) rfl (in_ix h2 rfl) (fun z38 e38 => ?_)
      refine g_ldc2_w 1024 42 (gd rfl) rfl rfl ?_
      refine g_calls (As := [.long z38, .long (Int64.ofInt 1024)]) (r := [.long z32]) 45 (gd rfl) rfl rfl rfl rfl rfl (Nat.le_of_ble_eq_true rfl) (mc := 0) (ms := 0) (Nat.zero_le _) (Nat.zero_le _) (P := fun v u => _) ?_ (fun v u h => h)
      intro po42 xx42 hp42 hx42
      refine g_enter2 (k := 419) (N := 300) (by first | exact dq1 hd rfl | exact dq0 hd rfl | exact dq2 hd rfl | exact dq3 hd rfl | omega) rfl (Nat.le_of_ble_eq_true rfl) ?_
      refine g_lload_n 1 (gd rfl) rfl rfl ?_
      refine g_lload_n 2 (gd rfl) rfl rfl ?_
      refine g_lrem 3 (gd rfl) rfl (by decide) (fun z42x2 e42x2 => ?_)
      have i42x2 := l_rem (-1023) 1023 e42x2 rfl
      refine g_lstore 5 (gd rfl) rfl (Nat.le_of_ble_eq_true rfl) ?_
      refine g_lload_n 6 (gd rfl) rfl rfl ?_
      refine g_lload_n 7 (gd rfl) rfl rfl ?_
      refine g_lxor 8 (gd rfl) rfl (fun z42x7 e42x7 => ?_)
      refine g_lconst 0 9 (gd rfl) rfl rfl ?_
      refine g_lcmp 10 (gd rfl) rfl (fun z42x9 e42x9 => ?_)
      have i42x9 := lc_in e42x9
      refine g_if_ge 13 25 (gd rfl) rfl rfl (fun c42x10 => ?_) (fun c42x10 => ?_)
      · skip
        have i42x10 := z_ge 0 1 c42x10 i42x9 rfl
        have c42x10a := lc_ge e42x9 c42x10
        have i42x10a := lr_le2 0 9223372036854775807 c42x10a (l_c 0 rfl) (l_rng z42x7) rfl
        refine g_lload 27 (gd rfl) rfl rfl ?_
        refine g_lreturn (gd rfl) rfl (hp42 _ _ ?_)
        show GG _ _ _ _ _ _ _ _ [.long z42x2, .long z32] _ _ _
        refine g_lcmp 46 (gd rfl) rfl (fun z45 e45 => ?_)
        have i45 := lc_in e45
        refine g_if_lt 49 51 (gd rfl) rfl rfl (fun c46 => ?_) (fun c46 => ?_)
        · skip
          have i46 := z_lt (-1) (-1) c46 i45 rfl
          have c46a := lc_lt e45 c46
          have i46a := lr_lt1 0 1022 c46a i32 i42x2 rfl
          have i46b := l_b e32 i46a
          have i46c := lr_lt2 1 1023 c46a i32 i42x2 rfl
          refine g_iconst (-1) 52 (gd rfl) rfl rfl ?_
          refine g_istore 54 (gd rfl) rfl (Nat.le_of_ble_eq_true rfl) ?_
          refine g_iload_n 55 (gd rfl) rfl rfl ?_
          refine g_istore 57 (gd rfl) rfl (Nat.le_of_ble_eq_true rfl) ?_
          refine g_iconst 0 58 (gd rfl) rfl rfl ?_
          refine g_istore 60 (gd rfl) rfl (Nat.le_of_ble_eq_true rfl) ?_
          exact gg_w (by first | exact Nat.le_of_ble_eq_true rfl | omega) (gg_f (gf_cons rfl (gf_cons rfl (gf_cons rfl (gf_cons rfl (gf_cons rfl (gf_cons rfl (gf_cons rfl (gf_cons rfl gf_nil)))))))) (ct60 4001 s3 (Int32.ofInt (-1)) x2 (Int32.ofInt 0) hI3 (fr_tr rfl fr_rf hF3) (in_w 0 2046 i46b rfl) (in_w (-1) 159 (in_c (-1) rfl) rfl) (in_w 0 31 h2 rfl) (in_w 0 4000 (in_c 0 rfl) rfl) (m_in 4001 (in_w 0 4000 (in_c 0 rfl) rfl) rfl)))
        · skip
          have i46 := z_ge 0 1 c46 i45 rfl
          have c46a := lc_ge e45 c46
          refine g_iconst (-1) 50 (gd rfl) rfl rfl ?_
          exact g_ireturn (gd rfl) rfl rfl (hP _ _ ⟨s3, hI3, (fr_tr rfl fr_rf hF3), (Int32.ofInt (-1)), rfl, rfl, in_w (-1) 159 (in_c (-1) rfl) rfl⟩)
      · skip
        have i42x10 := z_lt (-1) (-1) c42x10 i42x9 rfl
        have c42x10a := lc_lt e42x9 c42x10
        have i42x10a := lr_lt1 (-9223372036854775808) (-1) c42x10a (l_rng z42x7) (l_c 0 rfl) rfl
        refine g_lload 15 (gd rfl) rfl rfl ?_
        refine g_lconst 0 16 (gd rfl) rfl rfl ?_
        refine g_lcmp 17 (gd rfl) rfl (fun z42x16 e42x16 => ?_)
        have i42x16 := lc_in e42x16
        refine g_if_eq 20 25 (gd rfl) rfl rfl (fun c42x17 => ?_) (fun c42x17 => ?_)
        · skip
          have i42x17 := z_eq 0 0 c42x17 i42x16 rfl
          have c42x17a := lc_eq e42x16 c42x17
          have i42x17a := lr_eq1 0 0 c42x17a i42x2 (l_c 0 rfl) rfl
          refine g_lload 27 (gd rfl) rfl rfl ?_
          refine g_lreturn (gd rfl) rfl (hp42 _ _ ?_)
          show GG _ _ _ _ _ _ _ _ [.long z42x2, .long z32] _ _ _
          refine g_lcmp 46 (gd rfl) rfl (fun z45 e45 => ?_)
          have i45 := lc_in e45
          refine g_if_lt 49 51 (gd rfl) rfl rfl (fun c46 => ?_) (fun c46 => ?_)
          · skip
            have i46 := z_lt (-1) (-1) c46 i45 rfl
            have c46a := lc_lt e45 c46
            exact ln_lt c46a i32 i42x17a rfl
          · skip
            have i46 := z_ge 0 1 c46 i45 rfl
            have c46a := lc_ge e45 c46
            refine g_iconst (-1) 50 (gd rfl) rfl rfl ?_
            exact g_ireturn (gd rfl) rfl rfl (hP _ _ ⟨s3, hI3, (fr_tr rfl fr_rf hF3), (Int32.ofInt (-1)), rfl, rfl, in_w (-1) 159 (in_c (-1) rfl) rfl⟩)
        · skip
          have c42x17a := lc_ne e42x16 c42x17
          refine g_lload 22 (gd rfl) rfl rfl ?_
          refine g_lload_n 23 (gd rfl) rfl rfl ?_
          refine g_ladd 24 (gd rfl) rfl (fun z42x23 e42x23 => ?_)
          have i42x23 := l_add 1 2047 e42x23 i42x2 (l_c 1024 rfl) rfl
          refine g_lreturn (gd rfl) rfl (hp42 _ _ ?_)
          show GG _ _ _ _ _ _ _ _ [.long z42x23, .long z32] _ _ _
          refine g_lcmp 46 (gd rfl) rfl (fun z45 e45 => ?_)
          have i45 := lc_in e45
          refine g_if_lt 49 51 (gd rfl) rfl rfl (fun c46 => ?_) (fun c46 => ?_)
          · skip
            have i46 := z_lt (-1) (-1) c46 i45 rfl
            have c46a := lc_lt e45 c46
            have i46a := lr_lt1 0 2046 c46a i32 i42x23 rfl
            have i46b := l_b e32 i46a
            refine g_iconst (-1) 52 (gd rfl) rfl rfl ?_
            refine g_istore 54 (gd rfl) rfl (Nat.le_of_ble_eq_true rfl) ?_
            refine g_iload_n 55 (gd rfl) rfl rfl ?_
            refine g_istore 57 (gd rfl) rfl (Nat.le_of_ble_eq_true rfl) ?_
            refine g_iconst 0 58 (gd rfl) rfl rfl ?_
            refine g_istore 60 (gd rfl) rfl (Nat.le_of_ble_eq_true rfl) ?_
            exact gg_w (by first | exact Nat.le_of_ble_eq_true rfl | omega) (gg_f (gf_cons rfl (gf_cons rfl (gf_cons rfl (gf_cons rfl (gf_cons rfl (gf_cons rfl (gf_cons rfl (gf_cons rfl gf_nil)))))))) (ct60 4001 s3 (Int32.ofInt (-1)) x2 (Int32.ofInt 0) hI3 (fr_tr rfl fr_rf hF3) (in_w 0 2046 i46b rfl) (in_w (-1) 159 (in_c (-1) rfl) rfl) (in_w 0 31 h2 rfl) (in_w 0 4000 (in_c 0 rfl) rfl) (m_in 4001 (in_w 0 4000 (in_c 0 rfl) rfl) rfl)))
          · skip
            have i46 := z_ge 0 1 c46 i45 rfl
            have c46a := lc_ge e45 c46
            have i46a := lr_le2 1 2147483647 c46a i42x23 i32 rfl
            have i46b := l_b e32 i46a
            refine g_iconst (-1) 50 (gd rfl) rfl rfl ?_
            exact g_ireturn (gd rfl) rfl rfl (hP _ _ ⟨s3, hI3, (fr_tr rfl fr_rf hF3), (Int32.ofInt (-1)), rfl, rfl, in_w (-1) 159 (in_c (-1) rfl) rfl⟩)
end
section
/-! methods, by vc.py -/
def fm_195_49_32 : FM := ([39, 40, 41, 42, 43, 44, 45], [50], [(32, 4), (49, 0), (49, 1), (49, 2)], [])
/-- GraphHouse$Ways.leastArc -/
theorem k_195_49_32 {Z : AmZ} {A : Nat → Nat} {s : GS} {ex : va_W} {d : Nat} {X : AmX} {x2 : Int32} {x3 : Int32} {x4 : Int32} (hd : 6 ≤ d) (hI : Inv s) (h2 : In x2 0 31) (h3 : In x3 0 31) (h4 : In x4 0 2147483647) : GC Z d 195 [.ref (A 49), .ref (A 32), .int x2, .int x3, .int x4] (WW Z A s ++ ex) 0 0 (fun v u => ∃ t : GS, Inv t ∧ Fr fm_195_49_32 s t ∧ ∃ z : Int32, v = some (.int z) ∧ u = WW Z A t ++ ex ∧ In z (-1) 159) X := by
  intro post xp hP hX
  have ct60 : ∀ (k60 : Nat) (sc60 : GS) (y60_5 : Int32) (y60_6 : Int32) (y60_7 : Int32), Inv sc60 → Fr fm_195_49_32 s sc60 → (In x4 0 2046) → (In y60_5 (-1) 159) → (In y60_6 0 31) → (In y60_7 0 4000) → 4000 - (y60_7).toInt < (k60 : Int) → GG Z (d - 1) 195 post (gx xp) (1 + k60 * 900) 60 (fun j => xlook j [(0, .ref (A 49)), (1, .ref (A 32)), (2, .int x2), (3, .int x3), (4, .int x4), (5, .int y60_5), (6, .int y60_6), (7, .int y60_7)]) [] (WW Z A sc60 ++ ex) 0 0 := by
    intro k60
    induction k60 with
    | zero => intro sc60 y60_5 y60_6 y60_7 hIc60 hFc60 j60_4 j60_5 j60_6 j60_7 mm60; exact m_no mm60 j60_7 rfl
    | succ k60 ih60 =>
      intro sc60 y60_5 y60_6 y60_7 hIc60 hFc60 j60_4 j60_5 j60_6 j60_7 mm60
      refine gg_w (M := 1 + k60 * 900 + 900) gws ?_
      refine g_iload 62 (gd rfl) rfl rfl ?_
      refine g_iload 64 (gd rfl) rfl rfl ?_
      refine g_cmp_gt 67 99 (gd rfl) rfl rfl (fun c64 => ?_) (fun c64 => ?_)
      · skip
        have i64 := r_lt2 1 4000 c64 j60_4 j60_7 rfl
        refine g_iload 101 (gd rfl) rfl rfl ?_
        exact g_ireturn (gd rfl) rfl rfl (hP _ _ ⟨sc60, hIc60, hFc60, y60_5, rfl, rfl, in_w (-1) 159 j60_5 rfl⟩)
      · skip
        have i64 := r_le1 0 2046 c64 j60_7 j60_4 rfl
        refine g_aload_n 68 (gd rfl) rfl rfl ?_
        refine g_aload_n 69 (gd rfl) rfl rfl ?_
        refine g_iload 71 (gd rfl) rfl rfl ?_
        refine g_callv (X := _) (As := [.ref (A 32), .int y60_6]) (r := []) (b := A 49) (q := 49) 74 (gd rfl) rfl rfl rfl rfl rfl (ww_o rfl) (Nat.le_of_ble_eq_true rfl) (Nat.zero_le _) (Nat.zero_le _) (k_196_49_32 (by first | exact dq1 hd rfl | exact dq0 hd rfl | exact dq2 hd rfl | exact dq3 hd rfl | omega) hIc60 (in_w 0 31 j60_6 rfl)) (fun e u h => h) (fun v u h => ?_)
        obtain ⟨z71, rfl, rfl, i71⟩ := h
        show GG _ _ _ _ _ _ _ _ [.int z71] _ _ _
        refine g_istore 76 (gd rfl) rfl (Nat.le_of_ble_eq_true rfl) ?_
        refine g_iload 78 (gd rfl) rfl rfl ?_
        refine g_iconst (-1) 79 (gd rfl) rfl rfl ?_
        refine g_cmp_ne 82 84 (gd rfl) rfl rfl (fun c79 => ?_) (fun c79 => ?_)
        · skip
          have i79 := r_ne1 0 159 c79 i71 (in_c (-1) rfl) rfl
          refine g_aload_n 85 (gd rfl) rfl rfl ?_
          refine g_getA (q2 := 35) 88 (gd rfl) rfl rfl rfl rfl ?_
          refine g_iload 90 (gd rfl) rfl rfl ?_
          refine g_iaload 91 (gd rfl) rfl (n := 160) rfl (in_ix i79 rfl) (fun z90 e90 => ?_)
          have i90 := inv_I hIc60 (n := 160) (t := 0) 0 31 rfl (in_ix i79 rfl) rfl e90
          refine g_istore 93 (gd rfl) rfl (Nat.le_of_ble_eq_true rfl) ?_
          refine g_iinc 96 (gd rfl) rfl rfl (Nat.le_of_ble_eq_true rfl) (fun z93 e93 => ?_)
          have i93 := in_add 1 2047 e93 i64 (in_c 1 rfl) rfl rfl
          refine g_goto 60 (gd rfl) rfl ?_
          exact gg_w (by first | exact Nat.le_add_right _ _ | exact gw2 | exact gw3 | exact gwe rfl | exact gwf rfl | exact gwg rfl | exact gwh rfl | omega) (gg_f (gf_cons rfl (gf_cons rfl (gf_cons rfl (gf_cons rfl (gf_cons rfl (gf_cons rfl (gf_cons rfl (gf_cons rfl gf_nil)))))))) (ih60 sc60 z71 z90 z93 hIc60 hFc60 (in_w 0 2046 j60_4 rfl) (in_w (-1) 159 i79 rfl) (in_w 0 31 i90 rfl) (in_w 0 4000 i93 rfl) (m_up mm60 (t_add e93 i64 (in_c 1 rfl) rfl) (in_w 1 1 (in_c 1 rfl) rfl))))
        · skip
          have i79 := r_eq1 (-1) (-1) c79 i71 (in_c (-1) rfl) rfl
          refine g_iconst (-1) 83 (gd rfl) rfl rfl ?_
          exact g_ireturn (gd rfl) rfl rfl (hP _ _ ⟨sc60, hIc60, hFc60, (Int32.ofInt (-1)), rfl, rfl, in_w (-1) 159 (in_c (-1) rfl) rfl⟩)
  refine g_enter2 (k := 195) (N := 3601801) (by first | exact dq1 hd rfl | exact dq0 hd rfl | exact dq2 hd rfl | exact dq3 hd rfl | omega) rfl (Nat.le_of_ble_eq_true rfl) ?_
  refine g_aload_n 1 (gd rfl) rfl rfl ?_
  refine g_aload_n 2 (gd rfl) rfl rfl ?_
  refine g_iload_n 3 (gd rfl) rfl rfl ?_
  refine g_callv (X := _) (As := [.ref (A 32), .int x3]) (r := []) (b := A 49) (q := 49) 6 (gd rfl) rfl rfl rfl rfl rfl (ww_o rfl) (Nat.le_of_ble_eq_true rfl) (Nat.zero_le _) (Nat.zero_le _) (k_198_49_32 (by first | exact dq1 hd rfl | exact dq0 hd rfl | exact dq2 hd rfl | exact dq3 hd rfl | omega) hI (in_w 0 31 h3 rfl)) (fun e u h => h) (fun v u h => ?_)
  obtain ⟨s3, hI3, hF3, rfl, rfl⟩ := h
  show GG _ _ _ _ _ _ _ _ [] _ _ _
  refine g_aload_n 7 (gd rfl) rfl rfl ?_
  refine g_getI 10 (gd rfl) rfl rfl rfl (fun z7 e7 => ?_)
  refine g_iload_n 11 (gd rfl) rfl rfl ?_
  refine g_ishr 12 (gd rfl) rfl (fun z11 e11 => ?_)
  refine g_iconst 1 13 (gd rfl) rfl rfl ?_
  refine g_iand 14 (gd rfl) rfl (fun z13 e13 => ?_)
  have i13 := in_and2 e13 (in_c 1 rfl) rfl
  refine g_if_ne 17 49 (gd rfl) rfl rfl (fun c14 => ?_) (fun c14 => ?_)
  · skip
    have i14 := z_ne 1 1 c14 i13 rfl
    refine g_iconst (-1) 50 (gd rfl) rfl rfl ?_
    exact g_ireturn (gd rfl) rfl rfl (hP _ _ ⟨s3, hI3, (fr_tr rfl fr_rf hF3), (Int32.ofInt (-1)), rfl, rfl, in_w (-1) 159 (in_c (-1) rfl) rfl⟩)
  · skip
    have i14 := z_eq 0 0 c14 i13 rfl
    refine g_aload_n 18 (gd rfl) rfl rfl ?_
    refine g_getA (q2 := 50) 21 (gd rfl) rfl rfl rfl rfl ?_
    refine g_iload_n 22 (gd rfl) rfl rfl ?_
    refine g_laload 23 (gd rfl) rfl (n := 32) rfl (in_ix h2 rfl) (fun z22 e22 => ?_)
    refine g_ldc2_w 9223372036854775807 26 (gd rfl) rfl rfl ?_
    refine g_lcmp 27 (gd rfl) rfl (fun z26 e26 => ?_)
    have i26 := lc_in e26
    refine g_if_eq 30 49 (gd rfl) rfl rfl (fun c27 => ?_) (fun c27 => ?_)
    · skip
      have i27 := z_eq 0 0 c27 i26 rfl
      have c27a := lc_eq e26 c27
      have i27a := lr_eq1 9223372036854775807 9223372036854775807 c27a (l_rng z22) (l_c 9223372036854775807 rfl) rfl
      refine g_iconst (-1) 50 (gd rfl) rfl rfl ?_
      exact g_ireturn (gd rfl) rfl rfl (hP _ _ ⟨s3, hI3, (fr_tr rfl fr_rf hF3), (Int32.ofInt (-1)), rfl, rfl, in_w (-1) 159 (in_c (-1) rfl) rfl⟩)
    · skip
      have c27a := lc_ne e26 c27
      have i27 := lr_ne1 (-9223372036854775808) 9223372036854775806 c27a (l_rng z22) (l_c 9223372036854775807 rfl) rfl
      refine g_iload 32 (gd rfl) rfl rfl ?_
      refine g_i2l 33 (gd rfl) rfl (fun z32 e32 => ?_)
      have i32 := l_i e32 h4
      refine g_aload_n 34 (gd rfl) rfl rfl ?_
      refine g_getA (q2 := 50) 37 (gd rfl) rfl rfl rfl rfl ?_
      refine g_iload_n 38 (gd rfl) rfl rfl ?_
      refine g_laload 39 (gd rfl) rfl (n := 32) rfl (in_ix h2 rfl) (fun z38 e38 => ?_)
      refine g_ldc2_w 1024 42 (gd rfl) rfl rfl ?_
      refine g_calls (As := [.long z38, .long (Int64.ofInt 1024)]) (r := [.long z32]) 45 (gd rfl) rfl rfl rfl rfl rfl (Nat.le_of_ble_eq_true rfl) (mc := 0) (ms := 0) (Nat.zero_le _) (Nat.zero_le _) (P := fun v u => _) ?_ (fun v u h => h)
      intro po42 xx42 hp42 hx42
      refine g_enter2 (k := 419) (N := 300) (by first | exact dq1 hd rfl | exact dq0 hd rfl | exact dq2 hd rfl | exact dq3 hd rfl | omega) rfl (Nat.le_of_ble_eq_true rfl) ?_
      refine g_lload_n 1 (gd rfl) rfl rfl ?_
      refine g_lload_n 2 (gd rfl) rfl rfl ?_
      refine g_lrem 3 (gd rfl) rfl (by decide) (fun z42x2 e42x2 => ?_)
      have i42x2 := l_rem (-1023) 1023 e42x2 rfl
      refine g_lstore 5 (gd rfl) rfl (Nat.le_of_ble_eq_true rfl) ?_
      refine g_lload_n 6 (gd rfl) rfl rfl ?_
      refine g_lload_n 7 (gd rfl) rfl rfl ?_
      refine g_lxor 8 (gd rfl) rfl (fun z42x7 e42x7 => ?_)
      refine g_lconst 0 9 (gd rfl) rfl rfl ?_
      refine g_lcmp 10 (gd rfl) rfl (fun z42x9 e42x9 => ?_)
      have i42x9 := lc_in e42x9
      refine g_if_ge 13 25 (gd rfl) rfl rfl (fun c42x10 => ?_) (fun c42x10 => ?_)
      · skip
        have i42x10 := z_ge 0 1 c42x10 i42x9 rfl
        have c42x10a := lc_ge e42x9 c42x10
        have i42x10a := lr_le2 0 9223372036854775807 c42x10a (l_c 0 rfl) (l_rng z42x7) rfl
        refine g_lload 27 (gd rfl) rfl rfl ?_
        refine g_lreturn (gd rfl) rfl (hp42 _ _ ?_)
        show GG _ _ _ _ _ _ _ _ [.long z42x2, .long z32] _ _ _
        refine g_lcmp 46 (gd rfl) rfl (fun z45 e45 => ?_)
        have i45 := lc_in e45
        refine g_if_lt 49 51 (gd rfl) rfl rfl (fun c46 => ?_) (fun c46 => ?_)
        · skip
          have i46 := z_lt (-1) (-1) c46 i45 rfl
          have c46a := lc_lt e45 c46
          have i46a := lr_lt1 0 1022 c46a i32 i42x2 rfl
          have i46b := l_b e32 i46a
          have i46c := lr_lt2 1 1023 c46a i32 i42x2 rfl
          refine g_iconst (-1) 52 (gd rfl) rfl rfl ?_
          refine g_istore 54 (gd rfl) rfl (Nat.le_of_ble_eq_true rfl) ?_
          refine g_iload_n 55 (gd rfl) rfl rfl ?_
          refine g_istore 57 (gd rfl) rfl (Nat.le_of_ble_eq_true rfl) ?_
          refine g_iconst 0 58 (gd rfl) rfl rfl ?_
          refine g_istore 60 (gd rfl) rfl (Nat.le_of_ble_eq_true rfl) ?_
          exact gg_w (by first | exact Nat.le_of_ble_eq_true rfl | omega) (gg_f (gf_cons rfl (gf_cons rfl (gf_cons rfl (gf_cons rfl (gf_cons rfl (gf_cons rfl (gf_cons rfl (gf_cons rfl gf_nil)))))))) (ct60 4001 s3 (Int32.ofInt (-1)) x2 (Int32.ofInt 0) hI3 (fr_tr rfl fr_rf hF3) (in_w 0 2046 i46b rfl) (in_w (-1) 159 (in_c (-1) rfl) rfl) (in_w 0 31 h2 rfl) (in_w 0 4000 (in_c 0 rfl) rfl) (m_in 4001 (in_w 0 4000 (in_c 0 rfl) rfl) rfl)))
        · skip
          have i46 := z_ge 0 1 c46 i45 rfl
          have c46a := lc_ge e45 c46
          refine g_iconst (-1) 50 (gd rfl) rfl rfl ?_
          exact g_ireturn (gd rfl) rfl rfl (hP _ _ ⟨s3, hI3, (fr_tr rfl fr_rf hF3), (Int32.ofInt (-1)), rfl, rfl, in_w (-1) 159 (in_c (-1) rfl) rfl⟩)
      · skip
        have i42x10 := z_lt (-1) (-1) c42x10 i42x9 rfl
        have c42x10a := lc_lt e42x9 c42x10
        have i42x10a := lr_lt1 (-9223372036854775808) (-1) c42x10a (l_rng z42x7) (l_c 0 rfl) rfl
        refine g_lload 15 (gd rfl) rfl rfl ?_
        refine g_lconst 0 16 (gd rfl) rfl rfl ?_
        refine g_lcmp 17 (gd rfl) rfl (fun z42x16 e42x16 => ?_)
        have i42x16 := lc_in e42x16
        refine g_if_eq 20 25 (gd rfl) rfl rfl (fun c42x17 => ?_) (fun c42x17 => ?_)
        · skip
          have i42x17 := z_eq 0 0 c42x17 i42x16 rfl
          have c42x17a := lc_eq e42x16 c42x17
          have i42x17a := lr_eq1 0 0 c42x17a i42x2 (l_c 0 rfl) rfl
          refine g_lload 27 (gd rfl) rfl rfl ?_
          refine g_lreturn (gd rfl) rfl (hp42 _ _ ?_)
          show GG _ _ _ _ _ _ _ _ [.long z42x2, .long z32] _ _ _
          refine g_lcmp 46 (gd rfl) rfl (fun z45 e45 => ?_)
          have i45 := lc_in e45
          refine g_if_lt 49 51 (gd rfl) rfl rfl (fun c46 => ?_) (fun c46 => ?_)
          · skip
            have i46 := z_lt (-1) (-1) c46 i45 rfl
            have c46a := lc_lt e45 c46
            exact ln_lt c46a i32 i42x17a rfl
          · skip
            have i46 := z_ge 0 1 c46 i45 rfl
            have c46a := lc_ge e45 c46
            refine g_iconst (-1) 50 (gd rfl) rfl rfl ?_
            exact g_ireturn (gd rfl) rfl rfl (hP _ _ ⟨s3, hI3, (fr_tr rfl fr_rf hF3), (Int32.ofInt (-1)), rfl, rfl, in_w (-1) 159 (in_c (-1) rfl) rfl⟩)
        · skip
          have c42x17a := lc_ne e42x16 c42x17
          refine g_lload 22 (gd rfl) rfl rfl ?_
          refine g_lload_n 23 (gd rfl) rfl rfl ?_
          refine g_ladd 24 (gd rfl) rfl (fun z42x23 e42x23 => ?_)
          have i42x23 := l_add 1 2047 e42x23 i42x2 (l_c 1024 rfl) rfl
          refine g_lreturn (gd rfl) rfl (hp42 _ _ ?_)
          show GG _ _ _ _ _ _ _ _ [.long z42x23, .long z32] _ _ _
          refine g_lcmp 46 (gd rfl) rfl (fun z45 e45 => ?_)
          have i45 := lc_in e45
          refine g_if_lt 49 51 (gd rfl) rfl rfl (fun c46 => ?_) (fun c46 => ?_)
          · skip
            have i46 := z_lt (-1) (-1) c46 i45 rfl
            have c46a := lc_lt e45 c46
            have i46a := lr_lt1 0 2046 c46a i32 i42x23 rfl
            have i46b := l_b e32 i46a
            refine g_iconst (-1) 52 (gd rfl) rfl rfl ?_
            refine g_istore 54 (gd rfl) rfl (Nat.le_of_ble_eq_true rfl) ?_
            refine g_iload_n 55 (gd rfl) rfl rfl ?_
            refine g_istore 57 (gd rfl) rfl (Nat.le_of_ble_eq_true rfl) ?_
            refine g_iconst 0 58 (gd rfl) rfl rfl ?_
            refine g_istore 60 (gd rfl) rfl (Nat.le_of_ble_eq_true rfl) ?_
            exact gg_w (by first | exact Nat.le_of_ble_eq_true rfl | omega) (gg_f (gf_cons rfl (gf_cons rfl (gf_cons rfl (gf_cons rfl (gf_cons rfl (gf_cons rfl (gf_cons rfl (gf_cons rfl gf_nil)))))))) (ct60 4001 s3 (Int32.ofInt (-1)) x2 (Int32.ofInt 0) hI3 (fr_tr rfl fr_rf hF3) (in_w 0 2046 i46b rfl) (in_w (-1) 159 (in_c (-1) rfl) rfl) (in_w 0 31 h2 rfl) (in_w 0 4000 (in_c 0 rfl) rfl) (m_in 4001 (in_w 0 4000 (in_c 0 rfl) rfl) rfl)))
          · skip
            have i46 := z_ge 0 1 c46 i45 rfl
            have c46a := lc_ge e45 c46
            have i46a := lr_le2 1 2147483647 c46a i42x23 i32 rfl
            have i46b := l_b e32 i46a
            refine g_iconst (-1) 50 (gd rfl) rfl rfl ?_
            exact g_ireturn (gd rfl) rfl rfl (hP _ _ ⟨s3, hI3, (fr_tr rfl fr_rf hF3), (Int32.ofInt (-1)), rfl, rfl, in_w (-1) 159 (in_c (-1) rfl) rfl⟩)

def fm_207_49_2 : FM := ([9, 10, 11, 12, 13, 14, 15], [55], [(2, 4), (49, 8), (49, 9), (49, 10), (49, 11)], [])
def fm_207_49_32 : FM := ([39, 40, 41, 42, 43, 44, 45], [55], [(32, 4), (49, 8), (49, 9), (49, 10), (49, 11)], [])
def fm_230_0 : FM := ([9, 10, 11, 12, 13, 14, 15, 39, 40, 41, 42, 43, 44, 45], [50], [(2, 4), (32, 4), (49, 0), (49, 1), (49, 2)], [])
/-- GraphHouse.way -/
theorem k_230_0 {Z : AmZ} {A : Nat → Nat} {s : GS} {ex : va_W} {d : Nat} {x1 : Int32} {x2 : Int32} {x3 : Int32} (hd : 7 ≤ d) (hI : Inv s)  : GC Z d 230 [.ref (A 0), .int x1, .int x2, .int x3] (WW Z A s ++ ex) 3 18 (fun v u => ∃ t : GS, Inv t ∧ Fr fm_230_0 s t ∧ ∃ z : Int32, v = some (.int z) ∧ u = WW Z A t ++ ex ∧ In z (-1) 159) (gE1 Z A ex fm_230_0 s) := by
  intro post xp hP hX
  obtain ⟨u_0_2, e_0_2⟩ : ∃ w, w = s.2.2.1 0 2 := ⟨_, rfl⟩
  have ro_0_2 := inv_F hI (-1) 4000 rfl e_0_2
  obtain ⟨u_2_1, e_2_1⟩ : ∃ w, w = s.2.2.1 2 1 := ⟨_, rfl⟩
  have ro_2_1 := inv_F hI 0 32 rfl e_2_1
  obtain ⟨u_32_1, e_32_1⟩ : ∃ w, w = s.2.2.1 32 1 := ⟨_, rfl⟩
  have ro_32_1 := inv_F hI 0 32 rfl e_32_1
  refine g_enter2 (k := 230) (N := 900) (by first | exact dq1 hd rfl | exact dq0 hd rfl | exact dq2 hd rfl | exact dq3 hd rfl | omega) rfl (Nat.le_of_ble_eq_true rfl) ?_
  refine g_aload_n 1 (gd rfl) rfl rfl ?_
  refine g_callv (X := _) (As := []) (r := []) (b := A 0) (q := 0) 4 (gd rfl) rfl rfl rfl rfl rfl (ww_o rfl) (Nat.le_of_ble_eq_true rfl) (mc := 0) (ms := 0) (Nat.zero_le _) (Nat.zero_le _) (P := fun v u => _) ?_ (fun e u h => h) (fun v u h => h)
  intro po1 xx1 hp1 hx1
  refine g_enter2 (k := 259) (N := 300) (by first | exact dq1 hd rfl | exact dq0 hd rfl | exact dq2 hd rfl | exact dq3 hd rfl | omega) rfl (Nat.le_of_ble_eq_true rfl) ?_
  refine g_aload_n 1 (gd rfl) rfl rfl ?_
  refine g_getI 4 (gd rfl) rfl rfl rfl (fun z1x1 e1x1 => ?_)
  have q1x1 : u_0_2 = z1x1 := (e_0_2).trans e1x1.symm
  subst q1x1
  refine g_iconst (-1) 5 (gd rfl) rfl rfl ?_
  refine g_cmp_ne 8 18 (gd rfl) rfl rfl (fun c1x5 => ?_) (fun c1x5 => ?_)
  · skip
    have i1x5 := r_ne1 0 4000 c1x5 ro_0_2 (in_c (-1) rfl) rfl
    refine g_aload_n 19 (gd rfl) rfl rfl ?_
    refine g_getA (q2 := 32) 22 (gd rfl) rfl rfl rfl rfl ?_
    refine g_areturn (gd rfl) rfl (hp1 _ _ ?_)
    show GG _ _ _ _ _ _ _ _ [.ref (A 32)] _ _ _
    refine g_astore 6 (gd rfl) rfl (Nat.le_of_ble_eq_true rfl) ?_
    refine g_aload 8 (gd rfl) rfl rfl ?_
    refine g_iload_n 9 (gd rfl) rfl rfl ?_
    refine g_callv (X := _) (As := [.int x1]) (r := []) (b := A 32) (q := 32) 12 (gd rfl) rfl rfl rfl rfl rfl (ww_o rfl) (Nat.le_of_ble_eq_true rfl) (mc := 0) (ms := 0) (Nat.zero_le _) (Nat.zero_le _) (P := fun v u => _) ?_ (fun e u h => h) (fun v u h => h)
    intro po9 xx9 hp9 hx9
    refine g_enter2 (k := 94) (N := 300) (by first | exact dq1 hd rfl | exact dq0 hd rfl | exact dq2 hd rfl | exact dq3 hd rfl | omega) rfl (Nat.le_of_ble_eq_true rfl) ?_
    refine g_iload_n 1 (gd rfl) rfl rfl ?_
    refine g_if_lt 4 16 (gd rfl) rfl rfl (fun c9x1 => ?_) (fun c9x1 => ?_)
    · skip
      have i9x1 := z_lt (-2147483648) (-1) c9x1 (i_rng x1) rfl
      refine g_iconst 0 17 (gd rfl) rfl rfl ?_
      refine g_ireturn (gd rfl) rfl (nb01 (in_w 0 1 (in_c 0 rfl) rfl)) (hp9 _ _ ?_)
      show GG _ _ _ _ _ _ _ _ [.int (Int32.ofInt 0)] _ _ _
      refine g_if_eq 15 32 (gd rfl) rfl rfl (fun c12 => ?_) (fun c12 => ?_)
      · skip
        refine g_iconst 0 33 (gd rfl) rfl rfl ?_
        refine g_thr (E := am_IA) (y := yX11_allow) 36 (gd rfl) rfl rfl (Or.inl ⟨rfl, rfl, rfl⟩) (by first | exact dq1 hd rfl | exact dq0 hd rfl | exact dq2 hd rfl | exact dq3 hd rfl | omega) (Nat.le_of_ble_eq_true rfl) (Nat.le_of_ble_eq_true rfl) (Nat.le_of_ble_eq_true rfl) (fun c33 => ?_) (fun c33 => ?_)
        · skip
          exact zn_ne c33 (in_c 0 rfl) rfl
        · skip
          exact (hX _ _ ⟨rfl, s, hI, fr_rf, rfl⟩)
      · skip
        exact zn_ne c12 (in_c 0 rfl) rfl
    · skip
      have i9x1 := z_ge 0 2147483647 c9x1 (i_rng x1) rfl
      refine g_iload_n 5 (gd rfl) rfl rfl ?_
      refine g_aload_n 6 (gd rfl) rfl rfl ?_
      refine g_getI 9 (gd rfl) rfl rfl rfl (fun z9x6 e9x6 => ?_)
      have q9x6 : u_32_1 = z9x6 := (e_32_1).trans e9x6.symm
      subst q9x6
      refine g_cmp_ge 12 16 (gd rfl) rfl rfl (fun c9x9 => ?_) (fun c9x9 => ?_)
      · skip
        refine g_iconst 0 17 (gd rfl) rfl rfl ?_
        refine g_ireturn (gd rfl) rfl (nb01 (in_w 0 1 (in_c 0 rfl) rfl)) (hp9 _ _ ?_)
        show GG _ _ _ _ _ _ _ _ [.int (Int32.ofInt 0)] _ _ _
        refine g_if_eq 15 32 (gd rfl) rfl rfl (fun c12 => ?_) (fun c12 => ?_)
        · skip
          refine g_iconst 0 33 (gd rfl) rfl rfl ?_
          refine g_thr (E := am_IA) (y := yX11_allow) 36 (gd rfl) rfl rfl (Or.inl ⟨rfl, rfl, rfl⟩) (by first | exact dq1 hd rfl | exact dq0 hd rfl | exact dq2 hd rfl | exact dq3 hd rfl | omega) (Nat.le_of_ble_eq_true rfl) (Nat.le_of_ble_eq_true rfl) (Nat.le_of_ble_eq_true rfl) (fun c33 => ?_) (fun c33 => ?_)
          · skip
            exact zn_ne c33 (in_c 0 rfl) rfl
          · skip
            exact (hX _ _ ⟨rfl, s, hI, fr_rf, rfl⟩)
        · skip
          exact zn_ne c12 (in_c 0 rfl) rfl
      · skip
        have i9x9 := r_lt1 0 31 c9x9 i9x1 ro_32_1 rfl
        have i9x9a := r_lt2 1 32 c9x9 i9x1 ro_32_1 rfl
        refine g_iconst 1 13 (gd rfl) rfl rfl ?_
        refine g_goto 17 (gd rfl) rfl ?_
        refine g_ireturn (gd rfl) rfl (nb01 (in_w 0 1 (in_c 1 rfl) rfl)) (hp9 _ _ ?_)
        show GG _ _ _ _ _ _ _ _ [.int (Int32.ofInt 1)] _ _ _
        refine g_if_eq 15 32 (gd rfl) rfl rfl (fun c12 => ?_) (fun c12 => ?_)
        · skip
          exact zn_eq c12 (in_c 1 rfl) rfl
        · skip
          refine g_aload 17 (gd rfl) rfl rfl ?_
          refine g_iload_n 18 (gd rfl) rfl rfl ?_
          refine g_callv (X := _) (As := [.int x2]) (r := []) (b := A 32) (q := 32) 21 (gd rfl) rfl rfl rfl rfl rfl (ww_o rfl) (Nat.le_of_ble_eq_true rfl) (mc := 0) (ms := 0) (Nat.zero_le _) (Nat.zero_le _) (P := fun v u => _) ?_ (fun e u h => h) (fun v u h => h)
          intro po18 xx18 hp18 hx18
          refine g_enter2 (k := 94) (N := 300) (by first | exact dq1 hd rfl | exact dq0 hd rfl | exact dq2 hd rfl | exact dq3 hd rfl | omega) rfl (Nat.le_of_ble_eq_true rfl) ?_
          refine g_iload_n 1 (gd rfl) rfl rfl ?_
          refine g_if_lt 4 16 (gd rfl) rfl rfl (fun c18x1 => ?_) (fun c18x1 => ?_)
          · skip
            have i18x1 := z_lt (-2147483648) (-1) c18x1 (i_rng x2) rfl
            refine g_iconst 0 17 (gd rfl) rfl rfl ?_
            refine g_ireturn (gd rfl) rfl (nb01 (in_w 0 1 (in_c 0 rfl) rfl)) (hp18 _ _ ?_)
            show GG _ _ _ _ _ _ _ _ [.int (Int32.ofInt 0)] _ _ _
            refine g_if_eq 24 32 (gd rfl) rfl rfl (fun c21 => ?_) (fun c21 => ?_)
            · skip
              refine g_iconst 0 33 (gd rfl) rfl rfl ?_
              refine g_thr (E := am_IA) (y := yX11_allow) 36 (gd rfl) rfl rfl (Or.inl ⟨rfl, rfl, rfl⟩) (by first | exact dq1 hd rfl | exact dq0 hd rfl | exact dq2 hd rfl | exact dq3 hd rfl | omega) (Nat.le_of_ble_eq_true rfl) (Nat.le_of_ble_eq_true rfl) (Nat.le_of_ble_eq_true rfl) (fun c33 => ?_) (fun c33 => ?_)
              · skip
                exact zn_ne c33 (in_c 0 rfl) rfl
              · skip
                exact (hX _ _ ⟨rfl, s, hI, fr_rf, rfl⟩)
            · skip
              exact zn_ne c21 (in_c 0 rfl) rfl
          · skip
            have i18x1 := z_ge 0 2147483647 c18x1 (i_rng x2) rfl
            refine g_iload_n 5 (gd rfl) rfl rfl ?_
            refine g_aload_n 6 (gd rfl) rfl rfl ?_
            refine g_getI 9 (gd rfl) rfl rfl rfl (fun z18x6 e18x6 => ?_)
            have q18x6 : u_32_1 = z18x6 := (e_32_1).trans e18x6.symm
            subst q18x6
            refine g_cmp_ge 12 16 (gd rfl) rfl rfl (fun c18x9 => ?_) (fun c18x9 => ?_)
            · skip
              have i18x9 := r_le2 1 2147483647 c18x9 i9x9a i18x1 rfl
              refine g_iconst 0 17 (gd rfl) rfl rfl ?_
              refine g_ireturn (gd rfl) rfl (nb01 (in_w 0 1 (in_c 0 rfl) rfl)) (hp18 _ _ ?_)
              show GG _ _ _ _ _ _ _ _ [.int (Int32.ofInt 0)] _ _ _
              refine g_if_eq 24 32 (gd rfl) rfl rfl (fun c21 => ?_) (fun c21 => ?_)
              · skip
                refine g_iconst 0 33 (gd rfl) rfl rfl ?_
                refine g_thr (E := am_IA) (y := yX11_allow) 36 (gd rfl) rfl rfl (Or.inl ⟨rfl, rfl, rfl⟩) (by first | exact dq1 hd rfl | exact dq0 hd rfl | exact dq2 hd rfl | exact dq3 hd rfl | omega) (Nat.le_of_ble_eq_true rfl) (Nat.le_of_ble_eq_true rfl) (Nat.le_of_ble_eq_true rfl) (fun c33 => ?_) (fun c33 => ?_)
                · skip
                  exact zn_ne c33 (in_c 0 rfl) rfl
                · skip
                  exact (hX _ _ ⟨rfl, s, hI, fr_rf, rfl⟩)
              · skip
                exact zn_ne c21 (in_c 0 rfl) rfl
            · skip
              have i18x9 := r_lt1 0 31 c18x9 i18x1 i9x9a rfl
              refine g_iconst 1 13 (gd rfl) rfl rfl ?_
              refine g_goto 17 (gd rfl) rfl ?_
              refine g_ireturn (gd rfl) rfl (nb01 (in_w 0 1 (in_c 1 rfl) rfl)) (hp18 _ _ ?_)
              show GG _ _ _ _ _ _ _ _ [.int (Int32.ofInt 1)] _ _ _
              refine g_if_eq 24 32 (gd rfl) rfl rfl (fun c21 => ?_) (fun c21 => ?_)
              · skip
                exact zn_eq c21 (in_c 1 rfl) rfl
              · skip
                refine g_iload_n 25 (gd rfl) rfl rfl ?_
                refine g_if_lt 28 32 (gd rfl) rfl rfl (fun c25 => ?_) (fun c25 => ?_)
                · skip
                  have i25 := z_lt (-2147483648) (-1) c25 (i_rng x3) rfl
                  refine g_iconst 0 33 (gd rfl) rfl rfl ?_
                  refine g_thr (E := am_IA) (y := yX11_allow) 36 (gd rfl) rfl rfl (Or.inl ⟨rfl, rfl, rfl⟩) (by first | exact dq1 hd rfl | exact dq0 hd rfl | exact dq2 hd rfl | exact dq3 hd rfl | omega) (Nat.le_of_ble_eq_true rfl) (Nat.le_of_ble_eq_true rfl) (Nat.le_of_ble_eq_true rfl) (fun c33 => ?_) (fun c33 => ?_)
                  · skip
                    exact zn_ne c33 (in_c 0 rfl) rfl
                  · skip
                    exact (hX _ _ ⟨rfl, s, hI, fr_rf, rfl⟩)
                · skip
                  have i25 := z_ge 0 2147483647 c25 (i_rng x3) rfl
                  refine g_iconst 1 29 (gd rfl) rfl rfl ?_
                  refine g_goto 33 (gd rfl) rfl ?_
                  refine g_thr (E := am_IA) (y := yX11_allow) 36 (gd rfl) rfl rfl (Or.inl ⟨rfl, rfl, rfl⟩) (by first | exact dq1 hd rfl | exact dq0 hd rfl | exact dq2 hd rfl | exact dq3 hd rfl | omega) (Nat.le_of_ble_eq_true rfl) (Nat.le_of_ble_eq_true rfl) (Nat.le_of_ble_eq_true rfl) (fun c33 => ?_) (fun c33 => ?_)
                  · skip
                    refine g_aload_n 37 (gd rfl) rfl rfl ?_
                    refine g_getA (q2 := 49) 40 (gd rfl) rfl rfl rfl rfl ?_
                    refine g_aload 42 (gd rfl) rfl rfl ?_
                    refine g_iload_n 43 (gd rfl) rfl rfl ?_
                    refine g_iload_n 44 (gd rfl) rfl rfl ?_
                    refine g_iload_n 45 (gd rfl) rfl rfl ?_
                    refine g_callv (X := _) (As := [.ref (A 32), .int x1, .int x2, .int x3]) (r := []) (b := A 49) (q := 49) 48 (gd rfl) rfl rfl rfl rfl rfl (ww_o rfl) (Nat.le_of_ble_eq_true rfl) (Nat.zero_le _) (Nat.zero_le _) (k_195_49_32 (by first | exact dq1 hd rfl | exact dq0 hd rfl | exact dq2 hd rfl | exact dq3 hd rfl | omega) hI (in_w 0 31 i9x9 rfl) (in_w 0 31 i18x9 rfl) (in_w 0 2147483647 i25 rfl)) (fun e u h => h) (fun v u h => ?_)
                    obtain ⟨s45, hI45, hF45, z45, rfl, rfl, i45⟩ := h
                    show GG _ _ _ _ _ _ _ _ [.int z45] _ _ _
                    exact g_ireturn (gd rfl) rfl rfl (hP _ _ ⟨s45, hI45, (fr_tr rfl fr_rf hF45), z45, rfl, rfl, in_w (-1) 159 i45 rfl⟩)
                  · skip
                    exact zn_eq c33 (in_c 1 rfl) rfl
  · skip
    have i1x5 := r_eq1 (-1) (-1) c1x5 ro_0_2 (in_c (-1) rfl) rfl
    refine g_aload_n 9 (gd rfl) rfl rfl ?_
    refine g_getA (q2 := 1) 12 (gd rfl) rfl rfl rfl rfl ?_
    refine g_getA (q2 := 2) 15 (gd rfl) rfl rfl rfl rfl ?_
    refine g_goto 22 (gd rfl) rfl ?_
    refine g_areturn (gd rfl) rfl (hp1 _ _ ?_)
    show GG _ _ _ _ _ _ _ _ [.ref (A 2)] _ _ _
    refine g_astore 6 (gd rfl) rfl (Nat.le_of_ble_eq_true rfl) ?_
    refine g_aload 8 (gd rfl) rfl rfl ?_
    refine g_iload_n 9 (gd rfl) rfl rfl ?_
    refine g_callv (X := _) (As := [.int x1]) (r := []) (b := A 2) (q := 2) 12 (gd rfl) rfl rfl rfl rfl rfl (ww_o rfl) (Nat.le_of_ble_eq_true rfl) (mc := 0) (ms := 0) (Nat.zero_le _) (Nat.zero_le _) (P := fun v u => _) ?_ (fun e u h => h) (fun v u h => h)
    intro po9 xx9 hp9 hx9
    refine g_enter2 (k := 94) (N := 300) (by first | exact dq1 hd rfl | exact dq0 hd rfl | exact dq2 hd rfl | exact dq3 hd rfl | omega) rfl (Nat.le_of_ble_eq_true rfl) ?_
    refine g_iload_n 1 (gd rfl) rfl rfl ?_
    refine g_if_lt 4 16 (gd rfl) rfl rfl (fun c9x1 => ?_) (fun c9x1 => ?_)
    · skip
      have i9x1 := z_lt (-2147483648) (-1) c9x1 (i_rng x1) rfl
      refine g_iconst 0 17 (gd rfl) rfl rfl ?_
      refine g_ireturn (gd rfl) rfl (nb01 (in_w 0 1 (in_c 0 rfl) rfl)) (hp9 _ _ ?_)
      show GG _ _ _ _ _ _ _ _ [.int (Int32.ofInt 0)] _ _ _
      refine g_if_eq 15 32 (gd rfl) rfl rfl (fun c12 => ?_) (fun c12 => ?_)
      · skip
        refine g_iconst 0 33 (gd rfl) rfl rfl ?_
        refine g_thr (E := am_IA) (y := yX11_allow) 36 (gd rfl) rfl rfl (Or.inl ⟨rfl, rfl, rfl⟩) (by first | exact dq1 hd rfl | exact dq0 hd rfl | exact dq2 hd rfl | exact dq3 hd rfl | omega) (Nat.le_of_ble_eq_true rfl) (Nat.le_of_ble_eq_true rfl) (Nat.le_of_ble_eq_true rfl) (fun c33 => ?_) (fun c33 => ?_)
        · skip
          exact zn_ne c33 (in_c 0 rfl) rfl
        · skip
          exact (hX _ _ ⟨rfl, s, hI, fr_rf, rfl⟩)
      · skip
        exact zn_ne c12 (in_c 0 rfl) rfl
    · skip
      have i9x1 := z_ge 0 2147483647 c9x1 (i_rng x1) rfl
      refine g_iload_n 5 (gd rfl) rfl rfl ?_
      refine g_aload_n 6 (gd rfl) rfl rfl ?_
      refine g_getI 9 (gd rfl) rfl rfl rfl (fun z9x6 e9x6 => ?_)
      have q9x6 : u_2_1 = z9x6 := (e_2_1).trans e9x6.symm
      subst q9x6
      refine g_cmp_ge 12 16 (gd rfl) rfl rfl (fun c9x9 => ?_) (fun c9x9 => ?_)
      · skip
        refine g_iconst 0 17 (gd rfl) rfl rfl ?_
        refine g_ireturn (gd rfl) rfl (nb01 (in_w 0 1 (in_c 0 rfl) rfl)) (hp9 _ _ ?_)
        show GG _ _ _ _ _ _ _ _ [.int (Int32.ofInt 0)] _ _ _
        refine g_if_eq 15 32 (gd rfl) rfl rfl (fun c12 => ?_) (fun c12 => ?_)
        · skip
          refine g_iconst 0 33 (gd rfl) rfl rfl ?_
          refine g_thr (E := am_IA) (y := yX11_allow) 36 (gd rfl) rfl rfl (Or.inl ⟨rfl, rfl, rfl⟩) (by first | exact dq1 hd rfl | exact dq0 hd rfl | exact dq2 hd rfl | exact dq3 hd rfl | omega) (Nat.le_of_ble_eq_true rfl) (Nat.le_of_ble_eq_true rfl) (Nat.le_of_ble_eq_true rfl) (fun c33 => ?_) (fun c33 => ?_)
          · skip
            exact zn_ne c33 (in_c 0 rfl) rfl
          · skip
            exact (hX _ _ ⟨rfl, s, hI, fr_rf, rfl⟩)
        · skip
          exact zn_ne c12 (in_c 0 rfl) rfl
      · skip
        have i9x9 := r_lt1 0 31 c9x9 i9x1 ro_2_1 rfl
        have i9x9a := r_lt2 1 32 c9x9 i9x1 ro_2_1 rfl
        refine g_iconst 1 13 (gd rfl) rfl rfl ?_
        refine g_goto 17 (gd rfl) rfl ?_
        refine g_ireturn (gd rfl) rfl (nb01 (in_w 0 1 (in_c 1 rfl) rfl)) (hp9 _ _ ?_)
        show GG _ _ _ _ _ _ _ _ [.int (Int32.ofInt 1)] _ _ _
        refine g_if_eq 15 32 (gd rfl) rfl rfl (fun c12 => ?_) (fun c12 => ?_)
        · skip
          exact zn_eq c12 (in_c 1 rfl) rfl
        · skip
          refine g_aload 17 (gd rfl) rfl rfl ?_
          refine g_iload_n 18 (gd rfl) rfl rfl ?_
          refine g_callv (X := _) (As := [.int x2]) (r := []) (b := A 2) (q := 2) 21 (gd rfl) rfl rfl rfl rfl rfl (ww_o rfl) (Nat.le_of_ble_eq_true rfl) (mc := 0) (ms := 0) (Nat.zero_le _) (Nat.zero_le _) (P := fun v u => _) ?_ (fun e u h => h) (fun v u h => h)
          intro po18 xx18 hp18 hx18
          refine g_enter2 (k := 94) (N := 300) (by first | exact dq1 hd rfl | exact dq0 hd rfl | exact dq2 hd rfl | exact dq3 hd rfl | omega) rfl (Nat.le_of_ble_eq_true rfl) ?_
          refine g_iload_n 1 (gd rfl) rfl rfl ?_
          refine g_if_lt 4 16 (gd rfl) rfl rfl (fun c18x1 => ?_) (fun c18x1 => ?_)
          · skip
            have i18x1 := z_lt (-2147483648) (-1) c18x1 (i_rng x2) rfl
            refine g_iconst 0 17 (gd rfl) rfl rfl ?_
            refine g_ireturn (gd rfl) rfl (nb01 (in_w 0 1 (in_c 0 rfl) rfl)) (hp18 _ _ ?_)
            show GG _ _ _ _ _ _ _ _ [.int (Int32.ofInt 0)] _ _ _
            refine g_if_eq 24 32 (gd rfl) rfl rfl (fun c21 => ?_) (fun c21 => ?_)
            · skip
              refine g_iconst 0 33 (gd rfl) rfl rfl ?_
              refine g_thr (E := am_IA) (y := yX11_allow) 36 (gd rfl) rfl rfl (Or.inl ⟨rfl, rfl, rfl⟩) (by first | exact dq1 hd rfl | exact dq0 hd rfl | exact dq2 hd rfl | exact dq3 hd rfl | omega) (Nat.le_of_ble_eq_true rfl) (Nat.le_of_ble_eq_true rfl) (Nat.le_of_ble_eq_true rfl) (fun c33 => ?_) (fun c33 => ?_)
              · skip
                exact zn_ne c33 (in_c 0 rfl) rfl
              · skip
                exact (hX _ _ ⟨rfl, s, hI, fr_rf, rfl⟩)
            · skip
              exact zn_ne c21 (in_c 0 rfl) rfl
          · skip
            have i18x1 := z_ge 0 2147483647 c18x1 (i_rng x2) rfl
            refine g_iload_n 5 (gd rfl) rfl rfl ?_
            refine g_aload_n 6 (gd rfl) rfl rfl ?_
            refine g_getI 9 (gd rfl) rfl rfl rfl (fun z18x6 e18x6 => ?_)
            have q18x6 : u_2_1 = z18x6 := (e_2_1).trans e18x6.symm
            subst q18x6
            refine g_cmp_ge 12 16 (gd rfl) rfl rfl (fun c18x9 => ?_) (fun c18x9 => ?_)
            · skip
              have i18x9 := r_le2 1 2147483647 c18x9 i9x9a i18x1 rfl
              refine g_iconst 0 17 (gd rfl) rfl rfl ?_
              refine g_ireturn (gd rfl) rfl (nb01 (in_w 0 1 (in_c 0 rfl) rfl)) (hp18 _ _ ?_)
              show GG _ _ _ _ _ _ _ _ [.int (Int32.ofInt 0)] _ _ _
              refine g_if_eq 24 32 (gd rfl) rfl rfl (fun c21 => ?_) (fun c21 => ?_)
              · skip
                refine g_iconst 0 33 (gd rfl) rfl rfl ?_
                refine g_thr (E := am_IA) (y := yX11_allow) 36 (gd rfl) rfl rfl (Or.inl ⟨rfl, rfl, rfl⟩) (by first | exact dq1 hd rfl | exact dq0 hd rfl | exact dq2 hd rfl | exact dq3 hd rfl | omega) (Nat.le_of_ble_eq_true rfl) (Nat.le_of_ble_eq_true rfl) (Nat.le_of_ble_eq_true rfl) (fun c33 => ?_) (fun c33 => ?_)
                · skip
                  exact zn_ne c33 (in_c 0 rfl) rfl
                · skip
                  exact (hX _ _ ⟨rfl, s, hI, fr_rf, rfl⟩)
              · skip
                exact zn_ne c21 (in_c 0 rfl) rfl
            · skip
              have i18x9 := r_lt1 0 31 c18x9 i18x1 i9x9a rfl
              refine g_iconst 1 13 (gd rfl) rfl rfl ?_
              refine g_goto 17 (gd rfl) rfl ?_
              refine g_ireturn (gd rfl) rfl (nb01 (in_w 0 1 (in_c 1 rfl) rfl)) (hp18 _ _ ?_)
              show GG _ _ _ _ _ _ _ _ [.int (Int32.ofInt 1)] _ _ _
              refine g_if_eq 24 32 (gd rfl) rfl rfl (fun c21 => ?_) (fun c21 => ?_)
              · skip
                exact zn_eq c21 (in_c 1 rfl) rfl
              · skip
                refine g_iload_n 25 (gd rfl) rfl rfl ?_
                refine g_if_lt 28 32 (gd rfl) rfl rfl (fun c25 => ?_) (fun c25 => ?_)
                · skip
                  have i25 := z_lt (-2147483648) (-1) c25 (i_rng x3) rfl
                  refine g_iconst 0 33 (gd rfl) rfl rfl ?_
                  refine g_thr (E := am_IA) (y := yX11_allow) 36 (gd rfl) rfl rfl (Or.inl ⟨rfl, rfl, rfl⟩) (by first | exact dq1 hd rfl | exact dq0 hd rfl | exact dq2 hd rfl | exact dq3 hd rfl | omega) (Nat.le_of_ble_eq_true rfl) (Nat.le_of_ble_eq_true rfl) (Nat.le_of_ble_eq_true rfl) (fun c33 => ?_) (fun c33 => ?_)
                  · skip
                    exact zn_ne c33 (in_c 0 rfl) rfl
                  · skip
                    exact (hX _ _ ⟨rfl, s, hI, fr_rf, rfl⟩)
                · skip
                  have i25 := z_ge 0 2147483647 c25 (i_rng x3) rfl
                  refine g_iconst 1 29 (gd rfl) rfl rfl ?_
                  refine g_goto 33 (gd rfl) rfl ?_
                  refine g_thr (E := am_IA) (y := yX11_allow) 36 (gd rfl) rfl rfl (Or.inl ⟨rfl, rfl, rfl⟩) (by first | exact dq1 hd rfl | exact dq0 hd rfl | exact dq2 hd rfl | exact dq3 hd rfl | omega) (Nat.le_of_ble_eq_true rfl) (Nat.le_of_ble_eq_true rfl) (Nat.le_of_ble_eq_true rfl) (fun c33 => ?_) (fun c33 => ?_)
                  · skip
                    refine g_aload_n 37 (gd rfl) rfl rfl ?_
                    refine g_getA (q2 := 49) 40 (gd rfl) rfl rfl rfl rfl ?_
                    refine g_aload 42 (gd rfl) rfl rfl ?_
                    refine g_iload_n 43 (gd rfl) rfl rfl ?_
                    refine g_iload_n 44 (gd rfl) rfl rfl ?_
                    refine g_iload_n 45 (gd rfl) rfl rfl ?_
                    refine g_callv (X := _) (As := [.ref (A 2), .int x1, .int x2, .int x3]) (r := []) (b := A 49) (q := 49) 48 (gd rfl) rfl rfl rfl rfl rfl (ww_o rfl) (Nat.le_of_ble_eq_true rfl) (Nat.zero_le _) (Nat.zero_le _) (k_195_49_2 (by first | exact dq1 hd rfl | exact dq0 hd rfl | exact dq2 hd rfl | exact dq3 hd rfl | omega) hI (in_w 0 31 i9x9 rfl) (in_w 0 31 i18x9 rfl) (in_w 0 2147483647 i25 rfl)) (fun e u h => h) (fun v u h => ?_)
                    obtain ⟨s45, hI45, hF45, z45, rfl, rfl, i45⟩ := h
                    show GG _ _ _ _ _ _ _ _ [.int z45] _ _ _
                    exact g_ireturn (gd rfl) rfl rfl (hP _ _ ⟨s45, hI45, (fr_tr rfl fr_rf hF45), z45, rfl, rfl, in_w (-1) 159 i45 rfl⟩)
                  · skip
                    exact zn_eq c33 (in_c 1 rfl) rfl

def fm_232_0 : FM := ([9, 10, 11, 12, 13, 14, 15, 39, 40, 41, 42, 43, 44, 45], [55], [(2, 4), (32, 4), (49, 8), (49, 9), (49, 10), (49, 11)], [])
def fm_244_0 : FM := ([68, 69, 70, 71, 72, 73, 74], [75], [(65, 8), (65, 16), (65, 17)], [(65, 18)])
/-- GraphHouse.pairing -/
theorem k_244_0 {Z : AmZ} {A : Nat → Nat} {s : GS} {ex : va_W} {d : Nat} {x1 : Int32} (hd : 7 ≤ d) (hI : Inv s)  : GC Z d 244 [.ref (A 0), .int x1] (WW Z A s ++ ex) 3 18 (fun v u => ∃ t : GS, Inv t ∧ Fr fm_244_0 s t ∧ ∃ z : Int64, v = some (.long z) ∧ u = WW Z A t ++ ex) (gE1 Z A ex fm_244_0 s) := by
  intro post xp hP hX
  obtain ⟨u_0_2, e_0_2⟩ : ∃ w, w = s.2.2.1 0 2 := ⟨_, rfl⟩
  have ro_0_2 := inv_F hI (-1) 4000 rfl e_0_2
  refine g_enter2 (k := 244) (N := 900) (by first | exact dq1 hd rfl | exact dq0 hd rfl | exact dq2 hd rfl | exact dq3 hd rfl | omega) rfl (Nat.le_of_ble_eq_true rfl) ?_
  refine g_iload_n 1 (gd rfl) rfl rfl ?_
  refine g_if_lt 4 13 (gd rfl) rfl rfl (fun c1 => ?_) (fun c1 => ?_)
  · skip
    have i1 := z_lt (-2147483648) (-1) c1 (i_rng x1) rfl
    refine g_iconst 0 14 (gd rfl) rfl rfl ?_
    refine g_thr (E := am_IA) (y := yX11_allow) 17 (gd rfl) rfl rfl (Or.inl ⟨rfl, rfl, rfl⟩) (by first | exact dq1 hd rfl | exact dq0 hd rfl | exact dq2 hd rfl | exact dq3 hd rfl | omega) (Nat.le_of_ble_eq_true rfl) (Nat.le_of_ble_eq_true rfl) (Nat.le_of_ble_eq_true rfl) (fun c14 => ?_) (fun c14 => ?_)
    · skip
      exact zn_ne c14 (in_c 0 rfl) rfl
    · skip
      exact (hX _ _ ⟨rfl, s, hI, fr_rf, rfl⟩)
  · skip
    have i1 := z_ge 0 2147483647 c1 (i_rng x1) rfl
    refine g_iload_n 5 (gd rfl) rfl rfl ?_
    refine g_iconst 1 6 (gd rfl) rfl rfl ?_
    refine g_cmp_gt 9 13 (gd rfl) rfl rfl (fun c6 => ?_) (fun c6 => ?_)
    · skip
      have i6 := r_lt2 2 2147483647 c6 (in_c 1 rfl) i1 rfl
      refine g_iconst 0 14 (gd rfl) rfl rfl ?_
      refine g_thr (E := am_IA) (y := yX11_allow) 17 (gd rfl) rfl rfl (Or.inl ⟨rfl, rfl, rfl⟩) (by first | exact dq1 hd rfl | exact dq0 hd rfl | exact dq2 hd rfl | exact dq3 hd rfl | omega) (Nat.le_of_ble_eq_true rfl) (Nat.le_of_ble_eq_true rfl) (Nat.le_of_ble_eq_true rfl) (fun c14 => ?_) (fun c14 => ?_)
      · skip
        exact zn_ne c14 (in_c 0 rfl) rfl
      · skip
        exact (hX _ _ ⟨rfl, s, hI, fr_rf, rfl⟩)
    · skip
      have i6 := r_le1 0 1 c6 i1 (in_c 1 rfl) rfl
      refine g_iconst 1 10 (gd rfl) rfl rfl ?_
      refine g_goto 14 (gd rfl) rfl ?_
      refine g_thr (E := am_IA) (y := yX11_allow) 17 (gd rfl) rfl rfl (Or.inl ⟨rfl, rfl, rfl⟩) (by first | exact dq1 hd rfl | exact dq0 hd rfl | exact dq2 hd rfl | exact dq3 hd rfl | omega) (Nat.le_of_ble_eq_true rfl) (Nat.le_of_ble_eq_true rfl) (Nat.le_of_ble_eq_true rfl) (fun c14 => ?_) (fun c14 => ?_)
      · skip
        refine g_aload_n 18 (gd rfl) rfl rfl ?_
        refine g_getA (q2 := 65) 21 (gd rfl) rfl rfl rfl rfl ?_
        refine g_aload_n 22 (gd rfl) rfl rfl ?_
        refine g_callv (X := _) (As := []) (r := [.ref (A 65)]) (b := A 0) (q := 0) 25 (gd rfl) rfl rfl rfl rfl rfl (ww_o rfl) (Nat.le_of_ble_eq_true rfl) (mc := 0) (ms := 0) (Nat.zero_le _) (Nat.zero_le _) (P := fun v u => _) ?_ (fun e u h => h) (fun v u h => h)
        intro po22 xx22 hp22 hx22
        refine g_enter2 (k := 259) (N := 300) (by first | exact dq1 hd rfl | exact dq0 hd rfl | exact dq2 hd rfl | exact dq3 hd rfl | omega) rfl (Nat.le_of_ble_eq_true rfl) ?_
        refine g_aload_n 1 (gd rfl) rfl rfl ?_
        refine g_getI 4 (gd rfl) rfl rfl rfl (fun z22x1 e22x1 => ?_)
        have q22x1 : u_0_2 = z22x1 := (e_0_2).trans e22x1.symm
        subst q22x1
        refine g_iconst (-1) 5 (gd rfl) rfl rfl ?_
        refine g_cmp_ne 8 18 (gd rfl) rfl rfl (fun c22x5 => ?_) (fun c22x5 => ?_)
        · skip
          have i22x5 := r_ne1 0 4000 c22x5 ro_0_2 (in_c (-1) rfl) rfl
          refine g_aload_n 19 (gd rfl) rfl rfl ?_
          refine g_getA (q2 := 32) 22 (gd rfl) rfl rfl rfl rfl ?_
          refine g_areturn (gd rfl) rfl (hp22 _ _ ?_)
          show GG _ _ _ _ _ _ _ _ [.ref (A 32), .ref (A 65)] _ _ _
          refine g_callv (X := _) (As := [.ref (A 32)]) (r := []) (b := A 65) (q := 65) 28 (gd rfl) rfl rfl rfl rfl rfl (ww_o rfl) (Nat.le_of_ble_eq_true rfl) (Nat.zero_le _) (Nat.zero_le _) (k_89_65_32 (by first | exact dq1 hd rfl | exact dq0 hd rfl | exact dq2 hd rfl | exact dq3 hd rfl | omega) hI ) (fun e u h => h) (fun v u h => ?_)
          obtain ⟨s25, hI25, hF25, rfl, rfl⟩ := h
          show GG _ _ _ _ _ _ _ _ [] _ _ _
          refine g_iload_n 29 (gd rfl) rfl rfl ?_
          refine g_if_ne 32 43 (gd rfl) rfl rfl (fun c29 => ?_) (fun c29 => ?_)
          · skip
            have i29 := z_ne 1 1 c29 i6 rfl
            refine g_aload_n 44 (gd rfl) rfl rfl ?_
            refine g_getA (q2 := 65) 47 (gd rfl) rfl rfl rfl rfl ?_
            refine g_getL 50 (gd rfl) rfl rfl rfl (fun z47 e47 => ?_)
            exact g_lreturn (gd rfl) rfl (hP _ _ ⟨s25, hI25, (fr_tr rfl fr_rf hF25), z47, rfl, rfl⟩)
          · skip
            have i29 := z_eq 0 0 c29 i6 rfl
            refine g_aload_n 33 (gd rfl) rfl rfl ?_
            refine g_getA (q2 := 65) 36 (gd rfl) rfl rfl rfl rfl ?_
            refine g_getI 39 (gd rfl) rfl rfl rfl (fun z36 e36 => ?_)
            have i36 := inv_F hI25 0 32 rfl e36
            refine g_i2l 40 (gd rfl) rfl (fun z39 e39 => ?_)
            have i39 := l_i e39 i36
            refine g_goto 50 (gd rfl) rfl ?_
            exact g_lreturn (gd rfl) rfl (hP _ _ ⟨s25, hI25, (fr_tr rfl fr_rf hF25), z39, rfl, rfl⟩)
        · skip
          have i22x5 := r_eq1 (-1) (-1) c22x5 ro_0_2 (in_c (-1) rfl) rfl
          refine g_aload_n 9 (gd rfl) rfl rfl ?_
          refine g_getA (q2 := 1) 12 (gd rfl) rfl rfl rfl rfl ?_
          refine g_getA (q2 := 2) 15 (gd rfl) rfl rfl rfl rfl ?_
          refine g_goto 22 (gd rfl) rfl ?_
          refine g_areturn (gd rfl) rfl (hp22 _ _ ?_)
          show GG _ _ _ _ _ _ _ _ [.ref (A 2), .ref (A 65)] _ _ _
          refine g_callv (X := _) (As := [.ref (A 2)]) (r := []) (b := A 65) (q := 65) 28 (gd rfl) rfl rfl rfl rfl rfl (ww_o rfl) (Nat.le_of_ble_eq_true rfl) (Nat.zero_le _) (Nat.zero_le _) (k_89_65_2 (by first | exact dq1 hd rfl | exact dq0 hd rfl | exact dq2 hd rfl | exact dq3 hd rfl | omega) hI ) (fun e u h => h) (fun v u h => ?_)
          obtain ⟨s25, hI25, hF25, rfl, rfl⟩ := h
          show GG _ _ _ _ _ _ _ _ [] _ _ _
          refine g_iload_n 29 (gd rfl) rfl rfl ?_
          refine g_if_ne 32 43 (gd rfl) rfl rfl (fun c29 => ?_) (fun c29 => ?_)
          · skip
            have i29 := z_ne 1 1 c29 i6 rfl
            refine g_aload_n 44 (gd rfl) rfl rfl ?_
            refine g_getA (q2 := 65) 47 (gd rfl) rfl rfl rfl rfl ?_
            refine g_getL 50 (gd rfl) rfl rfl rfl (fun z47 e47 => ?_)
            exact g_lreturn (gd rfl) rfl (hP _ _ ⟨s25, hI25, (fr_tr rfl fr_rf hF25), z47, rfl, rfl⟩)
          · skip
            have i29 := z_eq 0 0 c29 i6 rfl
            refine g_aload_n 33 (gd rfl) rfl rfl ?_
            refine g_getA (q2 := 65) 36 (gd rfl) rfl rfl rfl rfl ?_
            refine g_getI 39 (gd rfl) rfl rfl rfl (fun z36 e36 => ?_)
            have i36 := inv_F hI25 0 32 rfl e36
            refine g_i2l 40 (gd rfl) rfl (fun z39 e39 => ?_)
            have i39 := l_i e39 i36
            refine g_goto 50 (gd rfl) rfl ?_
            exact g_lreturn (gd rfl) rfl (hP _ _ ⟨s25, hI25, (fr_tr rfl fr_rf hF25), z39, rfl, rfl⟩)
      · skip
        exact zn_eq c14 (in_c 1 rfl) rfl

def fm_247_0 : FM := ([], [85], [(76, 9), (76, 10)], [])
/-- GraphHouse.trees -/
theorem k_247_0 {Z : AmZ} {A : Nat → Nat} {s : GS} {ex : va_W} {d : Nat} {X : AmX}  (hd : 5 ≤ d) (hI : Inv s)  : GC Z d 247 [.ref (A 0)] (WW Z A s ++ ex) 3 18 (fun v u => ∃ t : GS, Inv t ∧ Fr fm_247_0 s t ∧ ∃ z : Int32, v = some (.int z) ∧ u = WW Z A t ++ ex ∧ In z (-2147483648) 2147483647) X := by
  intro post xp hP hX
  obtain ⟨u_0_2, e_0_2⟩ : ∃ w, w = s.2.2.1 0 2 := ⟨_, rfl⟩
  have ro_0_2 := inv_F hI (-1) 4000 rfl e_0_2
  obtain ⟨u_2_0, e_2_0⟩ : ∃ w, w = s.2.2.1 2 0 := ⟨_, rfl⟩
  have ro_2_0 := inv_F hI 0 4000 rfl e_2_0
  obtain ⟨u_2_1, e_2_1⟩ : ∃ w, w = s.2.2.1 2 1 := ⟨_, rfl⟩
  have ro_2_1 := inv_F hI 0 32 rfl e_2_1
  obtain ⟨u_32_0, e_32_0⟩ : ∃ w, w = s.2.2.1 32 0 := ⟨_, rfl⟩
  have ro_32_0 := inv_F hI 0 4000 rfl e_32_0
  obtain ⟨u_32_1, e_32_1⟩ : ∃ w, w = s.2.2.1 32 1 := ⟨_, rfl⟩
  have ro_32_1 := inv_F hI 0 32 rfl e_32_1
  refine g_enter2 (k := 247) (N := 900) (by first | exact dq1 hd rfl | exact dq0 hd rfl | exact dq2 hd rfl | exact dq3 hd rfl | omega) rfl (Nat.le_of_ble_eq_true rfl) ?_
  refine g_aload_n 1 (gd rfl) rfl rfl ?_
  refine g_getA (q2 := 76) 4 (gd rfl) rfl rfl rfl rfl ?_
  refine g_aload_n 5 (gd rfl) rfl rfl ?_
  refine g_callv (X := _) (As := []) (r := [.ref (A 76)]) (b := A 0) (q := 0) 8 (gd rfl) rfl rfl rfl rfl rfl (ww_o rfl) (Nat.le_of_ble_eq_true rfl) (mc := 0) (ms := 0) (Nat.zero_le _) (Nat.zero_le _) (P := fun v u => _) ?_ (fun e u h => h) (fun v u h => h)
  intro po5 xx5 hp5 hx5
  refine g_enter2 (k := 259) (N := 300) (by first | exact dq1 hd rfl | exact dq0 hd rfl | exact dq2 hd rfl | exact dq3 hd rfl | omega) rfl (Nat.le_of_ble_eq_true rfl) ?_
  refine g_aload_n 1 (gd rfl) rfl rfl ?_
  refine g_getI 4 (gd rfl) rfl rfl rfl (fun z5x1 e5x1 => ?_)
  have q5x1 : u_0_2 = z5x1 := (e_0_2).trans e5x1.symm
  subst q5x1
  refine g_iconst (-1) 5 (gd rfl) rfl rfl ?_
  refine g_cmp_ne 8 18 (gd rfl) rfl rfl (fun c5x5 => ?_) (fun c5x5 => ?_)
  · skip
    have i5x5 := r_ne1 0 4000 c5x5 ro_0_2 (in_c (-1) rfl) rfl
    refine g_aload_n 19 (gd rfl) rfl rfl ?_
    refine g_getA (q2 := 32) 22 (gd rfl) rfl rfl rfl rfl ?_
    refine g_areturn (gd rfl) rfl (hp5 _ _ ?_)
    show GG _ _ _ _ _ _ _ _ [.ref (A 32), .ref (A 76)] _ _ _
    refine g_callv (X := _) (As := [.ref (A 32)]) (r := []) (b := A 76) (q := 76) 11 (gd rfl) rfl rfl rfl rfl rfl (ww_o rfl) (Nat.le_of_ble_eq_true rfl) (mc := 0) (ms := 0) (Nat.zero_le _) (Nat.zero_le _) (P := fun v u => _) ?_ (fun e u h => h) (fun v u h => h)
    intro po8 xx8 hp8 hx8
    refine g_enter2 (k := 188) (N := 300) (by first | exact dq1 hd rfl | exact dq0 hd rfl | exact dq2 hd rfl | exact dq3 hd rfl | omega) rfl (Nat.le_of_ble_eq_true rfl) ?_
    refine g_aload_n 1 (gd rfl) rfl rfl ?_
    refine g_getI 4 (gd rfl) rfl rfl rfl (fun z8x1 e8x1 => ?_)
    have i8x1 := inv_F hI (-1) 4000 rfl e8x1
    refine g_aload_n 5 (gd rfl) rfl rfl ?_
    refine g_getI 8 (gd rfl) rfl rfl rfl (fun z8x5 e8x5 => ?_)
    have q8x5 : u_32_0 = z8x5 := (e_32_0).trans e8x5.symm
    subst q8x5
    refine g_cmp_eq 11 39 (gd rfl) rfl rfl (fun c8x8 => ?_) (fun c8x8 => ?_)
    · skip
      have i8x8 := r_eq1 0 4000 c8x8 i8x1 ro_32_0 rfl
      refine g_aload_n 40 (gd rfl) rfl rfl ?_
      refine g_getI 43 (gd rfl) rfl rfl rfl (fun z8x40 e8x40 => ?_)
      refine g_ireturn (gd rfl) rfl rfl (hp8 _ _ ?_)
      show GG _ _ _ _ _ _ _ _ [.int z8x40] _ _ _
      exact g_ireturn (gd rfl) rfl rfl (hP _ _ ⟨s, hI, fr_rf, z8x40, rfl, rfl, in_w (-2147483648) 2147483647 (i_rng z8x40) rfl⟩)
    · skip
      refine g_aload_n 12 (gd rfl) rfl rfl ?_
      refine g_aload_n 13 (gd rfl) rfl rfl ?_
      refine g_getI 16 (gd rfl) rfl rfl rfl (fun z8x13 e8x13 => ?_)
      have q8x13 : u_32_0 = z8x13 := (e_32_0).trans e8x13.symm
      subst q8x13
      refine g_putI 19 (gd rfl) rfl rfl rfl rfl ?_
      have hI8x16 := inv_sF (q := 76) (j := 9) hI rfl (in_w (-1) 4000 ro_32_0 rfl)
      refine g_aload_n 20 (gd rfl) rfl rfl ?_
      refine g_aload_n 21 (gd rfl) rfl rfl ?_
      refine g_getI 24 (gd rfl) rfl rfl rfl (fun z8x21 e8x21 => ?_)
      have q8x21 : u_32_1 = z8x21 := (sF_ne rfl (e_32_1)).trans e8x21.symm
      subst q8x21
      refine g_if_ne 27 31 (gd rfl) rfl rfl (fun c8x24 => ?_) (fun c8x24 => ?_)
      · skip
        have i8x24 := z_ne 1 32 c8x24 ro_32_1 rfl
        refine g_aload_n 32 (gd rfl) rfl rfl ?_
        refine g_aload_n 33 (gd rfl) rfl rfl ?_
        refine g_callv (X := _) (As := [.ref (A 32)]) (r := [.ref (A 76)]) (b := A 76) (q := 76) 36 (gd rfl) rfl rfl rfl rfl rfl (ww_o rfl) (Nat.le_of_ble_eq_true rfl) (Nat.zero_le _) (Nat.zero_le _) (k_189_76_32 (by first | exact dq1 hd rfl | exact dq0 hd rfl | exact dq2 hd rfl | exact dq3 hd rfl | omega) hI8x16 ) (fun e u h => h) (fun v u h => ?_)
        obtain ⟨s8x33, hI8x33, hF8x33, z8x33, rfl, rfl, i8x33⟩ := h
        show GG _ _ _ _ _ _ _ _ [.int z8x33, .ref (A 76)] _ _ _
        refine g_putI 39 (gd rfl) rfl rfl rfl rfl ?_
        have hI8x36 := inv_sF (q := 76) (j := 10) hI8x33 rfl (in_w (-2147483648) 2147483647 i8x33 rfl)
        refine g_aload_n 40 (gd rfl) rfl rfl ?_
        refine g_getI 43 (gd rfl) rfl rfl rfl (fun z8x40 e8x40 => ?_)
        have q8x40 : z8x33 = z8x40 := (sF_get).trans e8x40.symm
        subst q8x40
        refine g_ireturn (gd rfl) rfl rfl (hp8 _ _ ?_)
        show GG _ _ _ _ _ _ _ _ [.int z8x33] _ _ _
        exact g_ireturn (gd rfl) rfl rfl (hP _ _ ⟨(sF s8x33 76 10 z8x33), hI8x36, (fr_sF rfl (fr_tr rfl (fr_sF rfl fr_rf) hF8x33)), z8x33, rfl, rfl, in_w (-2147483648) 2147483647 i8x33 rfl⟩)
      · skip
        have i8x24 := z_eq 0 0 c8x24 ro_32_1 rfl
        refine g_iconst 0 28 (gd rfl) rfl rfl ?_
        refine g_goto 36 (gd rfl) rfl ?_
        refine g_putI 39 (gd rfl) rfl rfl rfl rfl ?_
        have hI8x36 := inv_sF (q := 76) (j := 10) hI8x16 rfl (in_w (-2147483648) 2147483647 (in_c 0 rfl) rfl)
        refine g_aload_n 40 (gd rfl) rfl rfl ?_
        refine g_getI 43 (gd rfl) rfl rfl rfl (fun z8x40 e8x40 => ?_)
        have q8x40 : (Int32.ofInt 0) = z8x40 := (sF_get).trans e8x40.symm
        subst q8x40
        refine g_ireturn (gd rfl) rfl rfl (hp8 _ _ ?_)
        show GG _ _ _ _ _ _ _ _ [.int (Int32.ofInt 0)] _ _ _
        exact g_ireturn (gd rfl) rfl rfl (hP _ _ ⟨(sF (sF s 76 9 u_32_0) 76 10 (Int32.ofInt 0)), hI8x36, (fr_sF rfl (fr_sF rfl fr_rf)), (Int32.ofInt 0), rfl, rfl, in_w (-2147483648) 2147483647 (in_c 0 rfl) rfl⟩)
  · skip
    have i5x5 := r_eq1 (-1) (-1) c5x5 ro_0_2 (in_c (-1) rfl) rfl
    refine g_aload_n 9 (gd rfl) rfl rfl ?_
    refine g_getA (q2 := 1) 12 (gd rfl) rfl rfl rfl rfl ?_
    refine g_getA (q2 := 2) 15 (gd rfl) rfl rfl rfl rfl ?_
    refine g_goto 22 (gd rfl) rfl ?_
    refine g_areturn (gd rfl) rfl (hp5 _ _ ?_)
    show GG _ _ _ _ _ _ _ _ [.ref (A 2), .ref (A 76)] _ _ _
    refine g_callv (X := _) (As := [.ref (A 2)]) (r := []) (b := A 76) (q := 76) 11 (gd rfl) rfl rfl rfl rfl rfl (ww_o rfl) (Nat.le_of_ble_eq_true rfl) (mc := 0) (ms := 0) (Nat.zero_le _) (Nat.zero_le _) (P := fun v u => _) ?_ (fun e u h => h) (fun v u h => h)
    intro po8 xx8 hp8 hx8
    refine g_enter2 (k := 188) (N := 300) (by first | exact dq1 hd rfl | exact dq0 hd rfl | exact dq2 hd rfl | exact dq3 hd rfl | omega) rfl (Nat.le_of_ble_eq_true rfl) ?_
    refine g_aload_n 1 (gd rfl) rfl rfl ?_
    refine g_getI 4 (gd rfl) rfl rfl rfl (fun z8x1 e8x1 => ?_)
    have i8x1 := inv_F hI (-1) 4000 rfl e8x1
    refine g_aload_n 5 (gd rfl) rfl rfl ?_
    refine g_getI 8 (gd rfl) rfl rfl rfl (fun z8x5 e8x5 => ?_)
    have q8x5 : u_2_0 = z8x5 := (e_2_0).trans e8x5.symm
    subst q8x5
    refine g_cmp_eq 11 39 (gd rfl) rfl rfl (fun c8x8 => ?_) (fun c8x8 => ?_)
    · skip
      have i8x8 := r_eq1 0 4000 c8x8 i8x1 ro_2_0 rfl
      refine g_aload_n 40 (gd rfl) rfl rfl ?_
      refine g_getI 43 (gd rfl) rfl rfl rfl (fun z8x40 e8x40 => ?_)
      refine g_ireturn (gd rfl) rfl rfl (hp8 _ _ ?_)
      show GG _ _ _ _ _ _ _ _ [.int z8x40] _ _ _
      exact g_ireturn (gd rfl) rfl rfl (hP _ _ ⟨s, hI, fr_rf, z8x40, rfl, rfl, in_w (-2147483648) 2147483647 (i_rng z8x40) rfl⟩)
    · skip
      refine g_aload_n 12 (gd rfl) rfl rfl ?_
      refine g_aload_n 13 (gd rfl) rfl rfl ?_
      refine g_getI 16 (gd rfl) rfl rfl rfl (fun z8x13 e8x13 => ?_)
      have q8x13 : u_2_0 = z8x13 := (e_2_0).trans e8x13.symm
      subst q8x13
      refine g_putI 19 (gd rfl) rfl rfl rfl rfl ?_
      have hI8x16 := inv_sF (q := 76) (j := 9) hI rfl (in_w (-1) 4000 ro_2_0 rfl)
      refine g_aload_n 20 (gd rfl) rfl rfl ?_
      refine g_aload_n 21 (gd rfl) rfl rfl ?_
      refine g_getI 24 (gd rfl) rfl rfl rfl (fun z8x21 e8x21 => ?_)
      have q8x21 : u_2_1 = z8x21 := (sF_ne rfl (e_2_1)).trans e8x21.symm
      subst q8x21
      refine g_if_ne 27 31 (gd rfl) rfl rfl (fun c8x24 => ?_) (fun c8x24 => ?_)
      · skip
        have i8x24 := z_ne 1 32 c8x24 ro_2_1 rfl
        refine g_aload_n 32 (gd rfl) rfl rfl ?_
        refine g_aload_n 33 (gd rfl) rfl rfl ?_
        refine g_callv (X := _) (As := [.ref (A 2)]) (r := [.ref (A 76)]) (b := A 76) (q := 76) 36 (gd rfl) rfl rfl rfl rfl rfl (ww_o rfl) (Nat.le_of_ble_eq_true rfl) (Nat.zero_le _) (Nat.zero_le _) (k_189_76_2 (by first | exact dq1 hd rfl | exact dq0 hd rfl | exact dq2 hd rfl | exact dq3 hd rfl | omega) hI8x16 ) (fun e u h => h) (fun v u h => ?_)
        obtain ⟨s8x33, hI8x33, hF8x33, z8x33, rfl, rfl, i8x33⟩ := h
        show GG _ _ _ _ _ _ _ _ [.int z8x33, .ref (A 76)] _ _ _
        refine g_putI 39 (gd rfl) rfl rfl rfl rfl ?_
        have hI8x36 := inv_sF (q := 76) (j := 10) hI8x33 rfl (in_w (-2147483648) 2147483647 i8x33 rfl)
        refine g_aload_n 40 (gd rfl) rfl rfl ?_
        refine g_getI 43 (gd rfl) rfl rfl rfl (fun z8x40 e8x40 => ?_)
        have q8x40 : z8x33 = z8x40 := (sF_get).trans e8x40.symm
        subst q8x40
        refine g_ireturn (gd rfl) rfl rfl (hp8 _ _ ?_)
        show GG _ _ _ _ _ _ _ _ [.int z8x33] _ _ _
        exact g_ireturn (gd rfl) rfl rfl (hP _ _ ⟨(sF s8x33 76 10 z8x33), hI8x36, (fr_sF rfl (fr_tr rfl (fr_sF rfl fr_rf) hF8x33)), z8x33, rfl, rfl, in_w (-2147483648) 2147483647 i8x33 rfl⟩)
      · skip
        have i8x24 := z_eq 0 0 c8x24 ro_2_1 rfl
        refine g_iconst 0 28 (gd rfl) rfl rfl ?_
        refine g_goto 36 (gd rfl) rfl ?_
        refine g_putI 39 (gd rfl) rfl rfl rfl rfl ?_
        have hI8x36 := inv_sF (q := 76) (j := 10) hI8x16 rfl (in_w (-2147483648) 2147483647 (in_c 0 rfl) rfl)
        refine g_aload_n 40 (gd rfl) rfl rfl ?_
        refine g_getI 43 (gd rfl) rfl rfl rfl (fun z8x40 e8x40 => ?_)
        have q8x40 : (Int32.ofInt 0) = z8x40 := (sF_get).trans e8x40.symm
        subst q8x40
        refine g_ireturn (gd rfl) rfl rfl (hp8 _ _ ?_)
        show GG _ _ _ _ _ _ _ _ [.int (Int32.ofInt 0)] _ _ _
        exact g_ireturn (gd rfl) rfl rfl (hP _ _ ⟨(sF (sF s 76 9 u_2_0) 76 10 (Int32.ofInt 0)), hI8x36, (fr_sF rfl (fr_sF rfl fr_rf)), (Int32.ofInt 0), rfl, rfl, in_w (-2147483648) 2147483647 (in_c 0 rfl) rfl⟩)

def fm_250_0 : FM := ([9, 10, 11, 12, 13, 14, 15, 39, 40, 41, 42, 43, 44, 45, 89, 90, 91, 92, 93], [], [(2, 4), (32, 4), (86, 4), (86, 5)], [])
/-- GraphHouse.group -/
theorem k_250_0 {Z : AmZ} {A : Nat → Nat} {s : GS} {ex : va_W} {d : Nat} {x1 : Int32} (hd : 8 ≤ d) (hI : Inv s)  : GC Z d 250 [.ref (A 0), .int x1] (WW Z A s ++ ex) 3 18 (fun v u => ∃ t : GS, Inv t ∧ Fr fm_250_0 s t ∧ ∃ z : Int32, v = some (.int z) ∧ u = WW Z A t ++ ex ∧ In z 0 32) (gE1 Z A ex fm_250_0 s) := by
  intro post xp hP hX
  obtain ⟨u_0_2, e_0_2⟩ : ∃ w, w = s.2.2.1 0 2 := ⟨_, rfl⟩
  have ro_0_2 := inv_F hI (-1) 4000 rfl e_0_2
  obtain ⟨u_2_1, e_2_1⟩ : ∃ w, w = s.2.2.1 2 1 := ⟨_, rfl⟩
  have ro_2_1 := inv_F hI 0 32 rfl e_2_1
  obtain ⟨u_32_1, e_32_1⟩ : ∃ w, w = s.2.2.1 32 1 := ⟨_, rfl⟩
  have ro_32_1 := inv_F hI 0 32 rfl e_32_1
  refine g_enter2 (k := 250) (N := 900) (by first | exact dq1 hd rfl | exact dq0 hd rfl | exact dq2 hd rfl | exact dq3 hd rfl | omega) rfl (Nat.le_of_ble_eq_true rfl) ?_
  refine g_aload_n 1 (gd rfl) rfl rfl ?_
  refine g_callv (X := _) (As := []) (r := []) (b := A 0) (q := 0) 4 (gd rfl) rfl rfl rfl rfl rfl (ww_o rfl) (Nat.le_of_ble_eq_true rfl) (mc := 0) (ms := 0) (Nat.zero_le _) (Nat.zero_le _) (P := fun v u => _) ?_ (fun e u h => h) (fun v u h => h)
  intro po1 xx1 hp1 hx1
  refine g_enter2 (k := 259) (N := 300) (by first | exact dq1 hd rfl | exact dq0 hd rfl | exact dq2 hd rfl | exact dq3 hd rfl | omega) rfl (Nat.le_of_ble_eq_true rfl) ?_
  refine g_aload_n 1 (gd rfl) rfl rfl ?_
  refine g_getI 4 (gd rfl) rfl rfl rfl (fun z1x1 e1x1 => ?_)
  have q1x1 : u_0_2 = z1x1 := (e_0_2).trans e1x1.symm
  subst q1x1
  refine g_iconst (-1) 5 (gd rfl) rfl rfl ?_
  refine g_cmp_ne 8 18 (gd rfl) rfl rfl (fun c1x5 => ?_) (fun c1x5 => ?_)
  · skip
    have i1x5 := r_ne1 0 4000 c1x5 ro_0_2 (in_c (-1) rfl) rfl
    refine g_aload_n 19 (gd rfl) rfl rfl ?_
    refine g_getA (q2 := 32) 22 (gd rfl) rfl rfl rfl rfl ?_
    refine g_areturn (gd rfl) rfl (hp1 _ _ ?_)
    show GG _ _ _ _ _ _ _ _ [.ref (A 32)] _ _ _
    refine g_astore_n 5 (gd rfl) rfl (Nat.le_of_ble_eq_true rfl) ?_
    refine g_aload_n 6 (gd rfl) rfl rfl ?_
    refine g_iload_n 7 (gd rfl) rfl rfl ?_
    refine g_callv (X := _) (As := [.int x1]) (r := []) (b := A 32) (q := 32) 10 (gd rfl) rfl rfl rfl rfl rfl (ww_o rfl) (Nat.le_of_ble_eq_true rfl) (mc := 0) (ms := 0) (Nat.zero_le _) (Nat.zero_le _) (P := fun v u => _) ?_ (fun e u h => h) (fun v u h => h)
    intro po7 xx7 hp7 hx7
    refine g_enter2 (k := 94) (N := 300) (by first | exact dq1 hd rfl | exact dq0 hd rfl | exact dq2 hd rfl | exact dq3 hd rfl | omega) rfl (Nat.le_of_ble_eq_true rfl) ?_
    refine g_iload_n 1 (gd rfl) rfl rfl ?_
    refine g_if_lt 4 16 (gd rfl) rfl rfl (fun c7x1 => ?_) (fun c7x1 => ?_)
    · skip
      have i7x1 := z_lt (-2147483648) (-1) c7x1 (i_rng x1) rfl
      refine g_iconst 0 17 (gd rfl) rfl rfl ?_
      refine g_ireturn (gd rfl) rfl (nb01 (in_w 0 1 (in_c 0 rfl) rfl)) (hp7 _ _ ?_)
      show GG _ _ _ _ _ _ _ _ [.int (Int32.ofInt 0)] _ _ _
      refine g_thr (E := am_IA) (y := yX11_allow) 13 (gd rfl) rfl rfl (Or.inl ⟨rfl, rfl, rfl⟩) (by first | exact dq1 hd rfl | exact dq0 hd rfl | exact dq2 hd rfl | exact dq3 hd rfl | omega) (Nat.le_of_ble_eq_true rfl) (Nat.le_of_ble_eq_true rfl) (Nat.le_of_ble_eq_true rfl) (fun c10 => ?_) (fun c10 => ?_)
      · skip
        exact zn_ne c10 (in_c 0 rfl) rfl
      · skip
        exact (hX _ _ ⟨rfl, s, hI, fr_rf, rfl⟩)
    · skip
      have i7x1 := z_ge 0 2147483647 c7x1 (i_rng x1) rfl
      refine g_iload_n 5 (gd rfl) rfl rfl ?_
      refine g_aload_n 6 (gd rfl) rfl rfl ?_
      refine g_getI 9 (gd rfl) rfl rfl rfl (fun z7x6 e7x6 => ?_)
      have q7x6 : u_32_1 = z7x6 := (e_32_1).trans e7x6.symm
      subst q7x6
      refine g_cmp_ge 12 16 (gd rfl) rfl rfl (fun c7x9 => ?_) (fun c7x9 => ?_)
      · skip
        refine g_iconst 0 17 (gd rfl) rfl rfl ?_
        refine g_ireturn (gd rfl) rfl (nb01 (in_w 0 1 (in_c 0 rfl) rfl)) (hp7 _ _ ?_)
        show GG _ _ _ _ _ _ _ _ [.int (Int32.ofInt 0)] _ _ _
        refine g_thr (E := am_IA) (y := yX11_allow) 13 (gd rfl) rfl rfl (Or.inl ⟨rfl, rfl, rfl⟩) (by first | exact dq1 hd rfl | exact dq0 hd rfl | exact dq2 hd rfl | exact dq3 hd rfl | omega) (Nat.le_of_ble_eq_true rfl) (Nat.le_of_ble_eq_true rfl) (Nat.le_of_ble_eq_true rfl) (fun c10 => ?_) (fun c10 => ?_)
        · skip
          exact zn_ne c10 (in_c 0 rfl) rfl
        · skip
          exact (hX _ _ ⟨rfl, s, hI, fr_rf, rfl⟩)
      · skip
        have i7x9 := r_lt1 0 31 c7x9 i7x1 ro_32_1 rfl
        have i7x9a := r_lt2 1 32 c7x9 i7x1 ro_32_1 rfl
        refine g_iconst 1 13 (gd rfl) rfl rfl ?_
        refine g_goto 17 (gd rfl) rfl ?_
        refine g_ireturn (gd rfl) rfl (nb01 (in_w 0 1 (in_c 1 rfl) rfl)) (hp7 _ _ ?_)
        show GG _ _ _ _ _ _ _ _ [.int (Int32.ofInt 1)] _ _ _
        refine g_thr (E := am_IA) (y := yX11_allow) 13 (gd rfl) rfl rfl (Or.inl ⟨rfl, rfl, rfl⟩) (by first | exact dq1 hd rfl | exact dq0 hd rfl | exact dq2 hd rfl | exact dq3 hd rfl | omega) (Nat.le_of_ble_eq_true rfl) (Nat.le_of_ble_eq_true rfl) (Nat.le_of_ble_eq_true rfl) (fun c10 => ?_) (fun c10 => ?_)
        · skip
          refine g_aload_n 14 (gd rfl) rfl rfl ?_
          refine g_getA (q2 := 86) 17 (gd rfl) rfl rfl rfl rfl ?_
          refine g_aload_n 18 (gd rfl) rfl rfl ?_
          refine g_iload_n 19 (gd rfl) rfl rfl ?_
          refine g_callv (X := _) (As := [.ref (A 32), .int x1]) (r := []) (b := A 86) (q := 86) 22 (gd rfl) rfl rfl rfl rfl rfl (ww_o rfl) (Nat.le_of_ble_eq_true rfl) (mc := 0) (ms := 0) (Nat.zero_le _) (Nat.zero_le _) (P := fun v u => _) ?_ (fun e u h => h) (fun v u h => h)
          intro po19 xx19 hp19 hx19
          refine g_enter2 (k := 111) (N := 300) (by first | exact dq1 hd rfl | exact dq0 hd rfl | exact dq2 hd rfl | exact dq3 hd rfl | omega) rfl (Nat.le_of_ble_eq_true rfl) ?_
          refine g_aload_n 1 (gd rfl) rfl rfl ?_
          refine g_aload_n 2 (gd rfl) rfl rfl ?_
          refine g_callv (X := _) (As := [.ref (A 32)]) (r := []) (b := A 86) (q := 86) 5 (gd rfl) rfl rfl rfl rfl rfl (ww_o rfl) (Nat.le_of_ble_eq_true rfl) (Nat.zero_le _) (Nat.zero_le _) (k_113_86_32 (by first | exact dq1 hd rfl | exact dq0 hd rfl | exact dq2 hd rfl | exact dq3 hd rfl | omega) hI ) (fun e u h => h) (fun v u h => ?_)
          obtain ⟨s19x2, hI19x2, hF19x2, rfl, rfl⟩ := h
          show GG _ _ _ _ _ _ _ _ [] _ _ _
          refine g_aload_n 6 (gd rfl) rfl rfl ?_
          refine g_getA (q2 := 90) 9 (gd rfl) rfl rfl rfl rfl ?_
          refine g_aload_n 10 (gd rfl) rfl rfl ?_
          refine g_getA (q2 := 89) 13 (gd rfl) rfl rfl rfl rfl ?_
          refine g_iload_n 14 (gd rfl) rfl rfl ?_
          refine g_iaload 15 (gd rfl) rfl (n := 32) rfl (in_ix i7x9 rfl) (fun z19x14 e19x14 => ?_)
          have i19x14 := inv_I hI19x2 (n := 32) (t := 0) 0 31 rfl (in_ix i7x9 rfl) rfl e19x14
          refine g_iaload 16 (gd rfl) rfl (n := 32) rfl (in_ix i19x14 rfl) (fun z19x15 e19x15 => ?_)
          refine g_calls (As := [.int z19x15]) (r := []) 19 (gd rfl) rfl rfl rfl rfl rfl (Nat.le_of_ble_eq_true rfl) (Nat.zero_le _) (Nat.zero_le _) (k_264 (by first | exact dq1 hd rfl | exact dq0 hd rfl | exact dq2 hd rfl | exact dq3 hd rfl | omega)) (fun v u h => ?_)
          obtain ⟨z19x16, rfl, rfl, i19x16, hb19x16⟩ := h
          show GG _ _ _ _ _ _ _ _ [.int z19x16] _ _ _
          refine g_ireturn (gd rfl) rfl rfl (hp19 _ _ ?_)
          show GG _ _ _ _ _ _ _ _ [.int z19x16] _ _ _
          exact g_ireturn (gd rfl) rfl rfl (hP _ _ ⟨s19x2, hI19x2, (fr_tr rfl fr_rf hF19x2), z19x16, rfl, rfl, in_w 0 32 i19x16 rfl⟩)
        · skip
          exact zn_eq c10 (in_c 1 rfl) rfl
  · skip
    have i1x5 := r_eq1 (-1) (-1) c1x5 ro_0_2 (in_c (-1) rfl) rfl
    refine g_aload_n 9 (gd rfl) rfl rfl ?_
    refine g_getA (q2 := 1) 12 (gd rfl) rfl rfl rfl rfl ?_
    refine g_getA (q2 := 2) 15 (gd rfl) rfl rfl rfl rfl ?_
    refine g_goto 22 (gd rfl) rfl ?_
    refine g_areturn (gd rfl) rfl (hp1 _ _ ?_)
    show GG _ _ _ _ _ _ _ _ [.ref (A 2)] _ _ _
    refine g_astore_n 5 (gd rfl) rfl (Nat.le_of_ble_eq_true rfl) ?_
    refine g_aload_n 6 (gd rfl) rfl rfl ?_
    refine g_iload_n 7 (gd rfl) rfl rfl ?_
    refine g_callv (X := _) (As := [.int x1]) (r := []) (b := A 2) (q := 2) 10 (gd rfl) rfl rfl rfl rfl rfl (ww_o rfl) (Nat.le_of_ble_eq_true rfl) (mc := 0) (ms := 0) (Nat.zero_le _) (Nat.zero_le _) (P := fun v u => _) ?_ (fun e u h => h) (fun v u h => h)
    intro po7 xx7 hp7 hx7
    refine g_enter2 (k := 94) (N := 300) (by first | exact dq1 hd rfl | exact dq0 hd rfl | exact dq2 hd rfl | exact dq3 hd rfl | omega) rfl (Nat.le_of_ble_eq_true rfl) ?_
    refine g_iload_n 1 (gd rfl) rfl rfl ?_
    refine g_if_lt 4 16 (gd rfl) rfl rfl (fun c7x1 => ?_) (fun c7x1 => ?_)
    · skip
      have i7x1 := z_lt (-2147483648) (-1) c7x1 (i_rng x1) rfl
      refine g_iconst 0 17 (gd rfl) rfl rfl ?_
      refine g_ireturn (gd rfl) rfl (nb01 (in_w 0 1 (in_c 0 rfl) rfl)) (hp7 _ _ ?_)
      show GG _ _ _ _ _ _ _ _ [.int (Int32.ofInt 0)] _ _ _
      refine g_thr (E := am_IA) (y := yX11_allow) 13 (gd rfl) rfl rfl (Or.inl ⟨rfl, rfl, rfl⟩) (by first | exact dq1 hd rfl | exact dq0 hd rfl | exact dq2 hd rfl | exact dq3 hd rfl | omega) (Nat.le_of_ble_eq_true rfl) (Nat.le_of_ble_eq_true rfl) (Nat.le_of_ble_eq_true rfl) (fun c10 => ?_) (fun c10 => ?_)
      · skip
        exact zn_ne c10 (in_c 0 rfl) rfl
      · skip
        exact (hX _ _ ⟨rfl, s, hI, fr_rf, rfl⟩)
    · skip
      have i7x1 := z_ge 0 2147483647 c7x1 (i_rng x1) rfl
      refine g_iload_n 5 (gd rfl) rfl rfl ?_
      refine g_aload_n 6 (gd rfl) rfl rfl ?_
      refine g_getI 9 (gd rfl) rfl rfl rfl (fun z7x6 e7x6 => ?_)
      have q7x6 : u_2_1 = z7x6 := (e_2_1).trans e7x6.symm
      subst q7x6
      refine g_cmp_ge 12 16 (gd rfl) rfl rfl (fun c7x9 => ?_) (fun c7x9 => ?_)
      · skip
        refine g_iconst 0 17 (gd rfl) rfl rfl ?_
        refine g_ireturn (gd rfl) rfl (nb01 (in_w 0 1 (in_c 0 rfl) rfl)) (hp7 _ _ ?_)
        show GG _ _ _ _ _ _ _ _ [.int (Int32.ofInt 0)] _ _ _
        refine g_thr (E := am_IA) (y := yX11_allow) 13 (gd rfl) rfl rfl (Or.inl ⟨rfl, rfl, rfl⟩) (by first | exact dq1 hd rfl | exact dq0 hd rfl | exact dq2 hd rfl | exact dq3 hd rfl | omega) (Nat.le_of_ble_eq_true rfl) (Nat.le_of_ble_eq_true rfl) (Nat.le_of_ble_eq_true rfl) (fun c10 => ?_) (fun c10 => ?_)
        · skip
          exact zn_ne c10 (in_c 0 rfl) rfl
        · skip
          exact (hX _ _ ⟨rfl, s, hI, fr_rf, rfl⟩)
      · skip
        have i7x9 := r_lt1 0 31 c7x9 i7x1 ro_2_1 rfl
        have i7x9a := r_lt2 1 32 c7x9 i7x1 ro_2_1 rfl
        refine g_iconst 1 13 (gd rfl) rfl rfl ?_
        refine g_goto 17 (gd rfl) rfl ?_
        refine g_ireturn (gd rfl) rfl (nb01 (in_w 0 1 (in_c 1 rfl) rfl)) (hp7 _ _ ?_)
        show GG _ _ _ _ _ _ _ _ [.int (Int32.ofInt 1)] _ _ _
        refine g_thr (E := am_IA) (y := yX11_allow) 13 (gd rfl) rfl rfl (Or.inl ⟨rfl, rfl, rfl⟩) (by first | exact dq1 hd rfl | exact dq0 hd rfl | exact dq2 hd rfl | exact dq3 hd rfl | omega) (Nat.le_of_ble_eq_true rfl) (Nat.le_of_ble_eq_true rfl) (Nat.le_of_ble_eq_true rfl) (fun c10 => ?_) (fun c10 => ?_)
        · skip
          refine g_aload_n 14 (gd rfl) rfl rfl ?_
          refine g_getA (q2 := 86) 17 (gd rfl) rfl rfl rfl rfl ?_
          refine g_aload_n 18 (gd rfl) rfl rfl ?_
          refine g_iload_n 19 (gd rfl) rfl rfl ?_
          refine g_callv (X := _) (As := [.ref (A 2), .int x1]) (r := []) (b := A 86) (q := 86) 22 (gd rfl) rfl rfl rfl rfl rfl (ww_o rfl) (Nat.le_of_ble_eq_true rfl) (mc := 0) (ms := 0) (Nat.zero_le _) (Nat.zero_le _) (P := fun v u => _) ?_ (fun e u h => h) (fun v u h => h)
          intro po19 xx19 hp19 hx19
          refine g_enter2 (k := 111) (N := 300) (by first | exact dq1 hd rfl | exact dq0 hd rfl | exact dq2 hd rfl | exact dq3 hd rfl | omega) rfl (Nat.le_of_ble_eq_true rfl) ?_
          refine g_aload_n 1 (gd rfl) rfl rfl ?_
          refine g_aload_n 2 (gd rfl) rfl rfl ?_
          refine g_callv (X := _) (As := [.ref (A 2)]) (r := []) (b := A 86) (q := 86) 5 (gd rfl) rfl rfl rfl rfl rfl (ww_o rfl) (Nat.le_of_ble_eq_true rfl) (Nat.zero_le _) (Nat.zero_le _) (k_113_86_2 (by first | exact dq1 hd rfl | exact dq0 hd rfl | exact dq2 hd rfl | exact dq3 hd rfl | omega) hI ) (fun e u h => h) (fun v u h => ?_)
          obtain ⟨s19x2, hI19x2, hF19x2, rfl, rfl⟩ := h
          show GG _ _ _ _ _ _ _ _ [] _ _ _
          refine g_aload_n 6 (gd rfl) rfl rfl ?_
          refine g_getA (q2 := 90) 9 (gd rfl) rfl rfl rfl rfl ?_
          refine g_aload_n 10 (gd rfl) rfl rfl ?_
          refine g_getA (q2 := 89) 13 (gd rfl) rfl rfl rfl rfl ?_
          refine g_iload_n 14 (gd rfl) rfl rfl ?_
          refine g_iaload 15 (gd rfl) rfl (n := 32) rfl (in_ix i7x9 rfl) (fun z19x14 e19x14 => ?_)
          have i19x14 := inv_I hI19x2 (n := 32) (t := 0) 0 31 rfl (in_ix i7x9 rfl) rfl e19x14
          refine g_iaload 16 (gd rfl) rfl (n := 32) rfl (in_ix i19x14 rfl) (fun z19x15 e19x15 => ?_)
          refine g_calls (As := [.int z19x15]) (r := []) 19 (gd rfl) rfl rfl rfl rfl rfl (Nat.le_of_ble_eq_true rfl) (Nat.zero_le _) (Nat.zero_le _) (k_264 (by first | exact dq1 hd rfl | exact dq0 hd rfl | exact dq2 hd rfl | exact dq3 hd rfl | omega)) (fun v u h => ?_)
          obtain ⟨z19x16, rfl, rfl, i19x16, hb19x16⟩ := h
          show GG _ _ _ _ _ _ _ _ [.int z19x16] _ _ _
          refine g_ireturn (gd rfl) rfl rfl (hp19 _ _ ?_)
          show GG _ _ _ _ _ _ _ _ [.int z19x16] _ _ _
          exact g_ireturn (gd rfl) rfl rfl (hP _ _ ⟨s19x2, hI19x2, (fr_tr rfl fr_rf hF19x2), z19x16, rfl, rfl, in_w 0 32 i19x16 rfl⟩)
        · skip
          exact zn_eq c10 (in_c 1 rfl) rfl

def fm_254_0 : FM := ([9, 10, 11, 12, 13, 14, 15, 39, 40, 41, 42, 43, 44, 45], [99, 100, 101], [(2, 4), (32, 4)], [])
/-- GraphHouse.fits -/
theorem k_254_0 {Z : AmZ} {A : Nat → Nat} {s : GS} {ex : va_W} {d : Nat} {x1 : Int32} {x2 : Int32} (hd : 7 ≤ d) (hI : Inv s)  : GC Z d 254 [.ref (A 0), .int x1, .int x2] (WW Z A s ++ ex) 3 18 (fun v u => ∃ t : GS, Inv t ∧ Fr fm_254_0 s t ∧ ∃ z : Int32, v = some (.int z) ∧ u = WW Z A t ++ ex ∧ In z (-1) 1952) (gE1 Z A ex fm_254_0 s) := by
  intro post xp hP hX
  obtain ⟨u_0_2, e_0_2⟩ : ∃ w, w = s.2.2.1 0 2 := ⟨_, rfl⟩
  have ro_0_2 := inv_F hI (-1) 4000 rfl e_0_2
  obtain ⟨u_2_1, e_2_1⟩ : ∃ w, w = s.2.2.1 2 1 := ⟨_, rfl⟩
  have ro_2_1 := inv_F hI 0 32 rfl e_2_1
  obtain ⟨u_32_1, e_32_1⟩ : ∃ w, w = s.2.2.1 32 1 := ⟨_, rfl⟩
  have ro_32_1 := inv_F hI 0 32 rfl e_32_1
  refine g_enter2 (k := 254) (N := 900) (by first | exact dq1 hd rfl | exact dq0 hd rfl | exact dq2 hd rfl | exact dq3 hd rfl | omega) rfl (Nat.le_of_ble_eq_true rfl) ?_
  refine g_aload_n 1 (gd rfl) rfl rfl ?_
  refine g_callv (X := _) (As := []) (r := []) (b := A 0) (q := 0) 4 (gd rfl) rfl rfl rfl rfl rfl (ww_o rfl) (Nat.le_of_ble_eq_true rfl) (mc := 0) (ms := 0) (Nat.zero_le _) (Nat.zero_le _) (P := fun v u => _) ?_ (fun e u h => h) (fun v u h => h)
  intro po1 xx1 hp1 hx1
  refine g_enter2 (k := 259) (N := 300) (by first | exact dq1 hd rfl | exact dq0 hd rfl | exact dq2 hd rfl | exact dq3 hd rfl | omega) rfl (Nat.le_of_ble_eq_true rfl) ?_
  refine g_aload_n 1 (gd rfl) rfl rfl ?_
  refine g_getI 4 (gd rfl) rfl rfl rfl (fun z1x1 e1x1 => ?_)
  have q1x1 : u_0_2 = z1x1 := (e_0_2).trans e1x1.symm
  subst q1x1
  refine g_iconst (-1) 5 (gd rfl) rfl rfl ?_
  refine g_cmp_ne 8 18 (gd rfl) rfl rfl (fun c1x5 => ?_) (fun c1x5 => ?_)
  · skip
    have i1x5 := r_ne1 0 4000 c1x5 ro_0_2 (in_c (-1) rfl) rfl
    refine g_aload_n 19 (gd rfl) rfl rfl ?_
    refine g_getA (q2 := 32) 22 (gd rfl) rfl rfl rfl rfl ?_
    refine g_areturn (gd rfl) rfl (hp1 _ _ ?_)
    show GG _ _ _ _ _ _ _ _ [.ref (A 32)] _ _ _
    refine g_astore_n 5 (gd rfl) rfl (Nat.le_of_ble_eq_true rfl) ?_
    refine g_aload_n 6 (gd rfl) rfl rfl ?_
    refine g_iload_n 7 (gd rfl) rfl rfl ?_
    refine g_callv (X := _) (As := [.int x1]) (r := []) (b := A 32) (q := 32) 10 (gd rfl) rfl rfl rfl rfl rfl (ww_o rfl) (Nat.le_of_ble_eq_true rfl) (mc := 0) (ms := 0) (Nat.zero_le _) (Nat.zero_le _) (P := fun v u => _) ?_ (fun e u h => h) (fun v u h => h)
    intro po7 xx7 hp7 hx7
    refine g_enter2 (k := 94) (N := 300) (by first | exact dq1 hd rfl | exact dq0 hd rfl | exact dq2 hd rfl | exact dq3 hd rfl | omega) rfl (Nat.le_of_ble_eq_true rfl) ?_
    refine g_iload_n 1 (gd rfl) rfl rfl ?_
    refine g_if_lt 4 16 (gd rfl) rfl rfl (fun c7x1 => ?_) (fun c7x1 => ?_)
    · skip
      have i7x1 := z_lt (-2147483648) (-1) c7x1 (i_rng x1) rfl
      refine g_iconst 0 17 (gd rfl) rfl rfl ?_
      refine g_ireturn (gd rfl) rfl (nb01 (in_w 0 1 (in_c 0 rfl) rfl)) (hp7 _ _ ?_)
      show GG _ _ _ _ _ _ _ _ [.int (Int32.ofInt 0)] _ _ _
      refine g_if_eq 13 25 (gd rfl) rfl rfl (fun c10 => ?_) (fun c10 => ?_)
      · skip
        refine g_iconst 0 26 (gd rfl) rfl rfl ?_
        refine g_thr (E := am_IA) (y := yX11_allow) 29 (gd rfl) rfl rfl (Or.inl ⟨rfl, rfl, rfl⟩) (by first | exact dq1 hd rfl | exact dq0 hd rfl | exact dq2 hd rfl | exact dq3 hd rfl | omega) (Nat.le_of_ble_eq_true rfl) (Nat.le_of_ble_eq_true rfl) (Nat.le_of_ble_eq_true rfl) (fun c26 => ?_) (fun c26 => ?_)
        · skip
          exact zn_ne c26 (in_c 0 rfl) rfl
        · skip
          exact (hX _ _ ⟨rfl, s, hI, fr_rf, rfl⟩)
      · skip
        exact zn_ne c10 (in_c 0 rfl) rfl
    · skip
      have i7x1 := z_ge 0 2147483647 c7x1 (i_rng x1) rfl
      refine g_iload_n 5 (gd rfl) rfl rfl ?_
      refine g_aload_n 6 (gd rfl) rfl rfl ?_
      refine g_getI 9 (gd rfl) rfl rfl rfl (fun z7x6 e7x6 => ?_)
      have q7x6 : u_32_1 = z7x6 := (e_32_1).trans e7x6.symm
      subst q7x6
      refine g_cmp_ge 12 16 (gd rfl) rfl rfl (fun c7x9 => ?_) (fun c7x9 => ?_)
      · skip
        refine g_iconst 0 17 (gd rfl) rfl rfl ?_
        refine g_ireturn (gd rfl) rfl (nb01 (in_w 0 1 (in_c 0 rfl) rfl)) (hp7 _ _ ?_)
        show GG _ _ _ _ _ _ _ _ [.int (Int32.ofInt 0)] _ _ _
        refine g_if_eq 13 25 (gd rfl) rfl rfl (fun c10 => ?_) (fun c10 => ?_)
        · skip
          refine g_iconst 0 26 (gd rfl) rfl rfl ?_
          refine g_thr (E := am_IA) (y := yX11_allow) 29 (gd rfl) rfl rfl (Or.inl ⟨rfl, rfl, rfl⟩) (by first | exact dq1 hd rfl | exact dq0 hd rfl | exact dq2 hd rfl | exact dq3 hd rfl | omega) (Nat.le_of_ble_eq_true rfl) (Nat.le_of_ble_eq_true rfl) (Nat.le_of_ble_eq_true rfl) (fun c26 => ?_) (fun c26 => ?_)
          · skip
            exact zn_ne c26 (in_c 0 rfl) rfl
          · skip
            exact (hX _ _ ⟨rfl, s, hI, fr_rf, rfl⟩)
        · skip
          exact zn_ne c10 (in_c 0 rfl) rfl
      · skip
        have i7x9 := r_lt1 0 31 c7x9 i7x1 ro_32_1 rfl
        have i7x9a := r_lt2 1 32 c7x9 i7x1 ro_32_1 rfl
        refine g_iconst 1 13 (gd rfl) rfl rfl ?_
        refine g_goto 17 (gd rfl) rfl ?_
        refine g_ireturn (gd rfl) rfl (nb01 (in_w 0 1 (in_c 1 rfl) rfl)) (hp7 _ _ ?_)
        show GG _ _ _ _ _ _ _ _ [.int (Int32.ofInt 1)] _ _ _
        refine g_if_eq 13 25 (gd rfl) rfl rfl (fun c10 => ?_) (fun c10 => ?_)
        · skip
          exact zn_eq c10 (in_c 1 rfl) rfl
        · skip
          refine g_aload_n 14 (gd rfl) rfl rfl ?_
          refine g_iload_n 15 (gd rfl) rfl rfl ?_
          refine g_callv (X := _) (As := [.int x2]) (r := []) (b := A 32) (q := 32) 18 (gd rfl) rfl rfl rfl rfl rfl (ww_o rfl) (Nat.le_of_ble_eq_true rfl) (mc := 0) (ms := 0) (Nat.zero_le _) (Nat.zero_le _) (P := fun v u => _) ?_ (fun e u h => h) (fun v u h => h)
          intro po15 xx15 hp15 hx15
          refine g_enter2 (k := 94) (N := 300) (by first | exact dq1 hd rfl | exact dq0 hd rfl | exact dq2 hd rfl | exact dq3 hd rfl | omega) rfl (Nat.le_of_ble_eq_true rfl) ?_
          refine g_iload_n 1 (gd rfl) rfl rfl ?_
          refine g_if_lt 4 16 (gd rfl) rfl rfl (fun c15x1 => ?_) (fun c15x1 => ?_)
          · skip
            have i15x1 := z_lt (-2147483648) (-1) c15x1 (i_rng x2) rfl
            refine g_iconst 0 17 (gd rfl) rfl rfl ?_
            refine g_ireturn (gd rfl) rfl (nb01 (in_w 0 1 (in_c 0 rfl) rfl)) (hp15 _ _ ?_)
            show GG _ _ _ _ _ _ _ _ [.int (Int32.ofInt 0)] _ _ _
            refine g_if_eq 21 25 (gd rfl) rfl rfl (fun c18 => ?_) (fun c18 => ?_)
            · skip
              refine g_iconst 0 26 (gd rfl) rfl rfl ?_
              refine g_thr (E := am_IA) (y := yX11_allow) 29 (gd rfl) rfl rfl (Or.inl ⟨rfl, rfl, rfl⟩) (by first | exact dq1 hd rfl | exact dq0 hd rfl | exact dq2 hd rfl | exact dq3 hd rfl | omega) (Nat.le_of_ble_eq_true rfl) (Nat.le_of_ble_eq_true rfl) (Nat.le_of_ble_eq_true rfl) (fun c26 => ?_) (fun c26 => ?_)
              · skip
                exact zn_ne c26 (in_c 0 rfl) rfl
              · skip
                exact (hX _ _ ⟨rfl, s, hI, fr_rf, rfl⟩)
            · skip
              exact zn_ne c18 (in_c 0 rfl) rfl
          · skip
            have i15x1 := z_ge 0 2147483647 c15x1 (i_rng x2) rfl
            refine g_iload_n 5 (gd rfl) rfl rfl ?_
            refine g_aload_n 6 (gd rfl) rfl rfl ?_
            refine g_getI 9 (gd rfl) rfl rfl rfl (fun z15x6 e15x6 => ?_)
            have q15x6 : u_32_1 = z15x6 := (e_32_1).trans e15x6.symm
            subst q15x6
            refine g_cmp_ge 12 16 (gd rfl) rfl rfl (fun c15x9 => ?_) (fun c15x9 => ?_)
            · skip
              have i15x9 := r_le2 1 2147483647 c15x9 i7x9a i15x1 rfl
              refine g_iconst 0 17 (gd rfl) rfl rfl ?_
              refine g_ireturn (gd rfl) rfl (nb01 (in_w 0 1 (in_c 0 rfl) rfl)) (hp15 _ _ ?_)
              show GG _ _ _ _ _ _ _ _ [.int (Int32.ofInt 0)] _ _ _
              refine g_if_eq 21 25 (gd rfl) rfl rfl (fun c18 => ?_) (fun c18 => ?_)
              · skip
                refine g_iconst 0 26 (gd rfl) rfl rfl ?_
                refine g_thr (E := am_IA) (y := yX11_allow) 29 (gd rfl) rfl rfl (Or.inl ⟨rfl, rfl, rfl⟩) (by first | exact dq1 hd rfl | exact dq0 hd rfl | exact dq2 hd rfl | exact dq3 hd rfl | omega) (Nat.le_of_ble_eq_true rfl) (Nat.le_of_ble_eq_true rfl) (Nat.le_of_ble_eq_true rfl) (fun c26 => ?_) (fun c26 => ?_)
                · skip
                  exact zn_ne c26 (in_c 0 rfl) rfl
                · skip
                  exact (hX _ _ ⟨rfl, s, hI, fr_rf, rfl⟩)
              · skip
                exact zn_ne c18 (in_c 0 rfl) rfl
            · skip
              have i15x9 := r_lt1 0 31 c15x9 i15x1 i7x9a rfl
              refine g_iconst 1 13 (gd rfl) rfl rfl ?_
              refine g_goto 17 (gd rfl) rfl ?_
              refine g_ireturn (gd rfl) rfl (nb01 (in_w 0 1 (in_c 1 rfl) rfl)) (hp15 _ _ ?_)
              show GG _ _ _ _ _ _ _ _ [.int (Int32.ofInt 1)] _ _ _
              refine g_if_eq 21 25 (gd rfl) rfl rfl (fun c18 => ?_) (fun c18 => ?_)
              · skip
                exact zn_eq c18 (in_c 1 rfl) rfl
              · skip
                refine g_iconst 1 22 (gd rfl) rfl rfl ?_
                refine g_goto 26 (gd rfl) rfl ?_
                refine g_thr (E := am_IA) (y := yX11_allow) 29 (gd rfl) rfl rfl (Or.inl ⟨rfl, rfl, rfl⟩) (by first | exact dq1 hd rfl | exact dq0 hd rfl | exact dq2 hd rfl | exact dq3 hd rfl | omega) (Nat.le_of_ble_eq_true rfl) (Nat.le_of_ble_eq_true rfl) (Nat.le_of_ble_eq_true rfl) (fun c26 => ?_) (fun c26 => ?_)
                · skip
                  refine g_aload_n 30 (gd rfl) rfl rfl ?_
                  refine g_getA (q2 := 94) 33 (gd rfl) rfl rfl rfl rfl ?_
                  refine g_aload_n 34 (gd rfl) rfl rfl ?_
                  refine g_iload_n 35 (gd rfl) rfl rfl ?_
                  refine g_iload_n 36 (gd rfl) rfl rfl ?_
                  refine g_callv (X := _) (As := [.ref (A 32), .int x1, .int x2]) (r := []) (b := A 94) (q := 94) 39 (gd rfl) rfl rfl rfl rfl rfl (ww_o rfl) (Nat.le_of_ble_eq_true rfl) (Nat.zero_le _) (Nat.zero_le _) (k_163_94_32 (by first | exact dq1 hd rfl | exact dq0 hd rfl | exact dq2 hd rfl | exact dq3 hd rfl | omega) hI (in_w 0 31 i7x9 rfl) (in_w 0 31 i15x9 rfl)) (fun e u h => h) (fun v u h => ?_)
                  obtain ⟨s36, hI36, hF36, z36, rfl, rfl, i36⟩ := h
                  show GG _ _ _ _ _ _ _ _ [.int z36] _ _ _
                  exact g_ireturn (gd rfl) rfl rfl (hP _ _ ⟨s36, hI36, (fr_tr rfl fr_rf hF36), z36, rfl, rfl, in_w (-1) 1952 i36 rfl⟩)
                · skip
                  exact zn_eq c26 (in_c 1 rfl) rfl
  · skip
    have i1x5 := r_eq1 (-1) (-1) c1x5 ro_0_2 (in_c (-1) rfl) rfl
    refine g_aload_n 9 (gd rfl) rfl rfl ?_
    refine g_getA (q2 := 1) 12 (gd rfl) rfl rfl rfl rfl ?_
    refine g_getA (q2 := 2) 15 (gd rfl) rfl rfl rfl rfl ?_
    refine g_goto 22 (gd rfl) rfl ?_
    refine g_areturn (gd rfl) rfl (hp1 _ _ ?_)
    show GG _ _ _ _ _ _ _ _ [.ref (A 2)] _ _ _
    refine g_astore_n 5 (gd rfl) rfl (Nat.le_of_ble_eq_true rfl) ?_
    refine g_aload_n 6 (gd rfl) rfl rfl ?_
    refine g_iload_n 7 (gd rfl) rfl rfl ?_
    refine g_callv (X := _) (As := [.int x1]) (r := []) (b := A 2) (q := 2) 10 (gd rfl) rfl rfl rfl rfl rfl (ww_o rfl) (Nat.le_of_ble_eq_true rfl) (mc := 0) (ms := 0) (Nat.zero_le _) (Nat.zero_le _) (P := fun v u => _) ?_ (fun e u h => h) (fun v u h => h)
    intro po7 xx7 hp7 hx7
    refine g_enter2 (k := 94) (N := 300) (by first | exact dq1 hd rfl | exact dq0 hd rfl | exact dq2 hd rfl | exact dq3 hd rfl | omega) rfl (Nat.le_of_ble_eq_true rfl) ?_
    refine g_iload_n 1 (gd rfl) rfl rfl ?_
    refine g_if_lt 4 16 (gd rfl) rfl rfl (fun c7x1 => ?_) (fun c7x1 => ?_)
    · skip
      have i7x1 := z_lt (-2147483648) (-1) c7x1 (i_rng x1) rfl
      refine g_iconst 0 17 (gd rfl) rfl rfl ?_
      refine g_ireturn (gd rfl) rfl (nb01 (in_w 0 1 (in_c 0 rfl) rfl)) (hp7 _ _ ?_)
      show GG _ _ _ _ _ _ _ _ [.int (Int32.ofInt 0)] _ _ _
      refine g_if_eq 13 25 (gd rfl) rfl rfl (fun c10 => ?_) (fun c10 => ?_)
      · skip
        refine g_iconst 0 26 (gd rfl) rfl rfl ?_
        refine g_thr (E := am_IA) (y := yX11_allow) 29 (gd rfl) rfl rfl (Or.inl ⟨rfl, rfl, rfl⟩) (by first | exact dq1 hd rfl | exact dq0 hd rfl | exact dq2 hd rfl | exact dq3 hd rfl | omega) (Nat.le_of_ble_eq_true rfl) (Nat.le_of_ble_eq_true rfl) (Nat.le_of_ble_eq_true rfl) (fun c26 => ?_) (fun c26 => ?_)
        · skip
          exact zn_ne c26 (in_c 0 rfl) rfl
        · skip
          exact (hX _ _ ⟨rfl, s, hI, fr_rf, rfl⟩)
      · skip
        exact zn_ne c10 (in_c 0 rfl) rfl
    · skip
      have i7x1 := z_ge 0 2147483647 c7x1 (i_rng x1) rfl
      refine g_iload_n 5 (gd rfl) rfl rfl ?_
      refine g_aload_n 6 (gd rfl) rfl rfl ?_
      refine g_getI 9 (gd rfl) rfl rfl rfl (fun z7x6 e7x6 => ?_)
      have q7x6 : u_2_1 = z7x6 := (e_2_1).trans e7x6.symm
      subst q7x6
      refine g_cmp_ge 12 16 (gd rfl) rfl rfl (fun c7x9 => ?_) (fun c7x9 => ?_)
      · skip
        refine g_iconst 0 17 (gd rfl) rfl rfl ?_
        refine g_ireturn (gd rfl) rfl (nb01 (in_w 0 1 (in_c 0 rfl) rfl)) (hp7 _ _ ?_)
        show GG _ _ _ _ _ _ _ _ [.int (Int32.ofInt 0)] _ _ _
        refine g_if_eq 13 25 (gd rfl) rfl rfl (fun c10 => ?_) (fun c10 => ?_)
        · skip
          refine g_iconst 0 26 (gd rfl) rfl rfl ?_
          refine g_thr (E := am_IA) (y := yX11_allow) 29 (gd rfl) rfl rfl (Or.inl ⟨rfl, rfl, rfl⟩) (by first | exact dq1 hd rfl | exact dq0 hd rfl | exact dq2 hd rfl | exact dq3 hd rfl | omega) (Nat.le_of_ble_eq_true rfl) (Nat.le_of_ble_eq_true rfl) (Nat.le_of_ble_eq_true rfl) (fun c26 => ?_) (fun c26 => ?_)
          · skip
            exact zn_ne c26 (in_c 0 rfl) rfl
          · skip
            exact (hX _ _ ⟨rfl, s, hI, fr_rf, rfl⟩)
        · skip
          exact zn_ne c10 (in_c 0 rfl) rfl
      · skip
        have i7x9 := r_lt1 0 31 c7x9 i7x1 ro_2_1 rfl
        have i7x9a := r_lt2 1 32 c7x9 i7x1 ro_2_1 rfl
        refine g_iconst 1 13 (gd rfl) rfl rfl ?_
        refine g_goto 17 (gd rfl) rfl ?_
        refine g_ireturn (gd rfl) rfl (nb01 (in_w 0 1 (in_c 1 rfl) rfl)) (hp7 _ _ ?_)
        show GG _ _ _ _ _ _ _ _ [.int (Int32.ofInt 1)] _ _ _
        refine g_if_eq 13 25 (gd rfl) rfl rfl (fun c10 => ?_) (fun c10 => ?_)
        · skip
          exact zn_eq c10 (in_c 1 rfl) rfl
        · skip
          refine g_aload_n 14 (gd rfl) rfl rfl ?_
          refine g_iload_n 15 (gd rfl) rfl rfl ?_
          refine g_callv (X := _) (As := [.int x2]) (r := []) (b := A 2) (q := 2) 18 (gd rfl) rfl rfl rfl rfl rfl (ww_o rfl) (Nat.le_of_ble_eq_true rfl) (mc := 0) (ms := 0) (Nat.zero_le _) (Nat.zero_le _) (P := fun v u => _) ?_ (fun e u h => h) (fun v u h => h)
          intro po15 xx15 hp15 hx15
          refine g_enter2 (k := 94) (N := 300) (by first | exact dq1 hd rfl | exact dq0 hd rfl | exact dq2 hd rfl | exact dq3 hd rfl | omega) rfl (Nat.le_of_ble_eq_true rfl) ?_
          refine g_iload_n 1 (gd rfl) rfl rfl ?_
          refine g_if_lt 4 16 (gd rfl) rfl rfl (fun c15x1 => ?_) (fun c15x1 => ?_)
          · skip
            have i15x1 := z_lt (-2147483648) (-1) c15x1 (i_rng x2) rfl
            refine g_iconst 0 17 (gd rfl) rfl rfl ?_
            refine g_ireturn (gd rfl) rfl (nb01 (in_w 0 1 (in_c 0 rfl) rfl)) (hp15 _ _ ?_)
            show GG _ _ _ _ _ _ _ _ [.int (Int32.ofInt 0)] _ _ _
            refine g_if_eq 21 25 (gd rfl) rfl rfl (fun c18 => ?_) (fun c18 => ?_)
            · skip
              refine g_iconst 0 26 (gd rfl) rfl rfl ?_
              refine g_thr (E := am_IA) (y := yX11_allow) 29 (gd rfl) rfl rfl (Or.inl ⟨rfl, rfl, rfl⟩) (by first | exact dq1 hd rfl | exact dq0 hd rfl | exact dq2 hd rfl | exact dq3 hd rfl | omega) (Nat.le_of_ble_eq_true rfl) (Nat.le_of_ble_eq_true rfl) (Nat.le_of_ble_eq_true rfl) (fun c26 => ?_) (fun c26 => ?_)
              · skip
                exact zn_ne c26 (in_c 0 rfl) rfl
              · skip
                exact (hX _ _ ⟨rfl, s, hI, fr_rf, rfl⟩)
            · skip
              exact zn_ne c18 (in_c 0 rfl) rfl
          · skip
            have i15x1 := z_ge 0 2147483647 c15x1 (i_rng x2) rfl
            refine g_iload_n 5 (gd rfl) rfl rfl ?_
            refine g_aload_n 6 (gd rfl) rfl rfl ?_
            refine g_getI 9 (gd rfl) rfl rfl rfl (fun z15x6 e15x6 => ?_)
            have q15x6 : u_2_1 = z15x6 := (e_2_1).trans e15x6.symm
            subst q15x6
            refine g_cmp_ge 12 16 (gd rfl) rfl rfl (fun c15x9 => ?_) (fun c15x9 => ?_)
            · skip
              have i15x9 := r_le2 1 2147483647 c15x9 i7x9a i15x1 rfl
              refine g_iconst 0 17 (gd rfl) rfl rfl ?_
              refine g_ireturn (gd rfl) rfl (nb01 (in_w 0 1 (in_c 0 rfl) rfl)) (hp15 _ _ ?_)
              show GG _ _ _ _ _ _ _ _ [.int (Int32.ofInt 0)] _ _ _
              refine g_if_eq 21 25 (gd rfl) rfl rfl (fun c18 => ?_) (fun c18 => ?_)
              · skip
                refine g_iconst 0 26 (gd rfl) rfl rfl ?_
                refine g_thr (E := am_IA) (y := yX11_allow) 29 (gd rfl) rfl rfl (Or.inl ⟨rfl, rfl, rfl⟩) (by first | exact dq1 hd rfl | exact dq0 hd rfl | exact dq2 hd rfl | exact dq3 hd rfl | omega) (Nat.le_of_ble_eq_true rfl) (Nat.le_of_ble_eq_true rfl) (Nat.le_of_ble_eq_true rfl) (fun c26 => ?_) (fun c26 => ?_)
                · skip
                  exact zn_ne c26 (in_c 0 rfl) rfl
                · skip
                  exact (hX _ _ ⟨rfl, s, hI, fr_rf, rfl⟩)
              · skip
                exact zn_ne c18 (in_c 0 rfl) rfl
            · skip
              have i15x9 := r_lt1 0 31 c15x9 i15x1 i7x9a rfl
              refine g_iconst 1 13 (gd rfl) rfl rfl ?_
              refine g_goto 17 (gd rfl) rfl ?_
              refine g_ireturn (gd rfl) rfl (nb01 (in_w 0 1 (in_c 1 rfl) rfl)) (hp15 _ _ ?_)
              show GG _ _ _ _ _ _ _ _ [.int (Int32.ofInt 1)] _ _ _
              refine g_if_eq 21 25 (gd rfl) rfl rfl (fun c18 => ?_) (fun c18 => ?_)
              · skip
                exact zn_eq c18 (in_c 1 rfl) rfl
              · skip
                refine g_iconst 1 22 (gd rfl) rfl rfl ?_
                refine g_goto 26 (gd rfl) rfl ?_
                refine g_thr (E := am_IA) (y := yX11_allow) 29 (gd rfl) rfl rfl (Or.inl ⟨rfl, rfl, rfl⟩) (by first | exact dq1 hd rfl | exact dq0 hd rfl | exact dq2 hd rfl | exact dq3 hd rfl | omega) (Nat.le_of_ble_eq_true rfl) (Nat.le_of_ble_eq_true rfl) (Nat.le_of_ble_eq_true rfl) (fun c26 => ?_) (fun c26 => ?_)
                · skip
                  refine g_aload_n 30 (gd rfl) rfl rfl ?_
                  refine g_getA (q2 := 94) 33 (gd rfl) rfl rfl rfl rfl ?_
                  refine g_aload_n 34 (gd rfl) rfl rfl ?_
                  refine g_iload_n 35 (gd rfl) rfl rfl ?_
                  refine g_iload_n 36 (gd rfl) rfl rfl ?_
                  refine g_callv (X := _) (As := [.ref (A 2), .int x1, .int x2]) (r := []) (b := A 94) (q := 94) 39 (gd rfl) rfl rfl rfl rfl rfl (ww_o rfl) (Nat.le_of_ble_eq_true rfl) (Nat.zero_le _) (Nat.zero_le _) (k_163_94_2 (by first | exact dq1 hd rfl | exact dq0 hd rfl | exact dq2 hd rfl | exact dq3 hd rfl | omega) hI (in_w 0 31 i7x9 rfl) (in_w 0 31 i15x9 rfl)) (fun e u h => h) (fun v u h => ?_)
                  obtain ⟨s36, hI36, hF36, z36, rfl, rfl, i36⟩ := h
                  show GG _ _ _ _ _ _ _ _ [.int z36] _ _ _
                  exact g_ireturn (gd rfl) rfl rfl (hP _ _ ⟨s36, hI36, (fr_tr rfl fr_rf hF36), z36, rfl, rfl, in_w (-1) 1952 i36 rfl⟩)
                · skip
                  exact zn_eq c26 (in_c 1 rfl) rfl

def fm_256_0 : FM := ([9, 10, 11, 12, 13, 14, 15, 39, 40, 41, 42, 43, 44, 45], [105, 106, 107, 108], [(2, 4), (32, 4), (102, 9), (102, 10), (102, 11), (102, 12)], [])
/-- GraphHouse.run -/
theorem k_256_0 {Z : AmZ} {A : Nat → Nat} {s : GS} {ex : va_W} {d : Nat} {x1 : Int32} {x2 : Int32} {x3 : Int32} {x4 : Int64} (hd : 8 ≤ d) (hI : Inv s)  : GC Z d 256 [.ref (A 0), .int x1, .int x2, .int x3, .long x4] (WW Z A s ++ ex) 3 18 (fun v u => ∃ t : GS, Inv t ∧ Fr fm_256_0 s t ∧ ∃ z : Int32, v = some (.int z) ∧ u = WW Z A t ++ ex ∧ In z 0 200) (gE1 Z A ex fm_256_0 s) := by
  intro post xp hP hX
  obtain ⟨u_0_2, e_0_2⟩ : ∃ w, w = s.2.2.1 0 2 := ⟨_, rfl⟩
  have ro_0_2 := inv_F hI (-1) 4000 rfl e_0_2
  refine g_enter2 (k := 256) (N := 900) (by first | exact dq1 hd rfl | exact dq0 hd rfl | exact dq2 hd rfl | exact dq3 hd rfl | omega) rfl (Nat.le_of_ble_eq_true rfl) ?_
  refine g_iload_n 1 (gd rfl) rfl rfl ?_
  refine g_if_lt 4 35 (gd rfl) rfl rfl (fun c1 => ?_) (fun c1 => ?_)
  · skip
    have i1 := z_lt (-2147483648) (-1) c1 (i_rng x1) rfl
    refine g_iconst 0 36 (gd rfl) rfl rfl ?_
    refine g_thr (E := am_IA) (y := yX11_allow) 39 (gd rfl) rfl rfl (Or.inl ⟨rfl, rfl, rfl⟩) (by first | exact dq1 hd rfl | exact dq0 hd rfl | exact dq2 hd rfl | exact dq3 hd rfl | omega) (Nat.le_of_ble_eq_true rfl) (Nat.le_of_ble_eq_true rfl) (Nat.le_of_ble_eq_true rfl) (fun c36 => ?_) (fun c36 => ?_)
    · skip
      exact zn_ne c36 (in_c 0 rfl) rfl
    · skip
      exact (hX _ _ ⟨rfl, s, hI, fr_rf, rfl⟩)
  · skip
    have i1 := z_ge 0 2147483647 c1 (i_rng x1) rfl
    refine g_iload_n 5 (gd rfl) rfl rfl ?_
    refine g_sipush 200 8 (gd rfl) rfl rfl ?_
    refine g_cmp_gt 11 35 (gd rfl) rfl rfl (fun c8 => ?_) (fun c8 => ?_)
    · skip
      have i8 := r_lt2 201 2147483647 c8 (in_c 200 rfl) i1 rfl
      refine g_iconst 0 36 (gd rfl) rfl rfl ?_
      refine g_thr (E := am_IA) (y := yX11_allow) 39 (gd rfl) rfl rfl (Or.inl ⟨rfl, rfl, rfl⟩) (by first | exact dq1 hd rfl | exact dq0 hd rfl | exact dq2 hd rfl | exact dq3 hd rfl | omega) (Nat.le_of_ble_eq_true rfl) (Nat.le_of_ble_eq_true rfl) (Nat.le_of_ble_eq_true rfl) (fun c36 => ?_) (fun c36 => ?_)
      · skip
        exact zn_ne c36 (in_c 0 rfl) rfl
      · skip
        exact (hX _ _ ⟨rfl, s, hI, fr_rf, rfl⟩)
    · skip
      have i8 := r_le1 0 200 c8 i1 (in_c 200 rfl) rfl
      refine g_iload_n 12 (gd rfl) rfl rfl ?_
      refine g_iconst 1 13 (gd rfl) rfl rfl ?_
      refine g_cmp_lt 16 35 (gd rfl) rfl rfl (fun c13 => ?_) (fun c13 => ?_)
      · skip
        have i13 := r_lt1 (-2147483648) 0 c13 (i_rng x2) (in_c 1 rfl) rfl
        refine g_iconst 0 36 (gd rfl) rfl rfl ?_
        refine g_thr (E := am_IA) (y := yX11_allow) 39 (gd rfl) rfl rfl (Or.inl ⟨rfl, rfl, rfl⟩) (by first | exact dq1 hd rfl | exact dq0 hd rfl | exact dq2 hd rfl | exact dq3 hd rfl | omega) (Nat.le_of_ble_eq_true rfl) (Nat.le_of_ble_eq_true rfl) (Nat.le_of_ble_eq_true rfl) (fun c36 => ?_) (fun c36 => ?_)
        · skip
          exact zn_ne c36 (in_c 0 rfl) rfl
        · skip
          exact (hX _ _ ⟨rfl, s, hI, fr_rf, rfl⟩)
      · skip
        have i13 := r_le2 1 2147483647 c13 (in_c 1 rfl) (i_rng x2) rfl
        refine g_iload_n 17 (gd rfl) rfl rfl ?_
        refine g_iconst 4 18 (gd rfl) rfl rfl ?_
        refine g_cmp_gt 21 35 (gd rfl) rfl rfl (fun c18 => ?_) (fun c18 => ?_)
        · skip
          have i18 := r_lt2 5 2147483647 c18 (in_c 4 rfl) i13 rfl
          refine g_iconst 0 36 (gd rfl) rfl rfl ?_
          refine g_thr (E := am_IA) (y := yX11_allow) 39 (gd rfl) rfl rfl (Or.inl ⟨rfl, rfl, rfl⟩) (by first | exact dq1 hd rfl | exact dq0 hd rfl | exact dq2 hd rfl | exact dq3 hd rfl | omega) (Nat.le_of_ble_eq_true rfl) (Nat.le_of_ble_eq_true rfl) (Nat.le_of_ble_eq_true rfl) (fun c36 => ?_) (fun c36 => ?_)
          · skip
            exact zn_ne c36 (in_c 0 rfl) rfl
          · skip
            exact (hX _ _ ⟨rfl, s, hI, fr_rf, rfl⟩)
        · skip
          have i18 := r_le1 1 4 c18 i13 (in_c 4 rfl) rfl
          refine g_iload_n 22 (gd rfl) rfl rfl ?_
          refine g_if_lt 25 35 (gd rfl) rfl rfl (fun c22 => ?_) (fun c22 => ?_)
          · skip
            have i22 := z_lt (-2147483648) (-1) c22 (i_rng x3) rfl
            refine g_iconst 0 36 (gd rfl) rfl rfl ?_
            refine g_thr (E := am_IA) (y := yX11_allow) 39 (gd rfl) rfl rfl (Or.inl ⟨rfl, rfl, rfl⟩) (by first | exact dq1 hd rfl | exact dq0 hd rfl | exact dq2 hd rfl | exact dq3 hd rfl | omega) (Nat.le_of_ble_eq_true rfl) (Nat.le_of_ble_eq_true rfl) (Nat.le_of_ble_eq_true rfl) (fun c36 => ?_) (fun c36 => ?_)
            · skip
              exact zn_ne c36 (in_c 0 rfl) rfl
            · skip
              exact (hX _ _ ⟨rfl, s, hI, fr_rf, rfl⟩)
          · skip
            have i22 := z_ge 0 2147483647 c22 (i_rng x3) rfl
            refine g_iload_n 26 (gd rfl) rfl rfl ?_
            refine g_bipush 90 28 (gd rfl) rfl rfl ?_
            refine g_cmp_gt 31 35 (gd rfl) rfl rfl (fun c28 => ?_) (fun c28 => ?_)
            · skip
              have i28 := r_lt2 91 2147483647 c28 (in_c 90 rfl) i22 rfl
              refine g_iconst 0 36 (gd rfl) rfl rfl ?_
              refine g_thr (E := am_IA) (y := yX11_allow) 39 (gd rfl) rfl rfl (Or.inl ⟨rfl, rfl, rfl⟩) (by first | exact dq1 hd rfl | exact dq0 hd rfl | exact dq2 hd rfl | exact dq3 hd rfl | omega) (Nat.le_of_ble_eq_true rfl) (Nat.le_of_ble_eq_true rfl) (Nat.le_of_ble_eq_true rfl) (fun c36 => ?_) (fun c36 => ?_)
              · skip
                exact zn_ne c36 (in_c 0 rfl) rfl
              · skip
                exact (hX _ _ ⟨rfl, s, hI, fr_rf, rfl⟩)
            · skip
              have i28 := r_le1 0 90 c28 i22 (in_c 90 rfl) rfl
              refine g_iconst 1 32 (gd rfl) rfl rfl ?_
              refine g_goto 36 (gd rfl) rfl ?_
              refine g_thr (E := am_IA) (y := yX11_allow) 39 (gd rfl) rfl rfl (Or.inl ⟨rfl, rfl, rfl⟩) (by first | exact dq1 hd rfl | exact dq0 hd rfl | exact dq2 hd rfl | exact dq3 hd rfl | omega) (Nat.le_of_ble_eq_true rfl) (Nat.le_of_ble_eq_true rfl) (Nat.le_of_ble_eq_true rfl) (fun c36 => ?_) (fun c36 => ?_)
              · skip
                refine g_aload_n 40 (gd rfl) rfl rfl ?_
                refine g_callv (X := _) (As := []) (r := []) (b := A 0) (q := 0) 43 (gd rfl) rfl rfl rfl rfl rfl (ww_o rfl) (Nat.le_of_ble_eq_true rfl) (mc := 0) (ms := 0) (Nat.zero_le _) (Nat.zero_le _) (P := fun v u => _) ?_ (fun e u h => h) (fun v u h => h)
                intro po40 xx40 hp40 hx40
                refine g_enter2 (k := 259) (N := 300) (by first | exact dq1 hd rfl | exact dq0 hd rfl | exact dq2 hd rfl | exact dq3 hd rfl | omega) rfl (Nat.le_of_ble_eq_true rfl) ?_
                refine g_aload_n 1 (gd rfl) rfl rfl ?_
                refine g_getI 4 (gd rfl) rfl rfl rfl (fun z40x1 e40x1 => ?_)
                have q40x1 : u_0_2 = z40x1 := (e_0_2).trans e40x1.symm
                subst q40x1
                refine g_iconst (-1) 5 (gd rfl) rfl rfl ?_
                refine g_cmp_ne 8 18 (gd rfl) rfl rfl (fun c40x5 => ?_) (fun c40x5 => ?_)
                · skip
                  have i40x5 := r_ne1 0 4000 c40x5 ro_0_2 (in_c (-1) rfl) rfl
                  refine g_aload_n 19 (gd rfl) rfl rfl ?_
                  refine g_getA (q2 := 32) 22 (gd rfl) rfl rfl rfl rfl ?_
                  refine g_areturn (gd rfl) rfl (hp40 _ _ ?_)
                  show GG _ _ _ _ _ _ _ _ [.ref (A 32)] _ _ _
                  refine g_astore 45 (gd rfl) rfl (Nat.le_of_ble_eq_true rfl) ?_
                  refine g_aload_n 46 (gd rfl) rfl rfl ?_
                  refine g_getA (q2 := 102) 49 (gd rfl) rfl rfl rfl rfl ?_
                  refine g_aload 51 (gd rfl) rfl rfl ?_
                  refine g_iload_n 52 (gd rfl) rfl rfl ?_
                  refine g_callv (X := _) (As := [.ref (A 32), .int x1]) (r := []) (b := A 102) (q := 102) 55 (gd rfl) rfl rfl rfl rfl rfl (ww_o rfl) (Nat.le_of_ble_eq_true rfl) (Nat.zero_le _) (Nat.zero_le _) (k_63_102_32 (by first | exact dq1 hd rfl | exact dq0 hd rfl | exact dq2 hd rfl | exact dq3 hd rfl | omega) hI (in_w 0 200 i8 rfl)) (fun e u h => h) (fun v u h => ?_)
                  obtain ⟨s52, hI52, hF52, z52, rfl, rfl, i52⟩ := h
                  show GG _ _ _ _ _ _ _ _ [.int z52] _ _ _
                  refine g_istore 57 (gd rfl) rfl (Nat.le_of_ble_eq_true rfl) ?_
                  refine g_aload_n 58 (gd rfl) rfl rfl ?_
                  refine g_getA (q2 := 102) 61 (gd rfl) rfl rfl rfl rfl ?_
                  refine g_aload 63 (gd rfl) rfl rfl ?_
                  refine g_iload 65 (gd rfl) rfl rfl ?_
                  refine g_iload_n 66 (gd rfl) rfl rfl ?_
                  refine g_iload_n 67 (gd rfl) rfl rfl ?_
                  refine g_lload 69 (gd rfl) rfl rfl ?_
                  refine g_callv (X := _) (As := [.ref (A 32), .int z52, .int x2, .int x3, .long x4]) (r := []) (b := A 102) (q := 102) 72 (gd rfl) rfl rfl rfl rfl rfl (ww_o rfl) (Nat.le_of_ble_eq_true rfl) (Nat.zero_le _) (Nat.zero_le _) (k_70_102_32 (by first | exact dq1 hd rfl | exact dq0 hd rfl | exact dq2 hd rfl | exact dq3 hd rfl | omega) hI52 (in_w 0 200 i52 rfl) (in_w 1 4 i18 rfl) (in_w 0 90 i28 rfl)) (fun e u h => h) (fun v u h => ?_)
                  obtain ⟨s69, hI69, hF69, rfl, rfl⟩ := h
                  show GG _ _ _ _ _ _ _ _ [] _ _ _
                  refine g_iload 74 (gd rfl) rfl rfl ?_
                  exact g_ireturn (gd rfl) rfl rfl (hP _ _ ⟨s69, hI69, (fr_tr rfl (fr_tr rfl fr_rf hF52) hF69), z52, rfl, rfl, in_w 0 200 i52 rfl⟩)
                · skip
                  have i40x5 := r_eq1 (-1) (-1) c40x5 ro_0_2 (in_c (-1) rfl) rfl
                  refine g_aload_n 9 (gd rfl) rfl rfl ?_
                  refine g_getA (q2 := 1) 12 (gd rfl) rfl rfl rfl rfl ?_
                  refine g_getA (q2 := 2) 15 (gd rfl) rfl rfl rfl rfl ?_
                  refine g_goto 22 (gd rfl) rfl ?_
                  refine g_areturn (gd rfl) rfl (hp40 _ _ ?_)
                  show GG _ _ _ _ _ _ _ _ [.ref (A 2)] _ _ _
                  refine g_astore 45 (gd rfl) rfl (Nat.le_of_ble_eq_true rfl) ?_
                  refine g_aload_n 46 (gd rfl) rfl rfl ?_
                  refine g_getA (q2 := 102) 49 (gd rfl) rfl rfl rfl rfl ?_
                  refine g_aload 51 (gd rfl) rfl rfl ?_
                  refine g_iload_n 52 (gd rfl) rfl rfl ?_
                  refine g_callv (X := _) (As := [.ref (A 2), .int x1]) (r := []) (b := A 102) (q := 102) 55 (gd rfl) rfl rfl rfl rfl rfl (ww_o rfl) (Nat.le_of_ble_eq_true rfl) (Nat.zero_le _) (Nat.zero_le _) (k_63_102_2 (by first | exact dq1 hd rfl | exact dq0 hd rfl | exact dq2 hd rfl | exact dq3 hd rfl | omega) hI (in_w 0 200 i8 rfl)) (fun e u h => h) (fun v u h => ?_)
                  obtain ⟨s52, hI52, hF52, z52, rfl, rfl, i52⟩ := h
                  show GG _ _ _ _ _ _ _ _ [.int z52] _ _ _
                  refine g_istore 57 (gd rfl) rfl (Nat.le_of_ble_eq_true rfl) ?_
                  refine g_aload_n 58 (gd rfl) rfl rfl ?_
                  refine g_getA (q2 := 102) 61 (gd rfl) rfl rfl rfl rfl ?_
                  refine g_aload 63 (gd rfl) rfl rfl ?_
                  refine g_iload 65 (gd rfl) rfl rfl ?_
                  refine g_iload_n 66 (gd rfl) rfl rfl ?_
                  refine g_iload_n 67 (gd rfl) rfl rfl ?_
                  refine g_lload 69 (gd rfl) rfl rfl ?_
                  refine g_callv (X := _) (As := [.ref (A 2), .int z52, .int x2, .int x3, .long x4]) (r := []) (b := A 102) (q := 102) 72 (gd rfl) rfl rfl rfl rfl rfl (ww_o rfl) (Nat.le_of_ble_eq_true rfl) (Nat.zero_le _) (Nat.zero_le _) (k_70_102_2 (by first | exact dq1 hd rfl | exact dq0 hd rfl | exact dq2 hd rfl | exact dq3 hd rfl | omega) hI52 (in_w 0 200 i52 rfl) (in_w 1 4 i18 rfl) (in_w 0 90 i28 rfl)) (fun e u h => h) (fun v u h => ?_)
                  obtain ⟨s69, hI69, hF69, rfl, rfl⟩ := h
                  show GG _ _ _ _ _ _ _ _ [] _ _ _
                  refine g_iload 74 (gd rfl) rfl rfl ?_
                  exact g_ireturn (gd rfl) rfl rfl (hP _ _ ⟨s69, hI69, (fr_tr rfl (fr_tr rfl fr_rf hF52) hF69), z52, rfl, rfl, in_w 0 200 i52 rfl⟩)
              · skip
                exact zn_eq c36 (in_c 1 rfl) rfl
end
section
/-! methods, by vc.py -/
def fm_299 : FM := ([], [], [(109, 23), (109, 24), (109, 27), (109, 28), (109, 29), (109, 30)], [(109, 31)])
end
section
/-! methods, by vc.py -/
def fm_304 : FM := ([110, 112, 127, 128], [], [(109, 23), (109, 24), (109, 27), (109, 28), (109, 29), (109, 30), (109, 32)], [(109, 31)])
def fm_320 : FM := ([134], [135], [(109, 40)], [])
/-- GraphHouseModel.findShorts -/
theorem k_320 {Z : AmZ} {A : Nat → Nat} {s : GS} {ex : va_W} {d : Nat} {X : AmX} {x1 : Int32} {x2 : Int32} (hd : 6 ≤ d) (hI : Inv s) (h1 : In x1 0 31) (h2 : In x2 0 31) : GC Z d 320 [.ref (A 109), .int x1, .int x2] (WW Z A s ++ ex) 0 0 (fun v u => ∃ t : GS, Inv t ∧ Fr fm_320 s t ∧ v = none ∧ u = WW Z A t ++ ex) X := by
  intro post xp hP hX
  obtain ⟨u_109_19, e_109_19⟩ : ∃ w, w = s.2.2.1 109 19 := ⟨_, rfl⟩
  have ro_109_19 := inv_F hI 0 160 rfl e_109_19
  have ct7 : ∀ (k7 : Nat) (sc7 : GS) (y7_3 : Int32), Inv sc7 → Fr fm_320 s sc7 → (In y7_3 0 160) → 160 - (y7_3).toInt < (k7 : Int) → GG Z (d - 1) 320 post (gx xp) (1 + k7 * 900) 7 (fun j => xlook j [(0, .ref (A 109)), (1, .int x1), (2, .int x2), (3, .int y7_3)]) [] (WW Z A sc7 ++ ex) 0 0 := by
    intro k7
    induction k7 with
    | zero => intro sc7 y7_3 hIc7 hFc7 j7_3 mm7; exact m_no mm7 j7_3 rfl
    | succ k7 ih7 =>
      intro sc7 y7_3 hIc7 hFc7 j7_3 mm7
      refine gg_w (M := 1 + k7 * 900 + 900) gws ?_
      refine g_iload_n 8 (gd rfl) rfl rfl ?_
      refine g_sipush 160 11 (gd rfl) rfl rfl ?_
      refine g_cmp_ge 14 89 (gd rfl) rfl rfl (fun c11 => ?_) (fun c11 => ?_)
      · skip
        have i11 := r_le2 160 160 c11 (in_c 160 rfl) j7_3 rfl
        exact g_return (gd rfl) rfl (hP _ _ ⟨sc7, hIc7, hFc7, rfl, rfl⟩)
      · skip
        have i11 := r_lt1 0 159 c11 j7_3 (in_c 160 rfl) rfl
        refine g_aload_n 15 (gd rfl) rfl rfl ?_
        refine g_getI 18 (gd rfl) rfl rfl rfl (fun z15 e15 => ?_)
        have i15 := inv_F hIc7 0 2001 rfl e15
        refine g_sipush 2000 21 (gd rfl) rfl rfl ?_
        refine g_cmp_gt 24 89 (gd rfl) rfl rfl (fun c21 => ?_) (fun c21 => ?_)
        · skip
          have i21 := r_lt2 2001 2001 c21 (in_c 2000 rfl) i15 rfl
          exact g_return (gd rfl) rfl (hP _ _ ⟨sc7, hIc7, hFc7, rfl, rfl⟩)
        · skip
          have i21 := r_le1 0 2000 c21 i15 (in_c 2000 rfl) rfl
          refine g_aload_n 25 (gd rfl) rfl rfl ?_
          refine g_iload_n 26 (gd rfl) rfl rfl ?_
          refine g_iload_n 27 (gd rfl) rfl rfl ?_
          refine g_iconst 1 28 (gd rfl) rfl rfl ?_
          refine g_iload_n 29 (gd rfl) rfl rfl ?_
          refine g_ishl 30 (gd rfl) rfl (fun z29 e29 => ?_)
          refine g_callv (X := _) (As := [.int y7_3, .int x1, .int z29]) (r := []) (b := A 109) (q := 109) 33 (gd rfl) rfl rfl rfl rfl rfl (ww_o rfl) (Nat.le_of_ble_eq_true rfl) (mc := 0) (ms := 0) (Nat.zero_le _) (Nat.zero_le _) (P := fun v u => _) ?_ (fun e u h => h) (fun v u h => h)
          intro po30 xx30 hp30 hx30
          refine g_enter2 (k := 319) (N := 300) (by first | exact dq1 hd rfl | exact dq0 hd rfl | exact dq2 hd rfl | exact dq3 hd rfl | omega) rfl (Nat.le_of_ble_eq_true rfl) ?_
          refine g_aload_n 1 (gd rfl) rfl rfl ?_
          refine g_getA (q2 := 112) 4 (gd rfl) rfl rfl rfl rfl ?_
          refine g_aload_n 5 (gd rfl) rfl rfl ?_
          refine g_getI 8 (gd rfl) rfl rfl rfl (fun z30x5 e30x5 => ?_)
          have q30x5 : u_109_19 = z30x5 := (fr_F e_109_19 hFc7 rfl).trans e30x5.symm
          subst q30x5
          refine g_iload_n 9 (gd rfl) rfl rfl ?_
          refine g_iadd 10 (gd rfl) rfl (fun z30x9 e30x9 => ?_)
          have i30x9 := in_add 0 319 e30x9 ro_109_19 i11 rfl rfl
          refine g_baload 11 (gd rfl) rfl (n := 480) rfl (in_ix i30x9 rfl) (fun z30x10 e30x10 => ?_)
          have i30x10 := inv_I hIc7 (n := 480) (t := 3) 0 1 rfl (in_ix i30x9 rfl) rfl e30x10
          refine g_if_eq 14 51 (gd rfl) rfl rfl (fun c30x11 => ?_) (fun c30x11 => ?_)
          · skip
            have i30x11 := z_eq 0 0 c30x11 i30x10 rfl
            refine g_iconst 0 52 (gd rfl) rfl rfl ?_
            refine g_ireturn (gd rfl) rfl (nb01 (in_w 0 1 (in_c 0 rfl) rfl)) (hp30 _ _ ?_)
            show GG _ _ _ _ _ _ _ _ [.int (Int32.ofInt 0)] _ _ _
            refine g_if_eq 36 83 (gd rfl) rfl rfl (fun c33 => ?_) (fun c33 => ?_)
            · skip
              refine g_iinc 86 (gd rfl) rfl rfl (Nat.le_of_ble_eq_true rfl) (fun z83 e83 => ?_)
              have i83 := in_add 1 160 e83 i11 (in_c 1 rfl) rfl rfl
              refine g_goto 7 (gd rfl) rfl ?_
              exact gg_w (by first | exact Nat.le_add_right _ _ | exact gw2 | exact gw3 | exact gwe rfl | exact gwf rfl | exact gwg rfl | exact gwh rfl | omega) (gg_f (gf_cons rfl (gf_cons rfl (gf_cons rfl (gf_cons rfl gf_nil)))) (ih7 sc7 z83 hIc7 hFc7 (in_w 0 160 i83 rfl) (m_up mm7 (t_add e83 i11 (in_c 1 rfl) rfl) (in_w 1 1 (in_c 1 rfl) rfl))))
            · skip
              exact zn_ne c33 (in_c 0 rfl) rfl
          · skip
            have i30x11 := z_ne 1 1 c30x11 i30x10 rfl
            refine g_aload_n 15 (gd rfl) rfl rfl ?_
            refine g_getA (q2 := 113) 18 (gd rfl) rfl rfl rfl rfl ?_
            refine g_aload_n 19 (gd rfl) rfl rfl ?_
            refine g_getI 22 (gd rfl) rfl rfl rfl (fun z30x19 e30x19 => ?_)
            have q30x19 : u_109_19 = z30x19 := (fr_F e_109_19 hFc7 rfl).trans e30x19.symm
            subst q30x19
            refine g_iload_n 23 (gd rfl) rfl rfl ?_
            refine g_iadd 24 (gd rfl) rfl (fun z30x23 e30x23 => ?_)
            have i30x23 := in_add 0 319 e30x23 ro_109_19 i11 rfl rfl
            refine g_iaload 25 (gd rfl) rfl (n := 480) rfl (in_ix i30x23 rfl) (fun z30x24 e30x24 => ?_)
            have i30x24 := inv_I hIc7 (n := 480) (t := 0) 0 31 rfl (in_ix i30x23 rfl) rfl e30x24
            refine g_iload_n 26 (gd rfl) rfl rfl ?_
            refine g_cmp_ne 29 51 (gd rfl) rfl rfl (fun c30x26 => ?_) (fun c30x26 => ?_)
            · skip
              refine g_iconst 0 52 (gd rfl) rfl rfl ?_
              refine g_ireturn (gd rfl) rfl (nb01 (in_w 0 1 (in_c 0 rfl) rfl)) (hp30 _ _ ?_)
              show GG _ _ _ _ _ _ _ _ [.int (Int32.ofInt 0)] _ _ _
              refine g_if_eq 36 83 (gd rfl) rfl rfl (fun c33 => ?_) (fun c33 => ?_)
              · skip
                refine g_iinc 86 (gd rfl) rfl rfl (Nat.le_of_ble_eq_true rfl) (fun z83 e83 => ?_)
                have i83 := in_add 1 160 e83 i11 (in_c 1 rfl) rfl rfl
                refine g_goto 7 (gd rfl) rfl ?_
                exact gg_w (by first | exact Nat.le_add_right _ _ | exact gw2 | exact gw3 | exact gwe rfl | exact gwf rfl | exact gwg rfl | exact gwh rfl | omega) (gg_f (gf_cons rfl (gf_cons rfl (gf_cons rfl (gf_cons rfl gf_nil)))) (ih7 sc7 z83 hIc7 hFc7 (in_w 0 160 i83 rfl) (m_up mm7 (t_add e83 i11 (in_c 1 rfl) rfl) (in_w 1 1 (in_c 1 rfl) rfl))))
              · skip
                exact zn_ne c33 (in_c 0 rfl) rfl
            · skip
              refine g_iload_n 30 (gd rfl) rfl rfl ?_
              refine g_aload_n 31 (gd rfl) rfl rfl ?_
              refine g_getA (q2 := 114) 34 (gd rfl) rfl rfl rfl rfl ?_
              refine g_aload_n 35 (gd rfl) rfl rfl ?_
              refine g_getI 38 (gd rfl) rfl rfl rfl (fun z30x35 e30x35 => ?_)
              have q30x35 : u_109_19 = z30x35 := (fr_F e_109_19 hFc7 rfl).trans e30x35.symm
              subst q30x35
              refine g_iload_n 39 (gd rfl) rfl rfl ?_
              refine g_iadd 40 (gd rfl) rfl (fun z30x39 e30x39 => ?_)
              have i30x39 := in_add 0 319 e30x39 ro_109_19 i11 rfl rfl
              refine g_iaload 41 (gd rfl) rfl (n := 480) rfl (in_ix i30x39 rfl) (fun z30x40 e30x40 => ?_)
              have i30x40 := inv_I hIc7 (n := 480) (t := 0) 0 31 rfl (in_ix i30x39 rfl) rfl e30x40
              refine g_calls (As := [.int z29, .int z30x40]) (r := []) 44 (gd rfl) rfl rfl rfl rfl rfl (Nat.le_of_ble_eq_true rfl) (mc := 0) (ms := 0) (Nat.zero_le _) (Nat.zero_le _) (P := fun v u => _) ?_ (fun v u h => h)
              intro po30x41 xx30x41 hp30x41 hx30x41
              refine g_enter2 (k := 311) (N := 300) (by first | exact dq1 hd rfl | exact dq0 hd rfl | exact dq2 hd rfl | exact dq3 hd rfl | omega) rfl (Nat.le_of_ble_eq_true rfl) ?_
              refine g_iload_n 1 (gd rfl) rfl rfl ?_
              refine g_iload_n 2 (gd rfl) rfl rfl ?_
              refine g_ishr 3 (gd rfl) rfl (fun z30x41x2 e30x41x2 => ?_)
              refine g_iconst 1 4 (gd rfl) rfl rfl ?_
              refine g_iand 5 (gd rfl) rfl (fun z30x41x4 e30x41x4 => ?_)
              have i30x41x4 := in_and2 e30x41x4 (in_c 1 rfl) rfl
              refine g_iconst 1 6 (gd rfl) rfl rfl ?_
              refine g_cmp_ne 9 13 (gd rfl) rfl rfl (fun c30x41x6 => ?_) (fun c30x41x6 => ?_)
              · skip
                have i30x41x6 := r_ne1 0 0 c30x41x6 i30x41x4 (in_c 1 rfl) rfl
                refine g_iconst 0 14 (gd rfl) rfl rfl ?_
                refine g_ireturn (gd rfl) rfl (nb01 (in_w 0 1 (in_c 0 rfl) rfl)) (hp30x41 _ _ ?_)
                show GG _ _ _ _ _ _ _ _ [.int (Int32.ofInt 0)] _ _ _
                refine g_if_ne 47 51 (gd rfl) rfl rfl (fun c30x44 => ?_) (fun c30x44 => ?_)
                · skip
                  exact zn_ne c30x44 (in_c 0 rfl) rfl
                · skip
                  refine g_iconst 1 48 (gd rfl) rfl rfl ?_
                  refine g_goto 52 (gd rfl) rfl ?_
                  refine g_ireturn (gd rfl) rfl (nb01 (in_w 0 1 (in_c 1 rfl) rfl)) (hp30 _ _ ?_)
                  show GG _ _ _ _ _ _ _ _ [.int (Int32.ofInt 1)] _ _ _
                  refine g_if_eq 36 83 (gd rfl) rfl rfl (fun c33 => ?_) (fun c33 => ?_)
                  · skip
                    exact zn_eq c33 (in_c 1 rfl) rfl
                  · skip
                    refine g_aload_n 37 (gd rfl) rfl rfl ?_
                    refine g_getA (q2 := 114) 40 (gd rfl) rfl rfl rfl rfl ?_
                    refine g_aload_n 41 (gd rfl) rfl rfl ?_
                    refine g_getI 44 (gd rfl) rfl rfl rfl (fun z41 e41 => ?_)
                    have q41 : u_109_19 = z41 := (fr_F e_109_19 hFc7 rfl).trans e41.symm
                    subst q41
                    refine g_iload_n 45 (gd rfl) rfl rfl ?_
                    refine g_iadd 46 (gd rfl) rfl (fun z45 e45 => ?_)
                    have i45 := in_add 0 319 e45 ro_109_19 i11 rfl rfl
                    refine g_iaload 47 (gd rfl) rfl (n := 480) rfl (in_ix i45 rfl) (fun z46 e46 => ?_)
                    have i46 := inv_I hIc7 (n := 480) (t := 0) 0 31 rfl (in_ix i45 rfl) rfl e46
                    refine g_istore 49 (gd rfl) rfl (Nat.le_of_ble_eq_true rfl) ?_
                    refine g_iload 51 (gd rfl) rfl rfl ?_
                    refine g_iload_n 52 (gd rfl) rfl rfl ?_
                    refine g_cmp_ne 55 67 (gd rfl) rfl rfl (fun c52 => ?_) (fun c52 => ?_)
                    · skip
                      refine g_aload_n 68 (gd rfl) rfl rfl ?_
                      refine g_iload_n 69 (gd rfl) rfl rfl ?_
                      refine g_iload 71 (gd rfl) rfl rfl ?_
                      refine g_iconst 1 72 (gd rfl) rfl rfl ?_
                      refine g_iload_n 73 (gd rfl) rfl rfl ?_
                      refine g_ishl 74 (gd rfl) rfl (fun z73 e73 => ?_)
                      refine g_iconst 1 75 (gd rfl) rfl rfl ?_
                      refine g_iload 77 (gd rfl) rfl rfl ?_
                      refine g_ishl 78 (gd rfl) rfl (fun z77 e77 => ?_)
                      refine g_ior 79 (gd rfl) rfl (fun z78 e78 => ?_)
                      refine g_iload_n 80 (gd rfl) rfl rfl ?_
                      refine g_callv (X := _) (As := [.int y7_3, .int z46, .int z78, .int x2]) (r := []) (b := A 109) (q := 109) 83 (gd rfl) rfl rfl rfl rfl rfl (ww_o rfl) (Nat.le_of_ble_eq_true rfl) (Nat.zero_le _) (Nat.zero_le _) (k_321 (by first | exact dq1 hd rfl | exact dq0 hd rfl | exact dq2 hd rfl | exact dq3 hd rfl | omega) hIc7 (in_w 0 159 i11 rfl) (in_w 0 31 i46 rfl) (in_w 0 31 h2 rfl)) (fun e u h => h) (fun v u h => ?_)
                      obtain ⟨s80, hI80, hF80, rfl, rfl⟩ := h
                      show GG _ _ _ _ _ _ _ _ [] _ _ _
                      refine g_iinc 86 (gd rfl) rfl rfl (Nat.le_of_ble_eq_true rfl) (fun z83 e83 => ?_)
                      have i83 := in_add 1 160 e83 i11 (in_c 1 rfl) rfl rfl
                      refine g_goto 7 (gd rfl) rfl ?_
                      exact gg_w (by first | exact Nat.le_add_right _ _ | exact gw2 | exact gw3 | exact gwe rfl | exact gwf rfl | exact gwg rfl | exact gwh rfl | omega) (gg_f (gf_cons rfl (gf_cons rfl (gf_cons rfl (gf_cons rfl gf_nil)))) (ih7 s80 z83 hI80 (fr_tr rfl hFc7 hF80) (in_w 0 160 i83 rfl) (m_up mm7 (t_add e83 i11 (in_c 1 rfl) rfl) (in_w 1 1 (in_c 1 rfl) rfl))))
                    · skip
                      refine g_aload_n 56 (gd rfl) rfl rfl ?_
                      refine g_iconst 1 57 (gd rfl) rfl rfl ?_
                      refine g_iload_n 58 (gd rfl) rfl rfl ?_
                      refine g_iconst 0 59 (gd rfl) rfl rfl ?_
                      refine g_iconst 0 60 (gd rfl) rfl rfl ?_
                      refine g_iconst 0 61 (gd rfl) rfl rfl ?_
                      refine g_callv (X := _) (As := [.int (Int32.ofInt 1), .int y7_3, .int (Int32.ofInt 0), .int (Int32.ofInt 0), .int (Int32.ofInt 0)]) (r := []) (b := A 109) (q := 109) 64 (gd rfl) rfl rfl rfl rfl rfl (ww_o rfl) (Nat.le_of_ble_eq_true rfl) (Nat.zero_le _) (Nat.zero_le _) (k_318 (by first | exact dq1 hd rfl | exact dq0 hd rfl | exact dq2 hd rfl | exact dq3 hd rfl | omega) hIc7 (in_w 1 4 (in_c 1 rfl) rfl) (in_w 0 159 i11 rfl) (in_w 0 159 (in_c 0 rfl) rfl) (in_w 0 159 (in_c 0 rfl) rfl) (in_w 0 159 (in_c 0 rfl) rfl)) (fun e u h => h) (fun v u h => ?_)
                      obtain ⟨s61, hI61, hF61, rfl, rfl⟩ := h
                      show GG _ _ _ _ _ _ _ _ [] _ _ _
                      refine g_goto 83 (gd rfl) rfl ?_
                      refine g_iinc 86 (gd rfl) rfl rfl (Nat.le_of_ble_eq_true rfl) (fun z83 e83 => ?_)
                      have i83 := in_add 1 160 e83 i11 (in_c 1 rfl) rfl rfl
                      refine g_goto 7 (gd rfl) rfl ?_
                      exact gg_w (by first | exact Nat.le_add_right _ _ | exact gw2 | exact gw3 | exact gwe rfl | exact gwf rfl | exact gwg rfl | exact gwh rfl | omega) (gg_f (gf_cons rfl (gf_cons rfl (gf_cons rfl (gf_cons rfl gf_nil)))) (ih7 s61 z83 hI61 (fr_tr rfl hFc7 hF61) (in_w 0 160 i83 rfl) (m_up mm7 (t_add e83 i11 (in_c 1 rfl) rfl) (in_w 1 1 (in_c 1 rfl) rfl))))
              · skip
                have i30x41x6 := r_eq1 1 1 c30x41x6 i30x41x4 (in_c 1 rfl) rfl
                refine g_iconst 1 10 (gd rfl) rfl rfl ?_
                refine g_goto 14 (gd rfl) rfl ?_
                refine g_ireturn (gd rfl) rfl (nb01 (in_w 0 1 (in_c 1 rfl) rfl)) (hp30x41 _ _ ?_)
                show GG _ _ _ _ _ _ _ _ [.int (Int32.ofInt 1)] _ _ _
                refine g_if_ne 47 51 (gd rfl) rfl rfl (fun c30x44 => ?_) (fun c30x44 => ?_)
                · skip
                  refine g_iconst 0 52 (gd rfl) rfl rfl ?_
                  refine g_ireturn (gd rfl) rfl (nb01 (in_w 0 1 (in_c 0 rfl) rfl)) (hp30 _ _ ?_)
                  show GG _ _ _ _ _ _ _ _ [.int (Int32.ofInt 0)] _ _ _
                  refine g_if_eq 36 83 (gd rfl) rfl rfl (fun c33 => ?_) (fun c33 => ?_)
                  · skip
                    refine g_iinc 86 (gd rfl) rfl rfl (Nat.le_of_ble_eq_true rfl) (fun z83 e83 => ?_)
                    have i83 := in_add 1 160 e83 i11 (in_c 1 rfl) rfl rfl
                    refine g_goto 7 (gd rfl) rfl ?_
                    exact gg_w (by first | exact Nat.le_add_right _ _ | exact gw2 | exact gw3 | exact gwe rfl | exact gwf rfl | exact gwg rfl | exact gwh rfl | omega) (gg_f (gf_cons rfl (gf_cons rfl (gf_cons rfl (gf_cons rfl gf_nil)))) (ih7 sc7 z83 hIc7 hFc7 (in_w 0 160 i83 rfl) (m_up mm7 (t_add e83 i11 (in_c 1 rfl) rfl) (in_w 1 1 (in_c 1 rfl) rfl))))
                  · skip
                    exact zn_ne c33 (in_c 0 rfl) rfl
                · skip
                  exact zn_eq c30x44 (in_c 1 rfl) rfl
  refine g_enter2 (k := 320) (N := 145801) (by first | exact dq1 hd rfl | exact dq0 hd rfl | exact dq2 hd rfl | exact dq3 hd rfl | omega) rfl (Nat.le_of_ble_eq_true rfl) ?_
  refine g_aload_n 1 (gd rfl) rfl rfl ?_
  refine g_iconst 0 2 (gd rfl) rfl rfl ?_
  refine g_putI 5 (gd rfl) rfl rfl rfl rfl ?_
  have hI2 := inv_sF (q := 109) (j := 40) hI rfl (in_w 0 2001 (in_c 0 rfl) rfl)
  refine g_iconst 0 6 (gd rfl) rfl rfl ?_
  refine g_istore_n 7 (gd rfl) rfl (Nat.le_of_ble_eq_true rfl) ?_
  exact gg_w (by first | exact Nat.le_of_ble_eq_true rfl | omega) (gg_f (gf_cons rfl (gf_cons rfl (gf_cons rfl (gf_cons rfl gf_nil)))) (ct7 161 (sF s 109 40 (Int32.ofInt 0)) (Int32.ofInt 0) hI2 (fr_sF rfl fr_rf) (in_w 0 160 (in_c 0 rfl) rfl) (m_in 161 (in_w 0 160 (in_c 0 rfl) rfl) rfl)))
end
section
/-! methods, by vc.py -/
def fm_325 : FM := ([134], [135], [(109, 0), (109, 40)], [])
def fm_326 : FM := ([134, 136, 137], [135], [(109, 0), (109, 40)], [])
/-- GraphHouseModel.shortArc -/
theorem k_326 {Z : AmZ} {A : Nat → Nat} {s : GS} {ex : va_W} {d : Nat} {X : AmX} {x1 : Int32} {x2 : Int32} {x3 : Int32} {x4 : Int32} (hd : 7 ≤ d) (hI : Inv s)  : GC Z d 326 [.ref (A 109), .int x1, .int x2, .int x3, .int x4] (WW Z A s ++ ex) 0 0 (fun v u => ∃ t : GS, Inv t ∧ Fr fm_326 s t ∧ ∃ z : Int32, v = some (.int z) ∧ u = WW Z A t ++ ex ∧ In z (-1) 159) X := by
  intro post xp hP hX
  obtain ⟨u_109_20, e_109_20⟩ : ∃ w, w = s.2.2.1 109 20 := ⟨_, rfl⟩
  have ro_109_20 := inv_F hI 0 32 rfl e_109_20
  refine g_enter2 (k := 326) (N := 900) (by first | exact dq1 hd rfl | exact dq0 hd rfl | exact dq2 hd rfl | exact dq3 hd rfl | omega) rfl (Nat.le_of_ble_eq_true rfl) ?_
  refine g_aload_n 1 (gd rfl) rfl rfl ?_
  refine g_aload_n 2 (gd rfl) rfl rfl ?_
  refine g_iload_n 3 (gd rfl) rfl rfl ?_
  refine g_callv (X := _) (As := [.int x1]) (r := [.ref (A 109)]) (b := A 109) (q := 109) 6 (gd rfl) rfl rfl rfl rfl rfl (ww_o rfl) (Nat.le_of_ble_eq_true rfl) (mc := 0) (ms := 0) (Nat.zero_le _) (Nat.zero_le _) (P := fun v u => _) ?_ (fun e u h => h) (fun v u h => h)
  intro po3 xx3 hp3 hx3
  refine g_enter2 (k := 272) (N := 300) (by first | exact dq1 hd rfl | exact dq0 hd rfl | exact dq2 hd rfl | exact dq3 hd rfl | omega) rfl (Nat.le_of_ble_eq_true rfl) ?_
  refine g_iload_n 1 (gd rfl) rfl rfl ?_
  refine g_if_lt 4 16 (gd rfl) rfl rfl (fun c3x1 => ?_) (fun c3x1 => ?_)
  · skip
    have i3x1 := z_lt (-2147483648) (-1) c3x1 (i_rng x1) rfl
    refine g_iconst 0 17 (gd rfl) rfl rfl ?_
    refine g_ireturn (gd rfl) rfl (nb01 (in_w 0 1 (in_c 0 rfl) rfl)) (hp3 _ _ ?_)
    show GG _ _ _ _ _ _ _ _ [.int (Int32.ofInt 0), .ref (A 109)] _ _ _
    refine g_if_eq 9 35 (gd rfl) rfl rfl (fun c6 => ?_) (fun c6 => ?_)
    · skip
      refine g_iconst 0 36 (gd rfl) rfl rfl ?_
      refine g_callv (X := _) (As := [.int (Int32.ofInt 0)]) (r := []) (b := A 109) (q := 109) 39 (gd rfl) rfl rfl rfl rfl rfl (ww_o rfl) (Nat.le_of_ble_eq_true rfl) (mc := 0) (ms := 0) (Nat.zero_le _) (Nat.zero_le _) (P := fun v u => _) ?_ (fun e u h => h) (fun v u h => h)
      intro po36 xx36 hp36 hx36
      refine g_enter2 (k := 271) (N := 300) (by first | exact dq1 hd rfl | exact dq0 hd rfl | exact dq2 hd rfl | exact dq3 hd rfl | omega) rfl (Nat.le_of_ble_eq_true rfl) ?_
      refine g_aload_n 1 (gd rfl) rfl rfl ?_
      refine g_iload_n 2 (gd rfl) rfl rfl ?_
      refine g_iconst 1 3 (gd rfl) rfl rfl ?_
      refine g_callv (X := _) (As := [.int (Int32.ofInt 0), .int (Int32.ofInt 1)]) (r := []) (b := A 109) (q := 109) 6 (gd rfl) rfl rfl rfl rfl rfl (ww_o rfl) (Nat.le_of_ble_eq_true rfl) (mc := 0) (ms := 0) (Nat.zero_le _) (Nat.zero_le _) (P := fun v u => _) ?_ (fun e u h => h) (fun v u h => h)
      intro po36x3 xx36x3 hp36x3 hx36x3
      refine g_enter2 (k := 270) (N := 300) (by first | exact dq1 hd rfl | exact dq0 hd rfl | exact dq2 hd rfl | exact dq3 hd rfl | omega) rfl (Nat.le_of_ble_eq_true rfl) ?_
      refine g_aload_n 1 (gd rfl) rfl rfl ?_
      refine g_iload_n 2 (gd rfl) rfl rfl ?_
      refine g_if_ne 5 9 (gd rfl) rfl rfl (fun c36x3x2 => ?_) (fun c36x3x2 => ?_)
      · skip
        exact zn_ne c36x3x2 (in_c 0 rfl) rfl
      · skip
        refine g_iconst 1 6 (gd rfl) rfl rfl ?_
        refine g_goto 18 (gd rfl) rfl ?_
        refine g_putI 21 (gd rfl) rfl rfl rfl rfl ?_
        have hI36x3x18 := inv_sF (q := 109) (j := 0) hI rfl (in_w 0 2 (in_c 1 rfl) rfl)
        refine g_aload_n 22 (gd rfl) rfl rfl ?_
        refine g_getI 25 (gd rfl) rfl rfl rfl (fun z36x3x22 e36x3x22 => ?_)
        have q36x3x22 : (Int32.ofInt 1) = z36x3x22 := (sF_get).trans e36x3x22.symm
        subst q36x3x22
        refine g_if_le 28 32 (gd rfl) rfl rfl (fun c36x3x25 => ?_) (fun c36x3x25 => ?_)
        · skip
          exact zn_le c36x3x25 (in_c 1 rfl) rfl
        · skip
          refine g_iconst 1 29 (gd rfl) rfl rfl ?_
          refine g_goto 33 (gd rfl) rfl ?_
          refine g_ireturn (gd rfl) rfl (nb01 (in_w 0 1 (in_c 1 rfl) rfl)) (hp36x3 _ _ ?_)
          show GG _ _ _ _ _ _ _ _ [.int (Int32.ofInt 1)] _ _ _
          refine g_ireturn (gd rfl) rfl (nb01 (in_w 0 1 (in_c 1 rfl) rfl)) (hp36 _ _ ?_)
          show GG _ _ _ _ _ _ _ _ [.int (Int32.ofInt 1)] _ _ _
          refine g_if_eq 42 44 (gd rfl) rfl rfl (fun c39 => ?_) (fun c39 => ?_)
          · skip
            exact zn_eq c39 (in_c 1 rfl) rfl
          · skip
            refine g_iconst 0 43 (gd rfl) rfl rfl ?_
            exact g_ireturn (gd rfl) rfl rfl (hP _ _ ⟨(sF s 109 0 (Int32.ofInt 1)), hI36x3x18, (fr_sF rfl fr_rf), (Int32.ofInt 0), rfl, rfl, in_w (-1) 159 (in_c 0 rfl) rfl⟩)
    · skip
      exact zn_ne c6 (in_c 0 rfl) rfl
  · skip
    have i3x1 := z_ge 0 2147483647 c3x1 (i_rng x1) rfl
    refine g_iload_n 5 (gd rfl) rfl rfl ?_
    refine g_aload_n 6 (gd rfl) rfl rfl ?_
    refine g_getI 9 (gd rfl) rfl rfl rfl (fun z3x6 e3x6 => ?_)
    have q3x6 : u_109_20 = z3x6 := (e_109_20).trans e3x6.symm
    subst q3x6
    refine g_cmp_ge 12 16 (gd rfl) rfl rfl (fun c3x9 => ?_) (fun c3x9 => ?_)
    · skip
      refine g_iconst 0 17 (gd rfl) rfl rfl ?_
      refine g_ireturn (gd rfl) rfl (nb01 (in_w 0 1 (in_c 0 rfl) rfl)) (hp3 _ _ ?_)
      show GG _ _ _ _ _ _ _ _ [.int (Int32.ofInt 0), .ref (A 109)] _ _ _
      refine g_if_eq 9 35 (gd rfl) rfl rfl (fun c6 => ?_) (fun c6 => ?_)
      · skip
        refine g_iconst 0 36 (gd rfl) rfl rfl ?_
        refine g_callv (X := _) (As := [.int (Int32.ofInt 0)]) (r := []) (b := A 109) (q := 109) 39 (gd rfl) rfl rfl rfl rfl rfl (ww_o rfl) (Nat.le_of_ble_eq_true rfl) (mc := 0) (ms := 0) (Nat.zero_le _) (Nat.zero_le _) (P := fun v u => _) ?_ (fun e u h => h) (fun v u h => h)
        intro po36 xx36 hp36 hx36
        refine g_enter2 (k := 271) (N := 300) (by first | exact dq1 hd rfl | exact dq0 hd rfl | exact dq2 hd rfl | exact dq3 hd rfl | omega) rfl (Nat.le_of_ble_eq_true rfl) ?_
        refine g_aload_n 1 (gd rfl) rfl rfl ?_
        refine g_iload_n 2 (gd rfl) rfl rfl ?_
        refine g_iconst 1 3 (gd rfl) rfl rfl ?_
        refine g_callv (X := _) (As := [.int (Int32.ofInt 0), .int (Int32.ofInt 1)]) (r := []) (b := A 109) (q := 109) 6 (gd rfl) rfl rfl rfl rfl rfl (ww_o rfl) (Nat.le_of_ble_eq_true rfl) (mc := 0) (ms := 0) (Nat.zero_le _) (Nat.zero_le _) (P := fun v u => _) ?_ (fun e u h => h) (fun v u h => h)
        intro po36x3 xx36x3 hp36x3 hx36x3
        refine g_enter2 (k := 270) (N := 300) (by first | exact dq1 hd rfl | exact dq0 hd rfl | exact dq2 hd rfl | exact dq3 hd rfl | omega) rfl (Nat.le_of_ble_eq_true rfl) ?_
        refine g_aload_n 1 (gd rfl) rfl rfl ?_
        refine g_iload_n 2 (gd rfl) rfl rfl ?_
        refine g_if_ne 5 9 (gd rfl) rfl rfl (fun c36x3x2 => ?_) (fun c36x3x2 => ?_)
        · skip
          exact zn_ne c36x3x2 (in_c 0 rfl) rfl
        · skip
          refine g_iconst 1 6 (gd rfl) rfl rfl ?_
          refine g_goto 18 (gd rfl) rfl ?_
          refine g_putI 21 (gd rfl) rfl rfl rfl rfl ?_
          have hI36x3x18 := inv_sF (q := 109) (j := 0) hI rfl (in_w 0 2 (in_c 1 rfl) rfl)
          refine g_aload_n 22 (gd rfl) rfl rfl ?_
          refine g_getI 25 (gd rfl) rfl rfl rfl (fun z36x3x22 e36x3x22 => ?_)
          have q36x3x22 : (Int32.ofInt 1) = z36x3x22 := (sF_get).trans e36x3x22.symm
          subst q36x3x22
          refine g_if_le 28 32 (gd rfl) rfl rfl (fun c36x3x25 => ?_) (fun c36x3x25 => ?_)
          · skip
            exact zn_le c36x3x25 (in_c 1 rfl) rfl
          · skip
            refine g_iconst 1 29 (gd rfl) rfl rfl ?_
            refine g_goto 33 (gd rfl) rfl ?_
            refine g_ireturn (gd rfl) rfl (nb01 (in_w 0 1 (in_c 1 rfl) rfl)) (hp36x3 _ _ ?_)
            show GG _ _ _ _ _ _ _ _ [.int (Int32.ofInt 1)] _ _ _
            refine g_ireturn (gd rfl) rfl (nb01 (in_w 0 1 (in_c 1 rfl) rfl)) (hp36 _ _ ?_)
            show GG _ _ _ _ _ _ _ _ [.int (Int32.ofInt 1)] _ _ _
            refine g_if_eq 42 44 (gd rfl) rfl rfl (fun c39 => ?_) (fun c39 => ?_)
            · skip
              exact zn_eq c39 (in_c 1 rfl) rfl
            · skip
              refine g_iconst 0 43 (gd rfl) rfl rfl ?_
              exact g_ireturn (gd rfl) rfl rfl (hP _ _ ⟨(sF s 109 0 (Int32.ofInt 1)), hI36x3x18, (fr_sF rfl fr_rf), (Int32.ofInt 0), rfl, rfl, in_w (-1) 159 (in_c 0 rfl) rfl⟩)
      · skip
        exact zn_ne c6 (in_c 0 rfl) rfl
    · skip
      have i3x9 := r_lt1 0 31 c3x9 i3x1 ro_109_20 rfl
      have i3x9a := r_lt2 1 32 c3x9 i3x1 ro_109_20 rfl
      refine g_iconst 1 13 (gd rfl) rfl rfl ?_
      refine g_goto 17 (gd rfl) rfl ?_
      refine g_ireturn (gd rfl) rfl (nb01 (in_w 0 1 (in_c 1 rfl) rfl)) (hp3 _ _ ?_)
      show GG _ _ _ _ _ _ _ _ [.int (Int32.ofInt 1), .ref (A 109)] _ _ _
      refine g_if_eq 9 35 (gd rfl) rfl rfl (fun c6 => ?_) (fun c6 => ?_)
      · skip
        exact zn_eq c6 (in_c 1 rfl) rfl
      · skip
        refine g_aload_n 10 (gd rfl) rfl rfl ?_
        refine g_iload_n 11 (gd rfl) rfl rfl ?_
        refine g_callv (X := _) (As := [.int x2]) (r := [.ref (A 109)]) (b := A 109) (q := 109) 14 (gd rfl) rfl rfl rfl rfl rfl (ww_o rfl) (Nat.le_of_ble_eq_true rfl) (mc := 0) (ms := 0) (Nat.zero_le _) (Nat.zero_le _) (P := fun v u => _) ?_ (fun e u h => h) (fun v u h => h)
        intro po11 xx11 hp11 hx11
        refine g_enter2 (k := 272) (N := 300) (by first | exact dq1 hd rfl | exact dq0 hd rfl | exact dq2 hd rfl | exact dq3 hd rfl | omega) rfl (Nat.le_of_ble_eq_true rfl) ?_
        refine g_iload_n 1 (gd rfl) rfl rfl ?_
        refine g_if_lt 4 16 (gd rfl) rfl rfl (fun c11x1 => ?_) (fun c11x1 => ?_)
        · skip
          have i11x1 := z_lt (-2147483648) (-1) c11x1 (i_rng x2) rfl
          refine g_iconst 0 17 (gd rfl) rfl rfl ?_
          refine g_ireturn (gd rfl) rfl (nb01 (in_w 0 1 (in_c 0 rfl) rfl)) (hp11 _ _ ?_)
          show GG _ _ _ _ _ _ _ _ [.int (Int32.ofInt 0), .ref (A 109)] _ _ _
          refine g_if_eq 17 35 (gd rfl) rfl rfl (fun c14 => ?_) (fun c14 => ?_)
          · skip
            refine g_iconst 0 36 (gd rfl) rfl rfl ?_
            refine g_callv (X := _) (As := [.int (Int32.ofInt 0)]) (r := []) (b := A 109) (q := 109) 39 (gd rfl) rfl rfl rfl rfl rfl (ww_o rfl) (Nat.le_of_ble_eq_true rfl) (mc := 0) (ms := 0) (Nat.zero_le _) (Nat.zero_le _) (P := fun v u => _) ?_ (fun e u h => h) (fun v u h => h)
            intro po36 xx36 hp36 hx36
            refine g_enter2 (k := 271) (N := 300) (by first | exact dq1 hd rfl | exact dq0 hd rfl | exact dq2 hd rfl | exact dq3 hd rfl | omega) rfl (Nat.le_of_ble_eq_true rfl) ?_
            refine g_aload_n 1 (gd rfl) rfl rfl ?_
            refine g_iload_n 2 (gd rfl) rfl rfl ?_
            refine g_iconst 1 3 (gd rfl) rfl rfl ?_
            refine g_callv (X := _) (As := [.int (Int32.ofInt 0), .int (Int32.ofInt 1)]) (r := []) (b := A 109) (q := 109) 6 (gd rfl) rfl rfl rfl rfl rfl (ww_o rfl) (Nat.le_of_ble_eq_true rfl) (mc := 0) (ms := 0) (Nat.zero_le _) (Nat.zero_le _) (P := fun v u => _) ?_ (fun e u h => h) (fun v u h => h)
            intro po36x3 xx36x3 hp36x3 hx36x3
            refine g_enter2 (k := 270) (N := 300) (by first | exact dq1 hd rfl | exact dq0 hd rfl | exact dq2 hd rfl | exact dq3 hd rfl | omega) rfl (Nat.le_of_ble_eq_true rfl) ?_
            refine g_aload_n 1 (gd rfl) rfl rfl ?_
            refine g_iload_n 2 (gd rfl) rfl rfl ?_
            refine g_if_ne 5 9 (gd rfl) rfl rfl (fun c36x3x2 => ?_) (fun c36x3x2 => ?_)
            · skip
              exact zn_ne c36x3x2 (in_c 0 rfl) rfl
            · skip
              refine g_iconst 1 6 (gd rfl) rfl rfl ?_
              refine g_goto 18 (gd rfl) rfl ?_
              refine g_putI 21 (gd rfl) rfl rfl rfl rfl ?_
              have hI36x3x18 := inv_sF (q := 109) (j := 0) hI rfl (in_w 0 2 (in_c 1 rfl) rfl)
              refine g_aload_n 22 (gd rfl) rfl rfl ?_
              refine g_getI 25 (gd rfl) rfl rfl rfl (fun z36x3x22 e36x3x22 => ?_)
              have q36x3x22 : (Int32.ofInt 1) = z36x3x22 := (sF_get).trans e36x3x22.symm
              subst q36x3x22
              refine g_if_le 28 32 (gd rfl) rfl rfl (fun c36x3x25 => ?_) (fun c36x3x25 => ?_)
              · skip
                exact zn_le c36x3x25 (in_c 1 rfl) rfl
              · skip
                refine g_iconst 1 29 (gd rfl) rfl rfl ?_
                refine g_goto 33 (gd rfl) rfl ?_
                refine g_ireturn (gd rfl) rfl (nb01 (in_w 0 1 (in_c 1 rfl) rfl)) (hp36x3 _ _ ?_)
                show GG _ _ _ _ _ _ _ _ [.int (Int32.ofInt 1)] _ _ _
                refine g_ireturn (gd rfl) rfl (nb01 (in_w 0 1 (in_c 1 rfl) rfl)) (hp36 _ _ ?_)
                show GG _ _ _ _ _ _ _ _ [.int (Int32.ofInt 1)] _ _ _
                refine g_if_eq 42 44 (gd rfl) rfl rfl (fun c39 => ?_) (fun c39 => ?_)
                · skip
                  exact zn_eq c39 (in_c 1 rfl) rfl
                · skip
                  refine g_iconst 0 43 (gd rfl) rfl rfl ?_
                  exact g_ireturn (gd rfl) rfl rfl (hP _ _ ⟨(sF s 109 0 (Int32.ofInt 1)), hI36x3x18, (fr_sF rfl fr_rf), (Int32.ofInt 0), rfl, rfl, in_w (-1) 159 (in_c 0 rfl) rfl⟩)
          · skip
            exact zn_ne c14 (in_c 0 rfl) rfl
        · skip
          have i11x1 := z_ge 0 2147483647 c11x1 (i_rng x2) rfl
          refine g_iload_n 5 (gd rfl) rfl rfl ?_
          refine g_aload_n 6 (gd rfl) rfl rfl ?_
          refine g_getI 9 (gd rfl) rfl rfl rfl (fun z11x6 e11x6 => ?_)
          have q11x6 : u_109_20 = z11x6 := (e_109_20).trans e11x6.symm
          subst q11x6
          refine g_cmp_ge 12 16 (gd rfl) rfl rfl (fun c11x9 => ?_) (fun c11x9 => ?_)
          · skip
            have i11x9 := r_le2 1 2147483647 c11x9 i3x9a i11x1 rfl
            refine g_iconst 0 17 (gd rfl) rfl rfl ?_
            refine g_ireturn (gd rfl) rfl (nb01 (in_w 0 1 (in_c 0 rfl) rfl)) (hp11 _ _ ?_)
            show GG _ _ _ _ _ _ _ _ [.int (Int32.ofInt 0), .ref (A 109)] _ _ _
            refine g_if_eq 17 35 (gd rfl) rfl rfl (fun c14 => ?_) (fun c14 => ?_)
            · skip
              refine g_iconst 0 36 (gd rfl) rfl rfl ?_
              refine g_callv (X := _) (As := [.int (Int32.ofInt 0)]) (r := []) (b := A 109) (q := 109) 39 (gd rfl) rfl rfl rfl rfl rfl (ww_o rfl) (Nat.le_of_ble_eq_true rfl) (mc := 0) (ms := 0) (Nat.zero_le _) (Nat.zero_le _) (P := fun v u => _) ?_ (fun e u h => h) (fun v u h => h)
              intro po36 xx36 hp36 hx36
              refine g_enter2 (k := 271) (N := 300) (by first | exact dq1 hd rfl | exact dq0 hd rfl | exact dq2 hd rfl | exact dq3 hd rfl | omega) rfl (Nat.le_of_ble_eq_true rfl) ?_
              refine g_aload_n 1 (gd rfl) rfl rfl ?_
              refine g_iload_n 2 (gd rfl) rfl rfl ?_
              refine g_iconst 1 3 (gd rfl) rfl rfl ?_
              refine g_callv (X := _) (As := [.int (Int32.ofInt 0), .int (Int32.ofInt 1)]) (r := []) (b := A 109) (q := 109) 6 (gd rfl) rfl rfl rfl rfl rfl (ww_o rfl) (Nat.le_of_ble_eq_true rfl) (mc := 0) (ms := 0) (Nat.zero_le _) (Nat.zero_le _) (P := fun v u => _) ?_ (fun e u h => h) (fun v u h => h)
              intro po36x3 xx36x3 hp36x3 hx36x3
              refine g_enter2 (k := 270) (N := 300) (by first | exact dq1 hd rfl | exact dq0 hd rfl | exact dq2 hd rfl | exact dq3 hd rfl | omega) rfl (Nat.le_of_ble_eq_true rfl) ?_
              refine g_aload_n 1 (gd rfl) rfl rfl ?_
              refine g_iload_n 2 (gd rfl) rfl rfl ?_
              refine g_if_ne 5 9 (gd rfl) rfl rfl (fun c36x3x2 => ?_) (fun c36x3x2 => ?_)
              · skip
                exact zn_ne c36x3x2 (in_c 0 rfl) rfl
              · skip
                refine g_iconst 1 6 (gd rfl) rfl rfl ?_
                refine g_goto 18 (gd rfl) rfl ?_
                refine g_putI 21 (gd rfl) rfl rfl rfl rfl ?_
                have hI36x3x18 := inv_sF (q := 109) (j := 0) hI rfl (in_w 0 2 (in_c 1 rfl) rfl)
                refine g_aload_n 22 (gd rfl) rfl rfl ?_
                refine g_getI 25 (gd rfl) rfl rfl rfl (fun z36x3x22 e36x3x22 => ?_)
                have q36x3x22 : (Int32.ofInt 1) = z36x3x22 := (sF_get).trans e36x3x22.symm
                subst q36x3x22
                refine g_if_le 28 32 (gd rfl) rfl rfl (fun c36x3x25 => ?_) (fun c36x3x25 => ?_)
                · skip
                  exact zn_le c36x3x25 (in_c 1 rfl) rfl
                · skip
                  refine g_iconst 1 29 (gd rfl) rfl rfl ?_
                  refine g_goto 33 (gd rfl) rfl ?_
                  refine g_ireturn (gd rfl) rfl (nb01 (in_w 0 1 (in_c 1 rfl) rfl)) (hp36x3 _ _ ?_)
                  show GG _ _ _ _ _ _ _ _ [.int (Int32.ofInt 1)] _ _ _
                  refine g_ireturn (gd rfl) rfl (nb01 (in_w 0 1 (in_c 1 rfl) rfl)) (hp36 _ _ ?_)
                  show GG _ _ _ _ _ _ _ _ [.int (Int32.ofInt 1)] _ _ _
                  refine g_if_eq 42 44 (gd rfl) rfl rfl (fun c39 => ?_) (fun c39 => ?_)
                  · skip
                    exact zn_eq c39 (in_c 1 rfl) rfl
                  · skip
                    refine g_iconst 0 43 (gd rfl) rfl rfl ?_
                    exact g_ireturn (gd rfl) rfl rfl (hP _ _ ⟨(sF s 109 0 (Int32.ofInt 1)), hI36x3x18, (fr_sF rfl fr_rf), (Int32.ofInt 0), rfl, rfl, in_w (-1) 159 (in_c 0 rfl) rfl⟩)
            · skip
              exact zn_ne c14 (in_c 0 rfl) rfl
          · skip
            have i11x9 := r_lt1 0 31 c11x9 i11x1 i3x9a rfl
            refine g_iconst 1 13 (gd rfl) rfl rfl ?_
            refine g_goto 17 (gd rfl) rfl ?_
            refine g_ireturn (gd rfl) rfl (nb01 (in_w 0 1 (in_c 1 rfl) rfl)) (hp11 _ _ ?_)
            show GG _ _ _ _ _ _ _ _ [.int (Int32.ofInt 1), .ref (A 109)] _ _ _
            refine g_if_eq 17 35 (gd rfl) rfl rfl (fun c14 => ?_) (fun c14 => ?_)
            · skip
              exact zn_eq c14 (in_c 1 rfl) rfl
            · skip
              refine g_iload_n 18 (gd rfl) rfl rfl ?_
              refine g_iload_n 19 (gd rfl) rfl rfl ?_
              refine g_cmp_eq 22 35 (gd rfl) rfl rfl (fun c19 => ?_) (fun c19 => ?_)
              · skip
                refine g_iconst 0 36 (gd rfl) rfl rfl ?_
                refine g_callv (X := _) (As := [.int (Int32.ofInt 0)]) (r := []) (b := A 109) (q := 109) 39 (gd rfl) rfl rfl rfl rfl rfl (ww_o rfl) (Nat.le_of_ble_eq_true rfl) (mc := 0) (ms := 0) (Nat.zero_le _) (Nat.zero_le _) (P := fun v u => _) ?_ (fun e u h => h) (fun v u h => h)
                intro po36 xx36 hp36 hx36
                refine g_enter2 (k := 271) (N := 300) (by first | exact dq1 hd rfl | exact dq0 hd rfl | exact dq2 hd rfl | exact dq3 hd rfl | omega) rfl (Nat.le_of_ble_eq_true rfl) ?_
                refine g_aload_n 1 (gd rfl) rfl rfl ?_
                refine g_iload_n 2 (gd rfl) rfl rfl ?_
                refine g_iconst 1 3 (gd rfl) rfl rfl ?_
                refine g_callv (X := _) (As := [.int (Int32.ofInt 0), .int (Int32.ofInt 1)]) (r := []) (b := A 109) (q := 109) 6 (gd rfl) rfl rfl rfl rfl rfl (ww_o rfl) (Nat.le_of_ble_eq_true rfl) (mc := 0) (ms := 0) (Nat.zero_le _) (Nat.zero_le _) (P := fun v u => _) ?_ (fun e u h => h) (fun v u h => h)
                intro po36x3 xx36x3 hp36x3 hx36x3
                refine g_enter2 (k := 270) (N := 300) (by first | exact dq1 hd rfl | exact dq0 hd rfl | exact dq2 hd rfl | exact dq3 hd rfl | omega) rfl (Nat.le_of_ble_eq_true rfl) ?_
                refine g_aload_n 1 (gd rfl) rfl rfl ?_
                refine g_iload_n 2 (gd rfl) rfl rfl ?_
                refine g_if_ne 5 9 (gd rfl) rfl rfl (fun c36x3x2 => ?_) (fun c36x3x2 => ?_)
                · skip
                  exact zn_ne c36x3x2 (in_c 0 rfl) rfl
                · skip
                  refine g_iconst 1 6 (gd rfl) rfl rfl ?_
                  refine g_goto 18 (gd rfl) rfl ?_
                  refine g_putI 21 (gd rfl) rfl rfl rfl rfl ?_
                  have hI36x3x18 := inv_sF (q := 109) (j := 0) hI rfl (in_w 0 2 (in_c 1 rfl) rfl)
                  refine g_aload_n 22 (gd rfl) rfl rfl ?_
                  refine g_getI 25 (gd rfl) rfl rfl rfl (fun z36x3x22 e36x3x22 => ?_)
                  have q36x3x22 : (Int32.ofInt 1) = z36x3x22 := (sF_get).trans e36x3x22.symm
                  subst q36x3x22
                  refine g_if_le 28 32 (gd rfl) rfl rfl (fun c36x3x25 => ?_) (fun c36x3x25 => ?_)
                  · skip
                    exact zn_le c36x3x25 (in_c 1 rfl) rfl
                  · skip
                    refine g_iconst 1 29 (gd rfl) rfl rfl ?_
                    refine g_goto 33 (gd rfl) rfl ?_
                    refine g_ireturn (gd rfl) rfl (nb01 (in_w 0 1 (in_c 1 rfl) rfl)) (hp36x3 _ _ ?_)
                    show GG _ _ _ _ _ _ _ _ [.int (Int32.ofInt 1)] _ _ _
                    refine g_ireturn (gd rfl) rfl (nb01 (in_w 0 1 (in_c 1 rfl) rfl)) (hp36 _ _ ?_)
                    show GG _ _ _ _ _ _ _ _ [.int (Int32.ofInt 1)] _ _ _
                    refine g_if_eq 42 44 (gd rfl) rfl rfl (fun c39 => ?_) (fun c39 => ?_)
                    · skip
                      exact zn_eq c39 (in_c 1 rfl) rfl
                    · skip
                      refine g_iconst 0 43 (gd rfl) rfl rfl ?_
                      exact g_ireturn (gd rfl) rfl rfl (hP _ _ ⟨(sF s 109 0 (Int32.ofInt 1)), hI36x3x18, (fr_sF rfl fr_rf), (Int32.ofInt 0), rfl, rfl, in_w (-1) 159 (in_c 0 rfl) rfl⟩)
              · skip
                refine g_iload_n 23 (gd rfl) rfl rfl ?_
                refine g_if_lt 26 35 (gd rfl) rfl rfl (fun c23 => ?_) (fun c23 => ?_)
                · skip
                  have i23 := z_lt (-2147483648) (-1) c23 (i_rng x3) rfl
                  refine g_iconst 0 36 (gd rfl) rfl rfl ?_
                  refine g_callv (X := _) (As := [.int (Int32.ofInt 0)]) (r := []) (b := A 109) (q := 109) 39 (gd rfl) rfl rfl rfl rfl rfl (ww_o rfl) (Nat.le_of_ble_eq_true rfl) (mc := 0) (ms := 0) (Nat.zero_le _) (Nat.zero_le _) (P := fun v u => _) ?_ (fun e u h => h) (fun v u h => h)
                  intro po36 xx36 hp36 hx36
                  refine g_enter2 (k := 271) (N := 300) (by first | exact dq1 hd rfl | exact dq0 hd rfl | exact dq2 hd rfl | exact dq3 hd rfl | omega) rfl (Nat.le_of_ble_eq_true rfl) ?_
                  refine g_aload_n 1 (gd rfl) rfl rfl ?_
                  refine g_iload_n 2 (gd rfl) rfl rfl ?_
                  refine g_iconst 1 3 (gd rfl) rfl rfl ?_
                  refine g_callv (X := _) (As := [.int (Int32.ofInt 0), .int (Int32.ofInt 1)]) (r := []) (b := A 109) (q := 109) 6 (gd rfl) rfl rfl rfl rfl rfl (ww_o rfl) (Nat.le_of_ble_eq_true rfl) (mc := 0) (ms := 0) (Nat.zero_le _) (Nat.zero_le _) (P := fun v u => _) ?_ (fun e u h => h) (fun v u h => h)
                  intro po36x3 xx36x3 hp36x3 hx36x3
                  refine g_enter2 (k := 270) (N := 300) (by first | exact dq1 hd rfl | exact dq0 hd rfl | exact dq2 hd rfl | exact dq3 hd rfl | omega) rfl (Nat.le_of_ble_eq_true rfl) ?_
                  refine g_aload_n 1 (gd rfl) rfl rfl ?_
                  refine g_iload_n 2 (gd rfl) rfl rfl ?_
                  refine g_if_ne 5 9 (gd rfl) rfl rfl (fun c36x3x2 => ?_) (fun c36x3x2 => ?_)
                  · skip
                    exact zn_ne c36x3x2 (in_c 0 rfl) rfl
                  · skip
                    refine g_iconst 1 6 (gd rfl) rfl rfl ?_
                    refine g_goto 18 (gd rfl) rfl ?_
                    refine g_putI 21 (gd rfl) rfl rfl rfl rfl ?_
                    have hI36x3x18 := inv_sF (q := 109) (j := 0) hI rfl (in_w 0 2 (in_c 1 rfl) rfl)
                    refine g_aload_n 22 (gd rfl) rfl rfl ?_
                    refine g_getI 25 (gd rfl) rfl rfl rfl (fun z36x3x22 e36x3x22 => ?_)
                    have q36x3x22 : (Int32.ofInt 1) = z36x3x22 := (sF_get).trans e36x3x22.symm
                    subst q36x3x22
                    refine g_if_le 28 32 (gd rfl) rfl rfl (fun c36x3x25 => ?_) (fun c36x3x25 => ?_)
                    · skip
                      exact zn_le c36x3x25 (in_c 1 rfl) rfl
                    · skip
                      refine g_iconst 1 29 (gd rfl) rfl rfl ?_
                      refine g_goto 33 (gd rfl) rfl ?_
                      refine g_ireturn (gd rfl) rfl (nb01 (in_w 0 1 (in_c 1 rfl) rfl)) (hp36x3 _ _ ?_)
                      show GG _ _ _ _ _ _ _ _ [.int (Int32.ofInt 1)] _ _ _
                      refine g_ireturn (gd rfl) rfl (nb01 (in_w 0 1 (in_c 1 rfl) rfl)) (hp36 _ _ ?_)
                      show GG _ _ _ _ _ _ _ _ [.int (Int32.ofInt 1)] _ _ _
                      refine g_if_eq 42 44 (gd rfl) rfl rfl (fun c39 => ?_) (fun c39 => ?_)
                      · skip
                        exact zn_eq c39 (in_c 1 rfl) rfl
                      · skip
                        refine g_iconst 0 43 (gd rfl) rfl rfl ?_
                        exact g_ireturn (gd rfl) rfl rfl (hP _ _ ⟨(sF s 109 0 (Int32.ofInt 1)), hI36x3x18, (fr_sF rfl fr_rf), (Int32.ofInt 0), rfl, rfl, in_w (-1) 159 (in_c 0 rfl) rfl⟩)
                · skip
                  have i23 := z_ge 0 2147483647 c23 (i_rng x3) rfl
                  refine g_iload 28 (gd rfl) rfl rfl ?_
                  refine g_if_lt 31 35 (gd rfl) rfl rfl (fun c28 => ?_) (fun c28 => ?_)
                  · skip
                    have i28 := z_lt (-2147483648) (-1) c28 (i_rng x4) rfl
                    refine g_iconst 0 36 (gd rfl) rfl rfl ?_
                    refine g_callv (X := _) (As := [.int (Int32.ofInt 0)]) (r := []) (b := A 109) (q := 109) 39 (gd rfl) rfl rfl rfl rfl rfl (ww_o rfl) (Nat.le_of_ble_eq_true rfl) (mc := 0) (ms := 0) (Nat.zero_le _) (Nat.zero_le _) (P := fun v u => _) ?_ (fun e u h => h) (fun v u h => h)
                    intro po36 xx36 hp36 hx36
                    refine g_enter2 (k := 271) (N := 300) (by first | exact dq1 hd rfl | exact dq0 hd rfl | exact dq2 hd rfl | exact dq3 hd rfl | omega) rfl (Nat.le_of_ble_eq_true rfl) ?_
                    refine g_aload_n 1 (gd rfl) rfl rfl ?_
                    refine g_iload_n 2 (gd rfl) rfl rfl ?_
                    refine g_iconst 1 3 (gd rfl) rfl rfl ?_
                    refine g_callv (X := _) (As := [.int (Int32.ofInt 0), .int (Int32.ofInt 1)]) (r := []) (b := A 109) (q := 109) 6 (gd rfl) rfl rfl rfl rfl rfl (ww_o rfl) (Nat.le_of_ble_eq_true rfl) (mc := 0) (ms := 0) (Nat.zero_le _) (Nat.zero_le _) (P := fun v u => _) ?_ (fun e u h => h) (fun v u h => h)
                    intro po36x3 xx36x3 hp36x3 hx36x3
                    refine g_enter2 (k := 270) (N := 300) (by first | exact dq1 hd rfl | exact dq0 hd rfl | exact dq2 hd rfl | exact dq3 hd rfl | omega) rfl (Nat.le_of_ble_eq_true rfl) ?_
                    refine g_aload_n 1 (gd rfl) rfl rfl ?_
                    refine g_iload_n 2 (gd rfl) rfl rfl ?_
                    refine g_if_ne 5 9 (gd rfl) rfl rfl (fun c36x3x2 => ?_) (fun c36x3x2 => ?_)
                    · skip
                      exact zn_ne c36x3x2 (in_c 0 rfl) rfl
                    · skip
                      refine g_iconst 1 6 (gd rfl) rfl rfl ?_
                      refine g_goto 18 (gd rfl) rfl ?_
                      refine g_putI 21 (gd rfl) rfl rfl rfl rfl ?_
                      have hI36x3x18 := inv_sF (q := 109) (j := 0) hI rfl (in_w 0 2 (in_c 1 rfl) rfl)
                      refine g_aload_n 22 (gd rfl) rfl rfl ?_
                      refine g_getI 25 (gd rfl) rfl rfl rfl (fun z36x3x22 e36x3x22 => ?_)
                      have q36x3x22 : (Int32.ofInt 1) = z36x3x22 := (sF_get).trans e36x3x22.symm
                      subst q36x3x22
                      refine g_if_le 28 32 (gd rfl) rfl rfl (fun c36x3x25 => ?_) (fun c36x3x25 => ?_)
                      · skip
                        exact zn_le c36x3x25 (in_c 1 rfl) rfl
                      · skip
                        refine g_iconst 1 29 (gd rfl) rfl rfl ?_
                        refine g_goto 33 (gd rfl) rfl ?_
                        refine g_ireturn (gd rfl) rfl (nb01 (in_w 0 1 (in_c 1 rfl) rfl)) (hp36x3 _ _ ?_)
                        show GG _ _ _ _ _ _ _ _ [.int (Int32.ofInt 1)] _ _ _
                        refine g_ireturn (gd rfl) rfl (nb01 (in_w 0 1 (in_c 1 rfl) rfl)) (hp36 _ _ ?_)
                        show GG _ _ _ _ _ _ _ _ [.int (Int32.ofInt 1)] _ _ _
                        refine g_if_eq 42 44 (gd rfl) rfl rfl (fun c39 => ?_) (fun c39 => ?_)
                        · skip
                          exact zn_eq c39 (in_c 1 rfl) rfl
                        · skip
                          refine g_iconst 0 43 (gd rfl) rfl rfl ?_
                          exact g_ireturn (gd rfl) rfl rfl (hP _ _ ⟨(sF s 109 0 (Int32.ofInt 1)), hI36x3x18, (fr_sF rfl fr_rf), (Int32.ofInt 0), rfl, rfl, in_w (-1) 159 (in_c 0 rfl) rfl⟩)
                  · skip
                    have i28 := z_ge 0 2147483647 c28 (i_rng x4) rfl
                    refine g_iconst 1 32 (gd rfl) rfl rfl ?_
                    refine g_goto 36 (gd rfl) rfl ?_
                    refine g_callv (X := _) (As := [.int (Int32.ofInt 1)]) (r := []) (b := A 109) (q := 109) 39 (gd rfl) rfl rfl rfl rfl rfl (ww_o rfl) (Nat.le_of_ble_eq_true rfl) (mc := 0) (ms := 0) (Nat.zero_le _) (Nat.zero_le _) (P := fun v u => _) ?_ (fun e u h => h) (fun v u h => h)
                    intro po36 xx36 hp36 hx36
                    refine g_enter2 (k := 271) (N := 300) (by first | exact dq1 hd rfl | exact dq0 hd rfl | exact dq2 hd rfl | exact dq3 hd rfl | omega) rfl (Nat.le_of_ble_eq_true rfl) ?_
                    refine g_aload_n 1 (gd rfl) rfl rfl ?_
                    refine g_iload_n 2 (gd rfl) rfl rfl ?_
                    refine g_iconst 1 3 (gd rfl) rfl rfl ?_
                    refine g_callv (X := _) (As := [.int (Int32.ofInt 1), .int (Int32.ofInt 1)]) (r := []) (b := A 109) (q := 109) 6 (gd rfl) rfl rfl rfl rfl rfl (ww_o rfl) (Nat.le_of_ble_eq_true rfl) (mc := 0) (ms := 0) (Nat.zero_le _) (Nat.zero_le _) (P := fun v u => _) ?_ (fun e u h => h) (fun v u h => h)
                    intro po36x3 xx36x3 hp36x3 hx36x3
                    refine g_enter2 (k := 270) (N := 300) (by first | exact dq1 hd rfl | exact dq0 hd rfl | exact dq2 hd rfl | exact dq3 hd rfl | omega) rfl (Nat.le_of_ble_eq_true rfl) ?_
                    refine g_aload_n 1 (gd rfl) rfl rfl ?_
                    refine g_iload_n 2 (gd rfl) rfl rfl ?_
                    refine g_if_ne 5 9 (gd rfl) rfl rfl (fun c36x3x2 => ?_) (fun c36x3x2 => ?_)
                    · skip
                      refine g_iload_n 10 (gd rfl) rfl rfl ?_
                      refine g_if_ne 13 17 (gd rfl) rfl rfl (fun c36x3x10 => ?_) (fun c36x3x10 => ?_)
                      · skip
                        refine g_iconst 0 18 (gd rfl) rfl rfl ?_
                        refine g_putI 21 (gd rfl) rfl rfl rfl rfl ?_
                        have hI36x3x18 := inv_sF (q := 109) (j := 0) hI rfl (in_w 0 2 (in_c 0 rfl) rfl)
                        refine g_aload_n 22 (gd rfl) rfl rfl ?_
                        refine g_getI 25 (gd rfl) rfl rfl rfl (fun z36x3x22 e36x3x22 => ?_)
                        have q36x3x22 : (Int32.ofInt 0) = z36x3x22 := (sF_get).trans e36x3x22.symm
                        subst q36x3x22
                        refine g_if_le 28 32 (gd rfl) rfl rfl (fun c36x3x25 => ?_) (fun c36x3x25 => ?_)
                        · skip
                          refine g_iconst 0 33 (gd rfl) rfl rfl ?_
                          refine g_ireturn (gd rfl) rfl (nb01 (in_w 0 1 (in_c 0 rfl) rfl)) (hp36x3 _ _ ?_)
                          show GG _ _ _ _ _ _ _ _ [.int (Int32.ofInt 0)] _ _ _
                          refine g_ireturn (gd rfl) rfl (nb01 (in_w 0 1 (in_c 0 rfl) rfl)) (hp36 _ _ ?_)
                          show GG _ _ _ _ _ _ _ _ [.int (Int32.ofInt 0)] _ _ _
                          refine g_if_eq 42 44 (gd rfl) rfl rfl (fun c39 => ?_) (fun c39 => ?_)
                          · skip
                            refine g_aload_n 45 (gd rfl) rfl rfl ?_
                            refine g_iload_n 46 (gd rfl) rfl rfl ?_
                            refine g_iload_n 47 (gd rfl) rfl rfl ?_
                            refine g_callv (X := _) (As := [.int x1, .int x2]) (r := []) (b := A 109) (q := 109) 50 (gd rfl) rfl rfl rfl rfl rfl (ww_o rfl) (Nat.le_of_ble_eq_true rfl) (Nat.zero_le _) (Nat.zero_le _) (k_320 (by first | exact dq1 hd rfl | exact dq0 hd rfl | exact dq2 hd rfl | exact dq3 hd rfl | omega) hI36x3x18 (in_w 0 31 i3x9 rfl) (in_w 0 31 i11x9 rfl)) (fun e u h => h) (fun v u h => ?_)
                            obtain ⟨s47, hI47, hF47, rfl, rfl⟩ := h
                            show GG _ _ _ _ _ _ _ _ [] _ _ _
                            refine g_aload_n 51 (gd rfl) rfl rfl ?_
                            refine g_getI 54 (gd rfl) rfl rfl rfl (fun z51 e51 => ?_)
                            have i51 := inv_F hI47 0 2001 rfl e51
                            refine g_sipush 2000 57 (gd rfl) rfl rfl ?_
                            refine g_cmp_gt 60 68 (gd rfl) rfl rfl (fun c57 => ?_) (fun c57 => ?_)
                            · skip
                              have i57 := r_lt2 2001 2001 c57 (in_c 2000 rfl) i51 rfl
                              refine g_iconst (-1) 69 (gd rfl) rfl rfl ?_
                              exact g_ireturn (gd rfl) rfl rfl (hP _ _ ⟨s47, hI47, (fr_tr rfl (fr_sF rfl fr_rf) hF47), (Int32.ofInt (-1)), rfl, rfl, in_w (-1) 159 (in_c (-1) rfl) rfl⟩)
                            · skip
                              have i57 := r_le1 0 2000 c57 i51 (in_c 2000 rfl) rfl
                              refine g_iload_n 61 (gd rfl) rfl rfl ?_
                              refine g_aload_n 62 (gd rfl) rfl rfl ?_
                              refine g_getI 65 (gd rfl) rfl rfl rfl (fun z62 e62 => ?_)
                              have q62 : z51 = z62 := (e51).trans e62.symm
                              subst q62
                              refine g_cmp_lt 68 70 (gd rfl) rfl rfl (fun c65 => ?_) (fun c65 => ?_)
                              · skip
                                have i65 := r_lt1 0 1999 c65 i23 i57 rfl
                                have i65a := r_lt2 1 2000 c65 i23 i57 rfl
                                refine g_aload_n 71 (gd rfl) rfl rfl ?_
                                refine g_callv (X := _) (As := []) (r := []) (b := A 109) (q := 109) 74 (gd rfl) rfl rfl rfl rfl rfl (ww_o rfl) (Nat.le_of_ble_eq_true rfl) (Nat.zero_le _) (Nat.zero_le _) (k_324 (by first | exact dq1 hd rfl | exact dq0 hd rfl | exact dq2 hd rfl | exact dq3 hd rfl | omega) hI47 ) (fun e u h => h) (fun v u h => ?_)
                                obtain ⟨s71, hI71, hF71, rfl, rfl⟩ := h
                                show GG _ _ _ _ _ _ _ _ [] _ _ _
                                refine g_iconst 5 75 (gd rfl) rfl rfl ?_
                                refine g_aload_n 76 (gd rfl) rfl rfl ?_
                                refine g_getA (q2 := 136) 79 (gd rfl) rfl rfl rfl rfl ?_
                                refine g_iload_n 80 (gd rfl) rfl rfl ?_
                                refine g_iaload 81 (gd rfl) rfl (n := 2001) rfl (in_ix i65 rfl) (fun z80 e80 => ?_)
                                have i80 := inv_I hI71 (n := 2001) (t := 0) 0 2000 rfl (in_ix i65 rfl) rfl e80
                                refine g_imul 82 (gd rfl) rfl (fun z81 e81 => ?_)
                                have i81 := in_mulc 5 0 10000 (Or.inl e81) i80 rfl rfl
                                refine g_istore 84 (gd rfl) rfl (Nat.le_of_ble_eq_true rfl) ?_
                                refine g_iload 86 (gd rfl) rfl rfl ?_
                                refine g_aload_n 87 (gd rfl) rfl rfl ?_
                                refine g_getA (q2 := 134) 90 (gd rfl) rfl rfl rfl rfl ?_
                                refine g_iload 92 (gd rfl) rfl rfl ?_
                                refine g_iaload 93 (gd rfl) rfl (n := 10005) rfl (in_ix i81 rfl) (fun z92 e92 => ?_)
                                have i92 := inv_I hI71 (n := 10005) (t := 0) 0 159 rfl (in_ix i81 rfl) rfl e92
                                have i93 : In z92 0 4 := by exact ks_u hI71 e92 (t_mulc 5 (Or.inl e81) i80 rfl).1 i80 i92
                                refine g_cmp_ge 96 111 (gd rfl) rfl rfl (fun c93 => ?_) (fun c93 => ?_)
                                · skip
                                  refine g_iconst (-1) 112 (gd rfl) rfl rfl ?_
                                  exact g_ireturn (gd rfl) rfl rfl (hP _ _ ⟨s71, hI71, (fr_tr rfl (fr_tr rfl (fr_sF rfl fr_rf) hF47) hF71), (Int32.ofInt (-1)), rfl, rfl, in_w (-1) 159 (in_c (-1) rfl) rfl⟩)
                                · skip
                                  have i93a := r_lt1 0 3 c93 i28 i93 rfl
                                  have i93b := r_lt2 1 4 c93 i28 i93 rfl
                                  refine g_aload_n 97 (gd rfl) rfl rfl ?_
                                  refine g_getA (q2 := 134) 100 (gd rfl) rfl rfl rfl rfl ?_
                                  refine g_iload 102 (gd rfl) rfl rfl ?_
                                  refine g_iconst 1 103 (gd rfl) rfl rfl ?_
                                  refine g_iadd 104 (gd rfl) rfl (fun z103 e103 => ?_)
                                  have i103 := in_add 1 10001 e103 i81 (in_c 1 rfl) rfl rfl
                                  refine g_iload 106 (gd rfl) rfl rfl ?_
                                  refine g_iadd 107 (gd rfl) rfl (fun z106 e106 => ?_)
                                  have i106 := in_add 1 10004 e106 i103 i93a rfl rfl
                                  refine g_iaload 108 (gd rfl) rfl (n := 10005) rfl (in_ix i106 rfl) (fun z107 e107 => ?_)
                                  have i107 := inv_I hI71 (n := 10005) (t := 0) 0 159 rfl (in_ix i106 rfl) rfl e107
                                  refine g_goto 112 (gd rfl) rfl ?_
                                  exact g_ireturn (gd rfl) rfl rfl (hP _ _ ⟨s71, hI71, (fr_tr rfl (fr_tr rfl (fr_sF rfl fr_rf) hF47) hF71), z107, rfl, rfl, in_w (-1) 159 i107 rfl⟩)
                              · skip
                                refine g_iconst (-1) 69 (gd rfl) rfl rfl ?_
                                exact g_ireturn (gd rfl) rfl rfl (hP _ _ ⟨s47, hI47, (fr_tr rfl (fr_sF rfl fr_rf) hF47), (Int32.ofInt (-1)), rfl, rfl, in_w (-1) 159 (in_c (-1) rfl) rfl⟩)
                          · skip
                            exact zn_ne c39 (in_c 0 rfl) rfl
                        · skip
                          exact zn_gt c36x3x25 (in_c 0 rfl) rfl
                      · skip
                        exact zn_eq c36x3x10 (in_c 1 rfl) rfl
                    · skip
                      exact zn_eq c36x3x2 (in_c 1 rfl) rfl

def fm_357 : FM := ([148], [147, 149, 150], [(109, 0)], [])
/-- GraphHouseModel.cost -/
theorem k_357 {Z : AmZ} {A : Nat → Nat} {s : GS} {ex : va_W} {d : Nat} {X : AmX} {x1 : Int32} {x2 : Int32} {x3 : Int32} (hd : 4 ≤ d) (hI : Inv s)  : GC Z d 357 [.ref (A 109), .int x1, .int x2, .int x3] (WW Z A s ++ ex) 0 0 (fun v u => ∃ t : GS, Inv t ∧ Fr fm_357 s t ∧ ∃ z : Int64, v = some (.long z) ∧ u = WW Z A t ++ ex) X := by
  intro post xp hP hX
  obtain ⟨u_109_19, e_109_19⟩ : ∃ w, w = s.2.2.1 109 19 := ⟨_, rfl⟩
  have ro_109_19 := inv_F hI 0 160 rfl e_109_19
  obtain ⟨u_109_20, e_109_20⟩ : ∃ w, w = s.2.2.1 109 20 := ⟨_, rfl⟩
  have ro_109_20 := inv_F hI 0 32 rfl e_109_20
  have ct263 : ∀ (k263 : Nat) (sc263 : GS) (y263_4 : Int32) (y263_5 : Int64) (y263_7 : Int32), Inv sc263 → Fr fm_357 s sc263 → (In x1 0 31) → (In x2 0 31) → (In x3 0 200000000) → (In y263_4 0 1) → (In y263_7 0 160) → 160 - (y263_7).toInt < (k263 : Int) → GG Z (d - 1) 357 post (gx xp) (1 + k263 * 900) 263 (fun j => xlook j [(0, .ref (A 109)), (1, .int x1), (2, .int x2), (3, .int x3), (4, .int y263_4), (5, .long y263_5), (7, .int y263_7)]) [] (WW Z A sc263 ++ ex) 0 0 := by
    intro k263
    induction k263 with
    | zero => intro sc263 y263_4 y263_5 y263_7 hIc263 hFc263 j263_1 j263_2 j263_3 j263_4 j263_7 mm263; exact m_no mm263 j263_7 rfl
    | succ k263 ih263 =>
      intro sc263 y263_4 y263_5 y263_7 hIc263 hFc263 j263_1 j263_2 j263_3 j263_4 j263_7 mm263
      refine gg_w (M := 1 + k263 * 900 + 900) gws ?_
      refine g_iload 265 (gd rfl) rfl rfl ?_
      refine g_sipush 160 268 (gd rfl) rfl rfl ?_
      refine g_cmp_ge 271 322 (gd rfl) rfl rfl (fun c268 => ?_) (fun c268 => ?_)
      · skip
        have i268 := r_le2 160 160 c268 (in_c 160 rfl) j263_7 rfl
        refine g_iload 324 (gd rfl) rfl rfl ?_
        refine g_if_eq 327 332 (gd rfl) rfl rfl (fun c324 => ?_) (fun c324 => ?_)
        · skip
          have i324 := z_eq 0 0 c324 j263_4 rfl
          refine g_ldc2_w 9000000000000000 335 (gd rfl) rfl rfl ?_
          exact g_lreturn (gd rfl) rfl (hP _ _ ⟨sc263, hIc263, hFc263, (Int64.ofInt 9000000000000000), rfl, rfl⟩)
        · skip
          have i324 := z_ne 1 1 c324 j263_4 rfl
          refine g_lload 329 (gd rfl) rfl rfl ?_
          refine g_goto 335 (gd rfl) rfl ?_
          exact g_lreturn (gd rfl) rfl (hP _ _ ⟨sc263, hIc263, hFc263, y263_5, rfl, rfl⟩)
      · skip
        have i268 := r_lt1 0 159 c268 j263_7 (in_c 160 rfl) rfl
        refine g_lload 273 (gd rfl) rfl rfl ?_
        refine g_aload_n 274 (gd rfl) rfl rfl ?_
        refine g_getA (q2 := 112) 277 (gd rfl) rfl rfl rfl rfl ?_
        refine g_aload_n 278 (gd rfl) rfl rfl ?_
        refine g_getI 281 (gd rfl) rfl rfl rfl (fun z278 e278 => ?_)
        have q278 : u_109_19 = z278 := (fr_F e_109_19 hFc263 rfl).trans e278.symm
        subst q278
        refine g_iload 283 (gd rfl) rfl rfl ?_
        refine g_iadd 284 (gd rfl) rfl (fun z283 e283 => ?_)
        have i283 := in_add 0 319 e283 ro_109_19 i268 rfl rfl
        refine g_baload 285 (gd rfl) rfl (n := 480) rfl (in_ix i283 rfl) (fun z284 e284 => ?_)
        have i284 := inv_I hIc263 (n := 480) (t := 3) 0 1 rfl (in_ix i283 rfl) rfl e284
        refine g_if_eq 288 312 (gd rfl) rfl rfl (fun c285 => ?_) (fun c285 => ?_)
        · skip
          have i285 := z_eq 0 0 c285 i284 rfl
          refine g_lconst 0 313 (gd rfl) rfl rfl ?_
          refine g_ladd 314 (gd rfl) rfl (fun z313 e313 => ?_)
          refine g_lstore 316 (gd rfl) rfl (Nat.le_of_ble_eq_true rfl) ?_
          refine g_iinc 319 (gd rfl) rfl rfl (Nat.le_of_ble_eq_true rfl) (fun z316 e316 => ?_)
          have i316 := in_add 1 160 e316 i268 (in_c 1 rfl) rfl rfl
          refine g_goto 263 (gd rfl) rfl ?_
          exact gg_w (by first | exact Nat.le_add_right _ _ | exact gw2 | exact gw3 | exact gwe rfl | exact gwf rfl | exact gwg rfl | exact gwh rfl | omega) (gg_f (gf_cons rfl (gf_cons rfl (gf_cons rfl (gf_cons rfl (gf_cons rfl (gf_cons rfl (gf_cons rfl gf_nil))))))) (ih263 sc263 y263_4 z313 z316 hIc263 hFc263 (in_w 0 31 j263_1 rfl) (in_w 0 31 j263_2 rfl) (in_w 0 200000000 j263_3 rfl) (in_w 0 1 j263_4 rfl) (in_w 0 160 i316 rfl) (m_up mm263 (t_add e316 i268 (in_c 1 rfl) rfl) (in_w 1 1 (in_c 1 rfl) rfl))))
        · skip
          have i285 := z_ne 1 1 c285 i284 rfl
          refine g_aload_n 289 (gd rfl) rfl rfl ?_
          refine g_getA (q2 := 147) 292 (gd rfl) rfl rfl rfl rfl ?_
          refine g_iload 294 (gd rfl) rfl rfl ?_
          refine g_laload 295 (gd rfl) rfl (n := 160) rfl (in_ix i268 rfl) (fun z294 e294 => ?_)
          refine g_aload_n 296 (gd rfl) rfl rfl ?_
          refine g_getA (q2 := 115) 299 (gd rfl) rfl rfl rfl rfl ?_
          refine g_aload_n 300 (gd rfl) rfl rfl ?_
          refine g_getI 303 (gd rfl) rfl rfl rfl (fun z300 e300 => ?_)
          have q300 : u_109_19 = z300 := (fr_F e_109_19 hFc263 rfl).trans e300.symm
          subst q300
          refine g_iload 305 (gd rfl) rfl rfl ?_
          refine g_iadd 306 (gd rfl) rfl (fun z305 e305 => ?_)
          have i305 := in_add 0 319 e305 ro_109_19 i268 rfl rfl
          refine g_iaload 307 (gd rfl) rfl (n := 480) rfl (in_ix i305 rfl) (fun z306 e306 => ?_)
          have i306 := inv_I hIc263 (n := 480) (t := 0) (-1000000) 1000000 rfl (in_ix i305 rfl) rfl e306
          refine g_i2l 308 (gd rfl) rfl (fun z307 e307 => ?_)
          have i307 := l_i e307 i306
          refine g_lmul 309 (gd rfl) rfl (fun z308 e308 => ?_)
          refine g_goto 313 (gd rfl) rfl ?_
          refine g_ladd 314 (gd rfl) rfl (fun z313 e313 => ?_)
          refine g_lstore 316 (gd rfl) rfl (Nat.le_of_ble_eq_true rfl) ?_
          refine g_iinc 319 (gd rfl) rfl rfl (Nat.le_of_ble_eq_true rfl) (fun z316 e316 => ?_)
          have i316 := in_add 1 160 e316 i268 (in_c 1 rfl) rfl rfl
          refine g_goto 263 (gd rfl) rfl ?_
          exact gg_w (by first | exact Nat.le_add_right _ _ | exact gw2 | exact gw3 | exact gwe rfl | exact gwf rfl | exact gwg rfl | exact gwh rfl | omega) (gg_f (gf_cons rfl (gf_cons rfl (gf_cons rfl (gf_cons rfl (gf_cons rfl (gf_cons rfl (gf_cons rfl gf_nil))))))) (ih263 sc263 y263_4 z313 z316 hIc263 hFc263 (in_w 0 31 j263_1 rfl) (in_w 0 31 j263_2 rfl) (in_w 0 200000000 j263_3 rfl) (in_w 0 1 j263_4 rfl) (in_w 0 160 i316 rfl) (m_up mm263 (t_add e316 i268 (in_c 1 rfl) rfl) (in_w 1 1 (in_c 1 rfl) rfl))))
  have ct209 : ∀ (k209 : Nat) (sc209 : GS) (y209_4 : Int32) (y209_5 : Int32), Inv sc209 → Fr fm_357 s sc209 → (In x1 0 31) → (In x2 0 31) → (In x3 0 200000000) → (In y209_4 0 1) → (In y209_5 0 32) → (CO sc209) → (SU sc209) → 32 - (y209_5).toInt < (k209 : Int) → GG Z (d - 1) 357 post (gx xp) (144902 + k209 * 1080000005401) 209 (fun j => xlook j [(0, .ref (A 109)), (1, .int x1), (2, .int x2), (3, .int x3), (4, .int y209_4), (5, .int y209_5)]) [] (WW Z A sc209 ++ ex) 0 0 := by
    intro k209
    induction k209 with
    | zero => intro sc209 y209_4 y209_5 hIc209 hFc209 j209_1 j209_2 j209_3 j209_4 j209_5 g209_0 g209_1 mm209; exact m_no mm209 j209_5 rfl
    | succ k209 ih209 =>
      intro sc209 y209_4 y209_5 hIc209 hFc209 j209_1 j209_2 j209_3 j209_4 j209_5 g209_0 g209_1 mm209
      refine gg_w (M := 144902 + k209 * 1080000005401 + 1080000005401) gws ?_
      have ct223 : ∀ (k223 : Nat) (sc223 : GS) (y223_4 : Int32), Inv sc223 → Fr fm_357 s sc223 → (In y223_4 0 1) → (In y209_5 0 31) → ((y209_5).toInt < (u_109_20).toInt) → (CO sc223) → (SU sc223) → 2 * (sc223.2.1 150 (y209_5).toNatClampNeg).toInt.toNat + (y223_4).toInt.toNat < k223 → GG Z (d - 1) 357 post (gx xp) (144902 + k209 * 1080000005401 + 1 + k223 * 900) 223 (fun j => xlook j [(0, .ref (A 109)), (1, .int x1), (2, .int x2), (3, .int x3), (4, .int y223_4), (5, .int y209_5)]) [] (WW Z A sc223 ++ ex) 0 0 := by
        intro k223
        induction k223 with
        | zero => intro sc223 y223_4 hIc223 hFc223 j223_4 j223_5 n223_0 g223_0 g223_1 mm223; exact absurd mm223 (Nat.not_lt_zero _)
        | succ k223 ih223 =>
          intro sc223 y223_4 hIc223 hFc223 j223_4 j223_5 n223_0 g223_0 g223_1 mm223
          refine gg_w (M := 144902 + k209 * 1080000005401 + 1 + k223 * 900 + 900) gws ?_
          refine g_aload_n 224 (gd rfl) rfl rfl ?_
          refine g_getA (q2 := 150) 227 (gd rfl) rfl rfl rfl rfl ?_
          refine g_iload 229 (gd rfl) rfl rfl ?_
          refine g_laload 230 (gd rfl) rfl (n := 32) rfl (in_ix j223_5 rfl) (fun z229 e229 => ?_)
          refine g_lconst 0 231 (gd rfl) rfl rfl ?_
          refine g_lcmp 232 (gd rfl) rfl (fun z231 e231 => ?_)
          have i231 := lc_in e231
          refine g_if_le 235 251 (gd rfl) rfl rfl (fun c232 => ?_) (fun c232 => ?_)
          · skip
            have i232 := z_le (-1) 0 c232 i231 rfl
            have c232a := lc_le e231 c232
            have i232a := lr_le1 (-9223372036854775808) 0 c232a (l_rng z229) (l_c 0 rfl) rfl
            refine g_iinc 254 (gd rfl) rfl rfl (Nat.le_of_ble_eq_true rfl) (fun z251 e251 => ?_)
            have i251 := in_add 1 32 e251 j223_5 (in_c 1 rfl) rfl rfl
            refine g_goto 209 (gd rfl) rfl ?_
            have n209 : CO sc223 := by first | exact g223_0 | (first | exact g223_0 | exact g209_0 | exact co_0 hI ⟨hFc87.1 112 rfl, hFc87.1 113 rfl, hFc87.1 114 rfl, hFc87.1 115 rfl, hFc87.1 116 rfl, hFc87.2.2.1 109 19 rfl⟩ (by have h := g87_0; rw [show y87_4.toNatClampNeg = 160 from (by show y87_4.toInt.toNat = 160; have a0 := oa7 j223_5 j209_2 j209_1 ro_109_20 ro_109_19 j223_4 i251; have a7 := t_add e251 j223_5 (in_c 1 rfl) rfl; have a8 := oa2 ((in_c 1 rfl)) j209_3; (first | exact zt_e (by omega) | omega))] at h; exact h))
            have n209a : SU sc223 := by first | exact g223_1 | (first | exact g223_1 | exact g209_1 | exact fun v hv hn => sb_w g87_1 (by have a0 := oa7 j223_5 j209_2 j209_1 ro_109_20 ro_109_19 j223_4 i251; have a7 := t_add e251 j223_5 (in_c 1 rfl) rfl; have a8 := oa2 ((in_c 1 rfl)) j209_3; omega) v hv (by rw [← hFc87.2.2.1 109 20 rfl]; exact hn))
            exact gg_w (by first | exact Nat.le_add_right _ _ | exact gw2 | exact gw3 | exact gwe rfl | exact gwf rfl | exact gwg rfl | exact gwh rfl | omega) (gg_f (gf_cons rfl (gf_cons rfl (gf_cons rfl (gf_cons rfl (gf_cons rfl (gf_cons rfl gf_nil)))))) (ih209 sc223 y223_4 z251 hIc223 hFc223 (in_w 0 31 j209_1 rfl) (in_w 0 31 j209_2 rfl) (in_w 0 200000000 j209_3 rfl) (in_w 0 1 j223_4 rfl) (in_w 0 32 i251 rfl) n209 n209a (m_up mm209 (t_add e251 j223_5 (in_c 1 rfl) rfl) (in_w 1 1 (in_c 1 rfl) rfl))))
          · skip
            have i232 := z_gt 1 1 c232 i231 rfl
            have c232a := lc_gt e231 c232
            have i232a := lr_lt2 1 9223372036854775807 c232a (l_c 0 rfl) (l_rng z229) rfl
            refine g_iload 237 (gd rfl) rfl rfl ?_
            refine g_if_eq 240 251 (gd rfl) rfl rfl (fun c237 => ?_) (fun c237 => ?_)
            · skip
              have i237 := z_eq 0 0 c237 j223_4 rfl
              refine g_iinc 254 (gd rfl) rfl rfl (Nat.le_of_ble_eq_true rfl) (fun z251 e251 => ?_)
              have i251 := in_add 1 32 e251 j223_5 (in_c 1 rfl) rfl rfl
              refine g_goto 209 (gd rfl) rfl ?_
              have n209 : CO sc223 := by first | exact g223_0 | (first | exact g223_0 | exact g209_0 | exact co_0 hI ⟨hFc87.1 112 rfl, hFc87.1 113 rfl, hFc87.1 114 rfl, hFc87.1 115 rfl, hFc87.1 116 rfl, hFc87.2.2.1 109 19 rfl⟩ (by have h := g87_0; rw [show y87_4.toNatClampNeg = 160 from (by show y87_4.toInt.toNat = 160; have a0 := oa7 j223_5 j209_2 j209_1 ro_109_20 ro_109_19 i237 i251; have a7 := t_add e251 j223_5 (in_c 1 rfl) rfl; have a8 := oa2 ((in_c 1 rfl)) j209_3; (first | exact zt_e (by omega) | omega))] at h; exact h))
              have n209a : SU sc223 := by first | exact g223_1 | (first | exact g223_1 | exact g209_1 | exact fun v hv hn => sb_w g87_1 (by have a0 := oa7 j223_5 j209_2 j209_1 ro_109_20 ro_109_19 i237 i251; have a7 := t_add e251 j223_5 (in_c 1 rfl) rfl; have a8 := oa2 ((in_c 1 rfl)) j209_3; omega) v hv (by rw [← hFc87.2.2.1 109 20 rfl]; exact hn))
              exact gg_w (by first | exact Nat.le_add_right _ _ | exact gw2 | exact gw3 | exact gwe rfl | exact gwf rfl | exact gwg rfl | exact gwh rfl | omega) (gg_f (gf_cons rfl (gf_cons rfl (gf_cons rfl (gf_cons rfl (gf_cons rfl (gf_cons rfl gf_nil)))))) (ih209 sc223 y223_4 z251 hIc223 hFc223 (in_w 0 31 j209_1 rfl) (in_w 0 31 j209_2 rfl) (in_w 0 200000000 j209_3 rfl) (in_w 0 1 i237 rfl) (in_w 0 32 i251 rfl) n209 n209a (m_up mm209 (t_add e251 j223_5 (in_c 1 rfl) rfl) (in_w 1 1 (in_c 1 rfl) rfl))))
            · skip
              have i237 := z_ne 1 1 c237 j223_4 rfl
              refine g_aload_n 241 (gd rfl) rfl rfl ?_
              refine g_iload 243 (gd rfl) rfl rfl ?_
              have p243 : CO sc223 := by exact g223_0
              have p243a : SU sc223 := by exact g223_1
              have p243b : (y209_5).toInt < (sc223.2.2.1 109 20).toInt ∧ 0 < (sc223.2.1 150 (y209_5).toNatClampNeg).toInt := by exact ⟨by rw [hFc223.2.2.1 109 20 rfl, ← e_109_20]; have a0 := oa7 j223_5 j209_2 j209_1 ro_109_20 ro_109_19 i237 j209_3; omega, by rw [← e229]; have h := i232a.1; omega⟩
              refine g_callv (X := _) (As := [.int y209_5]) (r := []) (b := A 109) (q := 109) 246 (gd rfl) rfl rfl rfl rfl rfl (ww_o rfl) (Nat.le_of_ble_eq_true rfl) (Nat.zero_le _) (Nat.zero_le _) (k_358 (by first | exact dq1 hd rfl | exact dq0 hd rfl | exact dq2 hd rfl | exact dq3 hd rfl | omega) hIc223 (in_w 0 31 j223_5 rfl) p243 p243a p243b) (fun e u h => h) (fun v u h => ?_)
              obtain ⟨s243, hI243, hF243, z243, rfl, rfl, i243, p243c, p243d, p243e⟩ := h
              show GG _ _ _ _ _ _ _ _ [.int z243] _ _ _
              refine g_istore 248 (gd rfl) rfl (Nat.le_of_ble_eq_true rfl) ?_
              refine g_goto 223 (gd rfl) rfl ?_
              have n223 : (y209_5).toInt < (u_109_20).toInt := by first | exact n223_0 | (have a0 := oa8 j223_5 j209_2 j209_1 ro_109_20 ro_109_19 i237 i243 j209_3; omega)
              have n223a : CO s243 := by first | exact p243c | exact g209_0
              have n223b : SU s243 := by first | exact p243d | exact g209_1
              have m223 : 2 * (s243.2.1 150 (y209_5).toNatClampNeg).toInt.toNat + (z243).toInt.toNat < k223 := by have hm := mm223; by_cases hz : z243.toInt = 0; (rw [p243e.2 hz]; have a0 := oa8 j223_5 j209_2 j209_1 ro_109_20 ro_109_19 i237 i243 j209_3; omega); (have h := p243e.1 hz; have a0 := oa8 j223_5 j209_2 j209_1 ro_109_20 ro_109_19 i237 i243 j209_3; omega)
              exact gg_w (by first | exact Nat.le_add_right _ _ | exact gw2 | exact gw3 | exact gwe rfl | exact gwf rfl | exact gwg rfl | exact gwh rfl | omega) (gg_f (gf_cons rfl (gf_cons rfl (gf_cons rfl (gf_cons rfl (gf_cons rfl (gf_cons rfl gf_nil)))))) (ih223  s243 z243 hI243 (fr_tr rfl hFc223 hF243) (in_w 0 1 i243 rfl) (in_w 0 31 j223_5 rfl) n223 n223a n223b m223))
      refine g_iload 211 (gd rfl) rfl rfl ?_
      refine g_aload_n 212 (gd rfl) rfl rfl ?_
      refine g_getI 215 (gd rfl) rfl rfl rfl (fun z212 e212 => ?_)
      have q212 : u_109_20 = z212 := (fr_F e_109_20 hFc209 rfl).trans e212.symm
      subst q212
      refine g_cmp_ge 218 257 (gd rfl) rfl rfl (fun c215 => ?_) (fun c215 => ?_)
      · skip
        refine g_lconst 0 258 (gd rfl) rfl rfl ?_
        refine g_lstore 260 (gd rfl) rfl (Nat.le_of_ble_eq_true rfl) ?_
        refine g_iconst 0 261 (gd rfl) rfl rfl ?_
        refine g_istore 263 (gd rfl) rfl (Nat.le_of_ble_eq_true rfl) ?_
        exact gg_w (by first | exact Nat.le_add_right _ _ | exact gw2 | exact gw3 | exact gwe rfl | exact gwf rfl | exact gwg rfl | exact gwh rfl | omega) (gg_f (gf_cons rfl (gf_cons rfl (gf_cons rfl (gf_cons rfl (gf_cons rfl (gf_cons rfl (gf_cons rfl gf_nil))))))) (ct263 161 sc209 y209_4 (Int64.ofInt 0) (Int32.ofInt 0) hIc209 hFc209 (in_w 0 31 j209_1 rfl) (in_w 0 31 j209_2 rfl) (in_w 0 200000000 j209_3 rfl) (in_w 0 1 j209_4 rfl) (in_w 0 160 (in_c 0 rfl) rfl) (m_in 161 (in_w 0 160 (in_c 0 rfl) rfl) rfl)))
      · skip
        have i215 := r_lt1 0 31 c215 j209_5 ro_109_20 rfl
        have i215a := r_lt2 1 32 c215 j209_5 ro_109_20 rfl
        refine g_iload 220 (gd rfl) rfl rfl ?_
        refine g_if_eq 223 257 (gd rfl) rfl rfl (fun c220 => ?_) (fun c220 => ?_)
        · skip
          have i220 := z_eq 0 0 c220 j209_4 rfl
          refine g_lconst 0 258 (gd rfl) rfl rfl ?_
          refine g_lstore 260 (gd rfl) rfl (Nat.le_of_ble_eq_true rfl) ?_
          refine g_iconst 0 261 (gd rfl) rfl rfl ?_
          refine g_istore 263 (gd rfl) rfl (Nat.le_of_ble_eq_true rfl) ?_
          exact gg_w (by first | exact Nat.le_add_right _ _ | exact gw2 | exact gw3 | exact gwe rfl | exact gwf rfl | exact gwg rfl | exact gwh rfl | omega) (gg_f (gf_cons rfl (gf_cons rfl (gf_cons rfl (gf_cons rfl (gf_cons rfl (gf_cons rfl (gf_cons rfl gf_nil))))))) (ct263 161 sc209 y209_4 (Int64.ofInt 0) (Int32.ofInt 0) hIc209 hFc209 (in_w 0 31 j209_1 rfl) (in_w 0 31 j209_2 rfl) (in_w 0 200000000 j209_3 rfl) (in_w 0 1 i220 rfl) (in_w 0 160 (in_c 0 rfl) rfl) (m_in 161 (in_w 0 160 (in_c 0 rfl) rfl) rfl)))
        · skip
          have i220 := z_ne 1 1 c220 j209_4 rfl
          have n223 : (y209_5).toInt < (u_109_20).toInt := by have a0 := oa7 j209_2 j209_1 i215a ro_109_19 i215 i220 j209_3; omega
          have n223a : CO sc209 := by first | exact p243c | exact g209_0
          have n223b : SU sc209 := by first | exact p243d | exact g209_1
          have m223 : 2 * (sc209.2.1 150 (y209_5).toNatClampNeg).toInt.toNat + (y209_4).toInt.toNat < 1200000003 := by have hv := nat_in (n := (sc209.2.2.1 109 20).toInt) i215 (by rw [hFc209.2.2.1 109 20 rfl, ← e_109_20]; have a0 := oa7 j209_2 j209_1 i215a ro_109_19 i215 i220 j209_3; omega); have h := n223b _ hv.1 hv.2; have a0 := oa7 j209_2 j209_1 i215a ro_109_19 i215 i220 j209_3; omega
          exact gg_w (by first | exact Nat.le_add_right _ _ | exact gw2 | exact gw3 | exact gwe rfl | exact gwf rfl | exact gwg rfl | exact gwh rfl | omega) (gg_f (gf_cons rfl (gf_cons rfl (gf_cons rfl (gf_cons rfl (gf_cons rfl (gf_cons rfl gf_nil)))))) (ct223 (1200000003) sc209 y209_4 hIc209 hFc209 (in_w 0 1 i220 rfl) (in_w 0 31 i215 rfl) n223 n223a n223b m223))
  have ct87 : ∀ (k87 : Nat) (sc87 : GS) (y87_4 : Int32), Inv sc87 → Fr fm_357 s sc87 → (In x1 0 31) → (In x2 0 31) → (In x3 0 200000000) → (In y87_4 0 160) → (IFQ s (sc87.2.1 147) (y87_4).toNatClampNeg) → (SB (200000000 + 2000000 * (y87_4).toInt) s (sc87.2.1 150)) → 160 - (y87_4).toInt < (k87 : Int) → GG Z (d - 1) 357 post (gx xp) (35640000323136 + k87 * 900) 87 (fun j => xlook j [(0, .ref (A 109)), (1, .int x1), (2, .int x2), (3, .int x3), (4, .int y87_4)]) [] (WW Z A sc87 ++ ex) 0 0 := by
    intro k87
    induction k87 with
    | zero => intro sc87 y87_4 hIc87 hFc87 j87_1 j87_2 j87_3 j87_4 g87_0 g87_1 mm87; exact m_no mm87 j87_4 rfl
    | succ k87 ih87 =>
      intro sc87 y87_4 hIc87 hFc87 j87_1 j87_2 j87_3 j87_4 g87_0 g87_1 mm87
      refine gg_w (M := 35640000323136 + k87 * 900 + 900) gws ?_
      refine g_iload 89 (gd rfl) rfl rfl ?_
      refine g_sipush 160 92 (gd rfl) rfl rfl ?_
      refine g_cmp_ge 95 203 (gd rfl) rfl rfl (fun c92 => ?_) (fun c92 => ?_)
      · skip
        have i92 := r_le2 160 160 c92 (in_c 160 rfl) j87_4 rfl
        refine g_iconst 1 204 (gd rfl) rfl rfl ?_
        refine g_istore 206 (gd rfl) rfl (Nat.le_of_ble_eq_true rfl) ?_
        refine g_iconst 0 207 (gd rfl) rfl rfl ?_
        refine g_istore 209 (gd rfl) rfl (Nat.le_of_ble_eq_true rfl) ?_
        have n209 : CO sc87 := by first | exact g223_0 | exact g209_0 | exact co_0 hI ⟨hFc87.1 112 rfl, hFc87.1 113 rfl, hFc87.1 114 rfl, hFc87.1 115 rfl, hFc87.1 116 rfl, hFc87.2.2.1 109 19 rfl⟩ (by have h := g87_0; rw [show y87_4.toNatClampNeg = 160 from (by show y87_4.toInt.toNat = 160; have a0 := oa8 j87_2 j87_1 ro_109_20 ro_109_19 i92 ((in_c 0 rfl)) ((in_c 1 rfl)) j87_3; (first | exact zt_e (by omega) | omega))] at h; exact h)
        have n209a : SU sc87 := by first | exact g223_1 | exact g209_1 | exact fun v hv hn => sb_w g87_1 (by have a0 := oa8 j87_2 j87_1 ro_109_20 ro_109_19 i92 ((in_c 0 rfl)) ((in_c 1 rfl)) j87_3; omega) v hv (by rw [← hFc87.2.2.1 109 20 rfl]; exact hn)
        exact gg_w (by first | exact Nat.le_add_right _ _ | exact gw2 | exact gw3 | exact gwe rfl | exact gwf rfl | exact gwg rfl | exact gwh rfl | omega) (gg_f (gf_cons rfl (gf_cons rfl (gf_cons rfl (gf_cons rfl (gf_cons rfl (gf_cons rfl gf_nil)))))) (ct209 33 sc87 (Int32.ofInt 1) (Int32.ofInt 0) hIc87 hFc87 (in_w 0 31 j87_1 rfl) (in_w 0 31 j87_2 rfl) (in_w 0 200000000 j87_3 rfl) (in_w 0 1 (in_c 1 rfl) rfl) (in_w 0 32 (in_c 0 rfl) rfl) n209 n209a (m_in 33 (in_w 0 32 (in_c 0 rfl) rfl) rfl)))
      · skip
        have i92 := r_lt1 0 159 c92 j87_4 (in_c 160 rfl) rfl
        refine g_aload_n 96 (gd rfl) rfl rfl ?_
        refine g_getI 99 (gd rfl) rfl rfl rfl (fun z96 e96 => ?_)
        have q96 : u_109_19 = z96 := (fr_F e_109_19 hFc87 rfl).trans e96.symm
        subst q96
        refine g_iload 101 (gd rfl) rfl rfl ?_
        refine g_iadd 102 (gd rfl) rfl (fun z101 e101 => ?_)
        have i101 := in_add 0 319 e101 ro_109_19 i92 rfl rfl
        refine g_istore 104 (gd rfl) rfl (Nat.le_of_ble_eq_true rfl) ?_
        refine g_aload_n 105 (gd rfl) rfl rfl ?_
        refine g_getA (q2 := 147) 108 (gd rfl) rfl rfl rfl rfl ?_
        refine g_iload 110 (gd rfl) rfl rfl ?_
        refine g_aload_n 111 (gd rfl) rfl rfl ?_
        refine g_getA (q2 := 112) 114 (gd rfl) rfl rfl rfl rfl ?_
        refine g_iload 116 (gd rfl) rfl rfl ?_
        refine g_baload 117 (gd rfl) rfl (n := 480) rfl (in_ix i101 rfl) (fun z116 e116 => ?_)
        have i116 := inv_I hIc87 (n := 480) (t := 3) 0 1 rfl (in_ix i101 rfl) rfl e116
        refine g_if_eq 120 141 (gd rfl) rfl rfl (fun c117 => ?_) (fun c117 => ?_)
        · skip
          have i117 := z_eq 0 0 c117 i116 rfl
          refine g_lconst 0 142 (gd rfl) rfl rfl ?_
          refine g_lastore 143 (gd rfl) rfl (n := 160) rfl (in_ix i92 rfl) ?_
          have hI142 := inv_sL (q := 147) (j := y87_4.toNatClampNeg) (x := (Int64.ofInt 0)) hIc87 rfl (l_rng (Int64.ofInt 0))
          refine g_aload_n 144 (gd rfl) rfl rfl ?_
          refine g_getA (q2 := 112) 147 (gd rfl) rfl rfl rfl rfl ?_
          refine g_iload 149 (gd rfl) rfl rfl ?_
          refine g_baload 150 (gd rfl) rfl (n := 480) rfl (in_ix i101 rfl) (fun z149 e149 => ?_)
          have q149 : z116 = z149 := (sL_I (e116)).trans e149.symm
          subst q149
          refine g_if_eq 153 197 (gd rfl) rfl rfl (fun c150 => ?_) (fun c150 => ?_)
          · skip
            refine g_iinc 200 (gd rfl) rfl rfl (Nat.le_of_ble_eq_true rfl) (fun z197 e197 => ?_)
            have i197 := in_add 1 160 e197 i92 (in_c 1 rfl) rfl rfl
            refine g_goto 87 (gd rfl) rfl ?_
            have n87 : IFQ s ((sL sc87 147 y87_4.toNatClampNeg (Int64.ofInt 0)).2.1 147) (z197).toNatClampNeg := by (rw [show ((sL sc87 147 y87_4.toNatClampNeg (Int64.ofInt 0))).2.1 147 = vp_updL (sc87.2.1 147) y87_4.toNatClampNeg (Int64.ofInt 0) from (by simp [sL]), show z197.toNatClampNeg = y87_4.toNatClampNeg + 1 from (by show z197.toInt.toNat = y87_4.toInt.toNat + 1; have a0 := oa6 j87_2 j87_1 ro_109_20 ro_109_19 i92 i101; have a6 := t_add e101 ro_109_19 i92 rfl; have a7 := in_u i197; have a8 := t_add e197 i92 (in_c 1 rfl) rfl; have a9 := oa2 ((in_c 1 rfl)) j87_3; (first | exact zt_s (by omega) (by omega) | omega))]; exact ifq_s g87_0 (fun ht => absurd (by rw [(bs_x (x := z101) (a := y87_4) e_109_19 (by have a0 := oa6 j87_2 j87_1 ro_109_20 ro_109_19 i92 i101; have a6 := t_add e101 ro_109_19 i92 rfl; have a7 := in_u i197; have a8 := t_add e197 i92 (in_c 1 rfl) rfl; have a9 := oa2 ((in_c 1 rfl)) j87_3; omega) (by have a0 := oa6 j87_2 j87_1 ro_109_20 ro_109_19 i92 i101; have a6 := t_add e101 ro_109_19 i92 rfl; have a7 := in_u i197; have a8 := t_add e197 i92 (in_c 1 rfl) rfl; have a9 := oa2 ((in_c 1 rfl)) j87_3; omega) (by have a0 := oa6 j87_2 j87_1 ro_109_20 ro_109_19 i92 i101; have a6 := t_add e101 ro_109_19 i92 rfl; have a7 := in_u i197; have a8 := t_add e197 i92 (in_c 1 rfl) rfl; have a9 := oa2 ((in_c 1 rfl)) j87_3; omega)), ← hFc87.1 112 rfl, ← e116]; exact c117) ht))
            have n87a : SB (200000000 + 2000000 * (z197).toInt) s ((sL sc87 147 y87_4.toNatClampNeg (Int64.ofInt 0)).2.1 150) := by (rw [show ((sL sc87 147 y87_4.toNatClampNeg (Int64.ofInt 0))).2.1 150 = sc87.2.1 150 from (by simp [sL])]; exact sb_w g87_1 (by have a0 := oa6 j87_2 j87_1 ro_109_20 ro_109_19 i92 i101; have a6 := t_add e101 ro_109_19 i92 rfl; have a7 := in_u i197; have a8 := t_add e197 i92 (in_c 1 rfl) rfl; have a9 := oa2 ((in_c 1 rfl)) j87_3; omega))
            exact gg_w (by first | exact Nat.le_add_right _ _ | exact gw2 | exact gw3 | exact gwe rfl | exact gwf rfl | exact gwg rfl | exact gwh rfl | omega) (gg_f (gf_cons rfl (gf_cons rfl (gf_cons rfl (gf_cons rfl (gf_cons rfl gf_nil))))) (ih87 (sL sc87 147 y87_4.toNatClampNeg (Int64.ofInt 0)) z197 hI142 (fr_sL rfl hFc87) (in_w 0 31 j87_1 rfl) (in_w 0 31 j87_2 rfl) (in_w 0 200000000 j87_3 rfl) (in_w 0 160 i197 rfl) n87 n87a (m_up mm87 (t_add e197 i92 (in_c 1 rfl) rfl) (in_w 1 1 (in_c 1 rfl) rfl))))
          · skip
            exact zn_ne c150 i117 rfl
        · skip
          have i117 := z_ne 1 1 c117 i116 rfl
          refine g_aload_n 121 (gd rfl) rfl rfl ?_
          refine g_getA (q2 := 115) 124 (gd rfl) rfl rfl rfl rfl ?_
          refine g_iload 126 (gd rfl) rfl rfl ?_
          refine g_iaload 127 (gd rfl) rfl (n := 480) rfl (in_ix i101 rfl) (fun z126 e126 => ?_)
          have i126 := inv_I hIc87 (n := 480) (t := 0) (-1000000) 1000000 rfl (in_ix i101 rfl) rfl e126
          refine g_if_ge 130 141 (gd rfl) rfl rfl (fun c127 => ?_) (fun c127 => ?_)
          · skip
            have i127 := z_ge 0 1000000 c127 i126 rfl
            refine g_lconst 0 142 (gd rfl) rfl rfl ?_
            refine g_lastore 143 (gd rfl) rfl (n := 160) rfl (in_ix i92 rfl) ?_
            have hI142 := inv_sL (q := 147) (j := y87_4.toNatClampNeg) (x := (Int64.ofInt 0)) hIc87 rfl (l_rng (Int64.ofInt 0))
            refine g_aload_n 144 (gd rfl) rfl rfl ?_
            refine g_getA (q2 := 112) 147 (gd rfl) rfl rfl rfl rfl ?_
            refine g_iload 149 (gd rfl) rfl rfl ?_
            refine g_baload 150 (gd rfl) rfl (n := 480) rfl (in_ix i101 rfl) (fun z149 e149 => ?_)
            have q149 : z116 = z149 := (sL_I (e116)).trans e149.symm
            subst q149
            refine g_if_eq 153 197 (gd rfl) rfl rfl (fun c150 => ?_) (fun c150 => ?_)
            · skip
              exact zn_eq c150 i117 rfl
            · skip
              refine g_aload_n 154 (gd rfl) rfl rfl ?_
              refine g_getA (q2 := 150) 157 (gd rfl) rfl rfl rfl rfl ?_
              refine g_aload_n 158 (gd rfl) rfl rfl ?_
              refine g_getA (q2 := 113) 161 (gd rfl) rfl rfl rfl rfl ?_
              refine g_iload 163 (gd rfl) rfl rfl ?_
              refine g_iaload 164 (gd rfl) rfl (n := 480) rfl (in_ix i101 rfl) (fun z163 e163 => ?_)
              have i163 := inv_I hI142 (n := 480) (t := 0) 0 31 rfl (in_ix i101 rfl) rfl e163
              refine g_dup2 165 (gd rfl) rfl rfl rfl ?_
              refine g_laload 166 (gd rfl) rfl (n := 32) rfl (in_ix i163 rfl) (fun z165 e165 => ?_)
              refine g_aload_n 167 (gd rfl) rfl rfl ?_
              refine g_getA (q2 := 147) 170 (gd rfl) rfl rfl rfl rfl ?_
              refine g_iload 172 (gd rfl) rfl rfl ?_
              refine g_laload 173 (gd rfl) rfl (n := 160) rfl (in_ix i92 rfl) (fun z172 e172 => ?_)
              refine g_lsub 174 (gd rfl) rfl (fun z173 e173 => ?_)
              refine g_lastore 175 (gd rfl) rfl (n := 32) rfl (in_ix i163 rfl) ?_
              have hI174 := inv_sL (q := 150) (j := z163.toNatClampNeg) (x := z173) hI142 rfl (l_rng z173)
              refine g_aload_n 176 (gd rfl) rfl rfl ?_
              refine g_getA (q2 := 150) 179 (gd rfl) rfl rfl rfl rfl ?_
              refine g_aload_n 180 (gd rfl) rfl rfl ?_
              refine g_getA (q2 := 114) 183 (gd rfl) rfl rfl rfl rfl ?_
              refine g_iload 185 (gd rfl) rfl rfl ?_
              refine g_iaload 186 (gd rfl) rfl (n := 480) rfl (in_ix i101 rfl) (fun z185 e185 => ?_)
              have i185 := inv_I hI174 (n := 480) (t := 0) 0 31 rfl (in_ix i101 rfl) rfl e185
              refine g_dup2 187 (gd rfl) rfl rfl rfl ?_
              refine g_laload 188 (gd rfl) rfl (n := 32) rfl (in_ix i185 rfl) (fun z187 e187 => ?_)
              refine g_aload_n 189 (gd rfl) rfl rfl ?_
              refine g_getA (q2 := 147) 192 (gd rfl) rfl rfl rfl rfl ?_
              refine g_iload 194 (gd rfl) rfl rfl ?_
              refine g_laload 195 (gd rfl) rfl (n := 160) rfl (in_ix i92 rfl) (fun z194 e194 => ?_)
              refine g_ladd 196 (gd rfl) rfl (fun z195 e195 => ?_)
              refine g_lastore 197 (gd rfl) rfl (n := 32) rfl (in_ix i185 rfl) ?_
              have hI196 := inv_sL (q := 150) (j := z185.toNatClampNeg) (x := z195) hI174 rfl (l_rng z195)
              refine g_iinc 200 (gd rfl) rfl rfl (Nat.le_of_ble_eq_true rfl) (fun z197 e197 => ?_)
              have i197 := in_add 1 160 e197 i92 (in_c 1 rfl) rfl rfl
              refine g_goto 87 (gd rfl) rfl ?_
              have n87 : IFQ s ((sL (sL (sL sc87 147 y87_4.toNatClampNeg (Int64.ofInt 0)) 150 z163.toNatClampNeg z173) 150 z185.toNatClampNeg z195).2.1 147) (z197).toNatClampNeg := by (rw [show ((sL (sL (sL sc87 147 y87_4.toNatClampNeg (Int64.ofInt 0)) 150 z163.toNatClampNeg z173) 150 z185.toNatClampNeg z195)).2.1 147 = vp_updL (sc87.2.1 147) y87_4.toNatClampNeg (Int64.ofInt 0) from (by simp [sL]), show z197.toNatClampNeg = y87_4.toNatClampNeg + 1 from (by show z197.toInt.toNat = y87_4.toInt.toNat + 1; have a0 := oa6 j87_2 j87_1 ro_109_20 ro_109_19 i92 i101; have a6 := t_add e101 ro_109_19 i92 rfl; have a7 := in_u i197; have a8 := t_add e197 i92 (in_c 1 rfl) rfl; have a9 := oa2 ((in_c 1 rfl)) j87_3; (first | exact zt_s (by omega) (by omega) | omega))]; exact ifq_s g87_0 (fun _ => by rw [(bs_x (x := z101) (a := y87_4) e_109_19 (by have a0 := oa6 j87_2 j87_1 ro_109_20 ro_109_19 i92 i101; have a6 := t_add e101 ro_109_19 i92 rfl; have a7 := in_u i197; have a8 := t_add e197 i92 (in_c 1 rfl) rfl; have a9 := oa2 ((in_c 1 rfl)) j87_3; omega) (by have a0 := oa6 j87_2 j87_1 ro_109_20 ro_109_19 i92 i101; have a6 := t_add e101 ro_109_19 i92 rfl; have a7 := in_u i197; have a8 := t_add e197 i92 (in_c 1 rfl) rfl; have a9 := oa2 ((in_c 1 rfl)) j87_3; omega) (by have a0 := oa6 j87_2 j87_1 ro_109_20 ro_109_19 i92 i101; have a6 := t_add e101 ro_109_19 i92 rfl; have a7 := in_u i197; have a8 := t_add e197 i92 (in_c 1 rfl) rfl; have a9 := oa2 ((in_c 1 rfl)) j87_3; omega)), if_neg (by rw [← hFc87.1 115 rfl, ← e126]; have h := c127; omega)]; rfl))
              have n87a : SB (200000000 + 2000000 * (z197).toInt) s ((sL (sL (sL sc87 147 y87_4.toNatClampNeg (Int64.ofInt 0)) 150 z163.toNatClampNeg z173) 150 z185.toNatClampNeg z195).2.1 150) := by (rw [show ((sL (sL (sL sc87 147 y87_4.toNatClampNeg (Int64.ofInt 0)) 150 z163.toNatClampNeg z173) 150 z185.toNatClampNeg z195)).2.1 150 = vp_updL (vp_updL (sc87.2.1 150) z163.toNatClampNeg z173) z185.toNatClampNeg z195 from (by simp [sL]), show ((200000000 + 2000000 * (z197).toInt : Int)) = 200000000 + 2000000 * (y87_4).toInt + 2000000 from (by have a0 := oa6 j87_2 j87_1 ro_109_20 ro_109_19 i92 i101; have a6 := t_add e101 ro_109_19 i92 rfl; have a7 := in_u i197; have a8 := t_add e197 i92 (in_c 1 rfl) rfl; have a9 := oa2 ((in_c 1 rfl)) j87_3; omega)]; exact sb_2 (w := (Int64.ofInt 0)) g87_1 (by have a0 := oa6 j87_2 j87_1 ro_109_20 ro_109_19 i92 i101; have a6 := t_add e101 ro_109_19 i92 rfl; have a7 := in_u i197; have a8 := t_add e197 i92 (in_c 1 rfl) rfl; have a9 := oa2 ((in_c 1 rfl)) j87_3; omega) (by have a0 := oa6 j87_2 j87_1 ro_109_20 ro_109_19 i92 i101; have a6 := t_add e101 ro_109_19 i92 rfl; have a7 := in_u i197; have a8 := t_add e197 i92 (in_c 1 rfl) rfl; have a9 := oa2 ((in_c 1 rfl)) j87_3; omega) ⟨by decide, by decide⟩ (by rw [e165]; simp [sL]) e173 (by rw [e172]; simp [sL, vp_updL]) (by rw [e187]; simp [sL]) e195 (by rw [e194]; simp [sL, vp_updL]))
              exact gg_w (by first | exact Nat.le_add_right _ _ | exact gw2 | exact gw3 | exact gwe rfl | exact gwf rfl | exact gwg rfl | exact gwh rfl | omega) (gg_f (gf_cons rfl (gf_cons rfl (gf_cons rfl (gf_cons rfl (gf_cons rfl gf_nil))))) (ih87 (sL (sL (sL sc87 147 y87_4.toNatClampNeg (Int64.ofInt 0)) 150 z163.toNatClampNeg z173) 150 z185.toNatClampNeg z195) z197 hI196 (fr_sL rfl (fr_sL rfl (fr_sL rfl hFc87))) (in_w 0 31 j87_1 rfl) (in_w 0 31 j87_2 rfl) (in_w 0 200000000 j87_3 rfl) (in_w 0 160 i197 rfl) n87 n87a (m_up mm87 (t_add e197 i92 (in_c 1 rfl) rfl) (in_w 1 1 (in_c 1 rfl) rfl))))
          · skip
            have i127 := z_lt (-1000000) (-1) c127 i126 rfl
            refine g_aload_n 131 (gd rfl) rfl rfl ?_
            refine g_getA (q2 := 116) 134 (gd rfl) rfl rfl rfl rfl ?_
            refine g_iload 136 (gd rfl) rfl rfl ?_
            refine g_iaload 137 (gd rfl) rfl (n := 480) rfl (in_ix i101 rfl) (fun z136 e136 => ?_)
            have i136 := inv_I hIc87 (n := 480) (t := 0) 0 1000000 rfl (in_ix i101 rfl) rfl e136
            refine g_i2l 138 (gd rfl) rfl (fun z137 e137 => ?_)
            have i137 := l_i e137 i136
            refine g_goto 142 (gd rfl) rfl ?_
            refine g_lastore 143 (gd rfl) rfl (n := 160) rfl (in_ix i92 rfl) ?_
            have hI142 := inv_sL (q := 147) (j := y87_4.toNatClampNeg) (x := z137) hIc87 rfl (l_rng z137)
            refine g_aload_n 144 (gd rfl) rfl rfl ?_
            refine g_getA (q2 := 112) 147 (gd rfl) rfl rfl rfl rfl ?_
            refine g_iload 149 (gd rfl) rfl rfl ?_
            refine g_baload 150 (gd rfl) rfl (n := 480) rfl (in_ix i101 rfl) (fun z149 e149 => ?_)
            have q149 : z116 = z149 := (sL_I (e116)).trans e149.symm
            subst q149
            refine g_if_eq 153 197 (gd rfl) rfl rfl (fun c150 => ?_) (fun c150 => ?_)
            · skip
              exact zn_eq c150 i117 rfl
            · skip
              refine g_aload_n 154 (gd rfl) rfl rfl ?_
              refine g_getA (q2 := 150) 157 (gd rfl) rfl rfl rfl rfl ?_
              refine g_aload_n 158 (gd rfl) rfl rfl ?_
              refine g_getA (q2 := 113) 161 (gd rfl) rfl rfl rfl rfl ?_
              refine g_iload 163 (gd rfl) rfl rfl ?_
              refine g_iaload 164 (gd rfl) rfl (n := 480) rfl (in_ix i101 rfl) (fun z163 e163 => ?_)
              have i163 := inv_I hI142 (n := 480) (t := 0) 0 31 rfl (in_ix i101 rfl) rfl e163
              refine g_dup2 165 (gd rfl) rfl rfl rfl ?_
              refine g_laload 166 (gd rfl) rfl (n := 32) rfl (in_ix i163 rfl) (fun z165 e165 => ?_)
              refine g_aload_n 167 (gd rfl) rfl rfl ?_
              refine g_getA (q2 := 147) 170 (gd rfl) rfl rfl rfl rfl ?_
              refine g_iload 172 (gd rfl) rfl rfl ?_
              refine g_laload 173 (gd rfl) rfl (n := 160) rfl (in_ix i92 rfl) (fun z172 e172 => ?_)
              refine g_lsub 174 (gd rfl) rfl (fun z173 e173 => ?_)
              refine g_lastore 175 (gd rfl) rfl (n := 32) rfl (in_ix i163 rfl) ?_
              have hI174 := inv_sL (q := 150) (j := z163.toNatClampNeg) (x := z173) hI142 rfl (l_rng z173)
              refine g_aload_n 176 (gd rfl) rfl rfl ?_
              refine g_getA (q2 := 150) 179 (gd rfl) rfl rfl rfl rfl ?_
              refine g_aload_n 180 (gd rfl) rfl rfl ?_
              refine g_getA (q2 := 114) 183 (gd rfl) rfl rfl rfl rfl ?_
              refine g_iload 185 (gd rfl) rfl rfl ?_
              refine g_iaload 186 (gd rfl) rfl (n := 480) rfl (in_ix i101 rfl) (fun z185 e185 => ?_)
              have i185 := inv_I hI174 (n := 480) (t := 0) 0 31 rfl (in_ix i101 rfl) rfl e185
              refine g_dup2 187 (gd rfl) rfl rfl rfl ?_
              refine g_laload 188 (gd rfl) rfl (n := 32) rfl (in_ix i185 rfl) (fun z187 e187 => ?_)
              refine g_aload_n 189 (gd rfl) rfl rfl ?_
              refine g_getA (q2 := 147) 192 (gd rfl) rfl rfl rfl rfl ?_
              refine g_iload 194 (gd rfl) rfl rfl ?_
              refine g_laload 195 (gd rfl) rfl (n := 160) rfl (in_ix i92 rfl) (fun z194 e194 => ?_)
              refine g_ladd 196 (gd rfl) rfl (fun z195 e195 => ?_)
              refine g_lastore 197 (gd rfl) rfl (n := 32) rfl (in_ix i185 rfl) ?_
              have hI196 := inv_sL (q := 150) (j := z185.toNatClampNeg) (x := z195) hI174 rfl (l_rng z195)
              refine g_iinc 200 (gd rfl) rfl rfl (Nat.le_of_ble_eq_true rfl) (fun z197 e197 => ?_)
              have i197 := in_add 1 160 e197 i92 (in_c 1 rfl) rfl rfl
              refine g_goto 87 (gd rfl) rfl ?_
              have n87 : IFQ s ((sL (sL (sL sc87 147 y87_4.toNatClampNeg z137) 150 z163.toNatClampNeg z173) 150 z185.toNatClampNeg z195).2.1 147) (z197).toNatClampNeg := by (rw [show ((sL (sL (sL sc87 147 y87_4.toNatClampNeg z137) 150 z163.toNatClampNeg z173) 150 z185.toNatClampNeg z195)).2.1 147 = vp_updL (sc87.2.1 147) y87_4.toNatClampNeg z137 from (by simp [sL]), show z197.toNatClampNeg = y87_4.toNatClampNeg + 1 from (by show z197.toInt.toNat = y87_4.toInt.toNat + 1; have a0 := oa6 j87_2 j87_1 ro_109_20 ro_109_19 i92 i101; have a6 := t_add e101 ro_109_19 i92 rfl; have a7 := in_u i197; have a8 := t_add e197 i92 (in_c 1 rfl) rfl; have a9 := oa2 ((in_c 1 rfl)) j87_3; have a11 := tx_i2l e137; have a12 := in_u i136; (first | exact zt_s (by omega) (by omega) | omega))]; exact ifq_s g87_0 (fun _ => by rw [(bs_x (x := z101) (a := y87_4) e_109_19 (by have a0 := oa6 j87_2 j87_1 ro_109_20 ro_109_19 i92 i101; have a6 := t_add e101 ro_109_19 i92 rfl; have a7 := in_u i197; have a8 := t_add e197 i92 (in_c 1 rfl) rfl; have a9 := oa2 ((in_c 1 rfl)) j87_3; have a11 := tx_i2l e137; have a12 := in_u i136; omega) (by have a0 := oa6 j87_2 j87_1 ro_109_20 ro_109_19 i92 i101; have a6 := t_add e101 ro_109_19 i92 rfl; have a7 := in_u i197; have a8 := t_add e197 i92 (in_c 1 rfl) rfl; have a9 := oa2 ((in_c 1 rfl)) j87_3; have a11 := tx_i2l e137; have a12 := in_u i136; omega) (by have a0 := oa6 j87_2 j87_1 ro_109_20 ro_109_19 i92 i101; have a6 := t_add e101 ro_109_19 i92 rfl; have a7 := in_u i197; have a8 := t_add e197 i92 (in_c 1 rfl) rfl; have a9 := oa2 ((in_c 1 rfl)) j87_3; have a11 := tx_i2l e137; have a12 := in_u i136; omega)), if_pos (by rw [← hFc87.1 115 rfl, ← e126]; have h := c127; omega), ← hFc87.1 116 rfl, ← e136]; exact tx_i2l e137))
              have n87a : SB (200000000 + 2000000 * (z197).toInt) s ((sL (sL (sL sc87 147 y87_4.toNatClampNeg z137) 150 z163.toNatClampNeg z173) 150 z185.toNatClampNeg z195).2.1 150) := by (rw [show ((sL (sL (sL sc87 147 y87_4.toNatClampNeg z137) 150 z163.toNatClampNeg z173) 150 z185.toNatClampNeg z195)).2.1 150 = vp_updL (vp_updL (sc87.2.1 150) z163.toNatClampNeg z173) z185.toNatClampNeg z195 from (by simp [sL]), show ((200000000 + 2000000 * (z197).toInt : Int)) = 200000000 + 2000000 * (y87_4).toInt + 2000000 from (by have a0 := oa6 j87_2 j87_1 ro_109_20 ro_109_19 i92 i101; have a6 := t_add e101 ro_109_19 i92 rfl; have a7 := in_u i197; have a8 := t_add e197 i92 (in_c 1 rfl) rfl; have a9 := oa2 ((in_c 1 rfl)) j87_3; have a11 := tx_i2l e137; have a12 := in_u i136; omega)]; exact sb_2 (w := z137) g87_1 (by have a0 := oa6 j87_2 j87_1 ro_109_20 ro_109_19 i92 i101; have a6 := t_add e101 ro_109_19 i92 rfl; have a7 := in_u i197; have a8 := t_add e197 i92 (in_c 1 rfl) rfl; have a9 := oa2 ((in_c 1 rfl)) j87_3; have a11 := tx_i2l e137; have a12 := in_u i136; omega) (by have a0 := oa6 j87_2 j87_1 ro_109_20 ro_109_19 i92 i101; have a6 := t_add e101 ro_109_19 i92 rfl; have a7 := in_u i197; have a8 := t_add e197 i92 (in_c 1 rfl) rfl; have a9 := oa2 ((in_c 1 rfl)) j87_3; have a11 := tx_i2l e137; have a12 := in_u i136; omega) ⟨by have h := i137.1; omega, by have h := i137.2; omega⟩ (by rw [e165]; simp [sL]) e173 (by rw [e172]; simp [sL, vp_updL]) (by rw [e187]; simp [sL]) e195 (by rw [e194]; simp [sL, vp_updL]))
              exact gg_w (by first | exact Nat.le_add_right _ _ | exact gw2 | exact gw3 | exact gwe rfl | exact gwf rfl | exact gwg rfl | exact gwh rfl | omega) (gg_f (gf_cons rfl (gf_cons rfl (gf_cons rfl (gf_cons rfl (gf_cons rfl gf_nil))))) (ih87 (sL (sL (sL sc87 147 y87_4.toNatClampNeg z137) 150 z163.toNatClampNeg z173) 150 z185.toNatClampNeg z195) z197 hI196 (fr_sL rfl (fr_sL rfl (fr_sL rfl hFc87))) (in_w 0 31 j87_1 rfl) (in_w 0 31 j87_2 rfl) (in_w 0 200000000 j87_3 rfl) (in_w 0 160 i197 rfl) n87 n87a (m_up mm87 (t_add e197 i92 (in_c 1 rfl) rfl) (in_w 1 1 (in_c 1 rfl) rfl))))
  have ct38 : ∀ (k38 : Nat) (sc38 : GS) (y38_4 : Int32), Inv sc38 → Fr fm_357 s sc38 → (In x1 0 31) → (In x2 0 31) → (In x3 0 200000000) → (In y38_4 0 32) → (∀ k : Nat, (k : Int) < (y38_4).toInt → -200000000 ≤ (sc38.2.1 150 k).toInt ∧ (sc38.2.1 150 k).toInt ≤ 200000000) → 32 - (y38_4).toInt < (k38 : Int) → GG Z (d - 1) 357 post (gx xp) (35640000468037 + k38 * 900) 38 (fun j => xlook j [(0, .ref (A 109)), (1, .int x1), (2, .int x2), (3, .int x3), (4, .int y38_4)]) [] (WW Z A sc38 ++ ex) 0 0 := by
    intro k38
    induction k38 with
    | zero => intro sc38 y38_4 hIc38 hFc38 j38_1 j38_2 j38_3 j38_4 g38_0 mm38; exact m_no mm38 j38_4 rfl
    | succ k38 ih38 =>
      intro sc38 y38_4 hIc38 hFc38 j38_1 j38_2 j38_3 j38_4 g38_0 mm38
      refine gg_w (M := 35640000468037 + k38 * 900 + 900) gws ?_
      refine g_iload 40 (gd rfl) rfl rfl ?_
      refine g_aload_n 41 (gd rfl) rfl rfl ?_
      refine g_getI 44 (gd rfl) rfl rfl rfl (fun z41 e41 => ?_)
      have q41 : u_109_20 = z41 := (fr_F e_109_20 hFc38 rfl).trans e41.symm
      subst q41
      refine g_cmp_ge 47 84 (gd rfl) rfl rfl (fun c44 => ?_) (fun c44 => ?_)
      · skip
        refine g_iconst 0 85 (gd rfl) rfl rfl ?_
        refine g_istore 87 (gd rfl) rfl (Nat.le_of_ble_eq_true rfl) ?_
        have n87 : IFQ s (sc38.2.1 147) ((Int32.ofInt 0)).toNatClampNeg := by exact fun a ha => absurd ha (Nat.not_lt_zero _)
        have n87a : SB (200000000 + 2000000 * ((Int32.ofInt 0)).toInt) s (sc38.2.1 150) := by exact sb_w (B := 200000000) (fun v hv hn => g38_0 v (by rw [← e_109_20] at hn; have a0 := oa7 j38_2 j38_1 ro_109_20 ro_109_19 j38_4 ((in_c 0 rfl)) j38_3; omega)) (by have h0 : (Int32.ofInt 0).toInt = 0 := rfl; omega)
        exact gg_w (by first | exact Nat.le_add_right _ _ | exact gw2 | exact gw3 | exact gwe rfl | exact gwf rfl | exact gwg rfl | exact gwh rfl | omega) (gg_f (gf_cons rfl (gf_cons rfl (gf_cons rfl (gf_cons rfl (gf_cons rfl gf_nil))))) (ct87 161 sc38 (Int32.ofInt 0) hIc38 hFc38 (in_w 0 31 j38_1 rfl) (in_w 0 31 j38_2 rfl) (in_w 0 200000000 j38_3 rfl) (in_w 0 160 (in_c 0 rfl) rfl) n87 n87a (m_in 161 (in_w 0 160 (in_c 0 rfl) rfl) rfl)))
      · skip
        have i44 := r_lt1 0 31 c44 j38_4 ro_109_20 rfl
        have i44a := r_lt2 1 32 c44 j38_4 ro_109_20 rfl
        refine g_aload_n 48 (gd rfl) rfl rfl ?_
        refine g_getA (q2 := 150) 51 (gd rfl) rfl rfl rfl rfl ?_
        refine g_iload 53 (gd rfl) rfl rfl ?_
        refine g_iload 55 (gd rfl) rfl rfl ?_
        refine g_iload_n 56 (gd rfl) rfl rfl ?_
        refine g_cmp_ne 59 64 (gd rfl) rfl rfl (fun c56 => ?_) (fun c56 => ?_)
        · skip
          refine g_iload 66 (gd rfl) rfl rfl ?_
          refine g_iload_n 67 (gd rfl) rfl rfl ?_
          refine g_cmp_ne 70 76 (gd rfl) rfl rfl (fun c67 => ?_) (fun c67 => ?_)
          · skip
            refine g_lconst 0 77 (gd rfl) rfl rfl ?_
            refine g_lastore 78 (gd rfl) rfl (n := 32) rfl (in_ix i44 rfl) ?_
            have hI77 := inv_sL (q := 150) (j := y38_4.toNatClampNeg) (x := (Int64.ofInt 0)) hIc38 rfl (l_rng (Int64.ofInt 0))
            refine g_iinc 81 (gd rfl) rfl rfl (Nat.le_of_ble_eq_true rfl) (fun z78 e78 => ?_)
            have i78 := in_add 1 32 e78 i44 (in_c 1 rfl) rfl rfl
            refine g_goto 38 (gd rfl) rfl ?_
            have n38 : ∀ k : Nat, (k : Int) < (z78).toInt → -200000000 ≤ ((sL sc38 150 y38_4.toNatClampNeg (Int64.ofInt 0)).2.1 150 k).toInt ∧ ((sL sc38 150 y38_4.toNatClampNeg (Int64.ofInt 0)).2.1 150 k).toInt ≤ 200000000 := by (intro k hk; have e4 : y38_4.toNatClampNeg = y38_4.toInt.toNat := rfl; rw [show ((sL sc38 150 y38_4.toNatClampNeg (Int64.ofInt 0))).2.1 150 = vp_updL (sc38.2.1 150) y38_4.toNatClampNeg (Int64.ofInt 0) from (by simp [sL])]; by_cases c : k = y38_4.toNatClampNeg; (rw [c, ul_eq]; exact ⟨by decide, by decide⟩); (rw [ul_ne c]; exact g38_0 k (by have a0 := oa6 j38_2 j38_1 i44a ro_109_19 i44 i78; have a6 := t_add e78 i44 (in_c 1 rfl) rfl; have a7 := oa2 ((in_c 1 rfl)) j38_3; omega)))
            exact gg_w (by first | exact Nat.le_add_right _ _ | exact gw2 | exact gw3 | exact gwe rfl | exact gwf rfl | exact gwg rfl | exact gwh rfl | omega) (gg_f (gf_cons rfl (gf_cons rfl (gf_cons rfl (gf_cons rfl (gf_cons rfl gf_nil))))) (ih38 (sL sc38 150 y38_4.toNatClampNeg (Int64.ofInt 0)) z78 hI77 (fr_sL rfl hFc38) (in_w 0 31 j38_1 rfl) (in_w 0 31 j38_2 rfl) (in_w 0 200000000 j38_3 rfl) (in_w 0 32 i78 rfl) n38 (m_up mm38 (t_add e78 i44 (in_c 1 rfl) rfl) (in_w 1 1 (in_c 1 rfl) rfl))))
          · skip
            refine g_iload_n 71 (gd rfl) rfl rfl ?_
            refine g_ineg 72 (gd rfl) rfl (fun z71 e71 => ?_)
            have i71 := in_neg (-200000000) 0 e71 j38_3 rfl
            refine g_i2l 73 (gd rfl) rfl (fun z72 e72 => ?_)
            have i72 := l_i e72 i71
            refine g_goto 77 (gd rfl) rfl ?_
            refine g_lastore 78 (gd rfl) rfl (n := 32) rfl (in_ix i44 rfl) ?_
            have hI77 := inv_sL (q := 150) (j := y38_4.toNatClampNeg) (x := z72) hIc38 rfl (l_rng z72)
            refine g_iinc 81 (gd rfl) rfl rfl (Nat.le_of_ble_eq_true rfl) (fun z78 e78 => ?_)
            have i78 := in_add 1 32 e78 i44 (in_c 1 rfl) rfl rfl
            refine g_goto 38 (gd rfl) rfl ?_
            have n38 : ∀ k : Nat, (k : Int) < (z78).toInt → -200000000 ≤ ((sL sc38 150 y38_4.toNatClampNeg z72).2.1 150 k).toInt ∧ ((sL sc38 150 y38_4.toNatClampNeg z72).2.1 150 k).toInt ≤ 200000000 := by (intro k hk; have e4 : y38_4.toNatClampNeg = y38_4.toInt.toNat := rfl; rw [show ((sL sc38 150 y38_4.toNatClampNeg z72)).2.1 150 = vp_updL (sc38.2.1 150) y38_4.toNatClampNeg z72 from (by simp [sL])]; by_cases c : k = y38_4.toNatClampNeg; (rw [c, ul_eq]; exact ⟨by have h := i72.1; omega, by have h := i72.2; omega⟩); (rw [ul_ne c]; exact g38_0 k (by have a0 := oa6 j38_2 j38_1 i44a ro_109_19 i44 i78; have a6 := t_add e78 i44 (in_c 1 rfl) rfl; have a7 := oa2 ((in_c 1 rfl)) j38_3; have a9 := tx_i2l e72; have a10 := in_u i71; omega)))
            exact gg_w (by first | exact Nat.le_add_right _ _ | exact gw2 | exact gw3 | exact gwe rfl | exact gwf rfl | exact gwg rfl | exact gwh rfl | omega) (gg_f (gf_cons rfl (gf_cons rfl (gf_cons rfl (gf_cons rfl (gf_cons rfl gf_nil))))) (ih38 (sL sc38 150 y38_4.toNatClampNeg z72) z78 hI77 (fr_sL rfl hFc38) (in_w 0 31 j38_1 rfl) (in_w 0 31 j38_2 rfl) (in_w 0 200000000 j38_3 rfl) (in_w 0 32 i78 rfl) n38 (m_up mm38 (t_add e78 i44 (in_c 1 rfl) rfl) (in_w 1 1 (in_c 1 rfl) rfl))))
        · skip
          refine g_iload_n 60 (gd rfl) rfl rfl ?_
          refine g_i2l 61 (gd rfl) rfl (fun z60 e60 => ?_)
          have i60 := l_i e60 j38_3
          refine g_goto 77 (gd rfl) rfl ?_
          refine g_lastore 78 (gd rfl) rfl (n := 32) rfl (in_ix i44 rfl) ?_
          have hI77 := inv_sL (q := 150) (j := y38_4.toNatClampNeg) (x := z60) hIc38 rfl (l_rng z60)
          refine g_iinc 81 (gd rfl) rfl rfl (Nat.le_of_ble_eq_true rfl) (fun z78 e78 => ?_)
          have i78 := in_add 1 32 e78 i44 (in_c 1 rfl) rfl rfl
          refine g_goto 38 (gd rfl) rfl ?_
          have n38 : ∀ k : Nat, (k : Int) < (z78).toInt → -200000000 ≤ ((sL sc38 150 y38_4.toNatClampNeg z60).2.1 150 k).toInt ∧ ((sL sc38 150 y38_4.toNatClampNeg z60).2.1 150 k).toInt ≤ 200000000 := by (intro k hk; have e4 : y38_4.toNatClampNeg = y38_4.toInt.toNat := rfl; rw [show ((sL sc38 150 y38_4.toNatClampNeg z60)).2.1 150 = vp_updL (sc38.2.1 150) y38_4.toNatClampNeg z60 from (by simp [sL])]; by_cases c : k = y38_4.toNatClampNeg; (rw [c, ul_eq]; exact ⟨by have h := i60.1; omega, by have h := i60.2; omega⟩); (rw [ul_ne c]; exact g38_0 k (by have a0 := oa6 j38_2 j38_1 i44a ro_109_19 i44 i78; have a6 := t_add e78 i44 (in_c 1 rfl) rfl; have a7 := oa2 ((in_c 1 rfl)) j38_3; have a9 := tx_i2l e60; omega)))
          exact gg_w (by first | exact Nat.le_add_right _ _ | exact gw2 | exact gw3 | exact gwe rfl | exact gwf rfl | exact gwg rfl | exact gwh rfl | omega) (gg_f (gf_cons rfl (gf_cons rfl (gf_cons rfl (gf_cons rfl (gf_cons rfl gf_nil))))) (ih38 (sL sc38 150 y38_4.toNatClampNeg z60) z78 hI77 (fr_sL rfl hFc38) (in_w 0 31 j38_1 rfl) (in_w 0 31 j38_2 rfl) (in_w 0 200000000 j38_3 rfl) (in_w 0 32 i78 rfl) n38 (m_up mm38 (t_add e78 i44 (in_c 1 rfl) rfl) (in_w 1 1 (in_c 1 rfl) rfl))))
  refine g_enter2 (k := 357) (N := 35640000498637) (by first | exact dq1 hd rfl | exact dq0 hd rfl | exact dq2 hd rfl | exact dq3 hd rfl | omega) rfl (Nat.le_of_ble_eq_true rfl) ?_
  refine g_aload_n 1 (gd rfl) rfl rfl ?_
  refine g_aload_n 2 (gd rfl) rfl rfl ?_
  refine g_iload_n 3 (gd rfl) rfl rfl ?_
  refine g_iload_n 4 (gd rfl) rfl rfl ?_
  refine g_callv (X := _) (As := [.int x1, .int x2]) (r := [.ref (A 109)]) (b := A 109) (q := 109) 7 (gd rfl) rfl rfl rfl rfl rfl (ww_o rfl) (Nat.le_of_ble_eq_true rfl) (mc := 0) (ms := 0) (Nat.zero_le _) (Nat.zero_le _) (P := fun v u => _) ?_ (fun e u h => h) (fun v u h => h)
  intro po4 xx4 hp4 hx4
  refine g_enter2 (k := 353) (N := 300) (by first | exact dq1 hd rfl | exact dq0 hd rfl | exact dq2 hd rfl | exact dq3 hd rfl | omega) rfl (Nat.le_of_ble_eq_true rfl) ?_
  refine g_aload_n 1 (gd rfl) rfl rfl ?_
  refine g_iload_n 2 (gd rfl) rfl rfl ?_
  refine g_callv (X := _) (As := [.int x1]) (r := []) (b := A 109) (q := 109) 5 (gd rfl) rfl rfl rfl rfl rfl (ww_o rfl) (Nat.le_of_ble_eq_true rfl) (mc := 0) (ms := 0) (Nat.zero_le _) (Nat.zero_le _) (P := fun v u => _) ?_ (fun e u h => h) (fun v u h => h)
  intro po4x2 xx4x2 hp4x2 hx4x2
  refine g_enter2 (k := 272) (N := 300) (by first | exact dq1 hd rfl | exact dq0 hd rfl | exact dq2 hd rfl | exact dq3 hd rfl | omega) rfl (Nat.le_of_ble_eq_true rfl) ?_
  refine g_iload_n 1 (gd rfl) rfl rfl ?_
  refine g_if_lt 4 16 (gd rfl) rfl rfl (fun c4x2x1 => ?_) (fun c4x2x1 => ?_)
  · skip
    have i4x2x1 := z_lt (-2147483648) (-1) c4x2x1 (i_rng x1) rfl
    refine g_iconst 0 17 (gd rfl) rfl rfl ?_
    refine g_ireturn (gd rfl) rfl (nb01 (in_w 0 1 (in_c 0 rfl) rfl)) (hp4x2 _ _ ?_)
    show GG _ _ _ _ _ _ _ _ [.int (Int32.ofInt 0)] _ _ _
    refine g_if_eq 8 25 (gd rfl) rfl rfl (fun c4x5 => ?_) (fun c4x5 => ?_)
    · skip
      refine g_iconst 0 26 (gd rfl) rfl rfl ?_
      refine g_ireturn (gd rfl) rfl (nb01 (in_w 0 1 (in_c 0 rfl) rfl)) (hp4 _ _ ?_)
      show GG _ _ _ _ _ _ _ _ [.int (Int32.ofInt 0), .ref (A 109)] _ _ _
      refine g_if_eq 10 26 (gd rfl) rfl rfl (fun c7 => ?_) (fun c7 => ?_)
      · skip
        refine g_iconst 0 27 (gd rfl) rfl rfl ?_
        refine g_callv (X := _) (As := [.int (Int32.ofInt 0)]) (r := []) (b := A 109) (q := 109) 30 (gd rfl) rfl rfl rfl rfl rfl (ww_o rfl) (Nat.le_of_ble_eq_true rfl) (mc := 0) (ms := 0) (Nat.zero_le _) (Nat.zero_le _) (P := fun v u => _) ?_ (fun e u h => h) (fun v u h => h)
        intro po27 xx27 hp27 hx27
        refine g_enter2 (k := 271) (N := 300) (by first | exact dq1 hd rfl | exact dq0 hd rfl | exact dq2 hd rfl | exact dq3 hd rfl | omega) rfl (Nat.le_of_ble_eq_true rfl) ?_
        refine g_aload_n 1 (gd rfl) rfl rfl ?_
        refine g_iload_n 2 (gd rfl) rfl rfl ?_
        refine g_iconst 1 3 (gd rfl) rfl rfl ?_
        refine g_callv (X := _) (As := [.int (Int32.ofInt 0), .int (Int32.ofInt 1)]) (r := []) (b := A 109) (q := 109) 6 (gd rfl) rfl rfl rfl rfl rfl (ww_o rfl) (Nat.le_of_ble_eq_true rfl) (mc := 0) (ms := 0) (Nat.zero_le _) (Nat.zero_le _) (P := fun v u => _) ?_ (fun e u h => h) (fun v u h => h)
        intro po27x3 xx27x3 hp27x3 hx27x3
        refine g_enter2 (k := 270) (N := 300) (by first | exact dq1 hd rfl | exact dq0 hd rfl | exact dq2 hd rfl | exact dq3 hd rfl | omega) rfl (Nat.le_of_ble_eq_true rfl) ?_
        refine g_aload_n 1 (gd rfl) rfl rfl ?_
        refine g_iload_n 2 (gd rfl) rfl rfl ?_
        refine g_if_ne 5 9 (gd rfl) rfl rfl (fun c27x3x2 => ?_) (fun c27x3x2 => ?_)
        · skip
          exact zn_ne c27x3x2 (in_c 0 rfl) rfl
        · skip
          refine g_iconst 1 6 (gd rfl) rfl rfl ?_
          refine g_goto 18 (gd rfl) rfl ?_
          refine g_putI 21 (gd rfl) rfl rfl rfl rfl ?_
          have hI27x3x18 := inv_sF (q := 109) (j := 0) hI rfl (in_w 0 2 (in_c 1 rfl) rfl)
          refine g_aload_n 22 (gd rfl) rfl rfl ?_
          refine g_getI 25 (gd rfl) rfl rfl rfl (fun z27x3x22 e27x3x22 => ?_)
          have q27x3x22 : (Int32.ofInt 1) = z27x3x22 := (sF_get).trans e27x3x22.symm
          subst q27x3x22
          refine g_if_le 28 32 (gd rfl) rfl rfl (fun c27x3x25 => ?_) (fun c27x3x25 => ?_)
          · skip
            exact zn_le c27x3x25 (in_c 1 rfl) rfl
          · skip
            refine g_iconst 1 29 (gd rfl) rfl rfl ?_
            refine g_goto 33 (gd rfl) rfl ?_
            refine g_ireturn (gd rfl) rfl (nb01 (in_w 0 1 (in_c 1 rfl) rfl)) (hp27x3 _ _ ?_)
            show GG _ _ _ _ _ _ _ _ [.int (Int32.ofInt 1)] _ _ _
            refine g_ireturn (gd rfl) rfl (nb01 (in_w 0 1 (in_c 1 rfl) rfl)) (hp27 _ _ ?_)
            show GG _ _ _ _ _ _ _ _ [.int (Int32.ofInt 1)] _ _ _
            refine g_if_eq 33 35 (gd rfl) rfl rfl (fun c30 => ?_) (fun c30 => ?_)
            · skip
              exact zn_eq c30 (in_c 1 rfl) rfl
            · skip
              refine g_lconst 0 34 (gd rfl) rfl rfl ?_
              exact g_lreturn (gd rfl) rfl (hP _ _ ⟨(sF s 109 0 (Int32.ofInt 1)), hI27x3x18, (fr_sF rfl fr_rf), (Int64.ofInt 0), rfl, rfl⟩)
      · skip
        exact zn_ne c7 (in_c 0 rfl) rfl
    · skip
      exact zn_ne c4x5 (in_c 0 rfl) rfl
  · skip
    have i4x2x1 := z_ge 0 2147483647 c4x2x1 (i_rng x1) rfl
    refine g_iload_n 5 (gd rfl) rfl rfl ?_
    refine g_aload_n 6 (gd rfl) rfl rfl ?_
    refine g_getI 9 (gd rfl) rfl rfl rfl (fun z4x2x6 e4x2x6 => ?_)
    have q4x2x6 : u_109_20 = z4x2x6 := (e_109_20).trans e4x2x6.symm
    subst q4x2x6
    refine g_cmp_ge 12 16 (gd rfl) rfl rfl (fun c4x2x9 => ?_) (fun c4x2x9 => ?_)
    · skip
      refine g_iconst 0 17 (gd rfl) rfl rfl ?_
      refine g_ireturn (gd rfl) rfl (nb01 (in_w 0 1 (in_c 0 rfl) rfl)) (hp4x2 _ _ ?_)
      show GG _ _ _ _ _ _ _ _ [.int (Int32.ofInt 0)] _ _ _
      refine g_if_eq 8 25 (gd rfl) rfl rfl (fun c4x5 => ?_) (fun c4x5 => ?_)
      · skip
        refine g_iconst 0 26 (gd rfl) rfl rfl ?_
        refine g_ireturn (gd rfl) rfl (nb01 (in_w 0 1 (in_c 0 rfl) rfl)) (hp4 _ _ ?_)
        show GG _ _ _ _ _ _ _ _ [.int (Int32.ofInt 0), .ref (A 109)] _ _ _
        refine g_if_eq 10 26 (gd rfl) rfl rfl (fun c7 => ?_) (fun c7 => ?_)
        · skip
          refine g_iconst 0 27 (gd rfl) rfl rfl ?_
          refine g_callv (X := _) (As := [.int (Int32.ofInt 0)]) (r := []) (b := A 109) (q := 109) 30 (gd rfl) rfl rfl rfl rfl rfl (ww_o rfl) (Nat.le_of_ble_eq_true rfl) (mc := 0) (ms := 0) (Nat.zero_le _) (Nat.zero_le _) (P := fun v u => _) ?_ (fun e u h => h) (fun v u h => h)
          intro po27 xx27 hp27 hx27
          refine g_enter2 (k := 271) (N := 300) (by first | exact dq1 hd rfl | exact dq0 hd rfl | exact dq2 hd rfl | exact dq3 hd rfl | omega) rfl (Nat.le_of_ble_eq_true rfl) ?_
          refine g_aload_n 1 (gd rfl) rfl rfl ?_
          refine g_iload_n 2 (gd rfl) rfl rfl ?_
          refine g_iconst 1 3 (gd rfl) rfl rfl ?_
          refine g_callv (X := _) (As := [.int (Int32.ofInt 0), .int (Int32.ofInt 1)]) (r := []) (b := A 109) (q := 109) 6 (gd rfl) rfl rfl rfl rfl rfl (ww_o rfl) (Nat.le_of_ble_eq_true rfl) (mc := 0) (ms := 0) (Nat.zero_le _) (Nat.zero_le _) (P := fun v u => _) ?_ (fun e u h => h) (fun v u h => h)
          intro po27x3 xx27x3 hp27x3 hx27x3
          refine g_enter2 (k := 270) (N := 300) (by first | exact dq1 hd rfl | exact dq0 hd rfl | exact dq2 hd rfl | exact dq3 hd rfl | omega) rfl (Nat.le_of_ble_eq_true rfl) ?_
          refine g_aload_n 1 (gd rfl) rfl rfl ?_
          refine g_iload_n 2 (gd rfl) rfl rfl ?_
          refine g_if_ne 5 9 (gd rfl) rfl rfl (fun c27x3x2 => ?_) (fun c27x3x2 => ?_)
          · skip
            exact zn_ne c27x3x2 (in_c 0 rfl) rfl
          · skip
            refine g_iconst 1 6 (gd rfl) rfl rfl ?_
            refine g_goto 18 (gd rfl) rfl ?_
            refine g_putI 21 (gd rfl) rfl rfl rfl rfl ?_
            have hI27x3x18 := inv_sF (q := 109) (j := 0) hI rfl (in_w 0 2 (in_c 1 rfl) rfl)
            refine g_aload_n 22 (gd rfl) rfl rfl ?_
            refine g_getI 25 (gd rfl) rfl rfl rfl (fun z27x3x22 e27x3x22 => ?_)
            have q27x3x22 : (Int32.ofInt 1) = z27x3x22 := (sF_get).trans e27x3x22.symm
            subst q27x3x22
            refine g_if_le 28 32 (gd rfl) rfl rfl (fun c27x3x25 => ?_) (fun c27x3x25 => ?_)
            · skip
              exact zn_le c27x3x25 (in_c 1 rfl) rfl
            · skip
              refine g_iconst 1 29 (gd rfl) rfl rfl ?_
              refine g_goto 33 (gd rfl) rfl ?_
              refine g_ireturn (gd rfl) rfl (nb01 (in_w 0 1 (in_c 1 rfl) rfl)) (hp27x3 _ _ ?_)
              show GG _ _ _ _ _ _ _ _ [.int (Int32.ofInt 1)] _ _ _
              refine g_ireturn (gd rfl) rfl (nb01 (in_w 0 1 (in_c 1 rfl) rfl)) (hp27 _ _ ?_)
              show GG _ _ _ _ _ _ _ _ [.int (Int32.ofInt 1)] _ _ _
              refine g_if_eq 33 35 (gd rfl) rfl rfl (fun c30 => ?_) (fun c30 => ?_)
              · skip
                exact zn_eq c30 (in_c 1 rfl) rfl
              · skip
                refine g_lconst 0 34 (gd rfl) rfl rfl ?_
                exact g_lreturn (gd rfl) rfl (hP _ _ ⟨(sF s 109 0 (Int32.ofInt 1)), hI27x3x18, (fr_sF rfl fr_rf), (Int64.ofInt 0), rfl, rfl⟩)
        · skip
          exact zn_ne c7 (in_c 0 rfl) rfl
      · skip
        exact zn_ne c4x5 (in_c 0 rfl) rfl
    · skip
      have i4x2x9 := r_lt1 0 31 c4x2x9 i4x2x1 ro_109_20 rfl
      have i4x2x9a := r_lt2 1 32 c4x2x9 i4x2x1 ro_109_20 rfl
      refine g_iconst 1 13 (gd rfl) rfl rfl ?_
      refine g_goto 17 (gd rfl) rfl ?_
      refine g_ireturn (gd rfl) rfl (nb01 (in_w 0 1 (in_c 1 rfl) rfl)) (hp4x2 _ _ ?_)
      show GG _ _ _ _ _ _ _ _ [.int (Int32.ofInt 1)] _ _ _
      refine g_if_eq 8 25 (gd rfl) rfl rfl (fun c4x5 => ?_) (fun c4x5 => ?_)
      · skip
        exact zn_eq c4x5 (in_c 1 rfl) rfl
      · skip
        refine g_aload_n 9 (gd rfl) rfl rfl ?_
        refine g_iload_n 10 (gd rfl) rfl rfl ?_
        refine g_callv (X := _) (As := [.int x2]) (r := []) (b := A 109) (q := 109) 13 (gd rfl) rfl rfl rfl rfl rfl (ww_o rfl) (Nat.le_of_ble_eq_true rfl) (mc := 0) (ms := 0) (Nat.zero_le _) (Nat.zero_le _) (P := fun v u => _) ?_ (fun e u h => h) (fun v u h => h)
        intro po4x10 xx4x10 hp4x10 hx4x10
        refine g_enter2 (k := 272) (N := 300) (by first | exact dq1 hd rfl | exact dq0 hd rfl | exact dq2 hd rfl | exact dq3 hd rfl | omega) rfl (Nat.le_of_ble_eq_true rfl) ?_
        refine g_iload_n 1 (gd rfl) rfl rfl ?_
        refine g_if_lt 4 16 (gd rfl) rfl rfl (fun c4x10x1 => ?_) (fun c4x10x1 => ?_)
        · skip
          have i4x10x1 := z_lt (-2147483648) (-1) c4x10x1 (i_rng x2) rfl
          refine g_iconst 0 17 (gd rfl) rfl rfl ?_
          refine g_ireturn (gd rfl) rfl (nb01 (in_w 0 1 (in_c 0 rfl) rfl)) (hp4x10 _ _ ?_)
          show GG _ _ _ _ _ _ _ _ [.int (Int32.ofInt 0)] _ _ _
          refine g_if_eq 16 25 (gd rfl) rfl rfl (fun c4x13 => ?_) (fun c4x13 => ?_)
          · skip
            refine g_iconst 0 26 (gd rfl) rfl rfl ?_
            refine g_ireturn (gd rfl) rfl (nb01 (in_w 0 1 (in_c 0 rfl) rfl)) (hp4 _ _ ?_)
            show GG _ _ _ _ _ _ _ _ [.int (Int32.ofInt 0), .ref (A 109)] _ _ _
            refine g_if_eq 10 26 (gd rfl) rfl rfl (fun c7 => ?_) (fun c7 => ?_)
            · skip
              refine g_iconst 0 27 (gd rfl) rfl rfl ?_
              refine g_callv (X := _) (As := [.int (Int32.ofInt 0)]) (r := []) (b := A 109) (q := 109) 30 (gd rfl) rfl rfl rfl rfl rfl (ww_o rfl) (Nat.le_of_ble_eq_true rfl) (mc := 0) (ms := 0) (Nat.zero_le _) (Nat.zero_le _) (P := fun v u => _) ?_ (fun e u h => h) (fun v u h => h)
              intro po27 xx27 hp27 hx27
              refine g_enter2 (k := 271) (N := 300) (by first | exact dq1 hd rfl | exact dq0 hd rfl | exact dq2 hd rfl | exact dq3 hd rfl | omega) rfl (Nat.le_of_ble_eq_true rfl) ?_
              refine g_aload_n 1 (gd rfl) rfl rfl ?_
              refine g_iload_n 2 (gd rfl) rfl rfl ?_
              refine g_iconst 1 3 (gd rfl) rfl rfl ?_
              refine g_callv (X := _) (As := [.int (Int32.ofInt 0), .int (Int32.ofInt 1)]) (r := []) (b := A 109) (q := 109) 6 (gd rfl) rfl rfl rfl rfl rfl (ww_o rfl) (Nat.le_of_ble_eq_true rfl) (mc := 0) (ms := 0) (Nat.zero_le _) (Nat.zero_le _) (P := fun v u => _) ?_ (fun e u h => h) (fun v u h => h)
              intro po27x3 xx27x3 hp27x3 hx27x3
              refine g_enter2 (k := 270) (N := 300) (by first | exact dq1 hd rfl | exact dq0 hd rfl | exact dq2 hd rfl | exact dq3 hd rfl | omega) rfl (Nat.le_of_ble_eq_true rfl) ?_
              refine g_aload_n 1 (gd rfl) rfl rfl ?_
              refine g_iload_n 2 (gd rfl) rfl rfl ?_
              refine g_if_ne 5 9 (gd rfl) rfl rfl (fun c27x3x2 => ?_) (fun c27x3x2 => ?_)
              · skip
                exact zn_ne c27x3x2 (in_c 0 rfl) rfl
              · skip
                refine g_iconst 1 6 (gd rfl) rfl rfl ?_
                refine g_goto 18 (gd rfl) rfl ?_
                refine g_putI 21 (gd rfl) rfl rfl rfl rfl ?_
                have hI27x3x18 := inv_sF (q := 109) (j := 0) hI rfl (in_w 0 2 (in_c 1 rfl) rfl)
                refine g_aload_n 22 (gd rfl) rfl rfl ?_
                refine g_getI 25 (gd rfl) rfl rfl rfl (fun z27x3x22 e27x3x22 => ?_)
                have q27x3x22 : (Int32.ofInt 1) = z27x3x22 := (sF_get).trans e27x3x22.symm
                subst q27x3x22
                refine g_if_le 28 32 (gd rfl) rfl rfl (fun c27x3x25 => ?_) (fun c27x3x25 => ?_)
                · skip
                  exact zn_le c27x3x25 (in_c 1 rfl) rfl
                · skip
                  refine g_iconst 1 29 (gd rfl) rfl rfl ?_
                  refine g_goto 33 (gd rfl) rfl ?_
                  refine g_ireturn (gd rfl) rfl (nb01 (in_w 0 1 (in_c 1 rfl) rfl)) (hp27x3 _ _ ?_)
                  show GG _ _ _ _ _ _ _ _ [.int (Int32.ofInt 1)] _ _ _
                  refine g_ireturn (gd rfl) rfl (nb01 (in_w 0 1 (in_c 1 rfl) rfl)) (hp27 _ _ ?_)
                  show GG _ _ _ _ _ _ _ _ [.int (Int32.ofInt 1)] _ _ _
                  refine g_if_eq 33 35 (gd rfl) rfl rfl (fun c30 => ?_) (fun c30 => ?_)
                  · skip
                    exact zn_eq c30 (in_c 1 rfl) rfl
                  · skip
                    refine g_lconst 0 34 (gd rfl) rfl rfl ?_
                    exact g_lreturn (gd rfl) rfl (hP _ _ ⟨(sF s 109 0 (Int32.ofInt 1)), hI27x3x18, (fr_sF rfl fr_rf), (Int64.ofInt 0), rfl, rfl⟩)
            · skip
              exact zn_ne c7 (in_c 0 rfl) rfl
          · skip
            exact zn_ne c4x13 (in_c 0 rfl) rfl
        · skip
          have i4x10x1 := z_ge 0 2147483647 c4x10x1 (i_rng x2) rfl
          refine g_iload_n 5 (gd rfl) rfl rfl ?_
          refine g_aload_n 6 (gd rfl) rfl rfl ?_
          refine g_getI 9 (gd rfl) rfl rfl rfl (fun z4x10x6 e4x10x6 => ?_)
          have q4x10x6 : u_109_20 = z4x10x6 := (e_109_20).trans e4x10x6.symm
          subst q4x10x6
          refine g_cmp_ge 12 16 (gd rfl) rfl rfl (fun c4x10x9 => ?_) (fun c4x10x9 => ?_)
          · skip
            have i4x10x9 := r_le2 1 2147483647 c4x10x9 i4x2x9a i4x10x1 rfl
            refine g_iconst 0 17 (gd rfl) rfl rfl ?_
            refine g_ireturn (gd rfl) rfl (nb01 (in_w 0 1 (in_c 0 rfl) rfl)) (hp4x10 _ _ ?_)
            show GG _ _ _ _ _ _ _ _ [.int (Int32.ofInt 0)] _ _ _
            refine g_if_eq 16 25 (gd rfl) rfl rfl (fun c4x13 => ?_) (fun c4x13 => ?_)
            · skip
              refine g_iconst 0 26 (gd rfl) rfl rfl ?_
              refine g_ireturn (gd rfl) rfl (nb01 (in_w 0 1 (in_c 0 rfl) rfl)) (hp4 _ _ ?_)
              show GG _ _ _ _ _ _ _ _ [.int (Int32.ofInt 0), .ref (A 109)] _ _ _
              refine g_if_eq 10 26 (gd rfl) rfl rfl (fun c7 => ?_) (fun c7 => ?_)
              · skip
                refine g_iconst 0 27 (gd rfl) rfl rfl ?_
                refine g_callv (X := _) (As := [.int (Int32.ofInt 0)]) (r := []) (b := A 109) (q := 109) 30 (gd rfl) rfl rfl rfl rfl rfl (ww_o rfl) (Nat.le_of_ble_eq_true rfl) (mc := 0) (ms := 0) (Nat.zero_le _) (Nat.zero_le _) (P := fun v u => _) ?_ (fun e u h => h) (fun v u h => h)
                intro po27 xx27 hp27 hx27
                refine g_enter2 (k := 271) (N := 300) (by first | exact dq1 hd rfl | exact dq0 hd rfl | exact dq2 hd rfl | exact dq3 hd rfl | omega) rfl (Nat.le_of_ble_eq_true rfl) ?_
                refine g_aload_n 1 (gd rfl) rfl rfl ?_
                refine g_iload_n 2 (gd rfl) rfl rfl ?_
                refine g_iconst 1 3 (gd rfl) rfl rfl ?_
                refine g_callv (X := _) (As := [.int (Int32.ofInt 0), .int (Int32.ofInt 1)]) (r := []) (b := A 109) (q := 109) 6 (gd rfl) rfl rfl rfl rfl rfl (ww_o rfl) (Nat.le_of_ble_eq_true rfl) (mc := 0) (ms := 0) (Nat.zero_le _) (Nat.zero_le _) (P := fun v u => _) ?_ (fun e u h => h) (fun v u h => h)
                intro po27x3 xx27x3 hp27x3 hx27x3
                refine g_enter2 (k := 270) (N := 300) (by first | exact dq1 hd rfl | exact dq0 hd rfl | exact dq2 hd rfl | exact dq3 hd rfl | omega) rfl (Nat.le_of_ble_eq_true rfl) ?_
                refine g_aload_n 1 (gd rfl) rfl rfl ?_
                refine g_iload_n 2 (gd rfl) rfl rfl ?_
                refine g_if_ne 5 9 (gd rfl) rfl rfl (fun c27x3x2 => ?_) (fun c27x3x2 => ?_)
                · skip
                  exact zn_ne c27x3x2 (in_c 0 rfl) rfl
                · skip
                  refine g_iconst 1 6 (gd rfl) rfl rfl ?_
                  refine g_goto 18 (gd rfl) rfl ?_
                  refine g_putI 21 (gd rfl) rfl rfl rfl rfl ?_
                  have hI27x3x18 := inv_sF (q := 109) (j := 0) hI rfl (in_w 0 2 (in_c 1 rfl) rfl)
                  refine g_aload_n 22 (gd rfl) rfl rfl ?_
                  refine g_getI 25 (gd rfl) rfl rfl rfl (fun z27x3x22 e27x3x22 => ?_)
                  have q27x3x22 : (Int32.ofInt 1) = z27x3x22 := (sF_get).trans e27x3x22.symm
                  subst q27x3x22
                  refine g_if_le 28 32 (gd rfl) rfl rfl (fun c27x3x25 => ?_) (fun c27x3x25 => ?_)
                  · skip
                    exact zn_le c27x3x25 (in_c 1 rfl) rfl
                  · skip
                    refine g_iconst 1 29 (gd rfl) rfl rfl ?_
                    refine g_goto 33 (gd rfl) rfl ?_
                    refine g_ireturn (gd rfl) rfl (nb01 (in_w 0 1 (in_c 1 rfl) rfl)) (hp27x3 _ _ ?_)
                    show GG _ _ _ _ _ _ _ _ [.int (Int32.ofInt 1)] _ _ _
                    refine g_ireturn (gd rfl) rfl (nb01 (in_w 0 1 (in_c 1 rfl) rfl)) (hp27 _ _ ?_)
                    show GG _ _ _ _ _ _ _ _ [.int (Int32.ofInt 1)] _ _ _
                    refine g_if_eq 33 35 (gd rfl) rfl rfl (fun c30 => ?_) (fun c30 => ?_)
                    · skip
                      exact zn_eq c30 (in_c 1 rfl) rfl
                    · skip
                      refine g_lconst 0 34 (gd rfl) rfl rfl ?_
                      exact g_lreturn (gd rfl) rfl (hP _ _ ⟨(sF s 109 0 (Int32.ofInt 1)), hI27x3x18, (fr_sF rfl fr_rf), (Int64.ofInt 0), rfl, rfl⟩)
              · skip
                exact zn_ne c7 (in_c 0 rfl) rfl
            · skip
              exact zn_ne c4x13 (in_c 0 rfl) rfl
          · skip
            have i4x10x9 := r_lt1 0 31 c4x10x9 i4x10x1 i4x2x9a rfl
            refine g_iconst 1 13 (gd rfl) rfl rfl ?_
            refine g_goto 17 (gd rfl) rfl ?_
            refine g_ireturn (gd rfl) rfl (nb01 (in_w 0 1 (in_c 1 rfl) rfl)) (hp4x10 _ _ ?_)
            show GG _ _ _ _ _ _ _ _ [.int (Int32.ofInt 1)] _ _ _
            refine g_if_eq 16 25 (gd rfl) rfl rfl (fun c4x13 => ?_) (fun c4x13 => ?_)
            · skip
              exact zn_eq c4x13 (in_c 1 rfl) rfl
            · skip
              refine g_iload_n 17 (gd rfl) rfl rfl ?_
              refine g_iload_n 18 (gd rfl) rfl rfl ?_
              refine g_cmp_eq 21 25 (gd rfl) rfl rfl (fun c4x18 => ?_) (fun c4x18 => ?_)
              · skip
                refine g_iconst 0 26 (gd rfl) rfl rfl ?_
                refine g_ireturn (gd rfl) rfl (nb01 (in_w 0 1 (in_c 0 rfl) rfl)) (hp4 _ _ ?_)
                show GG _ _ _ _ _ _ _ _ [.int (Int32.ofInt 0), .ref (A 109)] _ _ _
                refine g_if_eq 10 26 (gd rfl) rfl rfl (fun c7 => ?_) (fun c7 => ?_)
                · skip
                  refine g_iconst 0 27 (gd rfl) rfl rfl ?_
                  refine g_callv (X := _) (As := [.int (Int32.ofInt 0)]) (r := []) (b := A 109) (q := 109) 30 (gd rfl) rfl rfl rfl rfl rfl (ww_o rfl) (Nat.le_of_ble_eq_true rfl) (mc := 0) (ms := 0) (Nat.zero_le _) (Nat.zero_le _) (P := fun v u => _) ?_ (fun e u h => h) (fun v u h => h)
                  intro po27 xx27 hp27 hx27
                  refine g_enter2 (k := 271) (N := 300) (by first | exact dq1 hd rfl | exact dq0 hd rfl | exact dq2 hd rfl | exact dq3 hd rfl | omega) rfl (Nat.le_of_ble_eq_true rfl) ?_
                  refine g_aload_n 1 (gd rfl) rfl rfl ?_
                  refine g_iload_n 2 (gd rfl) rfl rfl ?_
                  refine g_iconst 1 3 (gd rfl) rfl rfl ?_
                  refine g_callv (X := _) (As := [.int (Int32.ofInt 0), .int (Int32.ofInt 1)]) (r := []) (b := A 109) (q := 109) 6 (gd rfl) rfl rfl rfl rfl rfl (ww_o rfl) (Nat.le_of_ble_eq_true rfl) (mc := 0) (ms := 0) (Nat.zero_le _) (Nat.zero_le _) (P := fun v u => _) ?_ (fun e u h => h) (fun v u h => h)
                  intro po27x3 xx27x3 hp27x3 hx27x3
                  refine g_enter2 (k := 270) (N := 300) (by first | exact dq1 hd rfl | exact dq0 hd rfl | exact dq2 hd rfl | exact dq3 hd rfl | omega) rfl (Nat.le_of_ble_eq_true rfl) ?_
                  refine g_aload_n 1 (gd rfl) rfl rfl ?_
                  refine g_iload_n 2 (gd rfl) rfl rfl ?_
                  refine g_if_ne 5 9 (gd rfl) rfl rfl (fun c27x3x2 => ?_) (fun c27x3x2 => ?_)
                  · skip
                    exact zn_ne c27x3x2 (in_c 0 rfl) rfl
                  · skip
                    refine g_iconst 1 6 (gd rfl) rfl rfl ?_
                    refine g_goto 18 (gd rfl) rfl ?_
                    refine g_putI 21 (gd rfl) rfl rfl rfl rfl ?_
                    have hI27x3x18 := inv_sF (q := 109) (j := 0) hI rfl (in_w 0 2 (in_c 1 rfl) rfl)
                    refine g_aload_n 22 (gd rfl) rfl rfl ?_
                    refine g_getI 25 (gd rfl) rfl rfl rfl (fun z27x3x22 e27x3x22 => ?_)
                    have q27x3x22 : (Int32.ofInt 1) = z27x3x22 := (sF_get).trans e27x3x22.symm
                    subst q27x3x22
                    refine g_if_le 28 32 (gd rfl) rfl rfl (fun c27x3x25 => ?_) (fun c27x3x25 => ?_)
                    · skip
                      exact zn_le c27x3x25 (in_c 1 rfl) rfl
                    · skip
                      refine g_iconst 1 29 (gd rfl) rfl rfl ?_
                      refine g_goto 33 (gd rfl) rfl ?_
                      refine g_ireturn (gd rfl) rfl (nb01 (in_w 0 1 (in_c 1 rfl) rfl)) (hp27x3 _ _ ?_)
                      show GG _ _ _ _ _ _ _ _ [.int (Int32.ofInt 1)] _ _ _
                      refine g_ireturn (gd rfl) rfl (nb01 (in_w 0 1 (in_c 1 rfl) rfl)) (hp27 _ _ ?_)
                      show GG _ _ _ _ _ _ _ _ [.int (Int32.ofInt 1)] _ _ _
                      refine g_if_eq 33 35 (gd rfl) rfl rfl (fun c30 => ?_) (fun c30 => ?_)
                      · skip
                        exact zn_eq c30 (in_c 1 rfl) rfl
                      · skip
                        refine g_lconst 0 34 (gd rfl) rfl rfl ?_
                        exact g_lreturn (gd rfl) rfl (hP _ _ ⟨(sF s 109 0 (Int32.ofInt 1)), hI27x3x18, (fr_sF rfl fr_rf), (Int64.ofInt 0), rfl, rfl⟩)
                · skip
                  exact zn_ne c7 (in_c 0 rfl) rfl
              · skip
                refine g_iconst 1 22 (gd rfl) rfl rfl ?_
                refine g_goto 26 (gd rfl) rfl ?_
                refine g_ireturn (gd rfl) rfl (nb01 (in_w 0 1 (in_c 1 rfl) rfl)) (hp4 _ _ ?_)
                show GG _ _ _ _ _ _ _ _ [.int (Int32.ofInt 1), .ref (A 109)] _ _ _
                refine g_if_eq 10 26 (gd rfl) rfl rfl (fun c7 => ?_) (fun c7 => ?_)
                · skip
                  exact zn_eq c7 (in_c 1 rfl) rfl
                · skip
                  refine g_iload_n 11 (gd rfl) rfl rfl ?_
                  refine g_i2l 12 (gd rfl) rfl (fun z11 e11 => ?_)
                  have i11 := l_i e11 (i_rng x3)
                  refine g_lconst 0 13 (gd rfl) rfl rfl ?_
                  refine g_ldc2_w 200000000 16 (gd rfl) rfl rfl ?_
                  refine g_calls (As := [.long z11, .long (Int64.ofInt 0), .long (Int64.ofInt 200000000)]) (r := [.ref (A 109)]) 19 (gd rfl) rfl rfl rfl rfl rfl (Nat.le_of_ble_eq_true rfl) (mc := 0) (ms := 0) (Nat.zero_le _) (Nat.zero_le _) (P := fun v u => _) ?_ (fun v u h => h)
                  intro po16 xx16 hp16 hx16
                  refine g_enter2 (k := 269) (N := 300) (by first | exact dq1 hd rfl | exact dq0 hd rfl | exact dq2 hd rfl | exact dq3 hd rfl | omega) rfl (Nat.le_of_ble_eq_true rfl) ?_
                  refine g_lload_n 1 (gd rfl) rfl rfl ?_
                  refine g_lload_n 2 (gd rfl) rfl rfl ?_
                  refine g_lcmp 3 (gd rfl) rfl (fun z16x2 e16x2 => ?_)
                  have i16x2 := lc_in e16x2
                  refine g_if_lt 6 17 (gd rfl) rfl rfl (fun c16x3 => ?_) (fun c16x3 => ?_)
                  · skip
                    have i16x3 := z_lt (-1) (-1) c16x3 i16x2 rfl
                    have c16x3a := lc_lt e16x2 c16x3
                    have i16x3a := lr_lt1 (-2147483648) (-1) c16x3a i11 (l_c 0 rfl) rfl
                    have i16x3b := l_b e11 i16x3a
                    refine g_iconst 0 18 (gd rfl) rfl rfl ?_
                    refine g_ireturn (gd rfl) rfl (nb01 (in_w 0 1 (in_c 0 rfl) rfl)) (hp16 _ _ ?_)
                    show GG _ _ _ _ _ _ _ _ [.int (Int32.ofInt 0), .ref (A 109)] _ _ _
                    refine g_if_eq 22 26 (gd rfl) rfl rfl (fun c19 => ?_) (fun c19 => ?_)
                    · skip
                      refine g_iconst 0 27 (gd rfl) rfl rfl ?_
                      refine g_callv (X := _) (As := [.int (Int32.ofInt 0)]) (r := []) (b := A 109) (q := 109) 30 (gd rfl) rfl rfl rfl rfl rfl (ww_o rfl) (Nat.le_of_ble_eq_true rfl) (mc := 0) (ms := 0) (Nat.zero_le _) (Nat.zero_le _) (P := fun v u => _) ?_ (fun e u h => h) (fun v u h => h)
                      intro po27 xx27 hp27 hx27
                      refine g_enter2 (k := 271) (N := 300) (by first | exact dq1 hd rfl | exact dq0 hd rfl | exact dq2 hd rfl | exact dq3 hd rfl | omega) rfl (Nat.le_of_ble_eq_true rfl) ?_
                      refine g_aload_n 1 (gd rfl) rfl rfl ?_
                      refine g_iload_n 2 (gd rfl) rfl rfl ?_
                      refine g_iconst 1 3 (gd rfl) rfl rfl ?_
                      refine g_callv (X := _) (As := [.int (Int32.ofInt 0), .int (Int32.ofInt 1)]) (r := []) (b := A 109) (q := 109) 6 (gd rfl) rfl rfl rfl rfl rfl (ww_o rfl) (Nat.le_of_ble_eq_true rfl) (mc := 0) (ms := 0) (Nat.zero_le _) (Nat.zero_le _) (P := fun v u => _) ?_ (fun e u h => h) (fun v u h => h)
                      intro po27x3 xx27x3 hp27x3 hx27x3
                      refine g_enter2 (k := 270) (N := 300) (by first | exact dq1 hd rfl | exact dq0 hd rfl | exact dq2 hd rfl | exact dq3 hd rfl | omega) rfl (Nat.le_of_ble_eq_true rfl) ?_
                      refine g_aload_n 1 (gd rfl) rfl rfl ?_
                      refine g_iload_n 2 (gd rfl) rfl rfl ?_
                      refine g_if_ne 5 9 (gd rfl) rfl rfl (fun c27x3x2 => ?_) (fun c27x3x2 => ?_)
                      · skip
                        exact zn_ne c27x3x2 (in_c 0 rfl) rfl
                      · skip
                        refine g_iconst 1 6 (gd rfl) rfl rfl ?_
                        refine g_goto 18 (gd rfl) rfl ?_
                        refine g_putI 21 (gd rfl) rfl rfl rfl rfl ?_
                        have hI27x3x18 := inv_sF (q := 109) (j := 0) hI rfl (in_w 0 2 (in_c 1 rfl) rfl)
                        refine g_aload_n 22 (gd rfl) rfl rfl ?_
                        refine g_getI 25 (gd rfl) rfl rfl rfl (fun z27x3x22 e27x3x22 => ?_)
                        have q27x3x22 : (Int32.ofInt 1) = z27x3x22 := (sF_get).trans e27x3x22.symm
                        subst q27x3x22
                        refine g_if_le 28 32 (gd rfl) rfl rfl (fun c27x3x25 => ?_) (fun c27x3x25 => ?_)
                        · skip
                          exact zn_le c27x3x25 (in_c 1 rfl) rfl
                        · skip
                          refine g_iconst 1 29 (gd rfl) rfl rfl ?_
                          refine g_goto 33 (gd rfl) rfl ?_
                          refine g_ireturn (gd rfl) rfl (nb01 (in_w 0 1 (in_c 1 rfl) rfl)) (hp27x3 _ _ ?_)
                          show GG _ _ _ _ _ _ _ _ [.int (Int32.ofInt 1)] _ _ _
                          refine g_ireturn (gd rfl) rfl (nb01 (in_w 0 1 (in_c 1 rfl) rfl)) (hp27 _ _ ?_)
                          show GG _ _ _ _ _ _ _ _ [.int (Int32.ofInt 1)] _ _ _
                          refine g_if_eq 33 35 (gd rfl) rfl rfl (fun c30 => ?_) (fun c30 => ?_)
                          · skip
                            exact zn_eq c30 (in_c 1 rfl) rfl
                          · skip
                            refine g_lconst 0 34 (gd rfl) rfl rfl ?_
                            exact g_lreturn (gd rfl) rfl (hP _ _ ⟨(sF s 109 0 (Int32.ofInt 1)), hI27x3x18, (fr_sF rfl fr_rf), (Int64.ofInt 0), rfl, rfl⟩)
                    · skip
                      exact zn_ne c19 (in_c 0 rfl) rfl
                  · skip
                    have i16x3 := z_ge 0 1 c16x3 i16x2 rfl
                    have c16x3a := lc_ge e16x2 c16x3
                    have i16x3a := lr_le2 0 2147483647 c16x3a (l_c 0 rfl) i11 rfl
                    have i16x3b := l_b e11 i16x3a
                    refine g_lload_n 7 (gd rfl) rfl rfl ?_
                    refine g_lload 9 (gd rfl) rfl rfl ?_
                    refine g_lcmp 10 (gd rfl) rfl (fun z16x9 e16x9 => ?_)
                    have i16x9 := lc_in e16x9
                    refine g_if_gt 13 17 (gd rfl) rfl rfl (fun c16x10 => ?_) (fun c16x10 => ?_)
                    · skip
                      have i16x10 := z_gt 1 1 c16x10 i16x9 rfl
                      have c16x10a := lc_gt e16x9 c16x10
                      have i16x10a := lr_lt2 200000001 2147483647 c16x10a (l_c 200000000 rfl) i16x3a rfl
                      have i16x10b := l_b e11 i16x10a
                      refine g_iconst 0 18 (gd rfl) rfl rfl ?_
                      refine g_ireturn (gd rfl) rfl (nb01 (in_w 0 1 (in_c 0 rfl) rfl)) (hp16 _ _ ?_)
                      show GG _ _ _ _ _ _ _ _ [.int (Int32.ofInt 0), .ref (A 109)] _ _ _
                      refine g_if_eq 22 26 (gd rfl) rfl rfl (fun c19 => ?_) (fun c19 => ?_)
                      · skip
                        refine g_iconst 0 27 (gd rfl) rfl rfl ?_
                        refine g_callv (X := _) (As := [.int (Int32.ofInt 0)]) (r := []) (b := A 109) (q := 109) 30 (gd rfl) rfl rfl rfl rfl rfl (ww_o rfl) (Nat.le_of_ble_eq_true rfl) (mc := 0) (ms := 0) (Nat.zero_le _) (Nat.zero_le _) (P := fun v u => _) ?_ (fun e u h => h) (fun v u h => h)
                        intro po27 xx27 hp27 hx27
                        refine g_enter2 (k := 271) (N := 300) (by first | exact dq1 hd rfl | exact dq0 hd rfl | exact dq2 hd rfl | exact dq3 hd rfl | omega) rfl (Nat.le_of_ble_eq_true rfl) ?_
                        refine g_aload_n 1 (gd rfl) rfl rfl ?_
                        refine g_iload_n 2 (gd rfl) rfl rfl ?_
                        refine g_iconst 1 3 (gd rfl) rfl rfl ?_
                        refine g_callv (X := _) (As := [.int (Int32.ofInt 0), .int (Int32.ofInt 1)]) (r := []) (b := A 109) (q := 109) 6 (gd rfl) rfl rfl rfl rfl rfl (ww_o rfl) (Nat.le_of_ble_eq_true rfl) (mc := 0) (ms := 0) (Nat.zero_le _) (Nat.zero_le _) (P := fun v u => _) ?_ (fun e u h => h) (fun v u h => h)
                        intro po27x3 xx27x3 hp27x3 hx27x3
                        refine g_enter2 (k := 270) (N := 300) (by first | exact dq1 hd rfl | exact dq0 hd rfl | exact dq2 hd rfl | exact dq3 hd rfl | omega) rfl (Nat.le_of_ble_eq_true rfl) ?_
                        refine g_aload_n 1 (gd rfl) rfl rfl ?_
                        refine g_iload_n 2 (gd rfl) rfl rfl ?_
                        refine g_if_ne 5 9 (gd rfl) rfl rfl (fun c27x3x2 => ?_) (fun c27x3x2 => ?_)
                        · skip
                          exact zn_ne c27x3x2 (in_c 0 rfl) rfl
                        · skip
                          refine g_iconst 1 6 (gd rfl) rfl rfl ?_
                          refine g_goto 18 (gd rfl) rfl ?_
                          refine g_putI 21 (gd rfl) rfl rfl rfl rfl ?_
                          have hI27x3x18 := inv_sF (q := 109) (j := 0) hI rfl (in_w 0 2 (in_c 1 rfl) rfl)
                          refine g_aload_n 22 (gd rfl) rfl rfl ?_
                          refine g_getI 25 (gd rfl) rfl rfl rfl (fun z27x3x22 e27x3x22 => ?_)
                          have q27x3x22 : (Int32.ofInt 1) = z27x3x22 := (sF_get).trans e27x3x22.symm
                          subst q27x3x22
                          refine g_if_le 28 32 (gd rfl) rfl rfl (fun c27x3x25 => ?_) (fun c27x3x25 => ?_)
                          · skip
                            exact zn_le c27x3x25 (in_c 1 rfl) rfl
                          · skip
                            refine g_iconst 1 29 (gd rfl) rfl rfl ?_
                            refine g_goto 33 (gd rfl) rfl ?_
                            refine g_ireturn (gd rfl) rfl (nb01 (in_w 0 1 (in_c 1 rfl) rfl)) (hp27x3 _ _ ?_)
                            show GG _ _ _ _ _ _ _ _ [.int (Int32.ofInt 1)] _ _ _
                            refine g_ireturn (gd rfl) rfl (nb01 (in_w 0 1 (in_c 1 rfl) rfl)) (hp27 _ _ ?_)
                            show GG _ _ _ _ _ _ _ _ [.int (Int32.ofInt 1)] _ _ _
                            refine g_if_eq 33 35 (gd rfl) rfl rfl (fun c30 => ?_) (fun c30 => ?_)
                            · skip
                              exact zn_eq c30 (in_c 1 rfl) rfl
                            · skip
                              refine g_lconst 0 34 (gd rfl) rfl rfl ?_
                              exact g_lreturn (gd rfl) rfl (hP _ _ ⟨(sF s 109 0 (Int32.ofInt 1)), hI27x3x18, (fr_sF rfl fr_rf), (Int64.ofInt 0), rfl, rfl⟩)
                      · skip
                        exact zn_ne c19 (in_c 0 rfl) rfl
                    · skip
                      have i16x10 := z_le (-1) 0 c16x10 i16x9 rfl
                      have c16x10a := lc_le e16x9 c16x10
                      have i16x10a := lr_le1 0 200000000 c16x10a i16x3a (l_c 200000000 rfl) rfl
                      have i16x10b := l_b e11 i16x10a
                      refine g_iconst 1 14 (gd rfl) rfl rfl ?_
                      refine g_goto 18 (gd rfl) rfl ?_
                      refine g_ireturn (gd rfl) rfl (nb01 (in_w 0 1 (in_c 1 rfl) rfl)) (hp16 _ _ ?_)
                      show GG _ _ _ _ _ _ _ _ [.int (Int32.ofInt 1), .ref (A 109)] _ _ _
                      refine g_if_eq 22 26 (gd rfl) rfl rfl (fun c19 => ?_) (fun c19 => ?_)
                      · skip
                        exact zn_eq c19 (in_c 1 rfl) rfl
                      · skip
                        refine g_iconst 1 23 (gd rfl) rfl rfl ?_
                        refine g_goto 27 (gd rfl) rfl ?_
                        refine g_callv (X := _) (As := [.int (Int32.ofInt 1)]) (r := []) (b := A 109) (q := 109) 30 (gd rfl) rfl rfl rfl rfl rfl (ww_o rfl) (Nat.le_of_ble_eq_true rfl) (mc := 0) (ms := 0) (Nat.zero_le _) (Nat.zero_le _) (P := fun v u => _) ?_ (fun e u h => h) (fun v u h => h)
                        intro po27 xx27 hp27 hx27
                        refine g_enter2 (k := 271) (N := 300) (by first | exact dq1 hd rfl | exact dq0 hd rfl | exact dq2 hd rfl | exact dq3 hd rfl | omega) rfl (Nat.le_of_ble_eq_true rfl) ?_
                        refine g_aload_n 1 (gd rfl) rfl rfl ?_
                        refine g_iload_n 2 (gd rfl) rfl rfl ?_
                        refine g_iconst 1 3 (gd rfl) rfl rfl ?_
                        refine g_callv (X := _) (As := [.int (Int32.ofInt 1), .int (Int32.ofInt 1)]) (r := []) (b := A 109) (q := 109) 6 (gd rfl) rfl rfl rfl rfl rfl (ww_o rfl) (Nat.le_of_ble_eq_true rfl) (mc := 0) (ms := 0) (Nat.zero_le _) (Nat.zero_le _) (P := fun v u => _) ?_ (fun e u h => h) (fun v u h => h)
                        intro po27x3 xx27x3 hp27x3 hx27x3
                        refine g_enter2 (k := 270) (N := 300) (by first | exact dq1 hd rfl | exact dq0 hd rfl | exact dq2 hd rfl | exact dq3 hd rfl | omega) rfl (Nat.le_of_ble_eq_true rfl) ?_
                        refine g_aload_n 1 (gd rfl) rfl rfl ?_
                        refine g_iload_n 2 (gd rfl) rfl rfl ?_
                        refine g_if_ne 5 9 (gd rfl) rfl rfl (fun c27x3x2 => ?_) (fun c27x3x2 => ?_)
                        · skip
                          refine g_iload_n 10 (gd rfl) rfl rfl ?_
                          refine g_if_ne 13 17 (gd rfl) rfl rfl (fun c27x3x10 => ?_) (fun c27x3x10 => ?_)
                          · skip
                            refine g_iconst 0 18 (gd rfl) rfl rfl ?_
                            refine g_putI 21 (gd rfl) rfl rfl rfl rfl ?_
                            have hI27x3x18 := inv_sF (q := 109) (j := 0) hI rfl (in_w 0 2 (in_c 0 rfl) rfl)
                            refine g_aload_n 22 (gd rfl) rfl rfl ?_
                            refine g_getI 25 (gd rfl) rfl rfl rfl (fun z27x3x22 e27x3x22 => ?_)
                            have q27x3x22 : (Int32.ofInt 0) = z27x3x22 := (sF_get).trans e27x3x22.symm
                            subst q27x3x22
                            refine g_if_le 28 32 (gd rfl) rfl rfl (fun c27x3x25 => ?_) (fun c27x3x25 => ?_)
                            · skip
                              refine g_iconst 0 33 (gd rfl) rfl rfl ?_
                              refine g_ireturn (gd rfl) rfl (nb01 (in_w 0 1 (in_c 0 rfl) rfl)) (hp27x3 _ _ ?_)
                              show GG _ _ _ _ _ _ _ _ [.int (Int32.ofInt 0)] _ _ _
                              refine g_ireturn (gd rfl) rfl (nb01 (in_w 0 1 (in_c 0 rfl) rfl)) (hp27 _ _ ?_)
                              show GG _ _ _ _ _ _ _ _ [.int (Int32.ofInt 0)] _ _ _
                              refine g_if_eq 33 35 (gd rfl) rfl rfl (fun c30 => ?_) (fun c30 => ?_)
                              · skip
                                refine g_iconst 0 36 (gd rfl) rfl rfl ?_
                                refine g_istore 38 (gd rfl) rfl (Nat.le_of_ble_eq_true rfl) ?_
                                have n38 : ∀ k : Nat, (k : Int) < ((Int32.ofInt 0)).toInt → -200000000 ≤ ((sF s 109 0 (Int32.ofInt 0)).2.1 150 k).toInt ∧ ((sF s 109 0 (Int32.ofInt 0)).2.1 150 k).toInt ≤ 200000000 := by (intro k hk; exfalso; have h0 : (Int32.ofInt 0).toInt = 0 := rfl; omega)
                                exact gg_w (by first | exact Nat.le_of_ble_eq_true rfl | omega) (gg_f (gf_cons rfl (gf_cons rfl (gf_cons rfl (gf_cons rfl (gf_cons rfl gf_nil))))) (ct38 33 (sF s 109 0 (Int32.ofInt 0)) (Int32.ofInt 0) hI27x3x18 (fr_sF rfl fr_rf) (in_w 0 31 i4x2x9 rfl) (in_w 0 31 i4x10x9 rfl) (in_w 0 200000000 i16x10b rfl) (in_w 0 32 (in_c 0 rfl) rfl) n38 (m_in 33 (in_w 0 32 (in_c 0 rfl) rfl) rfl)))
                              · skip
                                exact zn_ne c30 (in_c 0 rfl) rfl
                            · skip
                              exact zn_gt c27x3x25 (in_c 0 rfl) rfl
                          · skip
                            exact zn_eq c27x3x10 (in_c 1 rfl) rfl
                        · skip
                          exact zn_eq c27x3x2 (in_c 1 rfl) rfl

def fm_360 : FM := ([148, 151], [149, 152], [], [])
/-- GraphHouseModel.pairUp -/
theorem k_360 {Z : AmZ} {A : Nat → Nat} {s : GS} {ex : va_W} {d : Nat} {X : AmX}  (hd : 3 ≤ d) (hI : Inv s)  : GC Z d 360 [.ref (A 109)] (WW Z A s ++ ex) 0 0 (fun v u => ∃ t : GS, Inv t ∧ Fr fm_360 s t ∧ v = none ∧ u = WW Z A t ++ ex) X := by
  intro post xp hP hX
  obtain ⟨u_109_19, e_109_19⟩ : ∃ w, w = s.2.2.1 109 19 := ⟨_, rfl⟩
  have ro_109_19 := inv_F hI 0 160 rfl e_109_19
  obtain ⟨u_109_20, e_109_20⟩ : ∃ w, w = s.2.2.1 109 20 := ⟨_, rfl⟩
  have ro_109_20 := inv_F hI 0 32 rfl e_109_20
  have ct186 : ∀ (k186 : Nat) (sc186 : GS) (y186_1 : Int32), Inv sc186 → Fr fm_360 s sc186 → (In y186_1 0 1) → (PP sc186) → 2 * cM (sc186.1 151) (s.2.2.1 109 20).toNatClampNeg + (y186_1).toInt.toNat < k186 → GG Z (d - 1) 360 post (gx xp) (1 + k186 * 32401) 186 (fun j => xlook j [(0, .ref (A 109)), (1, .int y186_1)]) [] (WW Z A sc186 ++ ex) 0 0 := by
    intro k186
    induction k186 with
    | zero => intro sc186 y186_1 hIc186 hFc186 j186_1 g186_0 mm186; exact absurd mm186 (Nat.not_lt_zero _)
    | succ k186 ih186 =>
      intro sc186 y186_1 hIc186 hFc186 j186_1 g186_0 mm186
      refine gg_w (M := 1 + k186 * 32401 + 32401) gws ?_
      have ct205 : ∀ (k205 : Nat) (sc205 : GS) (y205_1 : Int32) (y205_2 : Int32), Inv sc205 → Fr fm_360 s sc205 → (In y205_1 0 1) → (In y205_2 (-1) 31) → (∃ n, FLP sc205 (y205_2).toInt n) → (y186_1.toInt = 1) → (cM (sc205.1 151) (s.2.2.1 109 20).toNatClampNeg < cM (sc186.1 151) (s.2.2.1 109 20).toNatClampNeg ∨ (cM (sc205.1 151) (s.2.2.1 109 20).toNatClampNeg ≤ cM (sc186.1 151) (s.2.2.1 109 20).toNatClampNeg ∧ ((0 ≤ (y205_2).toInt ∧ (sc205.1 151 (y205_2).toNatClampNeg).toInt < 0) ∨ (y205_1).toInt = 0))) → lst (FLP sc205 (y205_2).toInt) < k205 → GG Z (d - 1) 360 post (gx xp) (1 + k186 * 32401 + 1 + k205 * 900) 205 (fun j => xlook j [(0, .ref (A 109)), (1, .int y205_1), (2, .int y205_2)]) [] (WW Z A sc205 ++ ex) 0 0 := by
        intro k205
        induction k205 with
        | zero => intro sc205 y205_1 y205_2 hIc205 hFc205 j205_1 j205_2 g205_0 g205_1 g205_2 mm205; exact absurd mm205 (Nat.not_lt_zero _)
        | succ k205 ih205 =>
          intro sc205 y205_1 y205_2 hIc205 hFc205 j205_1 j205_2 g205_0 g205_1 g205_2 mm205
          refine gg_w (M := 1 + k186 * 32401 + 1 + k205 * 900 + 900) gws ?_
          refine g_iload_n 206 (gd rfl) rfl rfl ?_
          refine g_if_lt 209 244 (gd rfl) rfl rfl (fun c206 => ?_) (fun c206 => ?_)
          · skip
            have i206 := z_lt (-1) (-1) c206 j205_2 rfl
            refine g_goto 186 (gd rfl) rfl ?_
            have n186 : PP sc205 := by first | exact pp_0 g163_0 (fun k hk => g163_1 k (by unfold nnq at hk; rw [hFc163.2.2.1 109 20 rfl, ← e_109_20] at hk; have a0 := oa4 ro_109_20 ro_109_19 i206 j205_1; omega)) | (obtain ⟨n, hn⟩ := g205_0; exact flp_pp hn (by have a0 := oa4 ro_109_20 ro_109_19 i206 j205_1; omega))
            have m186 : 2 * cM (sc205.1 151) (s.2.2.1 109 20).toNatClampNeg + (y205_1).toInt.toNat < k186 := by have hm := mm186; have hj := g205_1; rcases g205_2 with h | ⟨h1, h2⟩; (have a0 := oa4 ro_109_20 ro_109_19 i206 j205_1; omega); (rcases h2 with h2 | h2; (exfalso; have hc := c206; omega); (have a0 := oa4 ro_109_20 ro_109_19 i206 j205_1; omega))
            exact gg_w (by first | exact Nat.le_add_right _ _ | exact gw2 | exact gw3 | exact gwe rfl | exact gwf rfl | exact gwg rfl | exact gwh rfl | omega) (gg_f (gf_cons rfl (gf_cons rfl gf_nil)) (ih186  sc205 y205_1 hIc205 hFc205 (in_w 0 1 j205_1 rfl) n186 m186))
          · skip
            have i206 := z_ge 0 31 c206 j205_2 rfl
            refine g_aload_n 210 (gd rfl) rfl rfl ?_
            refine g_getA (q2 := 148) 213 (gd rfl) rfl rfl rfl rfl ?_
            refine g_iload_n 214 (gd rfl) rfl rfl ?_
            refine g_iaload 215 (gd rfl) rfl (n := 34) rfl (in_ix i206 rfl) (fun z214 e214 => ?_)
            have i214 := inv_I hIc205 (n := 34) (t := 0) (-1) 1000 rfl (in_ix i206 rfl) rfl e214
            have i215 : In z214 0 31 := by obtain ⟨n, hn⟩ := g205_0; have hu := flp_u hn i206.1; rw [show sc205.1 148 y205_2.toInt.toNat = z214 from e214.symm] at hu; exact ⟨hu.1, hu.2.1⟩
            refine g_istore_n 216 (gd rfl) rfl (Nat.le_of_ble_eq_true rfl) ?_
            refine g_aload_n 217 (gd rfl) rfl rfl ?_
            refine g_getA (q2 := 151) 220 (gd rfl) rfl rfl rfl rfl ?_
            refine g_iload_n 221 (gd rfl) rfl rfl ?_
            refine g_iaload 222 (gd rfl) rfl (n := 32) rfl (in_ix i215 rfl) (fun z221 e221 => ?_)
            have i221 := inv_I hIc205 (n := 32) (t := 0) (-1) 31 rfl (in_ix i215 rfl) rfl e221
            refine g_istore 224 (gd rfl) rfl (Nat.le_of_ble_eq_true rfl) ?_
            refine g_aload_n 225 (gd rfl) rfl rfl ?_
            refine g_getA (q2 := 151) 228 (gd rfl) rfl rfl rfl rfl ?_
            refine g_iload_n 229 (gd rfl) rfl rfl ?_
            refine g_iload_n 230 (gd rfl) rfl rfl ?_
            refine g_iastore 231 (gd rfl) rfl (n := 32) rfl (in_ix i215 rfl) ?_
            have hI230 := inv_sI (q := 151) (j := z214.toNatClampNeg) hIc205 rfl (in_w (-1) 31 i206 rfl)
            refine g_aload_n 232 (gd rfl) rfl rfl ?_
            refine g_getA (q2 := 151) 235 (gd rfl) rfl rfl rfl rfl ?_
            refine g_iload_n 236 (gd rfl) rfl rfl ?_
            refine g_iload_n 237 (gd rfl) rfl rfl ?_
            refine g_iastore 238 (gd rfl) rfl (n := 32) rfl (in_ix i206 rfl) ?_
            have hI237 := inv_sI (q := 151) (j := y205_2.toNatClampNeg) hI230 rfl (in_w (-1) 31 i215 rfl)
            refine g_iload 240 (gd rfl) rfl rfl ?_
            refine g_istore_n 241 (gd rfl) rfl (Nat.le_of_ble_eq_true rfl) ?_
            refine g_goto 205 (gd rfl) rfl ?_
            have n205 : ∃ n, FLP (sI (sI sc205 151 z214.toNatClampNeg y205_2) 151 y205_2.toNatClampNeg z214) (z221).toInt n := by first | (obtain ⟨n, _, hn⟩ := p191a; exact ⟨n, hn⟩) | (obtain ⟨n, hn⟩ := g205_0; obtain ⟨k, hk, hf⟩ := flp_s hn i206.1 e214 e221 i221; exact ⟨k, hf⟩)
            have n205a : y186_1.toInt = 1 := by first | exact g205_1 | (first | exact g205_1 | (have hj := j186_1; unfold In at hj; have hc := c187; omega))
            have n205b : cM ((sI (sI sc205 151 z214.toNatClampNeg y205_2) 151 y205_2.toNatClampNeg z214).1 151) (s.2.2.1 109 20).toNatClampNeg < cM (sc186.1 151) (s.2.2.1 109 20).toNatClampNeg ∨ (cM ((sI (sI sc205 151 z214.toNatClampNeg y205_2) 151 y205_2.toNatClampNeg z214).1 151) (s.2.2.1 109 20).toNatClampNeg ≤ cM (sc186.1 151) (s.2.2.1 109 20).toNatClampNeg ∧ ((0 ≤ (z221).toInt ∧ ((sI (sI sc205 151 z214.toNatClampNeg y205_2) 151 y205_2.toNatClampNeg z214).1 151 (z221).toNatClampNeg).toInt < 0) ∨ (y205_1).toInt = 0)) := by first | exact Or.inr ⟨by rw [hF191.1 151 rfl]; exact Nat.le_refl _, Or.inl ⟨i196.1, p191b i196.1⟩⟩ | exact Or.inr ⟨by rw [hF191.1 151 rfl]; exact Nat.le_refl _, Or.inr (by decide)⟩ | (obtain ⟨n, hn⟩ := g205_0; have hu := flp_u hn i206.1; have hf := cM_fl (f := sc205.1 151) (N := (s.2.2.1 109 20).toNatClampNeg) i206 i215 (by show y205_2.toInt.toNat < (s.2.2.1 109 20).toInt.toNat; have h := hu.2.2.1; unfold nnq at h; rw [hFc205.2.2.1 109 20 rfl] at h; have h0 := i206.1; omega); rw [show ((sI (sI sc205 151 z214.toNatClampNeg y205_2) 151 y205_2.toNatClampNeg z214)).1 151 = upd (upd (sc205.1 151) z214.toNatClampNeg y205_2) y205_2.toNatClampNeg z214 from (by rw [sI_q, sI_q])]; rcases g205_2 with h | ⟨h1, h2⟩; (exact Or.inl (by omega)); (rcases h2 with h2 | h2; (exact Or.inl (by have h3 := hf.2 h2.2; omega)); (exact Or.inr ⟨by omega, Or.inr h2⟩)))
            have m205 : lst (FLP (sI (sI sc205 151 z214.toNatClampNeg y205_2) 151 y205_2.toNatClampNeg z214) (z221).toInt) < k205 := by have hl := lst_ok g205_0; obtain ⟨k, hk, hf⟩ := flp_s hl.1 i206.1 e214 e221 i221; have h2 := (lst_ok ⟨k, hf⟩).2 k hf; have hm := mm205; omega
            exact gg_w (by first | exact Nat.le_add_right _ _ | exact gw2 | exact gw3 | exact gwe rfl | exact gwf rfl | exact gwg rfl | exact gwh rfl | omega) (gg_f (gf_cons rfl (gf_cons rfl (gf_cons rfl gf_nil))) (ih205  (sI (sI sc205 151 z214.toNatClampNeg y205_2) 151 y205_2.toNatClampNeg z214) y205_1 z221 hI237 (fr_sI rfl (fr_sI rfl hFc205)) (in_w 0 1 j205_1 rfl) (in_w (-1) 31 i221 rfl) n205 n205a n205b m205))
      refine g_iload_n 187 (gd rfl) rfl rfl ?_
      refine g_if_eq 190 247 (gd rfl) rfl rfl (fun c187 => ?_) (fun c187 => ?_)
      · skip
        have i187 := z_eq 0 0 c187 j186_1 rfl
        exact g_return (gd rfl) rfl (hP _ _ ⟨sc186, hIc186, hFc186, rfl, rfl⟩)
      · skip
        have i187 := z_ne 1 1 c187 j186_1 rfl
        refine g_aload_n 191 (gd rfl) rfl rfl ?_
        have p191 : PP sc186 := by exact g186_0
        refine g_callv (X := _) (As := []) (r := []) (b := A 109) (q := 109) 194 (gd rfl) rfl rfl rfl rfl rfl (ww_o rfl) (Nat.le_of_ble_eq_true rfl) (Nat.zero_le _) (Nat.zero_le _) (k_361 (by first | exact dq1 hd rfl | exact dq0 hd rfl | exact dq2 hd rfl | exact dq3 hd rfl | omega) hIc186 p191) (fun e u h => h) (fun v u h => ?_)
        obtain ⟨s191, hI191, hF191, z191, rfl, rfl, i191, p191a, p191b⟩ := h
        show GG _ _ _ _ _ _ _ _ [.int z191] _ _ _
        refine g_istore_n 195 (gd rfl) rfl (Nat.le_of_ble_eq_true rfl) ?_
        refine g_iload_n 196 (gd rfl) rfl rfl ?_
        refine g_if_lt 199 203 (gd rfl) rfl rfl (fun c196 => ?_) (fun c196 => ?_)
        · skip
          have i196 := z_lt (-1) (-1) c196 i191 rfl
          refine g_iconst 0 204 (gd rfl) rfl rfl ?_
          refine g_istore_n 205 (gd rfl) rfl (Nat.le_of_ble_eq_true rfl) ?_
          have n205 : ∃ n, FLP s191 (z191).toInt n := by first | (obtain ⟨n, _, hn⟩ := p191a; exact ⟨n, hn⟩) | (obtain ⟨n, hn⟩ := g205_0; obtain ⟨k, hk, hf⟩ := flp_s hn i206.1 e214 e221 i221; exact ⟨k, hf⟩)
          have n205a : y186_1.toInt = 1 := by first | exact g205_1 | (have hj := j186_1; unfold In at hj; have hc := c187; omega)
          have n205b : cM (s191.1 151) (s.2.2.1 109 20).toNatClampNeg < cM (sc186.1 151) (s.2.2.1 109 20).toNatClampNeg ∨ (cM (s191.1 151) (s.2.2.1 109 20).toNatClampNeg ≤ cM (sc186.1 151) (s.2.2.1 109 20).toNatClampNeg ∧ ((0 ≤ (z191).toInt ∧ (s191.1 151 (z191).toNatClampNeg).toInt < 0) ∨ ((Int32.ofInt 0)).toInt = 0)) := by first | exact Or.inr ⟨by rw [hF191.1 151 rfl]; exact Nat.le_refl _, Or.inl ⟨i196.1, p191b i196.1⟩⟩ | exact Or.inr ⟨by rw [hF191.1 151 rfl]; exact Nat.le_refl _, Or.inr (by decide)⟩ | (obtain ⟨n, hn⟩ := g205_0; have hu := flp_u hn i206.1; have hf := cM_fl (f := sc205.1 151) (N := (s.2.2.1 109 20).toNatClampNeg) i206 i215 (by show y205_2.toInt.toNat < (s.2.2.1 109 20).toInt.toNat; have h := hu.2.2.1; unfold nnq at h; rw [hFc205.2.2.1 109 20 rfl] at h; have h0 := i206.1; omega); rw [show (s191).1 151 = upd (upd (sc205.1 151) z214.toNatClampNeg y205_2) y205_2.toNatClampNeg z214 from (by rw [sI_q, sI_q])]; rcases g205_2 with h | ⟨h1, h2⟩; (exact Or.inl (by omega)); (rcases h2 with h2 | h2; (exact Or.inl (by have h3 := hf.2 h2.2; omega)); (exact Or.inr ⟨by omega, Or.inr h2⟩)))
          have m205 : lst (FLP s191 (z191).toInt) < 33 := by obtain ⟨n, hn1, hn⟩ := p191a; have h := (lst_ok ⟨n, hn⟩).2 n hn; omega
          exact gg_w (by first | exact Nat.le_add_right _ _ | exact gw2 | exact gw3 | exact gwe rfl | exact gwf rfl | exact gwg rfl | exact gwh rfl | omega) (gg_f (gf_cons rfl (gf_cons rfl (gf_cons rfl gf_nil))) (ct205 (33) s191 (Int32.ofInt 0) z191 hI191 (fr_tr rfl hFc186 hF191) (in_w 0 1 (in_c 0 rfl) rfl) (in_w (-1) 31 i196 rfl) n205 n205a n205b m205))
        · skip
          have i196 := z_ge 0 31 c196 i191 rfl
          refine g_iconst 1 200 (gd rfl) rfl rfl ?_
          refine g_goto 204 (gd rfl) rfl ?_
          refine g_istore_n 205 (gd rfl) rfl (Nat.le_of_ble_eq_true rfl) ?_
          have n205 : ∃ n, FLP s191 (z191).toInt n := by first | (obtain ⟨n, _, hn⟩ := p191a; exact ⟨n, hn⟩) | (obtain ⟨n, hn⟩ := g205_0; obtain ⟨k, hk, hf⟩ := flp_s hn i206.1 e214 e221 i221; exact ⟨k, hf⟩)
          have n205a : y186_1.toInt = 1 := by first | exact g205_1 | (have hj := j186_1; unfold In at hj; have hc := c187; omega)
          have n205b : cM (s191.1 151) (s.2.2.1 109 20).toNatClampNeg < cM (sc186.1 151) (s.2.2.1 109 20).toNatClampNeg ∨ (cM (s191.1 151) (s.2.2.1 109 20).toNatClampNeg ≤ cM (sc186.1 151) (s.2.2.1 109 20).toNatClampNeg ∧ ((0 ≤ (z191).toInt ∧ (s191.1 151 (z191).toNatClampNeg).toInt < 0) ∨ ((Int32.ofInt 1)).toInt = 0)) := by first | exact Or.inr ⟨by rw [hF191.1 151 rfl]; exact Nat.le_refl _, Or.inl ⟨i196.1, p191b i196.1⟩⟩ | exact Or.inr ⟨by rw [hF191.1 151 rfl]; exact Nat.le_refl _, Or.inr (by decide)⟩ | (obtain ⟨n, hn⟩ := g205_0; have hu := flp_u hn i206.1; have hf := cM_fl (f := sc205.1 151) (N := (s.2.2.1 109 20).toNatClampNeg) i206 i215 (by show y205_2.toInt.toNat < (s.2.2.1 109 20).toInt.toNat; have h := hu.2.2.1; unfold nnq at h; rw [hFc205.2.2.1 109 20 rfl] at h; have h0 := i206.1; omega); rw [show (s191).1 151 = upd (upd (sc205.1 151) z214.toNatClampNeg y205_2) y205_2.toNatClampNeg z214 from (by rw [sI_q, sI_q])]; rcases g205_2 with h | ⟨h1, h2⟩; (exact Or.inl (by omega)); (rcases h2 with h2 | h2; (exact Or.inl (by have h3 := hf.2 h2.2; omega)); (exact Or.inr ⟨by omega, Or.inr h2⟩)))
          have m205 : lst (FLP s191 (z191).toInt) < 33 := by obtain ⟨n, hn1, hn⟩ := p191a; have h := (lst_ok ⟨n, hn⟩).2 n hn; omega
          exact gg_w (by first | exact Nat.le_add_right _ _ | exact gw2 | exact gw3 | exact gwe rfl | exact gwf rfl | exact gwg rfl | exact gwh rfl | omega) (gg_f (gf_cons rfl (gf_cons rfl (gf_cons rfl gf_nil))) (ct205 (33) s191 (Int32.ofInt 1) z191 hI191 (fr_tr rfl hFc186 hF191) (in_w 0 1 (in_c 1 rfl) rfl) (in_w (-1) 31 i196 rfl) n205 n205a n205b m205))
  have ct163 : ∀ (k163 : Nat) (sc163 : GS) (y163_1 : Int32), Inv sc163 → Fr fm_360 s sc163 → (In y163_1 0 32) → (PWI sc163) → (∀ k : Nat, (k : Int) < (y163_1).toInt → (sc163.1 151 k).toInt < 0) → 32 - (y163_1).toInt < (k163 : Int) → GG Z (d - 1) 360 post (gx xp) (2138468 + k163 * 900) 163 (fun j => xlook j [(0, .ref (A 109)), (1, .int y163_1)]) [] (WW Z A sc163 ++ ex) 0 0 := by
    intro k163
    induction k163 with
    | zero => intro sc163 y163_1 hIc163 hFc163 j163_1 g163_0 g163_1 mm163; exact m_no mm163 j163_1 rfl
    | succ k163 ih163 =>
      intro sc163 y163_1 hIc163 hFc163 j163_1 g163_0 g163_1 mm163
      refine gg_w (M := 2138468 + k163 * 900 + 900) gws ?_
      refine g_iload_n 164 (gd rfl) rfl rfl ?_
      refine g_aload_n 165 (gd rfl) rfl rfl ?_
      refine g_getI 168 (gd rfl) rfl rfl rfl (fun z165 e165 => ?_)
      have q165 : u_109_20 = z165 := (fr_F e_109_20 hFc163 rfl).trans e165.symm
      subst q165
      refine g_cmp_ge 171 184 (gd rfl) rfl rfl (fun c168 => ?_) (fun c168 => ?_)
      · skip
        refine g_iconst 1 185 (gd rfl) rfl rfl ?_
        refine g_istore_n 186 (gd rfl) rfl (Nat.le_of_ble_eq_true rfl) ?_
        have n186 : PP sc163 := by first | exact pp_0 g163_0 (fun k hk => g163_1 k (by unfold nnq at hk; rw [hFc163.2.2.1 109 20 rfl, ← e_109_20] at hk; have a0 := oa4 ro_109_20 ro_109_19 j163_1 ((in_c 1 rfl)); omega)) | (obtain ⟨n, hn⟩ := g205_0; exact flp_pp hn (by have a0 := oa4 ro_109_20 ro_109_19 j163_1 ((in_c 1 rfl)); omega))
        have m186 : 2 * cM (sc163.1 151) (s.2.2.1 109 20).toNatClampNeg + ((Int32.ofInt 1)).toInt.toNat < 66 := by have h := cM_le (sc163.1 151) (s.2.2.1 109 20).toNatClampNeg; have hn : (s.2.2.1 109 20).toNatClampNeg ≤ 32 := (by rw [← e_109_20]; show u_109_20.toInt.toNat ≤ 32; have a0 := oa4 ro_109_20 ro_109_19 j163_1 ((in_c 1 rfl)); (first | exact zt_u (by omega) | omega)); have h1 : (Int32.ofInt 1).toInt.toNat = 1 := rfl; omega
        exact gg_w (by first | exact Nat.le_add_right _ _ | exact gw2 | exact gw3 | exact gwe rfl | exact gwf rfl | exact gwg rfl | exact gwh rfl | omega) (gg_f (gf_cons rfl (gf_cons rfl gf_nil)) (ct186 (66) sc163 (Int32.ofInt 1) hIc163 hFc163 (in_w 0 1 (in_c 1 rfl) rfl) n186 m186))
      · skip
        have i168 := r_lt1 0 31 c168 j163_1 ro_109_20 rfl
        have i168a := r_lt2 1 32 c168 j163_1 ro_109_20 rfl
        refine g_aload_n 172 (gd rfl) rfl rfl ?_
        refine g_getA (q2 := 151) 175 (gd rfl) rfl rfl rfl rfl ?_
        refine g_iload_n 176 (gd rfl) rfl rfl ?_
        refine g_iconst (-1) 177 (gd rfl) rfl rfl ?_
        refine g_iastore 178 (gd rfl) rfl (n := 32) rfl (in_ix i168 rfl) ?_
        have hI177 := inv_sI (q := 151) (j := y163_1.toNatClampNeg) hIc163 rfl (in_w (-1) 31 (in_c (-1) rfl) rfl)
        refine g_iinc 181 (gd rfl) rfl rfl (Nat.le_of_ble_eq_true rfl) (fun z178 e178 => ?_)
        have i178 := in_add 1 32 e178 i168 (in_c 1 rfl) rfl rfl
        refine g_goto 163 (gd rfl) rfl ?_
        have n163 : PWI (sI sc163 151 y163_1.toNatClampNeg (Int32.ofInt (-1))) := by first | exact g26_0 | exact pwi_cg g163_0 (sI_p rfl) rfl rfl rfl
        have n163a : ∀ k : Nat, (k : Int) < (z178).toInt → ((sI sc163 151 y163_1.toNatClampNeg (Int32.ofInt (-1))).1 151 k).toInt < 0 := by first | (intro k hk; exfalso; have h0 : (Int32.ofInt 0).toInt = 0 := rfl; omega) | (intro k hk; rw [sI_q]; unfold upd; have e3 : y163_1.toNatClampNeg = y163_1.toInt.toNat := rfl; by_cases c : k = y163_1.toNatClampNeg; (rw [if_pos c]; decide); (rw [if_neg c]; exact g163_1 k (by have a0 := oa4 i168a ro_109_19 i168 i178; have a4 := t_add e178 i168 (in_c 1 rfl) rfl; have a5 := in_u ((in_c 1 rfl)); omega)))
        exact gg_w (by first | exact Nat.le_add_right _ _ | exact gw2 | exact gw3 | exact gwe rfl | exact gwf rfl | exact gwg rfl | exact gwh rfl | omega) (gg_f (gf_cons rfl (gf_cons rfl gf_nil)) (ih163 (sI sc163 151 y163_1.toNatClampNeg (Int32.ofInt (-1))) z178 hI177 (fr_sI rfl hFc163) (in_w 0 32 i178 rfl) n163 n163a (m_up mm163 (t_add e178 i168 (in_c 1 rfl) rfl) (in_w 1 1 (in_c 1 rfl) rfl))))
  have ct26 : ∀ (k26 : Nat) (sc26 : GS) (y26_1 : Int32), Inv sc26 → Fr fm_360 s sc26 → (In y26_1 0 160) → (PWI sc26) → 160 - (y26_1).toInt < (k26 : Int) → GG Z (d - 1) 360 post (gx xp) (2168169 + k26 * 900) 26 (fun j => xlook j [(0, .ref (A 109)), (1, .int y26_1)]) [] (WW Z A sc26 ++ ex) 0 0 := by
    intro k26
    induction k26 with
    | zero => intro sc26 y26_1 hIc26 hFc26 j26_1 g26_0 mm26; exact m_no mm26 j26_1 rfl
    | succ k26 ih26 =>
      intro sc26 y26_1 hIc26 hFc26 j26_1 g26_0 mm26
      refine gg_w (M := 2168169 + k26 * 900 + 900) gws ?_
      refine g_iload_n 27 (gd rfl) rfl rfl ?_
      refine g_sipush 160 30 (gd rfl) rfl rfl ?_
      refine g_cmp_ge 33 161 (gd rfl) rfl rfl (fun c30 => ?_) (fun c30 => ?_)
      · skip
        have i30 := r_le2 160 160 c30 (in_c 160 rfl) j26_1 rfl
        refine g_iconst 0 162 (gd rfl) rfl rfl ?_
        refine g_istore_n 163 (gd rfl) rfl (Nat.le_of_ble_eq_true rfl) ?_
        have n163 : PWI sc26 := by first | exact g26_0 | exact pwi_cg g163_0 (sI_p rfl) rfl rfl rfl
        have n163a : ∀ k : Nat, (k : Int) < ((Int32.ofInt 0)).toInt → (sc26.1 151 k).toInt < 0 := by first | (intro k hk; exfalso; have h0 : (Int32.ofInt 0).toInt = 0 := rfl; omega) | (intro k hk; rw [sI_q]; unfold upd; have e3 : y163_1.toNatClampNeg = y163_1.toInt.toNat := rfl; by_cases c : k = y163_1.toNatClampNeg; (rw [if_pos c]; decide); (rw [if_neg c]; exact g163_1 k (by have a0 := oa4 ro_109_20 ro_109_19 i30 ((in_c 0 rfl)); omega)))
        exact gg_w (by first | exact Nat.le_add_right _ _ | exact gw2 | exact gw3 | exact gwe rfl | exact gwf rfl | exact gwg rfl | exact gwh rfl | omega) (gg_f (gf_cons rfl (gf_cons rfl gf_nil)) (ct163 33 sc26 (Int32.ofInt 0) hIc26 hFc26 (in_w 0 32 (in_c 0 rfl) rfl) n163 n163a (m_in 33 (in_w 0 32 (in_c 0 rfl) rfl) rfl)))
      · skip
        have i30 := r_lt1 0 159 c30 j26_1 (in_c 160 rfl) rfl
        refine g_aload_n 34 (gd rfl) rfl rfl ?_
        refine g_iload_n 35 (gd rfl) rfl rfl ?_
        refine g_callv (X := _) (As := [.int y26_1]) (r := []) (b := A 109) (q := 109) 38 (gd rfl) rfl rfl rfl rfl rfl (ww_o rfl) (Nat.le_of_ble_eq_true rfl) (mc := 0) (ms := 0) (Nat.zero_le _) (Nat.zero_le _) (P := fun v u => _) ?_ (fun e u h => h) (fun v u h => h)
        intro po35 xx35 hp35 hx35
        refine g_enter2 (k := 288) (N := 300) (by first | exact dq1 hd rfl | exact dq0 hd rfl | exact dq2 hd rfl | exact dq3 hd rfl | omega) rfl (Nat.le_of_ble_eq_true rfl) ?_
        refine g_aload_n 1 (gd rfl) rfl rfl ?_
        refine g_getA (q2 := 112) 4 (gd rfl) rfl rfl rfl rfl ?_
        refine g_aload_n 5 (gd rfl) rfl rfl ?_
        refine g_getI 8 (gd rfl) rfl rfl rfl (fun z35x5 e35x5 => ?_)
        have q35x5 : u_109_19 = z35x5 := (fr_F e_109_19 hFc26 rfl).trans e35x5.symm
        subst q35x5
        refine g_iload_n 9 (gd rfl) rfl rfl ?_
        refine g_iadd 10 (gd rfl) rfl (fun z35x9 e35x9 => ?_)
        have i35x9 := in_add 0 319 e35x9 ro_109_19 i30 rfl rfl
        refine g_baload 11 (gd rfl) rfl (n := 480) rfl (in_ix i35x9 rfl) (fun z35x10 e35x10 => ?_)
        have i35x10 := inv_I hIc26 (n := 480) (t := 3) 0 1 rfl (in_ix i35x9 rfl) rfl e35x10
        refine g_if_eq 14 43 (gd rfl) rfl rfl (fun c35x11 => ?_) (fun c35x11 => ?_)
        · skip
          have i35x11 := z_eq 0 0 c35x11 i35x10 rfl
          refine g_iconst 0 44 (gd rfl) rfl rfl ?_
          refine g_ireturn (gd rfl) rfl (nb01 (in_w 0 1 (in_c 0 rfl) rfl)) (hp35 _ _ ?_)
          show GG _ _ _ _ _ _ _ _ [.int (Int32.ofInt 0)] _ _ _
          refine g_if_eq 41 155 (gd rfl) rfl rfl (fun c38 => ?_) (fun c38 => ?_)
          · skip
            refine g_iinc 158 (gd rfl) rfl rfl (Nat.le_of_ble_eq_true rfl) (fun z155 e155 => ?_)
            have i155 := in_add 1 160 e155 i30 (in_c 1 rfl) rfl rfl
            refine g_goto 26 (gd rfl) rfl ?_
            have n26 : PWI sc26 := by exact g26_0
            exact gg_w (by first | exact Nat.le_add_right _ _ | exact gw2 | exact gw3 | exact gwe rfl | exact gwf rfl | exact gwg rfl | exact gwh rfl | omega) (gg_f (gf_cons rfl (gf_cons rfl gf_nil)) (ih26 sc26 z155 hIc26 hFc26 (in_w 0 160 i155 rfl) n26 (m_up mm26 (t_add e155 i30 (in_c 1 rfl) rfl) (in_w 1 1 (in_c 1 rfl) rfl))))
          · skip
            exact zn_ne c38 (in_c 0 rfl) rfl
        · skip
          have i35x11 := z_ne 1 1 c35x11 i35x10 rfl
          refine g_aload_n 15 (gd rfl) rfl rfl ?_
          refine g_getA (q2 := 113) 18 (gd rfl) rfl rfl rfl rfl ?_
          refine g_aload_n 19 (gd rfl) rfl rfl ?_
          refine g_getI 22 (gd rfl) rfl rfl rfl (fun z35x19 e35x19 => ?_)
          have q35x19 : u_109_19 = z35x19 := (fr_F e_109_19 hFc26 rfl).trans e35x19.symm
          subst q35x19
          refine g_iload_n 23 (gd rfl) rfl rfl ?_
          refine g_iadd 24 (gd rfl) rfl (fun z35x23 e35x23 => ?_)
          have i35x23 := in_add 0 319 e35x23 ro_109_19 i30 rfl rfl
          refine g_iaload 25 (gd rfl) rfl (n := 480) rfl (in_ix i35x23 rfl) (fun z35x24 e35x24 => ?_)
          have i35x24 := inv_I hIc26 (n := 480) (t := 0) 0 31 rfl (in_ix i35x23 rfl) rfl e35x24
          refine g_aload_n 26 (gd rfl) rfl rfl ?_
          refine g_getA (q2 := 114) 29 (gd rfl) rfl rfl rfl rfl ?_
          refine g_aload_n 30 (gd rfl) rfl rfl ?_
          refine g_getI 33 (gd rfl) rfl rfl rfl (fun z35x30 e35x30 => ?_)
          have q35x30 : u_109_19 = z35x30 := (fr_F e_109_19 hFc26 rfl).trans e35x30.symm
          subst q35x30
          refine g_iload_n 34 (gd rfl) rfl rfl ?_
          refine g_iadd 35 (gd rfl) rfl (fun z35x34 e35x34 => ?_)
          have i35x34 := in_add 0 319 e35x34 ro_109_19 i30 rfl rfl
          refine g_iaload 36 (gd rfl) rfl (n := 480) rfl (in_ix i35x34 rfl) (fun z35x35 e35x35 => ?_)
          have i35x35 := inv_I hIc26 (n := 480) (t := 0) 0 31 rfl (in_ix i35x34 rfl) rfl e35x35
          refine g_cmp_eq 39 43 (gd rfl) rfl rfl (fun c35x36 => ?_) (fun c35x36 => ?_)
          · skip
            refine g_iconst 0 44 (gd rfl) rfl rfl ?_
            refine g_ireturn (gd rfl) rfl (nb01 (in_w 0 1 (in_c 0 rfl) rfl)) (hp35 _ _ ?_)
            show GG _ _ _ _ _ _ _ _ [.int (Int32.ofInt 0)] _ _ _
            refine g_if_eq 41 155 (gd rfl) rfl rfl (fun c38 => ?_) (fun c38 => ?_)
            · skip
              refine g_iinc 158 (gd rfl) rfl rfl (Nat.le_of_ble_eq_true rfl) (fun z155 e155 => ?_)
              have i155 := in_add 1 160 e155 i30 (in_c 1 rfl) rfl rfl
              refine g_goto 26 (gd rfl) rfl ?_
              have n26 : PWI sc26 := by exact g26_0
              exact gg_w (by first | exact Nat.le_add_right _ _ | exact gw2 | exact gw3 | exact gwe rfl | exact gwf rfl | exact gwg rfl | exact gwh rfl | omega) (gg_f (gf_cons rfl (gf_cons rfl gf_nil)) (ih26 sc26 z155 hIc26 hFc26 (in_w 0 160 i155 rfl) n26 (m_up mm26 (t_add e155 i30 (in_c 1 rfl) rfl) (in_w 1 1 (in_c 1 rfl) rfl))))
            · skip
              exact zn_ne c38 (in_c 0 rfl) rfl
          · skip
            refine g_iconst 1 40 (gd rfl) rfl rfl ?_
            refine g_goto 44 (gd rfl) rfl ?_
            refine g_ireturn (gd rfl) rfl (nb01 (in_w 0 1 (in_c 1 rfl) rfl)) (hp35 _ _ ?_)
            show GG _ _ _ _ _ _ _ _ [.int (Int32.ofInt 1)] _ _ _
            refine g_if_eq 41 155 (gd rfl) rfl rfl (fun c38 => ?_) (fun c38 => ?_)
            · skip
              exact zn_eq c38 (in_c 1 rfl) rfl
            · skip
              refine g_aload_n 42 (gd rfl) rfl rfl ?_
              refine g_getA (q2 := 113) 45 (gd rfl) rfl rfl rfl rfl ?_
              refine g_aload_n 46 (gd rfl) rfl rfl ?_
              refine g_getI 49 (gd rfl) rfl rfl rfl (fun z46 e46 => ?_)
              have q46 : u_109_19 = z46 := (fr_F e_109_19 hFc26 rfl).trans e46.symm
              subst q46
              refine g_iload_n 50 (gd rfl) rfl rfl ?_
              refine g_iadd 51 (gd rfl) rfl (fun z50 e50 => ?_)
              have i50 := in_add 0 319 e50 ro_109_19 i30 rfl rfl
              refine g_iaload 52 (gd rfl) rfl (n := 480) rfl (in_ix i50 rfl) (fun z51 e51 => ?_)
              have i51 := inv_I hIc26 (n := 480) (t := 0) 0 31 rfl (in_ix i50 rfl) rfl e51
              refine g_istore_n 53 (gd rfl) rfl (Nat.le_of_ble_eq_true rfl) ?_
              refine g_aload_n 54 (gd rfl) rfl rfl ?_
              refine g_getA (q2 := 114) 57 (gd rfl) rfl rfl rfl rfl ?_
              refine g_aload_n 58 (gd rfl) rfl rfl ?_
              refine g_getI 61 (gd rfl) rfl rfl rfl (fun z58 e58 => ?_)
              have q58 : u_109_19 = z58 := (fr_F e_109_19 hFc26 rfl).trans e58.symm
              subst q58
              refine g_iload_n 62 (gd rfl) rfl rfl ?_
              refine g_iadd 63 (gd rfl) rfl (fun z62 e62 => ?_)
              have i62 := in_add 0 319 e62 ro_109_19 i30 rfl rfl
              refine g_iaload 64 (gd rfl) rfl (n := 480) rfl (in_ix i62 rfl) (fun z63 e63 => ?_)
              have i63 := inv_I hIc26 (n := 480) (t := 0) 0 31 rfl (in_ix i62 rfl) rfl e63
              refine g_istore_n 65 (gd rfl) rfl (Nat.le_of_ble_eq_true rfl) ?_
              have hk65 := ke_n hIc26 (i := z35x9.toNatClampNeg) (by rw [← (show u_109_19 = sc26.2.2.1 109 19 from fr_F e_109_19 hFc26 rfl)]; show _ ≤ ((z35x9.toInt.toNat : Nat) : Int); have a0 := oa6 ro_109_20 ro_109_19 i30 i63 i51 i62; have a6 := t_add e62 ro_109_19 i30 rfl; have a7 := in_u i50; have a8 := t_add e50 ro_109_19 i30 rfl; have a9 := in_u i35x34; have a10 := t_add e35x34 ro_109_19 i30 rfl; have a11 := in_u i35x23; have a12 := t_add e35x23 ro_109_19 i30 rfl; have a13 := in_u i35x9; have a14 := t_add e35x9 ro_109_19 i30 rfl; omega) (by rw [← (show u_109_19 = sc26.2.2.1 109 19 from fr_F e_109_19 hFc26 rfl)]; show ((z35x9.toInt.toNat : Nat) : Int) < _; have a0 := oa6 ro_109_20 ro_109_19 i30 i63 i51 i62; have a6 := t_add e62 ro_109_19 i30 rfl; have a7 := in_u i50; have a8 := t_add e50 ro_109_19 i30 rfl; have a9 := in_u i35x34; have a10 := t_add e35x34 ro_109_19 i30 rfl; have a11 := in_u i35x23; have a12 := t_add e35x23 ro_109_19 i30 rfl; have a13 := in_u i35x9; have a14 := t_add e35x9 ro_109_19 i30 rfl; omega) (by rw [← e35x10]; exact c35x11); have ez65 : z50 = z35x9 := e50.trans e35x9.symm; have ey65 : z62 = z35x9 := e62.trans e35x9.symm
              refine g_aload_n 66 (gd rfl) rfl rfl ?_
              refine g_iload_n 67 (gd rfl) rfl rfl ?_
              refine g_callv (X := _) (As := [.int z51]) (r := []) (b := A 109) (q := 109) 70 (gd rfl) rfl rfl rfl rfl rfl (ww_o rfl) (Nat.le_of_ble_eq_true rfl) (Nat.zero_le _) (Nat.zero_le _) (k_359 (by first | exact dq1 hd rfl | exact dq0 hd rfl | exact dq2 hd rfl | exact dq3 hd rfl | omega) hIc26 (in_w 0 31 i51 rfl)) (fun e u h => h) (fun v u h => ?_)
              obtain ⟨z67, rfl, rfl, i67, p67⟩ := h
              show GG _ _ _ _ _ _ _ _ [.int z67] _ _ _
              refine g_aload_n 71 (gd rfl) rfl rfl ?_
              refine g_iload_n 72 (gd rfl) rfl rfl ?_
              refine g_callv (X := _) (As := [.int z63]) (r := [.int z67]) (b := A 109) (q := 109) 75 (gd rfl) rfl rfl rfl rfl rfl (ww_o rfl) (Nat.le_of_ble_eq_true rfl) (Nat.zero_le _) (Nat.zero_le _) (k_359 (by first | exact dq1 hd rfl | exact dq0 hd rfl | exact dq2 hd rfl | exact dq3 hd rfl | omega) hIc26 (in_w 0 31 i63 rfl)) (fun e u h => h) (fun v u h => ?_)
              obtain ⟨z72, rfl, rfl, i72, p72⟩ := h
              show GG _ _ _ _ _ _ _ _ [.int z72, .int z67] _ _ _
              refine g_cmp_eq 78 155 (gd rfl) rfl rfl (fun c75 => ?_) (fun c75 => ?_)
              · skip
                refine g_iinc 158 (gd rfl) rfl rfl (Nat.le_of_ble_eq_true rfl) (fun z155 e155 => ?_)
                have i155 := in_add 1 160 e155 i30 (in_c 1 rfl) rfl rfl
                refine g_goto 26 (gd rfl) rfl ?_
                have n26 : PWI sc26 := by exact g26_0
                exact gg_w (by first | exact Nat.le_add_right _ _ | exact gw2 | exact gw3 | exact gwe rfl | exact gwf rfl | exact gwg rfl | exact gwh rfl | omega) (gg_f (gf_cons rfl (gf_cons rfl gf_nil)) (ih26 sc26 z155 hIc26 hFc26 (in_w 0 160 i155 rfl) n26 (m_up mm26 (t_add e155 i30 (in_c 1 rfl) rfl) (in_w 1 1 (in_c 1 rfl) rfl))))
              · skip
                refine g_aload_n 79 (gd rfl) rfl rfl ?_
                refine g_iload_n 80 (gd rfl) rfl rfl ?_
                refine g_callv (X := _) (As := [.int z51]) (r := []) (b := A 109) (q := 109) 83 (gd rfl) rfl rfl rfl rfl rfl (ww_o rfl) (Nat.le_of_ble_eq_true rfl) (Nat.zero_le _) (Nat.zero_le _) (k_359 (by first | exact dq1 hd rfl | exact dq0 hd rfl | exact dq2 hd rfl | exact dq3 hd rfl | omega) hIc26 (in_w 0 31 i51 rfl)) (fun e u h => h) (fun v u h => ?_)
                obtain ⟨z80, rfl, rfl, i80, p80⟩ := h
                show GG _ _ _ _ _ _ _ _ [.int z80] _ _ _
                refine g_if_eq 86 95 (gd rfl) rfl rfl (fun c83 => ?_) (fun c83 => ?_)
                · skip
                  have i83 := z_eq 0 0 c83 i80 rfl
                  refine g_bipush 32 97 (gd rfl) rfl rfl ?_
                  refine g_iload_n 98 (gd rfl) rfl rfl ?_
                  refine g_imul 99 (gd rfl) rfl (fun z98 e98 => ?_)
                  have i98 := in_mulc 32 0 992 (Or.inl e98) i63 rfl rfl
                  refine g_iload_n 100 (gd rfl) rfl rfl ?_
                  refine g_iadd 101 (gd rfl) rfl (fun z100 e100 => ?_)
                  have i100 := in_add 0 1023 e100 i98 i51 rfl rfl
                  refine g_istore 103 (gd rfl) rfl (Nat.le_of_ble_eq_true rfl) ?_
                  refine g_aload_n 104 (gd rfl) rfl rfl ?_
                  refine g_getA (q2 := 152) 107 (gd rfl) rfl rfl rfl rfl ?_
                  refine g_iload 109 (gd rfl) rfl rfl ?_
                  refine g_aload_n 110 (gd rfl) rfl rfl ?_
                  refine g_getA (q2 := 115) 113 (gd rfl) rfl rfl rfl rfl ?_
                  refine g_aload_n 114 (gd rfl) rfl rfl ?_
                  refine g_getI 117 (gd rfl) rfl rfl rfl (fun z114 e114 => ?_)
                  have q114 : u_109_19 = z114 := (fr_F e_109_19 hFc26 rfl).trans e114.symm
                  subst q114
                  refine g_iload_n 118 (gd rfl) rfl rfl ?_
                  refine g_iadd 119 (gd rfl) rfl (fun z118 e118 => ?_)
                  have i118 := in_add 0 319 e118 ro_109_19 i30 rfl rfl
                  refine g_iaload 120 (gd rfl) rfl (n := 480) rfl (in_ix i118 rfl) (fun z119 e119 => ?_)
                  have i119 := inv_I hIc26 (n := 480) (t := 0) (-1000000) 1000000 rfl (in_ix i118 rfl) rfl e119
                  refine g_i2l 121 (gd rfl) rfl (fun z120 e120 => ?_)
                  have i120 := l_i e120 i119
                  refine g_aload_n 122 (gd rfl) rfl rfl ?_
                  refine g_getA (q2 := 152) 125 (gd rfl) rfl rfl rfl rfl ?_
                  refine g_iload 127 (gd rfl) rfl rfl ?_
                  refine g_laload 128 (gd rfl) rfl (n := 1024) rfl (in_ix i100 rfl) (fun z127 e127 => ?_)
                  refine g_lcmp 129 (gd rfl) rfl (fun z128 e128 => ?_)
                  have i128 := lc_in e128
                  refine g_if_ge 132 147 (gd rfl) rfl rfl (fun c129 => ?_) (fun c129 => ?_)
                  · skip
                    have i129 := z_ge 0 1 c129 i128 rfl
                    have c129a := lc_ge e128 c129
                    have i129a := lr_le1 (-9223372036854775808) 1000000 c129a (l_rng z127) i120 rfl
                    refine g_aload_n 148 (gd rfl) rfl rfl ?_
                    refine g_getA (q2 := 152) 151 (gd rfl) rfl rfl rfl rfl ?_
                    refine g_iload 153 (gd rfl) rfl rfl ?_
                    refine g_laload 154 (gd rfl) rfl (n := 1024) rfl (in_ix i100 rfl) (fun z153 e153 => ?_)
                    refine g_lastore 155 (gd rfl) rfl (n := 1024) rfl (in_ix i100 rfl) ?_
                    have hI154 := inv_sL (q := 152) (j := z100.toNatClampNeg) (x := z153) hIc26 rfl (l_rng z153)
                    refine g_iinc 158 (gd rfl) rfl rfl (Nat.le_of_ble_eq_true rfl) (fun z155 e155 => ?_)
                    have i155 := in_add 1 160 e155 i30 (in_c 1 rfl) rfl rfl
                    refine g_goto 26 (gd rfl) rfl ?_
                    have n26 : PWI (sL sc26 152 z100.toNatClampNeg z153) := by exact pwi_s (u := z63) (v := z51) (k := z100.toNatClampNeg) (w := z153) g26_0 i63 i51 (by show z100.toInt.toNat = 32 * z63.toInt.toNat + z51.toInt.toNat; have a0 := oa4 ro_109_20 ro_109_19 i30 i100; have a4 := t_add e100 i98 i51 rfl; have a5 := oa2 i51 i98; have a7 := (t_mulc 32 (Or.inl e98) i63 rfl).1; have a8 := oa2 i63 i155; have a10 := t_add e155 i30 (in_c 1 rfl) rfl; have a11 := in_u ((in_c 1 rfl)); have a12 := tx_i2l e120; have a13 := oa2 i119 i118; have a15 := t_add e118 ro_109_19 i30 rfl; have a16 := in_u i62; have a17 := t_add e62 ro_109_19 i30 rfl; have a18 := in_u i50; have a19 := t_add e50 ro_109_19 i30 rfl; have a20 := in_u i35x34; have a21 := t_add e35x34 ro_109_19 i30 rfl; have a22 := in_u i35x23; have a23 := t_add e35x23 ro_109_19 i30 rfl; have a24 := in_u i35x9; have a25 := t_add e35x9 ro_109_19 i30 rfl; (first | exact zt_m (by omega) (by omega) (by omega) | omega)) rfl rfl rfl (by simp [sL]) (Or.inl e153)
                    exact gg_w (by first | exact Nat.le_add_right _ _ | exact gw2 | exact gw3 | exact gwe rfl | exact gwf rfl | exact gwg rfl | exact gwh rfl | omega) (gg_f (gf_cons rfl (gf_cons rfl gf_nil)) (ih26 (sL sc26 152 z100.toNatClampNeg z153) z155 hI154 (fr_sL rfl hFc26) (in_w 0 160 i155 rfl) n26 (m_up mm26 (t_add e155 i30 (in_c 1 rfl) rfl) (in_w 1 1 (in_c 1 rfl) rfl))))
                  · skip
                    have i129 := z_lt (-1) (-1) c129 i128 rfl
                    have c129a := lc_lt e128 c129
                    have i129a := lr_lt2 (-999999) 9223372036854775807 c129a i120 (l_rng z127) rfl
                    refine g_aload_n 133 (gd rfl) rfl rfl ?_
                    refine g_getA (q2 := 115) 136 (gd rfl) rfl rfl rfl rfl ?_
                    refine g_aload_n 137 (gd rfl) rfl rfl ?_
                    refine g_getI 140 (gd rfl) rfl rfl rfl (fun z137 e137 => ?_)
                    have q137 : u_109_19 = z137 := (fr_F e_109_19 hFc26 rfl).trans e137.symm
                    subst q137
                    refine g_iload_n 141 (gd rfl) rfl rfl ?_
                    refine g_iadd 142 (gd rfl) rfl (fun z141 e141 => ?_)
                    have i141 := in_add 0 319 e141 ro_109_19 i30 rfl rfl
                    refine g_iaload 143 (gd rfl) rfl (n := 480) rfl (in_ix i141 rfl) (fun z142 e142 => ?_)
                    have i142 := inv_I hIc26 (n := 480) (t := 0) (-1000000) 1000000 rfl (in_ix i141 rfl) rfl e142
                    refine g_i2l 144 (gd rfl) rfl (fun z143 e143 => ?_)
                    have i143 := l_i e143 i142
                    refine g_goto 154 (gd rfl) rfl ?_
                    refine g_lastore 155 (gd rfl) rfl (n := 1024) rfl (in_ix i100 rfl) ?_
                    have hI154 := inv_sL (q := 152) (j := z100.toNatClampNeg) (x := z143) hIc26 rfl (l_rng z143)
                    refine g_iinc 158 (gd rfl) rfl rfl (Nat.le_of_ble_eq_true rfl) (fun z155 e155 => ?_)
                    have i155 := in_add 1 160 e155 i30 (in_c 1 rfl) rfl rfl
                    refine g_goto 26 (gd rfl) rfl ?_
                    have n26 : PWI (sL sc26 152 z100.toNatClampNeg z143) := by exact pwi_s (u := z63) (v := z51) (k := z100.toNatClampNeg) (w := z143) g26_0 i63 i51 (by show z100.toInt.toNat = 32 * z63.toInt.toNat + z51.toInt.toNat; have a0 := oa4 ro_109_20 ro_109_19 i30 i100; have a4 := t_add e100 i98 i51 rfl; have a5 := oa2 i51 i98; have a7 := (t_mulc 32 (Or.inl e98) i63 rfl).1; have a8 := oa2 i63 i155; have a10 := t_add e155 i30 (in_c 1 rfl) rfl; have a11 := in_u ((in_c 1 rfl)); have a12 := tx_i2l e143; have a13 := oa2 i142 i141; have a15 := t_add e141 ro_109_19 i30 rfl; have a16 := tx_i2l e120; have a17 := oa2 i119 i118; have a19 := t_add e118 ro_109_19 i30 rfl; have a20 := in_u i62; have a21 := t_add e62 ro_109_19 i30 rfl; have a22 := in_u i50; have a23 := t_add e50 ro_109_19 i30 rfl; have a24 := in_u i35x34; have a25 := t_add e35x34 ro_109_19 i30 rfl; have a26 := in_u i35x23; have a27 := t_add e35x23 ro_109_19 i30 rfl; have a28 := in_u i35x9; have a29 := t_add e35x9 ro_109_19 i30 rfl; (first | exact zt_m (by omega) (by omega) (by omega) | omega)) rfl rfl rfl (by simp [sL]) (Or.inr ⟨(by rw [e63, ey65]; exact hk65.2), (by rw [e51, ez65]; exact hk65.1), (p72.mp (by intro h72; have h1 : ¬ z67.toInt ≠ 0 := (fun h => absurd (p80.mpr (p67.mp h)) (by have h2 := c83; omega)); have r67 := i67; have r72 := i72; unfold In at r67 r72; have h3 := c75; omega)), (fun h => absurd (p80.mpr h) (by have h2 := c83; omega)), i143⟩)
                    exact gg_w (by first | exact Nat.le_add_right _ _ | exact gw2 | exact gw3 | exact gwe rfl | exact gwf rfl | exact gwg rfl | exact gwh rfl | omega) (gg_f (gf_cons rfl (gf_cons rfl gf_nil)) (ih26 (sL sc26 152 z100.toNatClampNeg z143) z155 hI154 (fr_sL rfl hFc26) (in_w 0 160 i155 rfl) n26 (m_up mm26 (t_add e155 i30 (in_c 1 rfl) rfl) (in_w 1 1 (in_c 1 rfl) rfl))))
                · skip
                  have i83 := z_ne 1 1 c83 i80 rfl
                  refine g_bipush 32 88 (gd rfl) rfl rfl ?_
                  refine g_iload_n 89 (gd rfl) rfl rfl ?_
                  refine g_imul 90 (gd rfl) rfl (fun z89 e89 => ?_)
                  have i89 := in_mulc 32 0 992 (Or.inl e89) i51 rfl rfl
                  refine g_iload_n 91 (gd rfl) rfl rfl ?_
                  refine g_iadd 92 (gd rfl) rfl (fun z91 e91 => ?_)
                  have i91 := in_add 0 1023 e91 i89 i63 rfl rfl
                  refine g_goto 101 (gd rfl) rfl ?_
                  refine g_istore 103 (gd rfl) rfl (Nat.le_of_ble_eq_true rfl) ?_
                  refine g_aload_n 104 (gd rfl) rfl rfl ?_
                  refine g_getA (q2 := 152) 107 (gd rfl) rfl rfl rfl rfl ?_
                  refine g_iload 109 (gd rfl) rfl rfl ?_
                  refine g_aload_n 110 (gd rfl) rfl rfl ?_
                  refine g_getA (q2 := 115) 113 (gd rfl) rfl rfl rfl rfl ?_
                  refine g_aload_n 114 (gd rfl) rfl rfl ?_
                  refine g_getI 117 (gd rfl) rfl rfl rfl (fun z114 e114 => ?_)
                  have q114 : u_109_19 = z114 := (fr_F e_109_19 hFc26 rfl).trans e114.symm
                  subst q114
                  refine g_iload_n 118 (gd rfl) rfl rfl ?_
                  refine g_iadd 119 (gd rfl) rfl (fun z118 e118 => ?_)
                  have i118 := in_add 0 319 e118 ro_109_19 i30 rfl rfl
                  refine g_iaload 120 (gd rfl) rfl (n := 480) rfl (in_ix i118 rfl) (fun z119 e119 => ?_)
                  have i119 := inv_I hIc26 (n := 480) (t := 0) (-1000000) 1000000 rfl (in_ix i118 rfl) rfl e119
                  refine g_i2l 121 (gd rfl) rfl (fun z120 e120 => ?_)
                  have i120 := l_i e120 i119
                  refine g_aload_n 122 (gd rfl) rfl rfl ?_
                  refine g_getA (q2 := 152) 125 (gd rfl) rfl rfl rfl rfl ?_
                  refine g_iload 127 (gd rfl) rfl rfl ?_
                  refine g_laload 128 (gd rfl) rfl (n := 1024) rfl (in_ix i91 rfl) (fun z127 e127 => ?_)
                  refine g_lcmp 129 (gd rfl) rfl (fun z128 e128 => ?_)
                  have i128 := lc_in e128
                  refine g_if_ge 132 147 (gd rfl) rfl rfl (fun c129 => ?_) (fun c129 => ?_)
                  · skip
                    have i129 := z_ge 0 1 c129 i128 rfl
                    have c129a := lc_ge e128 c129
                    have i129a := lr_le1 (-9223372036854775808) 1000000 c129a (l_rng z127) i120 rfl
                    refine g_aload_n 148 (gd rfl) rfl rfl ?_
                    refine g_getA (q2 := 152) 151 (gd rfl) rfl rfl rfl rfl ?_
                    refine g_iload 153 (gd rfl) rfl rfl ?_
                    refine g_laload 154 (gd rfl) rfl (n := 1024) rfl (in_ix i91 rfl) (fun z153 e153 => ?_)
                    refine g_lastore 155 (gd rfl) rfl (n := 1024) rfl (in_ix i91 rfl) ?_
                    have hI154 := inv_sL (q := 152) (j := z91.toNatClampNeg) (x := z153) hIc26 rfl (l_rng z153)
                    refine g_iinc 158 (gd rfl) rfl rfl (Nat.le_of_ble_eq_true rfl) (fun z155 e155 => ?_)
                    have i155 := in_add 1 160 e155 i30 (in_c 1 rfl) rfl rfl
                    refine g_goto 26 (gd rfl) rfl ?_
                    have n26 : PWI (sL sc26 152 z91.toNatClampNeg z153) := by exact pwi_s (u := z51) (v := z63) (k := z91.toNatClampNeg) (w := z153) g26_0 i51 i63 (by show z91.toInt.toNat = 32 * z51.toInt.toNat + z63.toInt.toNat; have a0 := oa4 ro_109_20 ro_109_19 i30 i91; have a4 := t_add e91 i89 i63 rfl; have a5 := oa2 i63 i89; have a7 := (t_mulc 32 (Or.inl e89) i51 rfl).1; have a8 := oa2 i51 i155; have a10 := t_add e155 i30 (in_c 1 rfl) rfl; have a11 := in_u ((in_c 1 rfl)); have a12 := tx_i2l e120; have a13 := oa2 i119 i118; have a15 := t_add e118 ro_109_19 i30 rfl; have a16 := in_u i62; have a17 := t_add e62 ro_109_19 i30 rfl; have a18 := in_u i50; have a19 := t_add e50 ro_109_19 i30 rfl; have a20 := in_u i35x34; have a21 := t_add e35x34 ro_109_19 i30 rfl; have a22 := in_u i35x23; have a23 := t_add e35x23 ro_109_19 i30 rfl; have a24 := in_u i35x9; have a25 := t_add e35x9 ro_109_19 i30 rfl; (first | exact zt_m (by omega) (by omega) (by omega) | omega)) rfl rfl rfl (by simp [sL]) (Or.inl e153)
                    exact gg_w (by first | exact Nat.le_add_right _ _ | exact gw2 | exact gw3 | exact gwe rfl | exact gwf rfl | exact gwg rfl | exact gwh rfl | omega) (gg_f (gf_cons rfl (gf_cons rfl gf_nil)) (ih26 (sL sc26 152 z91.toNatClampNeg z153) z155 hI154 (fr_sL rfl hFc26) (in_w 0 160 i155 rfl) n26 (m_up mm26 (t_add e155 i30 (in_c 1 rfl) rfl) (in_w 1 1 (in_c 1 rfl) rfl))))
                  · skip
                    have i129 := z_lt (-1) (-1) c129 i128 rfl
                    have c129a := lc_lt e128 c129
                    have i129a := lr_lt2 (-999999) 9223372036854775807 c129a i120 (l_rng z127) rfl
                    refine g_aload_n 133 (gd rfl) rfl rfl ?_
                    refine g_getA (q2 := 115) 136 (gd rfl) rfl rfl rfl rfl ?_
                    refine g_aload_n 137 (gd rfl) rfl rfl ?_
                    refine g_getI 140 (gd rfl) rfl rfl rfl (fun z137 e137 => ?_)
                    have q137 : u_109_19 = z137 := (fr_F e_109_19 hFc26 rfl).trans e137.symm
                    subst q137
                    refine g_iload_n 141 (gd rfl) rfl rfl ?_
                    refine g_iadd 142 (gd rfl) rfl (fun z141 e141 => ?_)
                    have i141 := in_add 0 319 e141 ro_109_19 i30 rfl rfl
                    refine g_iaload 143 (gd rfl) rfl (n := 480) rfl (in_ix i141 rfl) (fun z142 e142 => ?_)
                    have i142 := inv_I hIc26 (n := 480) (t := 0) (-1000000) 1000000 rfl (in_ix i141 rfl) rfl e142
                    refine g_i2l 144 (gd rfl) rfl (fun z143 e143 => ?_)
                    have i143 := l_i e143 i142
                    refine g_goto 154 (gd rfl) rfl ?_
                    refine g_lastore 155 (gd rfl) rfl (n := 1024) rfl (in_ix i91 rfl) ?_
                    have hI154 := inv_sL (q := 152) (j := z91.toNatClampNeg) (x := z143) hIc26 rfl (l_rng z143)
                    refine g_iinc 158 (gd rfl) rfl rfl (Nat.le_of_ble_eq_true rfl) (fun z155 e155 => ?_)
                    have i155 := in_add 1 160 e155 i30 (in_c 1 rfl) rfl rfl
                    refine g_goto 26 (gd rfl) rfl ?_
                    have n26 : PWI (sL sc26 152 z91.toNatClampNeg z143) := by exact pwi_s (u := z51) (v := z63) (k := z91.toNatClampNeg) (w := z143) g26_0 i51 i63 (by show z91.toInt.toNat = 32 * z51.toInt.toNat + z63.toInt.toNat; have a0 := oa4 ro_109_20 ro_109_19 i30 i91; have a4 := t_add e91 i89 i63 rfl; have a5 := oa2 i63 i89; have a7 := (t_mulc 32 (Or.inl e89) i51 rfl).1; have a8 := oa2 i51 i155; have a10 := t_add e155 i30 (in_c 1 rfl) rfl; have a11 := in_u ((in_c 1 rfl)); have a12 := tx_i2l e143; have a13 := oa2 i142 i141; have a15 := t_add e141 ro_109_19 i30 rfl; have a16 := tx_i2l e120; have a17 := oa2 i119 i118; have a19 := t_add e118 ro_109_19 i30 rfl; have a20 := in_u i62; have a21 := t_add e62 ro_109_19 i30 rfl; have a22 := in_u i50; have a23 := t_add e50 ro_109_19 i30 rfl; have a24 := in_u i35x34; have a25 := t_add e35x34 ro_109_19 i30 rfl; have a26 := in_u i35x23; have a27 := t_add e35x23 ro_109_19 i30 rfl; have a28 := in_u i35x9; have a29 := t_add e35x9 ro_109_19 i30 rfl; (first | exact zt_m (by omega) (by omega) (by omega) | omega)) rfl rfl rfl (by simp [sL]) (Or.inr ⟨(by rw [e51, ez65]; exact hk65.1), (by rw [e63, ey65]; exact hk65.2), p80.mp c83, (fun h => by have h1 := p72.mpr h; have h2 := p67.mpr (p80.mp c83); have r67 := i67; have r72 := i72; unfold In at r67 r72; have h3 := c75; omega), i143⟩)
                    exact gg_w (by first | exact Nat.le_add_right _ _ | exact gw2 | exact gw3 | exact gwe rfl | exact gwf rfl | exact gwg rfl | exact gwh rfl | omega) (gg_f (gf_cons rfl (gf_cons rfl gf_nil)) (ih26 (sL sc26 152 z91.toNatClampNeg z143) z155 hI154 (fr_sL rfl hFc26) (in_w 0 160 i155 rfl) n26 (m_up mm26 (t_add e155 i30 (in_c 1 rfl) rfl) (in_w 1 1 (in_c 1 rfl) rfl))))
  have ct2 : ∀ (k2 : Nat) (sc2 : GS) (y2_1 : Int32), Inv sc2 → Fr fm_360 s sc2 → (In y2_1 0 1024) → (∀ k : Nat, (k : Int) < (y2_1).toInt → (sc2.2.1 152 k).toInt = 9000000000000000) → 1024 - (y2_1).toInt < (k2 : Int) → GG Z (d - 1) 360 post (gx xp) (2313070 + k2 * 900) 2 (fun j => xlook j [(0, .ref (A 109)), (1, .int y2_1)]) [] (WW Z A sc2 ++ ex) 0 0 := by
    intro k2
    induction k2 with
    | zero => intro sc2 y2_1 hIc2 hFc2 j2_1 g2_0 mm2; exact m_no mm2 j2_1 rfl
    | succ k2 ih2 =>
      intro sc2 y2_1 hIc2 hFc2 j2_1 g2_0 mm2
      refine gg_w (M := 2313070 + k2 * 900 + 900) gws ?_
      refine g_iload_n 3 (gd rfl) rfl rfl ?_
      refine g_sipush 1024 6 (gd rfl) rfl rfl ?_
      refine g_cmp_ge 9 24 (gd rfl) rfl rfl (fun c6 => ?_) (fun c6 => ?_)
      · skip
        have i6 := r_le2 1024 1024 c6 (in_c 1024 rfl) j2_1 rfl
        refine g_iconst 0 25 (gd rfl) rfl rfl ?_
        refine g_istore_n 26 (gd rfl) rfl (Nat.le_of_ble_eq_true rfl) ?_
        have n26 : PWI sc2 := by (intro u v hu hv hp; exfalso; have h := g2_0 (32 * u + v) (by have a0 := oa4 ro_109_20 ro_109_19 i6 ((in_c 0 rfl)); omega); unfold pwq at hp; omega)
        exact gg_w (by first | exact Nat.le_add_right _ _ | exact gw2 | exact gw3 | exact gwe rfl | exact gwf rfl | exact gwg rfl | exact gwh rfl | omega) (gg_f (gf_cons rfl (gf_cons rfl gf_nil)) (ct26 161 sc2 (Int32.ofInt 0) hIc2 hFc2 (in_w 0 160 (in_c 0 rfl) rfl) n26 (m_in 161 (in_w 0 160 (in_c 0 rfl) rfl) rfl)))
      · skip
        have i6 := r_lt1 0 1023 c6 j2_1 (in_c 1024 rfl) rfl
        refine g_aload_n 10 (gd rfl) rfl rfl ?_
        refine g_getA (q2 := 152) 13 (gd rfl) rfl rfl rfl rfl ?_
        refine g_iload_n 14 (gd rfl) rfl rfl ?_
        refine g_ldc2_w 9000000000000000 17 (gd rfl) rfl rfl ?_
        refine g_lastore 18 (gd rfl) rfl (n := 1024) rfl (in_ix i6 rfl) ?_
        have hI17 := inv_sL (q := 152) (j := y2_1.toNatClampNeg) (x := (Int64.ofInt 9000000000000000)) hIc2 rfl (l_rng (Int64.ofInt 9000000000000000))
        refine g_iinc 21 (gd rfl) rfl rfl (Nat.le_of_ble_eq_true rfl) (fun z18 e18 => ?_)
        have i18 := in_add 1 1024 e18 i6 (in_c 1 rfl) rfl rfl
        refine g_goto 2 (gd rfl) rfl ?_
        have n2 : ∀ k : Nat, (k : Int) < (z18).toInt → ((sL sc2 152 y2_1.toNatClampNeg (Int64.ofInt 9000000000000000)).2.1 152 k).toInt = 9000000000000000 := by first | (intro k hk; exfalso; have h0 : (Int32.ofInt 0).toInt = 0 := rfl; omega) | (intro k hk; have e2 : y2_1.toNatClampNeg = y2_1.toInt.toNat := rfl; rw [show ((sL sc2 152 y2_1.toNatClampNeg (Int64.ofInt 9000000000000000))).2.1 152 = vp_updL (sc2.2.1 152) y2_1.toNatClampNeg (Int64.ofInt 9000000000000000) from (by simp [sI, sL])]; by_cases c : k = y2_1.toNatClampNeg; (rw [c, ul_eq]; exact (by have hl : InL (Int64.ofInt 9000000000000000) 9000000000000000 9000000000000000 := l_c 9000000000000000 rfl; exact Int.le_antisymm hl.2 hl.1)); (rw [ul_ne c]; exact g2_0 k (by have a0 := oa4 ro_109_20 ro_109_19 i6 i18; have a4 := t_add e18 i6 (in_c 1 rfl) rfl; have a5 := in_u ((in_c 1 rfl)); omega)))
        exact gg_w (by first | exact Nat.le_add_right _ _ | exact gw2 | exact gw3 | exact gwe rfl | exact gwf rfl | exact gwg rfl | exact gwh rfl | omega) (gg_f (gf_cons rfl (gf_cons rfl gf_nil)) (ih2 (sL sc2 152 y2_1.toNatClampNeg (Int64.ofInt 9000000000000000)) z18 hI17 (fr_sL rfl hFc2) (in_w 0 1024 i18 rfl) n2 (m_up mm2 (t_add e18 i6 (in_c 1 rfl) rfl) (in_w 1 1 (in_c 1 rfl) rfl))))
  refine g_enter2 (k := 360) (N := 3236470) (by first | exact dq1 hd rfl | exact dq0 hd rfl | exact dq2 hd rfl | exact dq3 hd rfl | omega) rfl (Nat.le_of_ble_eq_true rfl) ?_
  refine g_iconst 0 1 (gd rfl) rfl rfl ?_
  refine g_istore_n 2 (gd rfl) rfl (Nat.le_of_ble_eq_true rfl) ?_
  have n2 : ∀ k : Nat, (k : Int) < ((Int32.ofInt 0)).toInt → (s.2.1 152 k).toInt = 9000000000000000 := by first | (intro k hk; exfalso; have h0 : (Int32.ofInt 0).toInt = 0 := rfl; omega) | (intro k hk; have e2 : y2_1.toNatClampNeg = y2_1.toInt.toNat := rfl; rw [show (s).2.1 152 = vp_updL (sc2.2.1 152) y2_1.toNatClampNeg (Int64.ofInt 9000000000000000) from (by simp [sI, sL])]; by_cases c : k = y2_1.toNatClampNeg; (rw [c, ul_eq]; exact (by have hl : InL (Int64.ofInt 9000000000000000) 9000000000000000 9000000000000000 := l_c 9000000000000000 rfl; exact Int.le_antisymm hl.2 hl.1)); (rw [ul_ne c]; exact g2_0 k (by have a0 := oa3 ro_109_20 ro_109_19 ((in_c 0 rfl)); omega)))
  exact gg_w (by first | exact Nat.le_of_ble_eq_true rfl | omega) (gg_f (gf_cons rfl (gf_cons rfl gf_nil)) (ct2 1025 s (Int32.ofInt 0) hI fr_rf (in_w 0 1024 (in_c 0 rfl) rfl) n2 (m_in 1025 (in_w 0 1024 (in_c 0 rfl) rfl) rfl)))

def fm_362 : FM := ([148, 151], [149, 152], [(109, 0)], [])
/-- GraphHouseModel.pairing -/
theorem k_362 {Z : AmZ} {A : Nat → Nat} {s : GS} {ex : va_W} {d : Nat} {X : AmX} {x1 : Int32} (hd : 4 ≤ d) (hI : Inv s)  : GC Z d 362 [.ref (A 109), .int x1] (WW Z A s ++ ex) 0 0 (fun v u => ∃ t : GS, Inv t ∧ Fr fm_362 s t ∧ ∃ z : Int64, v = some (.long z) ∧ u = WW Z A t ++ ex) X := by
  intro post xp hP hX
  obtain ⟨u_109_20, e_109_20⟩ : ∃ w, w = s.2.2.1 109 20 := ⟨_, rfl⟩
  have ro_109_20 := inv_F hI 0 32 rfl e_109_20
  have ct28 : ∀ (k28 : Nat) (sc28 : GS) (y28_2 : Int64) (y28_4 : Int64) (y28_6 : Int32), Inv sc28 → Fr fm_362 s sc28 → (In x1 0 1) → (In y28_6 0 32) → 32 - (y28_6).toInt < (k28 : Int) → GG Z (d - 1) 362 post (gx xp) (1 + k28 * 900) 28 (fun j => xlook j [(0, .ref (A 109)), (1, .int x1), (2, .long y28_2), (4, .long y28_4), (6, .int y28_6)]) [] (WW Z A sc28 ++ ex) 0 0 := by
    intro k28
    induction k28 with
    | zero => intro sc28 y28_2 y28_4 y28_6 hIc28 hFc28 j28_1 j28_6 mm28; exact m_no mm28 j28_6 rfl
    | succ k28 ih28 =>
      intro sc28 y28_2 y28_4 y28_6 hIc28 hFc28 j28_1 j28_6 mm28
      refine gg_w (M := 1 + k28 * 900 + 900) gws ?_
      refine g_iload 30 (gd rfl) rfl rfl ?_
      refine g_aload_n 31 (gd rfl) rfl rfl ?_
      refine g_getI 34 (gd rfl) rfl rfl rfl (fun z31 e31 => ?_)
      have q31 : u_109_20 = z31 := (fr_F e_109_20 hFc28 rfl).trans e31.symm
      subst q31
      refine g_cmp_ge 37 89 (gd rfl) rfl rfl (fun c34 => ?_) (fun c34 => ?_)
      · skip
        refine g_iload_n 90 (gd rfl) rfl rfl ?_
        refine g_if_ne 93 97 (gd rfl) rfl rfl (fun c90 => ?_) (fun c90 => ?_)
        · skip
          have i90 := z_ne 1 1 c90 j28_1 rfl
          refine g_lload 99 (gd rfl) rfl rfl ?_
          exact g_lreturn (gd rfl) rfl (hP _ _ ⟨sc28, hIc28, hFc28, y28_4, rfl, rfl⟩)
        · skip
          have i90 := z_eq 0 0 c90 j28_1 rfl
          refine g_lload_n 94 (gd rfl) rfl rfl ?_
          refine g_goto 99 (gd rfl) rfl ?_
          exact g_lreturn (gd rfl) rfl (hP _ _ ⟨sc28, hIc28, hFc28, y28_2, rfl, rfl⟩)
      · skip
        have i34 := r_lt1 0 31 c34 j28_6 ro_109_20 rfl
        have i34a := r_lt2 1 32 c34 j28_6 ro_109_20 rfl
        refine g_aload_n 38 (gd rfl) rfl rfl ?_
        refine g_iload 40 (gd rfl) rfl rfl ?_
        refine g_callv (X := _) (As := [.int y28_6]) (r := []) (b := A 109) (q := 109) 43 (gd rfl) rfl rfl rfl rfl rfl (ww_o rfl) (Nat.le_of_ble_eq_true rfl) (Nat.zero_le _) (Nat.zero_le _) (k_359 (by first | exact dq1 hd rfl | exact dq0 hd rfl | exact dq2 hd rfl | exact dq3 hd rfl | omega) hIc28 (in_w 0 31 i34 rfl)) (fun e u h => h) (fun v u h => ?_)
        obtain ⟨z40, rfl, rfl, i40, p40⟩ := h
        show GG _ _ _ _ _ _ _ _ [.int z40] _ _ _
        refine g_if_eq 46 83 (gd rfl) rfl rfl (fun c43 => ?_) (fun c43 => ?_)
        · skip
          have i43 := z_eq 0 0 c43 i40 rfl
          refine g_iinc 86 (gd rfl) rfl rfl (Nat.le_of_ble_eq_true rfl) (fun z83 e83 => ?_)
          have i83 := in_add 1 32 e83 i34 (in_c 1 rfl) rfl rfl
          refine g_goto 28 (gd rfl) rfl ?_
          exact gg_w (by first | exact Nat.le_add_right _ _ | exact gw2 | exact gw3 | exact gwe rfl | exact gwf rfl | exact gwg rfl | exact gwh rfl | omega) (gg_f (gf_cons rfl (gf_cons rfl (gf_cons rfl (gf_cons rfl (gf_cons rfl gf_nil))))) (ih28 sc28 y28_2 y28_4 z83 hIc28 hFc28 (in_w 0 1 j28_1 rfl) (in_w 0 32 i83 rfl) (m_up mm28 (t_add e83 i34 (in_c 1 rfl) rfl) (in_w 1 1 (in_c 1 rfl) rfl))))
        · skip
          have i43 := z_ne 1 1 c43 i40 rfl
          refine g_aload_n 47 (gd rfl) rfl rfl ?_
          refine g_getA (q2 := 151) 50 (gd rfl) rfl rfl rfl rfl ?_
          refine g_iload 52 (gd rfl) rfl rfl ?_
          refine g_iaload 53 (gd rfl) rfl (n := 32) rfl (in_ix i34 rfl) (fun z52 e52 => ?_)
          have i52 := inv_I hIc28 (n := 32) (t := 0) (-1) 31 rfl (in_ix i34 rfl) rfl e52
          refine g_if_lt 56 83 (gd rfl) rfl rfl (fun c53 => ?_) (fun c53 => ?_)
          · skip
            have i53 := z_lt (-1) (-1) c53 i52 rfl
            refine g_iinc 86 (gd rfl) rfl rfl (Nat.le_of_ble_eq_true rfl) (fun z83 e83 => ?_)
            have i83 := in_add 1 32 e83 i34 (in_c 1 rfl) rfl rfl
            refine g_goto 28 (gd rfl) rfl ?_
            exact gg_w (by first | exact Nat.le_add_right _ _ | exact gw2 | exact gw3 | exact gwe rfl | exact gwf rfl | exact gwg rfl | exact gwh rfl | omega) (gg_f (gf_cons rfl (gf_cons rfl (gf_cons rfl (gf_cons rfl (gf_cons rfl gf_nil))))) (ih28 sc28 y28_2 y28_4 z83 hIc28 hFc28 (in_w 0 1 j28_1 rfl) (in_w 0 32 i83 rfl) (m_up mm28 (t_add e83 i34 (in_c 1 rfl) rfl) (in_w 1 1 (in_c 1 rfl) rfl))))
          · skip
            have i53 := z_ge 0 31 c53 i52 rfl
            refine g_lload_n 57 (gd rfl) rfl rfl ?_
            refine g_lconst 1 58 (gd rfl) rfl rfl ?_
            refine g_ladd 59 (gd rfl) rfl (fun z58 e58 => ?_)
            refine g_lstore_n 60 (gd rfl) rfl (Nat.le_of_ble_eq_true rfl) ?_
            refine g_lload 62 (gd rfl) rfl rfl ?_
            refine g_aload_n 63 (gd rfl) rfl rfl ?_
            refine g_getA (q2 := 152) 66 (gd rfl) rfl rfl rfl rfl ?_
            refine g_bipush 32 68 (gd rfl) rfl rfl ?_
            refine g_iload 70 (gd rfl) rfl rfl ?_
            refine g_imul 71 (gd rfl) rfl (fun z70 e70 => ?_)
            have i70 := in_mulc 32 0 992 (Or.inl e70) i34 rfl rfl
            refine g_aload_n 72 (gd rfl) rfl rfl ?_
            refine g_getA (q2 := 151) 75 (gd rfl) rfl rfl rfl rfl ?_
            refine g_iload 77 (gd rfl) rfl rfl ?_
            refine g_iaload 78 (gd rfl) rfl (n := 32) rfl (in_ix i34 rfl) (fun z77 e77 => ?_)
            have q77 : z52 = z77 := (e52).trans e77.symm
            subst q77
            refine g_iadd 79 (gd rfl) rfl (fun z78 e78 => ?_)
            have i78 := in_add 0 1023 e78 i70 i53 rfl rfl
            refine g_laload 80 (gd rfl) rfl (n := 1024) rfl (in_ix i78 rfl) (fun z79 e79 => ?_)
            refine g_ladd 81 (gd rfl) rfl (fun z80 e80 => ?_)
            refine g_lstore 83 (gd rfl) rfl (Nat.le_of_ble_eq_true rfl) ?_
            refine g_iinc 86 (gd rfl) rfl rfl (Nat.le_of_ble_eq_true rfl) (fun z83 e83 => ?_)
            have i83 := in_add 1 32 e83 i34 (in_c 1 rfl) rfl rfl
            refine g_goto 28 (gd rfl) rfl ?_
            exact gg_w (by first | exact Nat.le_add_right _ _ | exact gw2 | exact gw3 | exact gwe rfl | exact gwf rfl | exact gwg rfl | exact gwh rfl | omega) (gg_f (gf_cons rfl (gf_cons rfl (gf_cons rfl (gf_cons rfl (gf_cons rfl gf_nil))))) (ih28 sc28 z58 z80 z83 hIc28 hFc28 (in_w 0 1 j28_1 rfl) (in_w 0 32 i83 rfl) (m_up mm28 (t_add e83 i34 (in_c 1 rfl) rfl) (in_w 1 1 (in_c 1 rfl) rfl))))
  refine g_enter2 (k := 362) (N := 30601) (by first | exact dq1 hd rfl | exact dq0 hd rfl | exact dq2 hd rfl | exact dq3 hd rfl | omega) rfl (Nat.le_of_ble_eq_true rfl) ?_
  refine g_aload_n 1 (gd rfl) rfl rfl ?_
  refine g_iload_n 2 (gd rfl) rfl rfl ?_
  refine g_i2l 3 (gd rfl) rfl (fun z2 e2 => ?_)
  have i2 := l_i e2 (i_rng x1)
  refine g_lconst 0 4 (gd rfl) rfl rfl ?_
  refine g_lconst 1 5 (gd rfl) rfl rfl ?_
  refine g_calls (As := [.long z2, .long (Int64.ofInt 0), .long (Int64.ofInt 1)]) (r := [.ref (A 109)]) 8 (gd rfl) rfl rfl rfl rfl rfl (Nat.le_of_ble_eq_true rfl) (mc := 0) (ms := 0) (Nat.zero_le _) (Nat.zero_le _) (P := fun v u => _) ?_ (fun v u h => h)
  intro po5 xx5 hp5 hx5
  refine g_enter2 (k := 269) (N := 300) (by first | exact dq1 hd rfl | exact dq0 hd rfl | exact dq2 hd rfl | exact dq3 hd rfl | omega) rfl (Nat.le_of_ble_eq_true rfl) ?_
  refine g_lload_n 1 (gd rfl) rfl rfl ?_
  refine g_lload_n 2 (gd rfl) rfl rfl ?_
  refine g_lcmp 3 (gd rfl) rfl (fun z5x2 e5x2 => ?_)
  have i5x2 := lc_in e5x2
  refine g_if_lt 6 17 (gd rfl) rfl rfl (fun c5x3 => ?_) (fun c5x3 => ?_)
  · skip
    have i5x3 := z_lt (-1) (-1) c5x3 i5x2 rfl
    have c5x3a := lc_lt e5x2 c5x3
    have i5x3a := lr_lt1 (-2147483648) (-1) c5x3a i2 (l_c 0 rfl) rfl
    have i5x3b := l_b e2 i5x3a
    refine g_iconst 0 18 (gd rfl) rfl rfl ?_
    refine g_ireturn (gd rfl) rfl (nb01 (in_w 0 1 (in_c 0 rfl) rfl)) (hp5 _ _ ?_)
    show GG _ _ _ _ _ _ _ _ [.int (Int32.ofInt 0), .ref (A 109)] _ _ _
    refine g_callv (X := _) (As := [.int (Int32.ofInt 0)]) (r := []) (b := A 109) (q := 109) 11 (gd rfl) rfl rfl rfl rfl rfl (ww_o rfl) (Nat.le_of_ble_eq_true rfl) (mc := 0) (ms := 0) (Nat.zero_le _) (Nat.zero_le _) (P := fun v u => _) ?_ (fun e u h => h) (fun v u h => h)
    intro po8 xx8 hp8 hx8
    refine g_enter2 (k := 271) (N := 300) (by first | exact dq1 hd rfl | exact dq0 hd rfl | exact dq2 hd rfl | exact dq3 hd rfl | omega) rfl (Nat.le_of_ble_eq_true rfl) ?_
    refine g_aload_n 1 (gd rfl) rfl rfl ?_
    refine g_iload_n 2 (gd rfl) rfl rfl ?_
    refine g_iconst 1 3 (gd rfl) rfl rfl ?_
    refine g_callv (X := _) (As := [.int (Int32.ofInt 0), .int (Int32.ofInt 1)]) (r := []) (b := A 109) (q := 109) 6 (gd rfl) rfl rfl rfl rfl rfl (ww_o rfl) (Nat.le_of_ble_eq_true rfl) (mc := 0) (ms := 0) (Nat.zero_le _) (Nat.zero_le _) (P := fun v u => _) ?_ (fun e u h => h) (fun v u h => h)
    intro po8x3 xx8x3 hp8x3 hx8x3
    refine g_enter2 (k := 270) (N := 300) (by first | exact dq1 hd rfl | exact dq0 hd rfl | exact dq2 hd rfl | exact dq3 hd rfl | omega) rfl (Nat.le_of_ble_eq_true rfl) ?_
    refine g_aload_n 1 (gd rfl) rfl rfl ?_
    refine g_iload_n 2 (gd rfl) rfl rfl ?_
    refine g_if_ne 5 9 (gd rfl) rfl rfl (fun c8x3x2 => ?_) (fun c8x3x2 => ?_)
    · skip
      exact zn_ne c8x3x2 (in_c 0 rfl) rfl
    · skip
      refine g_iconst 1 6 (gd rfl) rfl rfl ?_
      refine g_goto 18 (gd rfl) rfl ?_
      refine g_putI 21 (gd rfl) rfl rfl rfl rfl ?_
      have hI8x3x18 := inv_sF (q := 109) (j := 0) hI rfl (in_w 0 2 (in_c 1 rfl) rfl)
      refine g_aload_n 22 (gd rfl) rfl rfl ?_
      refine g_getI 25 (gd rfl) rfl rfl rfl (fun z8x3x22 e8x3x22 => ?_)
      have q8x3x22 : (Int32.ofInt 1) = z8x3x22 := (sF_get).trans e8x3x22.symm
      subst q8x3x22
      refine g_if_le 28 32 (gd rfl) rfl rfl (fun c8x3x25 => ?_) (fun c8x3x25 => ?_)
      · skip
        exact zn_le c8x3x25 (in_c 1 rfl) rfl
      · skip
        refine g_iconst 1 29 (gd rfl) rfl rfl ?_
        refine g_goto 33 (gd rfl) rfl ?_
        refine g_ireturn (gd rfl) rfl (nb01 (in_w 0 1 (in_c 1 rfl) rfl)) (hp8x3 _ _ ?_)
        show GG _ _ _ _ _ _ _ _ [.int (Int32.ofInt 1)] _ _ _
        refine g_ireturn (gd rfl) rfl (nb01 (in_w 0 1 (in_c 1 rfl) rfl)) (hp8 _ _ ?_)
        show GG _ _ _ _ _ _ _ _ [.int (Int32.ofInt 1)] _ _ _
        refine g_if_eq 14 16 (gd rfl) rfl rfl (fun c11 => ?_) (fun c11 => ?_)
        · skip
          exact zn_eq c11 (in_c 1 rfl) rfl
        · skip
          refine g_lconst 0 15 (gd rfl) rfl rfl ?_
          exact g_lreturn (gd rfl) rfl (hP _ _ ⟨(sF s 109 0 (Int32.ofInt 1)), hI8x3x18, (fr_sF rfl fr_rf), (Int64.ofInt 0), rfl, rfl⟩)
  · skip
    have i5x3 := z_ge 0 1 c5x3 i5x2 rfl
    have c5x3a := lc_ge e5x2 c5x3
    have i5x3a := lr_le2 0 2147483647 c5x3a (l_c 0 rfl) i2 rfl
    have i5x3b := l_b e2 i5x3a
    refine g_lload_n 7 (gd rfl) rfl rfl ?_
    refine g_lload 9 (gd rfl) rfl rfl ?_
    refine g_lcmp 10 (gd rfl) rfl (fun z5x9 e5x9 => ?_)
    have i5x9 := lc_in e5x9
    refine g_if_gt 13 17 (gd rfl) rfl rfl (fun c5x10 => ?_) (fun c5x10 => ?_)
    · skip
      have i5x10 := z_gt 1 1 c5x10 i5x9 rfl
      have c5x10a := lc_gt e5x9 c5x10
      have i5x10a := lr_lt2 2 2147483647 c5x10a (l_c 1 rfl) i5x3a rfl
      have i5x10b := l_b e2 i5x10a
      refine g_iconst 0 18 (gd rfl) rfl rfl ?_
      refine g_ireturn (gd rfl) rfl (nb01 (in_w 0 1 (in_c 0 rfl) rfl)) (hp5 _ _ ?_)
      show GG _ _ _ _ _ _ _ _ [.int (Int32.ofInt 0), .ref (A 109)] _ _ _
      refine g_callv (X := _) (As := [.int (Int32.ofInt 0)]) (r := []) (b := A 109) (q := 109) 11 (gd rfl) rfl rfl rfl rfl rfl (ww_o rfl) (Nat.le_of_ble_eq_true rfl) (mc := 0) (ms := 0) (Nat.zero_le _) (Nat.zero_le _) (P := fun v u => _) ?_ (fun e u h => h) (fun v u h => h)
      intro po8 xx8 hp8 hx8
      refine g_enter2 (k := 271) (N := 300) (by first | exact dq1 hd rfl | exact dq0 hd rfl | exact dq2 hd rfl | exact dq3 hd rfl | omega) rfl (Nat.le_of_ble_eq_true rfl) ?_
      refine g_aload_n 1 (gd rfl) rfl rfl ?_
      refine g_iload_n 2 (gd rfl) rfl rfl ?_
      refine g_iconst 1 3 (gd rfl) rfl rfl ?_
      refine g_callv (X := _) (As := [.int (Int32.ofInt 0), .int (Int32.ofInt 1)]) (r := []) (b := A 109) (q := 109) 6 (gd rfl) rfl rfl rfl rfl rfl (ww_o rfl) (Nat.le_of_ble_eq_true rfl) (mc := 0) (ms := 0) (Nat.zero_le _) (Nat.zero_le _) (P := fun v u => _) ?_ (fun e u h => h) (fun v u h => h)
      intro po8x3 xx8x3 hp8x3 hx8x3
      refine g_enter2 (k := 270) (N := 300) (by first | exact dq1 hd rfl | exact dq0 hd rfl | exact dq2 hd rfl | exact dq3 hd rfl | omega) rfl (Nat.le_of_ble_eq_true rfl) ?_
      refine g_aload_n 1 (gd rfl) rfl rfl ?_
      refine g_iload_n 2 (gd rfl) rfl rfl ?_
      refine g_if_ne 5 9 (gd rfl) rfl rfl (fun c8x3x2 => ?_) (fun c8x3x2 => ?_)
      · skip
        exact zn_ne c8x3x2 (in_c 0 rfl) rfl
      · skip
        refine g_iconst 1 6 (gd rfl) rfl rfl ?_
        refine g_goto 18 (gd rfl) rfl ?_
        refine g_putI 21 (gd rfl) rfl rfl rfl rfl ?_
        have hI8x3x18 := inv_sF (q := 109) (j := 0) hI rfl (in_w 0 2 (in_c 1 rfl) rfl)
        refine g_aload_n 22 (gd rfl) rfl rfl ?_
        refine g_getI 25 (gd rfl) rfl rfl rfl (fun z8x3x22 e8x3x22 => ?_)
        have q8x3x22 : (Int32.ofInt 1) = z8x3x22 := (sF_get).trans e8x3x22.symm
        subst q8x3x22
        refine g_if_le 28 32 (gd rfl) rfl rfl (fun c8x3x25 => ?_) (fun c8x3x25 => ?_)
        · skip
          exact zn_le c8x3x25 (in_c 1 rfl) rfl
        · skip
          refine g_iconst 1 29 (gd rfl) rfl rfl ?_
          refine g_goto 33 (gd rfl) rfl ?_
          refine g_ireturn (gd rfl) rfl (nb01 (in_w 0 1 (in_c 1 rfl) rfl)) (hp8x3 _ _ ?_)
          show GG _ _ _ _ _ _ _ _ [.int (Int32.ofInt 1)] _ _ _
          refine g_ireturn (gd rfl) rfl (nb01 (in_w 0 1 (in_c 1 rfl) rfl)) (hp8 _ _ ?_)
          show GG _ _ _ _ _ _ _ _ [.int (Int32.ofInt 1)] _ _ _
          refine g_if_eq 14 16 (gd rfl) rfl rfl (fun c11 => ?_) (fun c11 => ?_)
          · skip
            exact zn_eq c11 (in_c 1 rfl) rfl
          · skip
            refine g_lconst 0 15 (gd rfl) rfl rfl ?_
            exact g_lreturn (gd rfl) rfl (hP _ _ ⟨(sF s 109 0 (Int32.ofInt 1)), hI8x3x18, (fr_sF rfl fr_rf), (Int64.ofInt 0), rfl, rfl⟩)
    · skip
      have i5x10 := z_le (-1) 0 c5x10 i5x9 rfl
      have c5x10a := lc_le e5x9 c5x10
      have i5x10a := lr_le1 0 1 c5x10a i5x3a (l_c 1 rfl) rfl
      have i5x10b := l_b e2 i5x10a
      refine g_iconst 1 14 (gd rfl) rfl rfl ?_
      refine g_goto 18 (gd rfl) rfl ?_
      refine g_ireturn (gd rfl) rfl (nb01 (in_w 0 1 (in_c 1 rfl) rfl)) (hp5 _ _ ?_)
      show GG _ _ _ _ _ _ _ _ [.int (Int32.ofInt 1), .ref (A 109)] _ _ _
      refine g_callv (X := _) (As := [.int (Int32.ofInt 1)]) (r := []) (b := A 109) (q := 109) 11 (gd rfl) rfl rfl rfl rfl rfl (ww_o rfl) (Nat.le_of_ble_eq_true rfl) (mc := 0) (ms := 0) (Nat.zero_le _) (Nat.zero_le _) (P := fun v u => _) ?_ (fun e u h => h) (fun v u h => h)
      intro po8 xx8 hp8 hx8
      refine g_enter2 (k := 271) (N := 300) (by first | exact dq1 hd rfl | exact dq0 hd rfl | exact dq2 hd rfl | exact dq3 hd rfl | omega) rfl (Nat.le_of_ble_eq_true rfl) ?_
      refine g_aload_n 1 (gd rfl) rfl rfl ?_
      refine g_iload_n 2 (gd rfl) rfl rfl ?_
      refine g_iconst 1 3 (gd rfl) rfl rfl ?_
      refine g_callv (X := _) (As := [.int (Int32.ofInt 1), .int (Int32.ofInt 1)]) (r := []) (b := A 109) (q := 109) 6 (gd rfl) rfl rfl rfl rfl rfl (ww_o rfl) (Nat.le_of_ble_eq_true rfl) (mc := 0) (ms := 0) (Nat.zero_le _) (Nat.zero_le _) (P := fun v u => _) ?_ (fun e u h => h) (fun v u h => h)
      intro po8x3 xx8x3 hp8x3 hx8x3
      refine g_enter2 (k := 270) (N := 300) (by first | exact dq1 hd rfl | exact dq0 hd rfl | exact dq2 hd rfl | exact dq3 hd rfl | omega) rfl (Nat.le_of_ble_eq_true rfl) ?_
      refine g_aload_n 1 (gd rfl) rfl rfl ?_
      refine g_iload_n 2 (gd rfl) rfl rfl ?_
      refine g_if_ne 5 9 (gd rfl) rfl rfl (fun c8x3x2 => ?_) (fun c8x3x2 => ?_)
      · skip
        refine g_iload_n 10 (gd rfl) rfl rfl ?_
        refine g_if_ne 13 17 (gd rfl) rfl rfl (fun c8x3x10 => ?_) (fun c8x3x10 => ?_)
        · skip
          refine g_iconst 0 18 (gd rfl) rfl rfl ?_
          refine g_putI 21 (gd rfl) rfl rfl rfl rfl ?_
          have hI8x3x18 := inv_sF (q := 109) (j := 0) hI rfl (in_w 0 2 (in_c 0 rfl) rfl)
          refine g_aload_n 22 (gd rfl) rfl rfl ?_
          refine g_getI 25 (gd rfl) rfl rfl rfl (fun z8x3x22 e8x3x22 => ?_)
          have q8x3x22 : (Int32.ofInt 0) = z8x3x22 := (sF_get).trans e8x3x22.symm
          subst q8x3x22
          refine g_if_le 28 32 (gd rfl) rfl rfl (fun c8x3x25 => ?_) (fun c8x3x25 => ?_)
          · skip
            refine g_iconst 0 33 (gd rfl) rfl rfl ?_
            refine g_ireturn (gd rfl) rfl (nb01 (in_w 0 1 (in_c 0 rfl) rfl)) (hp8x3 _ _ ?_)
            show GG _ _ _ _ _ _ _ _ [.int (Int32.ofInt 0)] _ _ _
            refine g_ireturn (gd rfl) rfl (nb01 (in_w 0 1 (in_c 0 rfl) rfl)) (hp8 _ _ ?_)
            show GG _ _ _ _ _ _ _ _ [.int (Int32.ofInt 0)] _ _ _
            refine g_if_eq 14 16 (gd rfl) rfl rfl (fun c11 => ?_) (fun c11 => ?_)
            · skip
              refine g_aload_n 17 (gd rfl) rfl rfl ?_
              refine g_callv (X := _) (As := []) (r := []) (b := A 109) (q := 109) 20 (gd rfl) rfl rfl rfl rfl rfl (ww_o rfl) (Nat.le_of_ble_eq_true rfl) (Nat.zero_le _) (Nat.zero_le _) (k_360 (by first | exact dq1 hd rfl | exact dq0 hd rfl | exact dq2 hd rfl | exact dq3 hd rfl | omega) hI8x3x18 ) (fun e u h => h) (fun v u h => ?_)
              obtain ⟨s17, hI17, hF17, rfl, rfl⟩ := h
              show GG _ _ _ _ _ _ _ _ [] _ _ _
              refine g_lconst 0 21 (gd rfl) rfl rfl ?_
              refine g_lstore_n 22 (gd rfl) rfl (Nat.le_of_ble_eq_true rfl) ?_
              refine g_lconst 0 23 (gd rfl) rfl rfl ?_
              refine g_lstore 25 (gd rfl) rfl (Nat.le_of_ble_eq_true rfl) ?_
              refine g_iconst 0 26 (gd rfl) rfl rfl ?_
              refine g_istore 28 (gd rfl) rfl (Nat.le_of_ble_eq_true rfl) ?_
              exact gg_w (by first | exact Nat.le_of_ble_eq_true rfl | omega) (gg_f (gf_cons rfl (gf_cons rfl (gf_cons rfl (gf_cons rfl (gf_cons rfl gf_nil))))) (ct28 33 s17 (Int64.ofInt 0) (Int64.ofInt 0) (Int32.ofInt 0) hI17 (fr_tr rfl (fr_sF rfl fr_rf) hF17) (in_w 0 1 i5x10b rfl) (in_w 0 32 (in_c 0 rfl) rfl) (m_in 33 (in_w 0 32 (in_c 0 rfl) rfl) rfl)))
            · skip
              exact zn_ne c11 (in_c 0 rfl) rfl
          · skip
            exact zn_gt c8x3x25 (in_c 0 rfl) rfl
        · skip
          exact zn_eq c8x3x10 (in_c 1 rfl) rfl
      · skip
        exact zn_eq c8x3x2 (in_c 1 rfl) rfl
end
section
/-! methods, by vc.py -/
def fm_374 : FM := ([169, 170, 171], [], [(109, 80)], [])
/-- GraphHouseModel.findGroups -/
theorem k_374 {Z : AmZ} {A : Nat → Nat} {s : GS} {ex : va_W} {d : Nat} {X : AmX}  (hd : 5 ≤ d) (hI : Inv s)  : GC Z d 374 [.ref (A 109)] (WW Z A s ++ ex) 0 0 (fun v u => ∃ t : GS, Inv t ∧ Fr fm_374 s t ∧ v = none ∧ u = WW Z A t ++ ex) X := by
  intro post xp hP hX
  obtain ⟨u_109_19, e_109_19⟩ : ∃ w, w = s.2.2.1 109 19 := ⟨_, rfl⟩
  have ro_109_19 := inv_F hI 0 160 rfl e_109_19
  obtain ⟨u_109_20, e_109_20⟩ : ∃ w, w = s.2.2.1 109 20 := ⟨_, rfl⟩
  have ro_109_20 := inv_F hI 0 32 rfl e_109_20
  have ct204 : ∀ (k204 : Nat) (sc204 : GS) (y204_1 : Int32) (y204_2 : Int32), Inv sc204 → Fr fm_374 s sc204 → (In y204_1 0 1) → (In y204_2 0 20) → 20 - (y204_2).toInt < (k204 : Int) → GG Z (d - 1) 374 post (gx xp) (1 + k204 * 32401) 204 (fun j => xlook j [(0, .ref (A 109)), (1, .int y204_1), (2, .int y204_2)]) [] (WW Z A sc204 ++ ex) 0 0 := by
    intro k204
    induction k204 with
    | zero => intro sc204 y204_1 y204_2 hIc204 hFc204 j204_1 j204_2 mm204; exact m_no mm204 j204_2 rfl
    | succ k204 ih204 =>
      intro sc204 y204_1 y204_2 hIc204 hFc204 j204_1 j204_2 mm204
      refine gg_w (M := 1 + k204 * 32401 + 32401) gws ?_
      have ct218 : ∀ (k218 : Nat) (sc218 : GS) (y218_1 : Int32) (y218_3 : Int32), Inv sc218 → Fr fm_374 s sc218 → (In y218_1 0 1) → (In y204_2 0 19) → (In y218_3 0 32) → 32 - (y218_3).toInt < (k218 : Int) → GG Z (d - 1) 374 post (gx xp) (1 + k204 * 32401 + 1 + k218 * 900) 218 (fun j => xlook j [(0, .ref (A 109)), (1, .int y218_1), (2, .int y204_2), (3, .int y218_3)]) [] (WW Z A sc218 ++ ex) 0 0 := by
        intro k218
        induction k218 with
        | zero => intro sc218 y218_1 y218_3 hIc218 hFc218 j218_1 j218_2 j218_3 mm218; exact m_no mm218 j218_3 rfl
        | succ k218 ih218 =>
          intro sc218 y218_1 y218_3 hIc218 hFc218 j218_1 j218_2 j218_3 mm218
          refine gg_w (M := 1 + k204 * 32401 + 1 + k218 * 900 + 900) gws ?_
          refine g_iload_n 219 (gd rfl) rfl rfl ?_
          refine g_aload_n 220 (gd rfl) rfl rfl ?_
          refine g_getI 223 (gd rfl) rfl rfl rfl (fun z220 e220 => ?_)
          have q220 : u_109_20 = z220 := (fr_F e_109_20 hFc218 rfl).trans e220.symm
          subst q220
          refine g_cmp_ge 226 268 (gd rfl) rfl rfl (fun c223 => ?_) (fun c223 => ?_)
          · skip
            refine g_iinc 271 (gd rfl) rfl rfl (Nat.le_of_ble_eq_true rfl) (fun z268 e268 => ?_)
            have i268 := in_add 1 20 e268 j218_2 (in_c 1 rfl) rfl rfl
            refine g_goto 204 (gd rfl) rfl ?_
            exact gg_w (by first | exact Nat.le_add_right _ _ | exact gw2 | exact gw3 | exact gwe rfl | exact gwf rfl | exact gwg rfl | exact gwh rfl | omega) (gg_f (gf_cons rfl (gf_cons rfl (gf_cons rfl gf_nil))) (ih204 sc218 y218_1 z268 hIc218 hFc218 (in_w 0 1 j218_1 rfl) (in_w 0 20 i268 rfl) (m_up mm204 (t_add e268 j218_2 (in_c 1 rfl) rfl) (in_w 1 1 (in_c 1 rfl) rfl))))
          · skip
            have i223 := r_lt1 0 31 c223 j218_3 ro_109_20 rfl
            have i223a := r_lt2 1 32 c223 j218_3 ro_109_20 rfl
            refine g_aload_n 227 (gd rfl) rfl rfl ?_
            refine g_iload_n 228 (gd rfl) rfl rfl ?_
            refine g_callv (X := _) (As := [.int y218_3]) (r := []) (b := A 109) (q := 109) 231 (gd rfl) rfl rfl rfl rfl rfl (ww_o rfl) (Nat.le_of_ble_eq_true rfl) (Nat.zero_le _) (Nat.zero_le _) (k_376 (by first | exact dq1 hd rfl | exact dq0 hd rfl | exact dq2 hd rfl | exact dq3 hd rfl | omega) hIc218 (in_w 0 31 i223 rfl)) (fun e u h => h) (fun v u h => ?_)
            obtain ⟨z228, rfl, rfl, i228⟩ := h
            show GG _ _ _ _ _ _ _ _ [.int z228] _ _ _
            refine g_istore 233 (gd rfl) rfl (Nat.le_of_ble_eq_true rfl) ?_
            refine g_iload_n 234 (gd rfl) rfl rfl ?_
            refine g_if_ne 237 248 (gd rfl) rfl rfl (fun c234 => ?_) (fun c234 => ?_)
            · skip
              have i234 := z_ne 1 1 c234 j218_1 rfl
              refine g_iconst 1 249 (gd rfl) rfl rfl ?_
              refine g_goto 253 (gd rfl) rfl ?_
              refine g_istore_n 254 (gd rfl) rfl (Nat.le_of_ble_eq_true rfl) ?_
              refine g_aload_n 255 (gd rfl) rfl rfl ?_
              refine g_getA (q2 := 169) 258 (gd rfl) rfl rfl rfl rfl ?_
              refine g_iload_n 259 (gd rfl) rfl rfl ?_
              refine g_iload 261 (gd rfl) rfl rfl ?_
              refine g_iastore 262 (gd rfl) rfl (n := 32) rfl (in_ix i223 rfl) ?_
              have hI261 := inv_sI (q := 169) (j := y218_3.toNatClampNeg) hIc218 rfl (in_w (-2147483648) 2147483647 i228 rfl)
              refine g_iinc 265 (gd rfl) rfl rfl (Nat.le_of_ble_eq_true rfl) (fun z262 e262 => ?_)
              have i262 := in_add 1 32 e262 i223 (in_c 1 rfl) rfl rfl
              refine g_goto 218 (gd rfl) rfl ?_
              exact gg_w (by first | exact Nat.le_add_right _ _ | exact gw2 | exact gw3 | exact gwe rfl | exact gwf rfl | exact gwg rfl | exact gwh rfl | omega) (gg_f (gf_cons rfl (gf_cons rfl (gf_cons rfl (gf_cons rfl gf_nil)))) (ih218 (sI sc218 169 y218_3.toNatClampNeg z228) (Int32.ofInt 1) z262 hI261 (fr_sI rfl hFc218) (in_w 0 1 (in_c 1 rfl) rfl) (in_w 0 19 j218_2 rfl) (in_w 0 32 i262 rfl) (m_up mm218 (t_add e262 i223 (in_c 1 rfl) rfl) (in_w 1 1 (in_c 1 rfl) rfl))))
            · skip
              have i234 := z_eq 0 0 c234 j218_1 rfl
              refine g_iload 239 (gd rfl) rfl rfl ?_
              refine g_aload_n 240 (gd rfl) rfl rfl ?_
              refine g_getA (q2 := 169) 243 (gd rfl) rfl rfl rfl rfl ?_
              refine g_iload_n 244 (gd rfl) rfl rfl ?_
              refine g_iaload 245 (gd rfl) rfl (n := 32) rfl (in_ix i223 rfl) (fun z244 e244 => ?_)
              refine g_cmp_eq 248 252 (gd rfl) rfl rfl (fun c245 => ?_) (fun c245 => ?_)
              · skip
                refine g_iconst 0 253 (gd rfl) rfl rfl ?_
                refine g_istore_n 254 (gd rfl) rfl (Nat.le_of_ble_eq_true rfl) ?_
                refine g_aload_n 255 (gd rfl) rfl rfl ?_
                refine g_getA (q2 := 169) 258 (gd rfl) rfl rfl rfl rfl ?_
                refine g_iload_n 259 (gd rfl) rfl rfl ?_
                refine g_iload 261 (gd rfl) rfl rfl ?_
                refine g_iastore 262 (gd rfl) rfl (n := 32) rfl (in_ix i223 rfl) ?_
                have hI261 := inv_sI (q := 169) (j := y218_3.toNatClampNeg) hIc218 rfl (in_w (-2147483648) 2147483647 i228 rfl)
                refine g_iinc 265 (gd rfl) rfl rfl (Nat.le_of_ble_eq_true rfl) (fun z262 e262 => ?_)
                have i262 := in_add 1 32 e262 i223 (in_c 1 rfl) rfl rfl
                refine g_goto 218 (gd rfl) rfl ?_
                exact gg_w (by first | exact Nat.le_add_right _ _ | exact gw2 | exact gw3 | exact gwe rfl | exact gwf rfl | exact gwg rfl | exact gwh rfl | omega) (gg_f (gf_cons rfl (gf_cons rfl (gf_cons rfl (gf_cons rfl gf_nil)))) (ih218 (sI sc218 169 y218_3.toNatClampNeg z228) (Int32.ofInt 0) z262 hI261 (fr_sI rfl hFc218) (in_w 0 1 (in_c 0 rfl) rfl) (in_w 0 19 j218_2 rfl) (in_w 0 32 i262 rfl) (m_up mm218 (t_add e262 i223 (in_c 1 rfl) rfl) (in_w 1 1 (in_c 1 rfl) rfl))))
              · skip
                refine g_iconst 1 249 (gd rfl) rfl rfl ?_
                refine g_goto 253 (gd rfl) rfl ?_
                refine g_istore_n 254 (gd rfl) rfl (Nat.le_of_ble_eq_true rfl) ?_
                refine g_aload_n 255 (gd rfl) rfl rfl ?_
                refine g_getA (q2 := 169) 258 (gd rfl) rfl rfl rfl rfl ?_
                refine g_iload_n 259 (gd rfl) rfl rfl ?_
                refine g_iload 261 (gd rfl) rfl rfl ?_
                refine g_iastore 262 (gd rfl) rfl (n := 32) rfl (in_ix i223 rfl) ?_
                have hI261 := inv_sI (q := 169) (j := y218_3.toNatClampNeg) hIc218 rfl (in_w (-2147483648) 2147483647 i228 rfl)
                refine g_iinc 265 (gd rfl) rfl rfl (Nat.le_of_ble_eq_true rfl) (fun z262 e262 => ?_)
                have i262 := in_add 1 32 e262 i223 (in_c 1 rfl) rfl rfl
                refine g_goto 218 (gd rfl) rfl ?_
                exact gg_w (by first | exact Nat.le_add_right _ _ | exact gw2 | exact gw3 | exact gwe rfl | exact gwf rfl | exact gwg rfl | exact gwh rfl | omega) (gg_f (gf_cons rfl (gf_cons rfl (gf_cons rfl (gf_cons rfl gf_nil)))) (ih218 (sI sc218 169 y218_3.toNatClampNeg z228) (Int32.ofInt 1) z262 hI261 (fr_sI rfl hFc218) (in_w 0 1 (in_c 1 rfl) rfl) (in_w 0 19 j218_2 rfl) (in_w 0 32 i262 rfl) (m_up mm218 (t_add e262 i223 (in_c 1 rfl) rfl) (in_w 1 1 (in_c 1 rfl) rfl))))
      refine g_iload_n 205 (gd rfl) rfl rfl ?_
      refine g_bipush 20 207 (gd rfl) rfl rfl ?_
      refine g_cmp_ge 210 274 (gd rfl) rfl rfl (fun c207 => ?_) (fun c207 => ?_)
      · skip
        have i207 := r_le2 20 20 c207 (in_c 20 rfl) j204_2 rfl
        exact g_return (gd rfl) rfl (hP _ _ ⟨sc204, hIc204, hFc204, rfl, rfl⟩)
      · skip
        have i207 := r_lt1 0 19 c207 j204_2 (in_c 20 rfl) rfl
        refine g_iload_n 211 (gd rfl) rfl rfl ?_
        refine g_if_eq 214 274 (gd rfl) rfl rfl (fun c211 => ?_) (fun c211 => ?_)
        · skip
          have i211 := z_eq 0 0 c211 j204_1 rfl
          exact g_return (gd rfl) rfl (hP _ _ ⟨sc204, hIc204, hFc204, rfl, rfl⟩)
        · skip
          have i211 := z_ne 1 1 c211 j204_1 rfl
          refine g_iconst 0 215 (gd rfl) rfl rfl ?_
          refine g_istore_n 216 (gd rfl) rfl (Nat.le_of_ble_eq_true rfl) ?_
          refine g_iconst 0 217 (gd rfl) rfl rfl ?_
          refine g_istore_n 218 (gd rfl) rfl (Nat.le_of_ble_eq_true rfl) ?_
          exact gg_w (by first | exact Nat.le_add_right _ _ | exact gw2 | exact gw3 | exact gwe rfl | exact gwf rfl | exact gwg rfl | exact gwh rfl | omega) (gg_f (gf_cons rfl (gf_cons rfl (gf_cons rfl (gf_cons rfl gf_nil)))) (ct218 33 sc204 (Int32.ofInt 0) (Int32.ofInt 0) hIc204 hFc204 (in_w 0 1 (in_c 0 rfl) rfl) (in_w 0 19 i207 rfl) (in_w 0 32 (in_c 0 rfl) rfl) (m_in 33 (in_w 0 32 (in_c 0 rfl) rfl) rfl)))
  have ct59 : ∀ (k59 : Nat) (sc59 : GS) (y59_1 : Int32) (w59_109_80 : Int32), Inv sc59 → Fr fm_374 s sc59 → (In y59_1 0 160) → (w59_109_80 = sc59.2.2.1 109 80) → ((w59_109_80).toInt ≤ (y59_1).toInt) → 160 - (y59_1).toInt < (k59 : Int) → GG Z (d - 1) 374 post (gx xp) (680423 + k59 * 900) 59 (fun j => xlook j [(0, .ref (A 109)), (1, .int y59_1)]) [] (WW Z A sc59 ++ ex) 0 0 := by
    intro k59
    induction k59 with
    | zero => intro sc59 y59_1 w59_109_80 hIc59 hFc59 j59_1 v59_109_80 n59_0 mm59; exact m_no mm59 j59_1 rfl
    | succ k59 ih59 =>
      intro sc59 y59_1 w59_109_80 hIc59 hFc59 j59_1 v59_109_80 n59_0 mm59
      refine gg_w (M := 680423 + k59 * 900 + 900) gws ?_
      refine g_iload_n 60 (gd rfl) rfl rfl ?_
      refine g_sipush 160 63 (gd rfl) rfl rfl ?_
      refine g_cmp_ge 66 200 (gd rfl) rfl rfl (fun c63 => ?_) (fun c63 => ?_)
      · skip
        have i63 := r_le2 160 160 c63 (in_c 160 rfl) j59_1 rfl
        refine g_iconst 1 201 (gd rfl) rfl rfl ?_
        refine g_istore_n 202 (gd rfl) rfl (Nat.le_of_ble_eq_true rfl) ?_
        refine g_iconst 0 203 (gd rfl) rfl rfl ?_
        refine g_istore_n 204 (gd rfl) rfl (Nat.le_of_ble_eq_true rfl) ?_
        exact gg_w (by first | exact Nat.le_add_right _ _ | exact gw2 | exact gw3 | exact gwe rfl | exact gwf rfl | exact gwg rfl | exact gwh rfl | omega) (gg_f (gf_cons rfl (gf_cons rfl (gf_cons rfl gf_nil))) (ct204 21 sc59 (Int32.ofInt 1) (Int32.ofInt 0) hIc59 hFc59 (in_w 0 1 (in_c 1 rfl) rfl) (in_w 0 20 (in_c 0 rfl) rfl) (m_in 21 (in_w 0 20 (in_c 0 rfl) rfl) rfl)))
      · skip
        have i63 := r_lt1 0 159 c63 j59_1 (in_c 160 rfl) rfl
        refine g_aload_n 67 (gd rfl) rfl rfl ?_
        refine g_iload_n 68 (gd rfl) rfl rfl ?_
        refine g_callv (X := _) (As := [.int y59_1]) (r := []) (b := A 109) (q := 109) 71 (gd rfl) rfl rfl rfl rfl rfl (ww_o rfl) (Nat.le_of_ble_eq_true rfl) (mc := 0) (ms := 0) (Nat.zero_le _) (Nat.zero_le _) (P := fun v u => _) ?_ (fun e u h => h) (fun v u h => h)
        intro po68 xx68 hp68 hx68
        refine g_enter2 (k := 288) (N := 300) (by first | exact dq1 hd rfl | exact dq0 hd rfl | exact dq2 hd rfl | exact dq3 hd rfl | omega) rfl (Nat.le_of_ble_eq_true rfl) ?_
        refine g_aload_n 1 (gd rfl) rfl rfl ?_
        refine g_getA (q2 := 112) 4 (gd rfl) rfl rfl rfl rfl ?_
        refine g_aload_n 5 (gd rfl) rfl rfl ?_
        refine g_getI 8 (gd rfl) rfl rfl rfl (fun z68x5 e68x5 => ?_)
        have q68x5 : u_109_19 = z68x5 := (fr_F e_109_19 hFc59 rfl).trans e68x5.symm
        subst q68x5
        refine g_iload_n 9 (gd rfl) rfl rfl ?_
        refine g_iadd 10 (gd rfl) rfl (fun z68x9 e68x9 => ?_)
        have i68x9 := in_add 0 319 e68x9 ro_109_19 i63 rfl rfl
        refine g_baload 11 (gd rfl) rfl (n := 480) rfl (in_ix i68x9 rfl) (fun z68x10 e68x10 => ?_)
        have i68x10 := inv_I hIc59 (n := 480) (t := 3) 0 1 rfl (in_ix i68x9 rfl) rfl e68x10
        refine g_if_eq 14 43 (gd rfl) rfl rfl (fun c68x11 => ?_) (fun c68x11 => ?_)
        · skip
          have i68x11 := z_eq 0 0 c68x11 i68x10 rfl
          refine g_iconst 0 44 (gd rfl) rfl rfl ?_
          refine g_ireturn (gd rfl) rfl (nb01 (in_w 0 1 (in_c 0 rfl) rfl)) (hp68 _ _ ?_)
          show GG _ _ _ _ _ _ _ _ [.int (Int32.ofInt 0)] _ _ _
          refine g_if_eq 74 194 (gd rfl) rfl rfl (fun c71 => ?_) (fun c71 => ?_)
          · skip
            refine g_iinc 197 (gd rfl) rfl rfl (Nat.le_of_ble_eq_true rfl) (fun z194 e194 => ?_)
            have i194 := in_add 1 160 e194 i63 (in_c 1 rfl) rfl rfl
            refine g_goto 59 (gd rfl) rfl ?_
            have n59 : (w59_109_80).toInt ≤ (z194).toInt := by have a0 := oa5 ro_109_20 ro_109_19 ((inv_F hIc59 0 160 rfl v59_109_80)) i63 i194; have a5 := t_add e194 i63 (in_c 1 rfl) rfl; have a6 := oa2 ((in_c 1 rfl)) i68x9; have a8 := t_add e68x9 ro_109_19 i63 rfl; omega
            exact gg_w (by first | exact Nat.le_add_right _ _ | exact gw2 | exact gw3 | exact gwe rfl | exact gwf rfl | exact gwg rfl | exact gwh rfl | omega) (gg_f (gf_cons rfl (gf_cons rfl gf_nil)) (ih59 sc59 z194 w59_109_80 hIc59 hFc59 (in_w 0 160 i194 rfl) v59_109_80 n59 (m_up mm59 (t_add e194 i63 (in_c 1 rfl) rfl) (in_w 1 1 (in_c 1 rfl) rfl))))
          · skip
            exact zn_ne c71 (in_c 0 rfl) rfl
        · skip
          have i68x11 := z_ne 1 1 c68x11 i68x10 rfl
          refine g_aload_n 15 (gd rfl) rfl rfl ?_
          refine g_getA (q2 := 113) 18 (gd rfl) rfl rfl rfl rfl ?_
          refine g_aload_n 19 (gd rfl) rfl rfl ?_
          refine g_getI 22 (gd rfl) rfl rfl rfl (fun z68x19 e68x19 => ?_)
          have q68x19 : u_109_19 = z68x19 := (fr_F e_109_19 hFc59 rfl).trans e68x19.symm
          subst q68x19
          refine g_iload_n 23 (gd rfl) rfl rfl ?_
          refine g_iadd 24 (gd rfl) rfl (fun z68x23 e68x23 => ?_)
          have i68x23 := in_add 0 319 e68x23 ro_109_19 i63 rfl rfl
          refine g_iaload 25 (gd rfl) rfl (n := 480) rfl (in_ix i68x23 rfl) (fun z68x24 e68x24 => ?_)
          have i68x24 := inv_I hIc59 (n := 480) (t := 0) 0 31 rfl (in_ix i68x23 rfl) rfl e68x24
          refine g_aload_n 26 (gd rfl) rfl rfl ?_
          refine g_getA (q2 := 114) 29 (gd rfl) rfl rfl rfl rfl ?_
          refine g_aload_n 30 (gd rfl) rfl rfl ?_
          refine g_getI 33 (gd rfl) rfl rfl rfl (fun z68x30 e68x30 => ?_)
          have q68x30 : u_109_19 = z68x30 := (fr_F e_109_19 hFc59 rfl).trans e68x30.symm
          subst q68x30
          refine g_iload_n 34 (gd rfl) rfl rfl ?_
          refine g_iadd 35 (gd rfl) rfl (fun z68x34 e68x34 => ?_)
          have i68x34 := in_add 0 319 e68x34 ro_109_19 i63 rfl rfl
          refine g_iaload 36 (gd rfl) rfl (n := 480) rfl (in_ix i68x34 rfl) (fun z68x35 e68x35 => ?_)
          have i68x35 := inv_I hIc59 (n := 480) (t := 0) 0 31 rfl (in_ix i68x34 rfl) rfl e68x35
          refine g_cmp_eq 39 43 (gd rfl) rfl rfl (fun c68x36 => ?_) (fun c68x36 => ?_)
          · skip
            refine g_iconst 0 44 (gd rfl) rfl rfl ?_
            refine g_ireturn (gd rfl) rfl (nb01 (in_w 0 1 (in_c 0 rfl) rfl)) (hp68 _ _ ?_)
            show GG _ _ _ _ _ _ _ _ [.int (Int32.ofInt 0)] _ _ _
            refine g_if_eq 74 194 (gd rfl) rfl rfl (fun c71 => ?_) (fun c71 => ?_)
            · skip
              refine g_iinc 197 (gd rfl) rfl rfl (Nat.le_of_ble_eq_true rfl) (fun z194 e194 => ?_)
              have i194 := in_add 1 160 e194 i63 (in_c 1 rfl) rfl rfl
              refine g_goto 59 (gd rfl) rfl ?_
              have n59 : (w59_109_80).toInt ≤ (z194).toInt := by have a0 := oa5 ro_109_20 ro_109_19 ((inv_F hIc59 0 160 rfl v59_109_80)) i63 i194; have a5 := t_add e194 i63 (in_c 1 rfl) rfl; have a6 := oa2 ((in_c 1 rfl)) i68x34; have a8 := t_add e68x34 ro_109_19 i63 rfl; have a9 := in_u i68x23; have a10 := t_add e68x23 ro_109_19 i63 rfl; have a11 := in_u i68x9; have a12 := t_add e68x9 ro_109_19 i63 rfl; omega
              exact gg_w (by first | exact Nat.le_add_right _ _ | exact gw2 | exact gw3 | exact gwe rfl | exact gwf rfl | exact gwg rfl | exact gwh rfl | omega) (gg_f (gf_cons rfl (gf_cons rfl gf_nil)) (ih59 sc59 z194 w59_109_80 hIc59 hFc59 (in_w 0 160 i194 rfl) v59_109_80 n59 (m_up mm59 (t_add e194 i63 (in_c 1 rfl) rfl) (in_w 1 1 (in_c 1 rfl) rfl))))
            · skip
              exact zn_ne c71 (in_c 0 rfl) rfl
          · skip
            refine g_iconst 1 40 (gd rfl) rfl rfl ?_
            refine g_goto 44 (gd rfl) rfl ?_
            refine g_ireturn (gd rfl) rfl (nb01 (in_w 0 1 (in_c 1 rfl) rfl)) (hp68 _ _ ?_)
            show GG _ _ _ _ _ _ _ _ [.int (Int32.ofInt 1)] _ _ _
            refine g_if_eq 74 194 (gd rfl) rfl rfl (fun c71 => ?_) (fun c71 => ?_)
            · skip
              exact zn_eq c71 (in_c 1 rfl) rfl
            · skip
              refine g_aload_n 75 (gd rfl) rfl rfl ?_
              refine g_dup 76 (gd rfl) rfl rfl ?_
              refine g_getI 79 (gd rfl) rfl rfl rfl (fun z76 e76 => ?_)
              have q76 : w59_109_80 = z76 := (v59_109_80).trans e76.symm
              subst q76
              refine g_iconst 1 80 (gd rfl) rfl rfl ?_
              refine g_iadd 81 (gd rfl) rfl (fun z80 e80 => ?_)
              have i80 := in_add 1 161 e80 (inv_F hIc59 0 160 rfl v59_109_80) (in_c 1 rfl) rfl rfl
              have i81 : In z80 0 160 := by have a0 := oa5 ro_109_20 ro_109_19 ((inv_F hIc59 0 160 rfl v59_109_80)) i63 i80; have a5 := t_add e80 (inv_F hIc59 0 160 rfl v59_109_80) (in_c 1 rfl) rfl; have a6 := oa2 ((in_c 1 rfl)) i68x34; have a8 := t_add e68x34 ro_109_19 i63 rfl; have a9 := in_u i68x23; have a10 := t_add e68x23 ro_109_19 i63 rfl; have a11 := in_u i68x9; have a12 := t_add e68x9 ro_109_19 i63 rfl; exact ⟨by omega, by omega⟩
              refine g_putI 84 (gd rfl) rfl rfl rfl rfl ?_
              have hI81 := inv_sF (q := 109) (j := 80) hIc59 rfl (in_w 0 160 i81 rfl)
              refine g_aload_n 85 (gd rfl) rfl rfl ?_
              refine g_getA (q2 := 170) 88 (gd rfl) rfl rfl rfl rfl ?_
              refine g_aload_n 89 (gd rfl) rfl rfl ?_
              refine g_getA (q2 := 113) 92 (gd rfl) rfl rfl rfl rfl ?_
              refine g_aload_n 93 (gd rfl) rfl rfl ?_
              refine g_getI 96 (gd rfl) rfl rfl rfl (fun z93 e93 => ?_)
              have q93 : u_109_19 = z93 := (sF_ne rfl (fr_F e_109_19 hFc59 rfl)).trans e93.symm
              subst q93
              refine g_iload_n 97 (gd rfl) rfl rfl ?_
              refine g_iadd 98 (gd rfl) rfl (fun z97 e97 => ?_)
              have i97 := in_add 0 319 e97 ro_109_19 i63 rfl rfl
              refine g_iaload 99 (gd rfl) rfl (n := 480) rfl (in_ix i97 rfl) (fun z98 e98 => ?_)
              have i98 := inv_I hI81 (n := 480) (t := 0) 0 31 rfl (in_ix i97 rfl) rfl e98
              refine g_dup2 100 (gd rfl) rfl rfl rfl ?_
              refine g_iaload 101 (gd rfl) rfl (n := 32) rfl (in_ix i98 rfl) (fun z100 e100 => ?_)
              refine g_iconst 1 102 (gd rfl) rfl rfl ?_
              refine g_iadd 103 (gd rfl) rfl (fun z102 e102 => ?_)
              refine g_iastore 104 (gd rfl) rfl (n := 32) rfl (in_ix i98 rfl) ?_
              have hI103 := inv_sI (q := 170) (j := z98.toNatClampNeg) hI81 rfl (in_w (-2147483648) 2147483647 (i_rng z102) rfl)
              refine g_aload_n 105 (gd rfl) rfl rfl ?_
              refine g_getA (q2 := 170) 108 (gd rfl) rfl rfl rfl rfl ?_
              refine g_aload_n 109 (gd rfl) rfl rfl ?_
              refine g_getA (q2 := 114) 112 (gd rfl) rfl rfl rfl rfl ?_
              refine g_aload_n 113 (gd rfl) rfl rfl ?_
              refine g_getI 116 (gd rfl) rfl rfl rfl (fun z113 e113 => ?_)
              have q113 : u_109_19 = z113 := (sI_F (sF_ne rfl (fr_F e_109_19 hFc59 rfl))).trans e113.symm
              subst q113
              refine g_iload_n 117 (gd rfl) rfl rfl ?_
              refine g_iadd 118 (gd rfl) rfl (fun z117 e117 => ?_)
              have i117 := in_add 0 319 e117 ro_109_19 i63 rfl rfl
              refine g_iaload 119 (gd rfl) rfl (n := 480) rfl (in_ix i117 rfl) (fun z118 e118 => ?_)
              have i118 := inv_I hI103 (n := 480) (t := 0) 0 31 rfl (in_ix i117 rfl) rfl e118
              refine g_dup2 120 (gd rfl) rfl rfl rfl ?_
              refine g_iaload 121 (gd rfl) rfl (n := 32) rfl (in_ix i118 rfl) (fun z120 e120 => ?_)
              refine g_iconst 1 122 (gd rfl) rfl rfl ?_
              refine g_iadd 123 (gd rfl) rfl (fun z122 e122 => ?_)
              refine g_iastore 124 (gd rfl) rfl (n := 32) rfl (in_ix i118 rfl) ?_
              have hI123 := inv_sI (q := 170) (j := z118.toNatClampNeg) hI103 rfl (in_w (-2147483648) 2147483647 (i_rng z122) rfl)
              refine g_aload_n 125 (gd rfl) rfl rfl ?_
              refine g_getA (q2 := 171) 128 (gd rfl) rfl rfl rfl rfl ?_
              refine g_bipush 32 130 (gd rfl) rfl rfl ?_
              refine g_aload_n 131 (gd rfl) rfl rfl ?_
              refine g_getA (q2 := 113) 134 (gd rfl) rfl rfl rfl rfl ?_
              refine g_aload_n 135 (gd rfl) rfl rfl ?_
              refine g_getI 138 (gd rfl) rfl rfl rfl (fun z135 e135 => ?_)
              have q135 : u_109_19 = z135 := (sI_F (sI_F (sF_ne rfl (fr_F e_109_19 hFc59 rfl)))).trans e135.symm
              subst q135
              refine g_iload_n 139 (gd rfl) rfl rfl ?_
              refine g_iadd 140 (gd rfl) rfl (fun z139 e139 => ?_)
              have i139 := in_add 0 319 e139 ro_109_19 i63 rfl rfl
              refine g_iaload 141 (gd rfl) rfl (n := 480) rfl (in_ix i139 rfl) (fun z140 e140 => ?_)
              have i140 := inv_I hI123 (n := 480) (t := 0) 0 31 rfl (in_ix i139 rfl) rfl e140
              refine g_imul 142 (gd rfl) rfl (fun z141 e141 => ?_)
              have i141 := in_mulc 32 0 992 (Or.inl e141) i140 rfl rfl
              refine g_aload_n 143 (gd rfl) rfl rfl ?_
              refine g_getA (q2 := 114) 146 (gd rfl) rfl rfl rfl rfl ?_
              refine g_aload_n 147 (gd rfl) rfl rfl ?_
              refine g_getI 150 (gd rfl) rfl rfl rfl (fun z147 e147 => ?_)
              have q147 : u_109_19 = z147 := (sI_F (sI_F (sF_ne rfl (fr_F e_109_19 hFc59 rfl)))).trans e147.symm
              subst q147
              refine g_iload_n 151 (gd rfl) rfl rfl ?_
              refine g_iadd 152 (gd rfl) rfl (fun z151 e151 => ?_)
              have i151 := in_add 0 319 e151 ro_109_19 i63 rfl rfl
              refine g_iaload 153 (gd rfl) rfl (n := 480) rfl (in_ix i151 rfl) (fun z152 e152 => ?_)
              have i152 := inv_I hI123 (n := 480) (t := 0) 0 31 rfl (in_ix i151 rfl) rfl e152
              refine g_iadd 154 (gd rfl) rfl (fun z153 e153 => ?_)
              have i153 := in_add 0 1023 e153 i141 i152 rfl rfl
              refine g_dup2 155 (gd rfl) rfl rfl rfl ?_
              refine g_iaload 156 (gd rfl) rfl (n := 1024) rfl (in_ix i153 rfl) (fun z155 e155 => ?_)
              refine g_iconst 1 157 (gd rfl) rfl rfl ?_
              refine g_iadd 158 (gd rfl) rfl (fun z157 e157 => ?_)
              refine g_iastore 159 (gd rfl) rfl (n := 1024) rfl (in_ix i153 rfl) ?_
              have hI158 := inv_sI (q := 171) (j := z153.toNatClampNeg) hI123 rfl (in_w (-2147483648) 2147483647 (i_rng z157) rfl)
              refine g_aload_n 160 (gd rfl) rfl rfl ?_
              refine g_getA (q2 := 171) 163 (gd rfl) rfl rfl rfl rfl ?_
              refine g_bipush 32 165 (gd rfl) rfl rfl ?_
              refine g_aload_n 166 (gd rfl) rfl rfl ?_
              refine g_getA (q2 := 114) 169 (gd rfl) rfl rfl rfl rfl ?_
              refine g_aload_n 170 (gd rfl) rfl rfl ?_
              refine g_getI 173 (gd rfl) rfl rfl rfl (fun z170 e170 => ?_)
              have q170 : u_109_19 = z170 := (sI_F (sI_F (sI_F (sF_ne rfl (fr_F e_109_19 hFc59 rfl))))).trans e170.symm
              subst q170
              refine g_iload_n 174 (gd rfl) rfl rfl ?_
              refine g_iadd 175 (gd rfl) rfl (fun z174 e174 => ?_)
              have i174 := in_add 0 319 e174 ro_109_19 i63 rfl rfl
              refine g_iaload 176 (gd rfl) rfl (n := 480) rfl (in_ix i174 rfl) (fun z175 e175 => ?_)
              have i175 := inv_I hI158 (n := 480) (t := 0) 0 31 rfl (in_ix i174 rfl) rfl e175
              refine g_imul 177 (gd rfl) rfl (fun z176 e176 => ?_)
              have i176 := in_mulc 32 0 992 (Or.inl e176) i175 rfl rfl
              refine g_aload_n 178 (gd rfl) rfl rfl ?_
              refine g_getA (q2 := 113) 181 (gd rfl) rfl rfl rfl rfl ?_
              refine g_aload_n 182 (gd rfl) rfl rfl ?_
              refine g_getI 185 (gd rfl) rfl rfl rfl (fun z182 e182 => ?_)
              have q182 : u_109_19 = z182 := (sI_F (sI_F (sI_F (sF_ne rfl (fr_F e_109_19 hFc59 rfl))))).trans e182.symm
              subst q182
              refine g_iload_n 186 (gd rfl) rfl rfl ?_
              refine g_iadd 187 (gd rfl) rfl (fun z186 e186 => ?_)
              have i186 := in_add 0 319 e186 ro_109_19 i63 rfl rfl
              refine g_iaload 188 (gd rfl) rfl (n := 480) rfl (in_ix i186 rfl) (fun z187 e187 => ?_)
              have i187 := inv_I hI158 (n := 480) (t := 0) 0 31 rfl (in_ix i186 rfl) rfl e187
              refine g_iadd 189 (gd rfl) rfl (fun z188 e188 => ?_)
              have i188 := in_add 0 1023 e188 i176 i187 rfl rfl
              refine g_dup2 190 (gd rfl) rfl rfl rfl ?_
              refine g_iaload 191 (gd rfl) rfl (n := 1024) rfl (in_ix i188 rfl) (fun z190 e190 => ?_)
              refine g_iconst 1 192 (gd rfl) rfl rfl ?_
              refine g_iadd 193 (gd rfl) rfl (fun z192 e192 => ?_)
              refine g_iastore 194 (gd rfl) rfl (n := 1024) rfl (in_ix i188 rfl) ?_
              have hI193 := inv_sI (q := 171) (j := z188.toNatClampNeg) hI158 rfl (in_w (-2147483648) 2147483647 (i_rng z192) rfl)
              refine g_iinc 197 (gd rfl) rfl rfl (Nat.le_of_ble_eq_true rfl) (fun z194 e194 => ?_)
              have i194 := in_add 1 160 e194 i63 (in_c 1 rfl) rfl rfl
              refine g_goto 59 (gd rfl) rfl ?_
              have v59 : z80 = (sI (sI (sI (sI (sF sc59 109 80 z80) 170 z98.toNatClampNeg z102) 170 z118.toNatClampNeg z122) 171 z153.toNatClampNeg z157) 171 z188.toNatClampNeg z192).2.2.1 109 80 := sI_F (sI_F (sI_F (sI_F (sF_get))))
              have n59 : (z80).toInt ≤ (z194).toInt := by have a0 := oa5 ro_109_20 ro_109_19 ((inv_F hIc59 0 160 rfl v59_109_80)) i63 i194; have a5 := t_add e194 i63 (in_c 1 rfl) rfl; have a6 := oa2 ((in_c 1 rfl)) i81; have a8 := t_add e80 (inv_F hIc59 0 160 rfl v59_109_80) (in_c 1 rfl) rfl; have a9 := in_u i188; have a10 := t_add e188 i176 i187 rfl; have a11 := oa2 i187 i176; have a13 := (t_mulc 32 (Or.inl e176) i175 rfl).1; have a14 := oa2 i175 i186; have a16 := t_add e186 ro_109_19 i63 rfl; have a17 := in_u i174; have a18 := t_add e174 ro_109_19 i63 rfl; have a19 := in_u i153; have a20 := t_add e153 i141 i152 rfl; have a21 := oa2 i152 i141; have a23 := (t_mulc 32 (Or.inl e141) i140 rfl).1; have a24 := oa2 i140 i151; have a26 := t_add e151 ro_109_19 i63 rfl; have a27 := in_u i139; have a28 := t_add e139 ro_109_19 i63 rfl; have a29 := in_u i117; have a30 := t_add e117 ro_109_19 i63 rfl; have a31 := in_u i97; have a32 := t_add e97 ro_109_19 i63 rfl; have a33 := in_u i68x34; have a34 := t_add e68x34 ro_109_19 i63 rfl; have a35 := in_u i68x23; have a36 := t_add e68x23 ro_109_19 i63 rfl; have a37 := in_u i68x9; have a38 := t_add e68x9 ro_109_19 i63 rfl; omega
              exact gg_w (by first | exact Nat.le_add_right _ _ | exact gw2 | exact gw3 | exact gwe rfl | exact gwf rfl | exact gwg rfl | exact gwh rfl | omega) (gg_f (gf_cons rfl (gf_cons rfl gf_nil)) (ih59 (sI (sI (sI (sI (sF sc59 109 80 z80) 170 z98.toNatClampNeg z102) 170 z118.toNatClampNeg z122) 171 z153.toNatClampNeg z157) 171 z188.toNatClampNeg z192) z194 z80 hI193 (fr_sI rfl (fr_sI rfl (fr_sI rfl (fr_sI rfl (fr_sF rfl hFc59))))) (in_w 0 160 i194 rfl) v59 n59 (m_up mm59 (t_add e194 i63 (in_c 1 rfl) rfl) (in_w 1 1 (in_c 1 rfl) rfl))))
  have ct29 : ∀ (k29 : Nat) (sc29 : GS) (y29_1 : Int32) (w29_109_80 : Int32), Inv sc29 → Fr fm_374 s sc29 → (In y29_1 0 32) → (w29_109_80 = sc29.2.2.1 109 80) → ((w29_109_80).toInt = 0) → 32 - (y29_1).toInt < (k29 : Int) → GG Z (d - 1) 374 post (gx xp) (825324 + k29 * 900) 29 (fun j => xlook j [(0, .ref (A 109)), (1, .int y29_1)]) [] (WW Z A sc29 ++ ex) 0 0 := by
    intro k29
    induction k29 with
    | zero => intro sc29 y29_1 w29_109_80 hIc29 hFc29 j29_1 v29_109_80 n29_0 mm29; exact m_no mm29 j29_1 rfl
    | succ k29 ih29 =>
      intro sc29 y29_1 w29_109_80 hIc29 hFc29 j29_1 v29_109_80 n29_0 mm29
      refine gg_w (M := 825324 + k29 * 900 + 900) gws ?_
      refine g_iload_n 30 (gd rfl) rfl rfl ?_
      refine g_aload_n 31 (gd rfl) rfl rfl ?_
      refine g_getI 34 (gd rfl) rfl rfl rfl (fun z31 e31 => ?_)
      have q31 : u_109_20 = z31 := (fr_F e_109_20 hFc29 rfl).trans e31.symm
      subst q31
      refine g_cmp_ge 37 57 (gd rfl) rfl rfl (fun c34 => ?_) (fun c34 => ?_)
      · skip
        refine g_iconst 0 58 (gd rfl) rfl rfl ?_
        refine g_istore_n 59 (gd rfl) rfl (Nat.le_of_ble_eq_true rfl) ?_
        have n59 : (w29_109_80).toInt ≤ ((Int32.ofInt 0)).toInt := by have a0 := oa5 ro_109_20 ro_109_19 ((inv_F hIc29 0 160 rfl v29_109_80)) j29_1 ((in_c 0 rfl)); omega
        exact gg_w (by first | exact Nat.le_add_right _ _ | exact gw2 | exact gw3 | exact gwe rfl | exact gwf rfl | exact gwg rfl | exact gwh rfl | omega) (gg_f (gf_cons rfl (gf_cons rfl gf_nil)) (ct59 161 sc29 (Int32.ofInt 0) w29_109_80 hIc29 hFc29 (in_w 0 160 (in_c 0 rfl) rfl) v29_109_80 n59 (m_in 161 (in_w 0 160 (in_c 0 rfl) rfl) rfl)))
      · skip
        have i34 := r_lt1 0 31 c34 j29_1 ro_109_20 rfl
        have i34a := r_lt2 1 32 c34 j29_1 ro_109_20 rfl
        refine g_aload_n 38 (gd rfl) rfl rfl ?_
        refine g_getA (q2 := 170) 41 (gd rfl) rfl rfl rfl rfl ?_
        refine g_iload_n 42 (gd rfl) rfl rfl ?_
        refine g_iconst 0 43 (gd rfl) rfl rfl ?_
        refine g_iastore 44 (gd rfl) rfl (n := 32) rfl (in_ix i34 rfl) ?_
        have hI43 := inv_sI (q := 170) (j := y29_1.toNatClampNeg) hIc29 rfl (in_w (-2147483648) 2147483647 (in_c 0 rfl) rfl)
        refine g_aload_n 45 (gd rfl) rfl rfl ?_
        refine g_getA (q2 := 169) 48 (gd rfl) rfl rfl rfl rfl ?_
        refine g_iload_n 49 (gd rfl) rfl rfl ?_
        refine g_iload_n 50 (gd rfl) rfl rfl ?_
        refine g_iastore 51 (gd rfl) rfl (n := 32) rfl (in_ix i34 rfl) ?_
        have hI50 := inv_sI (q := 169) (j := y29_1.toNatClampNeg) hI43 rfl (in_w (-2147483648) 2147483647 i34 rfl)
        refine g_iinc 54 (gd rfl) rfl rfl (Nat.le_of_ble_eq_true rfl) (fun z51 e51 => ?_)
        have i51 := in_add 1 32 e51 i34 (in_c 1 rfl) rfl rfl
        refine g_goto 29 (gd rfl) rfl ?_
        have v29 : w29_109_80 = (sI (sI sc29 170 y29_1.toNatClampNeg (Int32.ofInt 0)) 169 y29_1.toNatClampNeg y29_1).2.2.1 109 80 := sI_F (sI_F (v29_109_80))
        have n29 : (w29_109_80).toInt = 0 := by first | exact n29_0 | (have a0 := oa5 i34a ro_109_19 ((inv_F hIc29 0 160 rfl v29_109_80)) i34 i51; have a5 := t_add e51 i34 (in_c 1 rfl) rfl; have a6 := in_u ((in_c 1 rfl)); omega)
        exact gg_w (by first | exact Nat.le_add_right _ _ | exact gw2 | exact gw3 | exact gwe rfl | exact gwf rfl | exact gwg rfl | exact gwh rfl | omega) (gg_f (gf_cons rfl (gf_cons rfl gf_nil)) (ih29 (sI (sI sc29 170 y29_1.toNatClampNeg (Int32.ofInt 0)) 169 y29_1.toNatClampNeg y29_1) z51 w29_109_80 hI50 (fr_sI rfl (fr_sI rfl hFc29)) (in_w 0 32 i51 rfl) v29 n29 (m_up mm29 (t_add e51 i34 (in_c 1 rfl) rfl) (in_w 1 1 (in_c 1 rfl) rfl))))
  have ct7 : ∀ (k7 : Nat) (sc7 : GS) (y7_1 : Int32) (w7_109_80 : Int32), Inv sc7 → Fr fm_374 s sc7 → (In y7_1 0 1024) → (w7_109_80 = sc7.2.2.1 109 80) → ((w7_109_80).toInt = 0) → 1024 - (y7_1).toInt < (k7 : Int) → GG Z (d - 1) 374 post (gx xp) (855025 + k7 * 900) 7 (fun j => xlook j [(0, .ref (A 109)), (1, .int y7_1)]) [] (WW Z A sc7 ++ ex) 0 0 := by
    intro k7
    induction k7 with
    | zero => intro sc7 y7_1 w7_109_80 hIc7 hFc7 j7_1 v7_109_80 n7_0 mm7; exact m_no mm7 j7_1 rfl
    | succ k7 ih7 =>
      intro sc7 y7_1 w7_109_80 hIc7 hFc7 j7_1 v7_109_80 n7_0 mm7
      refine gg_w (M := 855025 + k7 * 900 + 900) gws ?_
      refine g_iload_n 8 (gd rfl) rfl rfl ?_
      refine g_sipush 1024 11 (gd rfl) rfl rfl ?_
      refine g_cmp_ge 14 27 (gd rfl) rfl rfl (fun c11 => ?_) (fun c11 => ?_)
      · skip
        have i11 := r_le2 1024 1024 c11 (in_c 1024 rfl) j7_1 rfl
        refine g_iconst 0 28 (gd rfl) rfl rfl ?_
        refine g_istore_n 29 (gd rfl) rfl (Nat.le_of_ble_eq_true rfl) ?_
        have n29 : (w7_109_80).toInt = 0 := by first | exact n7_0 | (have a0 := oa5 ro_109_20 ro_109_19 ((inv_F hIc7 0 160 rfl v7_109_80)) i11 ((in_c 0 rfl)); omega)
        exact gg_w (by first | exact Nat.le_add_right _ _ | exact gw2 | exact gw3 | exact gwe rfl | exact gwf rfl | exact gwg rfl | exact gwh rfl | omega) (gg_f (gf_cons rfl (gf_cons rfl gf_nil)) (ct29 33 sc7 (Int32.ofInt 0) w7_109_80 hIc7 hFc7 (in_w 0 32 (in_c 0 rfl) rfl) v7_109_80 n29 (m_in 33 (in_w 0 32 (in_c 0 rfl) rfl) rfl)))
      · skip
        have i11 := r_lt1 0 1023 c11 j7_1 (in_c 1024 rfl) rfl
        refine g_aload_n 15 (gd rfl) rfl rfl ?_
        refine g_getA (q2 := 171) 18 (gd rfl) rfl rfl rfl rfl ?_
        refine g_iload_n 19 (gd rfl) rfl rfl ?_
        refine g_iconst 0 20 (gd rfl) rfl rfl ?_
        refine g_iastore 21 (gd rfl) rfl (n := 1024) rfl (in_ix i11 rfl) ?_
        have hI20 := inv_sI (q := 171) (j := y7_1.toNatClampNeg) hIc7 rfl (in_w (-2147483648) 2147483647 (in_c 0 rfl) rfl)
        refine g_iinc 24 (gd rfl) rfl rfl (Nat.le_of_ble_eq_true rfl) (fun z21 e21 => ?_)
        have i21 := in_add 1 1024 e21 i11 (in_c 1 rfl) rfl rfl
        refine g_goto 7 (gd rfl) rfl ?_
        have v7 : w7_109_80 = (sI sc7 171 y7_1.toNatClampNeg (Int32.ofInt 0)).2.2.1 109 80 := sI_F (v7_109_80)
        have n7 : (w7_109_80).toInt = 0 := by first | exact n7_0 | (have a0 := oa5 ro_109_20 ro_109_19 ((inv_F hIc7 0 160 rfl v7_109_80)) i11 i21; have a5 := t_add e21 i11 (in_c 1 rfl) rfl; have a6 := in_u ((in_c 1 rfl)); omega)
        exact gg_w (by first | exact Nat.le_add_right _ _ | exact gw2 | exact gw3 | exact gwe rfl | exact gwf rfl | exact gwg rfl | exact gwh rfl | omega) (gg_f (gf_cons rfl (gf_cons rfl gf_nil)) (ih7 (sI sc7 171 y7_1.toNatClampNeg (Int32.ofInt 0)) z21 w7_109_80 hI20 (fr_sI rfl hFc7) (in_w 0 1024 i21 rfl) v7 n7 (m_up mm7 (t_add e21 i11 (in_c 1 rfl) rfl) (in_w 1 1 (in_c 1 rfl) rfl))))
  refine g_enter2 (k := 374) (N := 1778425) (by first | exact dq1 hd rfl | exact dq0 hd rfl | exact dq2 hd rfl | exact dq3 hd rfl | omega) rfl (Nat.le_of_ble_eq_true rfl) ?_
  refine g_aload_n 1 (gd rfl) rfl rfl ?_
  refine g_iconst 0 2 (gd rfl) rfl rfl ?_
  refine g_putI 5 (gd rfl) rfl rfl rfl rfl ?_
  have hI2 := inv_sF (q := 109) (j := 80) hI rfl (in_w 0 160 (in_c 0 rfl) rfl)
  refine g_iconst 0 6 (gd rfl) rfl rfl ?_
  refine g_istore_n 7 (gd rfl) rfl (Nat.le_of_ble_eq_true rfl) ?_
  have v7 : (Int32.ofInt 0) = (sF s 109 80 (Int32.ofInt 0)).2.2.1 109 80 := sF_get
  have n7 : ((Int32.ofInt 0)).toInt = 0 := by have a0 := oa3 ro_109_20 ro_109_19 ((in_c 0 rfl)); omega
  exact gg_w (by first | exact Nat.le_of_ble_eq_true rfl | omega) (gg_f (gf_cons rfl (gf_cons rfl gf_nil)) (ct7 1025 (sF s 109 80 (Int32.ofInt 0)) (Int32.ofInt 0) (Int32.ofInt 0) hI2 (fr_sF rfl fr_rf) (in_w 0 1024 (in_c 0 rfl) rfl) v7 n7 (m_in 1025 (in_w 0 1024 (in_c 0 rfl) rfl) rfl)))

def fm_378 : FM := ([169, 170, 171], [], [(109, 0), (109, 80)], [])
/-- GraphHouseModel.group -/
theorem k_378 {Z : AmZ} {A : Nat → Nat} {s : GS} {ex : va_W} {d : Nat} {X : AmX} {x1 : Int32} (hd : 6 ≤ d) (hI : Inv s)  : GC Z d 378 [.ref (A 109), .int x1] (WW Z A s ++ ex) 0 0 (fun v u => ∃ t : GS, Inv t ∧ Fr fm_378 s t ∧ ∃ z : Int32, v = some (.int z) ∧ u = WW Z A t ++ ex ∧ In z 0 40) X := by
  intro post xp hP hX
  obtain ⟨u_109_20, e_109_20⟩ : ∃ w, w = s.2.2.1 109 20 := ⟨_, rfl⟩
  have ro_109_20 := inv_F hI 0 32 rfl e_109_20
  refine g_enter2 (k := 378) (N := 900) (by first | exact dq1 hd rfl | exact dq0 hd rfl | exact dq2 hd rfl | exact dq3 hd rfl | omega) rfl (Nat.le_of_ble_eq_true rfl) ?_
  refine g_aload_n 1 (gd rfl) rfl rfl ?_
  refine g_aload_n 2 (gd rfl) rfl rfl ?_
  refine g_iload_n 3 (gd rfl) rfl rfl ?_
  refine g_callv (X := _) (As := [.int x1]) (r := [.ref (A 109)]) (b := A 109) (q := 109) 6 (gd rfl) rfl rfl rfl rfl rfl (ww_o rfl) (Nat.le_of_ble_eq_true rfl) (mc := 0) (ms := 0) (Nat.zero_le _) (Nat.zero_le _) (P := fun v u => _) ?_ (fun e u h => h) (fun v u h => h)
  intro po3 xx3 hp3 hx3
  refine g_enter2 (k := 272) (N := 300) (by first | exact dq1 hd rfl | exact dq0 hd rfl | exact dq2 hd rfl | exact dq3 hd rfl | omega) rfl (Nat.le_of_ble_eq_true rfl) ?_
  refine g_iload_n 1 (gd rfl) rfl rfl ?_
  refine g_if_lt 4 16 (gd rfl) rfl rfl (fun c3x1 => ?_) (fun c3x1 => ?_)
  · skip
    have i3x1 := z_lt (-2147483648) (-1) c3x1 (i_rng x1) rfl
    refine g_iconst 0 17 (gd rfl) rfl rfl ?_
    refine g_ireturn (gd rfl) rfl (nb01 (in_w 0 1 (in_c 0 rfl) rfl)) (hp3 _ _ ?_)
    show GG _ _ _ _ _ _ _ _ [.int (Int32.ofInt 0), .ref (A 109)] _ _ _
    refine g_callv (X := _) (As := [.int (Int32.ofInt 0)]) (r := []) (b := A 109) (q := 109) 9 (gd rfl) rfl rfl rfl rfl rfl (ww_o rfl) (Nat.le_of_ble_eq_true rfl) (mc := 0) (ms := 0) (Nat.zero_le _) (Nat.zero_le _) (P := fun v u => _) ?_ (fun e u h => h) (fun v u h => h)
    intro po6 xx6 hp6 hx6
    refine g_enter2 (k := 271) (N := 300) (by first | exact dq1 hd rfl | exact dq0 hd rfl | exact dq2 hd rfl | exact dq3 hd rfl | omega) rfl (Nat.le_of_ble_eq_true rfl) ?_
    refine g_aload_n 1 (gd rfl) rfl rfl ?_
    refine g_iload_n 2 (gd rfl) rfl rfl ?_
    refine g_iconst 1 3 (gd rfl) rfl rfl ?_
    refine g_callv (X := _) (As := [.int (Int32.ofInt 0), .int (Int32.ofInt 1)]) (r := []) (b := A 109) (q := 109) 6 (gd rfl) rfl rfl rfl rfl rfl (ww_o rfl) (Nat.le_of_ble_eq_true rfl) (mc := 0) (ms := 0) (Nat.zero_le _) (Nat.zero_le _) (P := fun v u => _) ?_ (fun e u h => h) (fun v u h => h)
    intro po6x3 xx6x3 hp6x3 hx6x3
    refine g_enter2 (k := 270) (N := 300) (by first | exact dq1 hd rfl | exact dq0 hd rfl | exact dq2 hd rfl | exact dq3 hd rfl | omega) rfl (Nat.le_of_ble_eq_true rfl) ?_
    refine g_aload_n 1 (gd rfl) rfl rfl ?_
    refine g_iload_n 2 (gd rfl) rfl rfl ?_
    refine g_if_ne 5 9 (gd rfl) rfl rfl (fun c6x3x2 => ?_) (fun c6x3x2 => ?_)
    · skip
      exact zn_ne c6x3x2 (in_c 0 rfl) rfl
    · skip
      refine g_iconst 1 6 (gd rfl) rfl rfl ?_
      refine g_goto 18 (gd rfl) rfl ?_
      refine g_putI 21 (gd rfl) rfl rfl rfl rfl ?_
      have hI6x3x18 := inv_sF (q := 109) (j := 0) hI rfl (in_w 0 2 (in_c 1 rfl) rfl)
      refine g_aload_n 22 (gd rfl) rfl rfl ?_
      refine g_getI 25 (gd rfl) rfl rfl rfl (fun z6x3x22 e6x3x22 => ?_)
      have q6x3x22 : (Int32.ofInt 1) = z6x3x22 := (sF_get).trans e6x3x22.symm
      subst q6x3x22
      refine g_if_le 28 32 (gd rfl) rfl rfl (fun c6x3x25 => ?_) (fun c6x3x25 => ?_)
      · skip
        exact zn_le c6x3x25 (in_c 1 rfl) rfl
      · skip
        refine g_iconst 1 29 (gd rfl) rfl rfl ?_
        refine g_goto 33 (gd rfl) rfl ?_
        refine g_ireturn (gd rfl) rfl (nb01 (in_w 0 1 (in_c 1 rfl) rfl)) (hp6x3 _ _ ?_)
        show GG _ _ _ _ _ _ _ _ [.int (Int32.ofInt 1)] _ _ _
        refine g_ireturn (gd rfl) rfl (nb01 (in_w 0 1 (in_c 1 rfl) rfl)) (hp6 _ _ ?_)
        show GG _ _ _ _ _ _ _ _ [.int (Int32.ofInt 1)] _ _ _
        refine g_if_eq 12 14 (gd rfl) rfl rfl (fun c9 => ?_) (fun c9 => ?_)
        · skip
          exact zn_eq c9 (in_c 1 rfl) rfl
        · skip
          refine g_iconst 0 13 (gd rfl) rfl rfl ?_
          exact g_ireturn (gd rfl) rfl rfl (hP _ _ ⟨(sF s 109 0 (Int32.ofInt 1)), hI6x3x18, (fr_sF rfl fr_rf), (Int32.ofInt 0), rfl, rfl, in_w 0 40 (in_c 0 rfl) rfl⟩)
  · skip
    have i3x1 := z_ge 0 2147483647 c3x1 (i_rng x1) rfl
    refine g_iload_n 5 (gd rfl) rfl rfl ?_
    refine g_aload_n 6 (gd rfl) rfl rfl ?_
    refine g_getI 9 (gd rfl) rfl rfl rfl (fun z3x6 e3x6 => ?_)
    have q3x6 : u_109_20 = z3x6 := (e_109_20).trans e3x6.symm
    subst q3x6
    refine g_cmp_ge 12 16 (gd rfl) rfl rfl (fun c3x9 => ?_) (fun c3x9 => ?_)
    · skip
      refine g_iconst 0 17 (gd rfl) rfl rfl ?_
      refine g_ireturn (gd rfl) rfl (nb01 (in_w 0 1 (in_c 0 rfl) rfl)) (hp3 _ _ ?_)
      show GG _ _ _ _ _ _ _ _ [.int (Int32.ofInt 0), .ref (A 109)] _ _ _
      refine g_callv (X := _) (As := [.int (Int32.ofInt 0)]) (r := []) (b := A 109) (q := 109) 9 (gd rfl) rfl rfl rfl rfl rfl (ww_o rfl) (Nat.le_of_ble_eq_true rfl) (mc := 0) (ms := 0) (Nat.zero_le _) (Nat.zero_le _) (P := fun v u => _) ?_ (fun e u h => h) (fun v u h => h)
      intro po6 xx6 hp6 hx6
      refine g_enter2 (k := 271) (N := 300) (by first | exact dq1 hd rfl | exact dq0 hd rfl | exact dq2 hd rfl | exact dq3 hd rfl | omega) rfl (Nat.le_of_ble_eq_true rfl) ?_
      refine g_aload_n 1 (gd rfl) rfl rfl ?_
      refine g_iload_n 2 (gd rfl) rfl rfl ?_
      refine g_iconst 1 3 (gd rfl) rfl rfl ?_
      refine g_callv (X := _) (As := [.int (Int32.ofInt 0), .int (Int32.ofInt 1)]) (r := []) (b := A 109) (q := 109) 6 (gd rfl) rfl rfl rfl rfl rfl (ww_o rfl) (Nat.le_of_ble_eq_true rfl) (mc := 0) (ms := 0) (Nat.zero_le _) (Nat.zero_le _) (P := fun v u => _) ?_ (fun e u h => h) (fun v u h => h)
      intro po6x3 xx6x3 hp6x3 hx6x3
      refine g_enter2 (k := 270) (N := 300) (by first | exact dq1 hd rfl | exact dq0 hd rfl | exact dq2 hd rfl | exact dq3 hd rfl | omega) rfl (Nat.le_of_ble_eq_true rfl) ?_
      refine g_aload_n 1 (gd rfl) rfl rfl ?_
      refine g_iload_n 2 (gd rfl) rfl rfl ?_
      refine g_if_ne 5 9 (gd rfl) rfl rfl (fun c6x3x2 => ?_) (fun c6x3x2 => ?_)
      · skip
        exact zn_ne c6x3x2 (in_c 0 rfl) rfl
      · skip
        refine g_iconst 1 6 (gd rfl) rfl rfl ?_
        refine g_goto 18 (gd rfl) rfl ?_
        refine g_putI 21 (gd rfl) rfl rfl rfl rfl ?_
        have hI6x3x18 := inv_sF (q := 109) (j := 0) hI rfl (in_w 0 2 (in_c 1 rfl) rfl)
        refine g_aload_n 22 (gd rfl) rfl rfl ?_
        refine g_getI 25 (gd rfl) rfl rfl rfl (fun z6x3x22 e6x3x22 => ?_)
        have q6x3x22 : (Int32.ofInt 1) = z6x3x22 := (sF_get).trans e6x3x22.symm
        subst q6x3x22
        refine g_if_le 28 32 (gd rfl) rfl rfl (fun c6x3x25 => ?_) (fun c6x3x25 => ?_)
        · skip
          exact zn_le c6x3x25 (in_c 1 rfl) rfl
        · skip
          refine g_iconst 1 29 (gd rfl) rfl rfl ?_
          refine g_goto 33 (gd rfl) rfl ?_
          refine g_ireturn (gd rfl) rfl (nb01 (in_w 0 1 (in_c 1 rfl) rfl)) (hp6x3 _ _ ?_)
          show GG _ _ _ _ _ _ _ _ [.int (Int32.ofInt 1)] _ _ _
          refine g_ireturn (gd rfl) rfl (nb01 (in_w 0 1 (in_c 1 rfl) rfl)) (hp6 _ _ ?_)
          show GG _ _ _ _ _ _ _ _ [.int (Int32.ofInt 1)] _ _ _
          refine g_if_eq 12 14 (gd rfl) rfl rfl (fun c9 => ?_) (fun c9 => ?_)
          · skip
            exact zn_eq c9 (in_c 1 rfl) rfl
          · skip
            refine g_iconst 0 13 (gd rfl) rfl rfl ?_
            exact g_ireturn (gd rfl) rfl rfl (hP _ _ ⟨(sF s 109 0 (Int32.ofInt 1)), hI6x3x18, (fr_sF rfl fr_rf), (Int32.ofInt 0), rfl, rfl, in_w 0 40 (in_c 0 rfl) rfl⟩)
    · skip
      have i3x9 := r_lt1 0 31 c3x9 i3x1 ro_109_20 rfl
      have i3x9a := r_lt2 1 32 c3x9 i3x1 ro_109_20 rfl
      refine g_iconst 1 13 (gd rfl) rfl rfl ?_
      refine g_goto 17 (gd rfl) rfl ?_
      refine g_ireturn (gd rfl) rfl (nb01 (in_w 0 1 (in_c 1 rfl) rfl)) (hp3 _ _ ?_)
      show GG _ _ _ _ _ _ _ _ [.int (Int32.ofInt 1), .ref (A 109)] _ _ _
      refine g_callv (X := _) (As := [.int (Int32.ofInt 1)]) (r := []) (b := A 109) (q := 109) 9 (gd rfl) rfl rfl rfl rfl rfl (ww_o rfl) (Nat.le_of_ble_eq_true rfl) (mc := 0) (ms := 0) (Nat.zero_le _) (Nat.zero_le _) (P := fun v u => _) ?_ (fun e u h => h) (fun v u h => h)
      intro po6 xx6 hp6 hx6
      refine g_enter2 (k := 271) (N := 300) (by first | exact dq1 hd rfl | exact dq0 hd rfl | exact dq2 hd rfl | exact dq3 hd rfl | omega) rfl (Nat.le_of_ble_eq_true rfl) ?_
      refine g_aload_n 1 (gd rfl) rfl rfl ?_
      refine g_iload_n 2 (gd rfl) rfl rfl ?_
      refine g_iconst 1 3 (gd rfl) rfl rfl ?_
      refine g_callv (X := _) (As := [.int (Int32.ofInt 1), .int (Int32.ofInt 1)]) (r := []) (b := A 109) (q := 109) 6 (gd rfl) rfl rfl rfl rfl rfl (ww_o rfl) (Nat.le_of_ble_eq_true rfl) (mc := 0) (ms := 0) (Nat.zero_le _) (Nat.zero_le _) (P := fun v u => _) ?_ (fun e u h => h) (fun v u h => h)
      intro po6x3 xx6x3 hp6x3 hx6x3
      refine g_enter2 (k := 270) (N := 300) (by first | exact dq1 hd rfl | exact dq0 hd rfl | exact dq2 hd rfl | exact dq3 hd rfl | omega) rfl (Nat.le_of_ble_eq_true rfl) ?_
      refine g_aload_n 1 (gd rfl) rfl rfl ?_
      refine g_iload_n 2 (gd rfl) rfl rfl ?_
      refine g_if_ne 5 9 (gd rfl) rfl rfl (fun c6x3x2 => ?_) (fun c6x3x2 => ?_)
      · skip
        refine g_iload_n 10 (gd rfl) rfl rfl ?_
        refine g_if_ne 13 17 (gd rfl) rfl rfl (fun c6x3x10 => ?_) (fun c6x3x10 => ?_)
        · skip
          refine g_iconst 0 18 (gd rfl) rfl rfl ?_
          refine g_putI 21 (gd rfl) rfl rfl rfl rfl ?_
          have hI6x3x18 := inv_sF (q := 109) (j := 0) hI rfl (in_w 0 2 (in_c 0 rfl) rfl)
          refine g_aload_n 22 (gd rfl) rfl rfl ?_
          refine g_getI 25 (gd rfl) rfl rfl rfl (fun z6x3x22 e6x3x22 => ?_)
          have q6x3x22 : (Int32.ofInt 0) = z6x3x22 := (sF_get).trans e6x3x22.symm
          subst q6x3x22
          refine g_if_le 28 32 (gd rfl) rfl rfl (fun c6x3x25 => ?_) (fun c6x3x25 => ?_)
          · skip
            refine g_iconst 0 33 (gd rfl) rfl rfl ?_
            refine g_ireturn (gd rfl) rfl (nb01 (in_w 0 1 (in_c 0 rfl) rfl)) (hp6x3 _ _ ?_)
            show GG _ _ _ _ _ _ _ _ [.int (Int32.ofInt 0)] _ _ _
            refine g_ireturn (gd rfl) rfl (nb01 (in_w 0 1 (in_c 0 rfl) rfl)) (hp6 _ _ ?_)
            show GG _ _ _ _ _ _ _ _ [.int (Int32.ofInt 0)] _ _ _
            refine g_if_eq 12 14 (gd rfl) rfl rfl (fun c9 => ?_) (fun c9 => ?_)
            · skip
              refine g_aload_n 15 (gd rfl) rfl rfl ?_
              refine g_callv (X := _) (As := []) (r := []) (b := A 109) (q := 109) 18 (gd rfl) rfl rfl rfl rfl rfl (ww_o rfl) (Nat.le_of_ble_eq_true rfl) (Nat.zero_le _) (Nat.zero_le _) (k_374 (by first | exact dq1 hd rfl | exact dq0 hd rfl | exact dq2 hd rfl | exact dq3 hd rfl | omega) hI6x3x18 ) (fun e u h => h) (fun v u h => ?_)
              obtain ⟨s15, hI15, hF15, rfl, rfl⟩ := h
              show GG _ _ _ _ _ _ _ _ [] _ _ _
              refine g_aload_n 19 (gd rfl) rfl rfl ?_
              refine g_aload_n 20 (gd rfl) rfl rfl ?_
              refine g_getA (q2 := 169) 23 (gd rfl) rfl rfl rfl rfl ?_
              refine g_iload_n 24 (gd rfl) rfl rfl ?_
              refine g_iaload 25 (gd rfl) rfl (n := 32) rfl (in_ix i3x9 rfl) (fun z24 e24 => ?_)
              refine g_iconst (-1) 26 (gd rfl) rfl rfl ?_
              refine g_callv (X := _) (As := [.int z24, .int (Int32.ofInt (-1))]) (r := []) (b := A 109) (q := 109) 29 (gd rfl) rfl rfl rfl rfl rfl (ww_o rfl) (Nat.le_of_ble_eq_true rfl) (Nat.zero_le _) (Nat.zero_le _) (k_375 (by first | exact dq1 hd rfl | exact dq0 hd rfl | exact dq2 hd rfl | exact dq3 hd rfl | omega) hI15 (in_w (-1) 31 (in_c (-1) rfl) rfl)) (fun e u h => h) (fun v u h => ?_)
              obtain ⟨z26, rfl, rfl, i26, p26⟩ := h
              show GG _ _ _ _ _ _ _ _ [.int z26] _ _ _
              exact g_ireturn (gd rfl) rfl rfl (hP _ _ ⟨s15, hI15, (fr_tr rfl (fr_sF rfl fr_rf) hF15), z26, rfl, rfl, in_w 0 40 i26 rfl⟩)
            · skip
              exact zn_ne c9 (in_c 0 rfl) rfl
          · skip
            exact zn_gt c6x3x25 (in_c 0 rfl) rfl
        · skip
          exact zn_eq c6x3x10 (in_c 1 rfl) rfl
      · skip
        exact zn_eq c6x3x2 (in_c 1 rfl) rfl

def fm_379 : FM := ([169, 170, 171], [], [(109, 0), (109, 80)], [])
/-- GraphHouseModel.gain -/
theorem k_379 {Z : AmZ} {A : Nat → Nat} {s : GS} {ex : va_W} {d : Nat} {X : AmX}  (hd : 6 ≤ d) (hI : Inv s)  : GC Z d 379 [.ref (A 109)] (WW Z A s ++ ex) 0 0 (fun v u => ∃ t : GS, Inv t ∧ Fr fm_379 s t ∧ ∃ z : Int64, v = some (.long z) ∧ u = WW Z A t ++ ex) X := by
  intro post xp hP hX
  obtain ⟨u_109_20, e_109_20⟩ : ∃ w, w = s.2.2.1 109 20 := ⟨_, rfl⟩
  have ro_109_20 := inv_F hI 0 32 rfl e_109_20
  have ct13 : ∀ (k13 : Nat) (sc13 : GS) (y13_1 : Int64) (y13_3 : Int32), Inv sc13 → Fr fm_379 s sc13 → (In y13_3 0 32) → 32 - (y13_3).toInt < (k13 : Int) → GG Z (d - 1) 379 post (gx xp) (1 + k13 * 900) 13 (fun j => xlook j [(0, .ref (A 109)), (1, .long y13_1), (3, .int y13_3)]) [] (WW Z A sc13 ++ ex) 0 0 := by
    intro k13
    induction k13 with
    | zero => intro sc13 y13_1 y13_3 hIc13 hFc13 j13_3 mm13; exact m_no mm13 j13_3 rfl
    | succ k13 ih13 =>
      intro sc13 y13_1 y13_3 hIc13 hFc13 j13_3 mm13
      refine gg_w (M := 1 + k13 * 900 + 900) gws ?_
      refine g_iload_n 14 (gd rfl) rfl rfl ?_
      refine g_aload_n 15 (gd rfl) rfl rfl ?_
      refine g_getI 18 (gd rfl) rfl rfl rfl (fun z15 e15 => ?_)
      have q15 : u_109_20 = z15 := (fr_F e_109_20 hFc13 rfl).trans e15.symm
      subst q15
      refine g_cmp_ge 21 41 (gd rfl) rfl rfl (fun c18 => ?_) (fun c18 => ?_)
      · skip
        refine g_lload_n 42 (gd rfl) rfl rfl ?_
        exact g_lreturn (gd rfl) rfl (hP _ _ ⟨sc13, hIc13, hFc13, y13_1, rfl, rfl⟩)
      · skip
        have i18 := r_lt1 0 31 c18 j13_3 ro_109_20 rfl
        have i18a := r_lt2 1 32 c18 j13_3 ro_109_20 rfl
        refine g_lload_n 22 (gd rfl) rfl rfl ?_
        refine g_aload_n 23 (gd rfl) rfl rfl ?_
        refine g_iload_n 24 (gd rfl) rfl rfl ?_
        refine g_aload_n 25 (gd rfl) rfl rfl ?_
        refine g_getA (q2 := 169) 28 (gd rfl) rfl rfl rfl rfl ?_
        refine g_iload_n 29 (gd rfl) rfl rfl ?_
        refine g_iaload 30 (gd rfl) rfl (n := 32) rfl (in_ix i18 rfl) (fun z29 e29 => ?_)
        refine g_callv (X := _) (As := [.int y13_3, .int z29]) (r := [.long y13_1]) (b := A 109) (q := 109) 33 (gd rfl) rfl rfl rfl rfl rfl (ww_o rfl) (Nat.le_of_ble_eq_true rfl) (Nat.zero_le _) (Nat.zero_le _) (k_373 (by first | exact dq1 hd rfl | exact dq0 hd rfl | exact dq2 hd rfl | exact dq3 hd rfl | omega) hIc13 (in_w 0 31 i18 rfl)) (fun e u h => h) (fun v u h => ?_)
        obtain ⟨z30, rfl, rfl⟩ := h
        show GG _ _ _ _ _ _ _ _ [.long z30, .long y13_1] _ _ _
        refine g_ladd 34 (gd rfl) rfl (fun z33 e33 => ?_)
        refine g_lstore_n 35 (gd rfl) rfl (Nat.le_of_ble_eq_true rfl) ?_
        refine g_iinc 38 (gd rfl) rfl rfl (Nat.le_of_ble_eq_true rfl) (fun z35 e35 => ?_)
        have i35 := in_add 1 32 e35 i18 (in_c 1 rfl) rfl rfl
        refine g_goto 13 (gd rfl) rfl ?_
        exact gg_w (by first | exact Nat.le_add_right _ _ | exact gw2 | exact gw3 | exact gwe rfl | exact gwf rfl | exact gwg rfl | exact gwh rfl | omega) (gg_f (gf_cons rfl (gf_cons rfl (gf_cons rfl gf_nil))) (ih13 sc13 z33 z35 hIc13 hFc13 (in_w 0 32 i35 rfl) (m_up mm13 (t_add e35 i18 (in_c 1 rfl) rfl) (in_w 1 1 (in_c 1 rfl) rfl))))
  refine g_enter2 (k := 379) (N := 30601) (by first | exact dq1 hd rfl | exact dq0 hd rfl | exact dq2 hd rfl | exact dq3 hd rfl | omega) rfl (Nat.le_of_ble_eq_true rfl) ?_
  refine g_aload_n 1 (gd rfl) rfl rfl ?_
  refine g_iconst 0 2 (gd rfl) rfl rfl ?_
  refine g_putI 5 (gd rfl) rfl rfl rfl rfl ?_
  have hI2 := inv_sF (q := 109) (j := 0) hI rfl (in_w 0 2 (in_c 0 rfl) rfl)
  refine g_aload_n 6 (gd rfl) rfl rfl ?_
  refine g_callv (X := _) (As := []) (r := []) (b := A 109) (q := 109) 9 (gd rfl) rfl rfl rfl rfl rfl (ww_o rfl) (Nat.le_of_ble_eq_true rfl) (Nat.zero_le _) (Nat.zero_le _) (k_374 (by first | exact dq1 hd rfl | exact dq0 hd rfl | exact dq2 hd rfl | exact dq3 hd rfl | omega) hI2 ) (fun e u h => h) (fun v u h => ?_)
  obtain ⟨s6, hI6, hF6, rfl, rfl⟩ := h
  show GG _ _ _ _ _ _ _ _ [] _ _ _
  refine g_lconst 0 10 (gd rfl) rfl rfl ?_
  refine g_lstore_n 11 (gd rfl) rfl (Nat.le_of_ble_eq_true rfl) ?_
  refine g_iconst 0 12 (gd rfl) rfl rfl ?_
  refine g_istore_n 13 (gd rfl) rfl (Nat.le_of_ble_eq_true rfl) ?_
  exact gg_w (by first | exact Nat.le_of_ble_eq_true rfl | omega) (gg_f (gf_cons rfl (gf_cons rfl (gf_cons rfl gf_nil))) (ct13 33 s6 (Int64.ofInt 0) (Int32.ofInt 0) hI6 (fr_tr rfl (fr_sF rfl fr_rf) hF6) (in_w 0 32 (in_c 0 rfl) rfl) (m_in 33 (in_w 0 32 (in_c 0 rfl) rfl) rfl)))

def fm_386 : FM := ([172, 174, 176, 177, 180], [173, 175, 178, 179, 181, 182], [(109, 0), (109, 23), (109, 24), (109, 81), (109, 84), (109, 96), (109, 97), (109, 98), (109, 99)], [(109, 85), (109, 86), (109, 100), (109, 101)])
/-- GraphHouseModel.pattern -/
theorem k_386 {Z : AmZ} {A : Nat → Nat} {s : GS} {ex : va_W} {d : Nat} {X : AmX}  (hd : 5 ≤ d) (hI : Inv s)  : GC Z d 386 [.ref (A 109)] (WW Z A s ++ ex) 0 0 (fun v u => ∃ t : GS, Inv t ∧ Fr fm_386 s t ∧ ∃ z : Int32, v = some (.int z) ∧ u = WW Z A t ++ ex ∧ In z (-4) 0) X := by
  intro post xp hP hX
  obtain ⟨u_109_22, e_109_22⟩ : ∃ w, w = s.2.2.1 109 22 := ⟨_, rfl⟩
  have ro_109_22 := inv_F hI 0 1000 rfl e_109_22
  have ct226 : ∀ (k226 : Nat) (sc226 : GS) (y226_1 : Int32) (y226_2 : Int32), Inv sc226 → Fr fm_386 s sc226 → (In y226_1 0 60) → (In y226_2 0 60) → 60 - (y226_2).toInt < (k226 : Int) → GG Z (d - 1) 386 post (gx xp) (1 + k226 * 900) 226 (fun j => xlook j [(0, .ref (A 109)), (1, .int y226_1), (2, .int y226_2)]) [] (WW Z A sc226 ++ ex) 0 0 := by
    intro k226
    induction k226 with
    | zero => intro sc226 y226_1 y226_2 hIc226 hFc226 j226_1 j226_2 mm226; exact m_no mm226 j226_2 rfl
    | succ k226 ih226 =>
      intro sc226 y226_1 y226_2 hIc226 hFc226 j226_1 j226_2 mm226
      refine gg_w (M := 1 + k226 * 900 + 900) gws ?_
      refine g_iload_n 227 (gd rfl) rfl rfl ?_
      refine g_bipush 60 229 (gd rfl) rfl rfl ?_
      refine g_cmp_ge 232 262 (gd rfl) rfl rfl (fun c229 => ?_) (fun c229 => ?_)
      · skip
        have i229 := r_le2 60 60 c229 (in_c 60 rfl) j226_2 rfl
        refine g_iconst 0 263 (gd rfl) rfl rfl ?_
        exact g_ireturn (gd rfl) rfl rfl (hP _ _ ⟨sc226, hIc226, hFc226, (Int32.ofInt 0), rfl, rfl, in_w (-4) 0 (in_c 0 rfl) rfl⟩)
      · skip
        have i229 := r_lt1 0 59 c229 j226_2 (in_c 60 rfl) rfl
        refine g_aload_n 233 (gd rfl) rfl rfl ?_
        refine g_getA (q2 := 172) 236 (gd rfl) rfl rfl rfl rfl ?_
        refine g_iload_n 237 (gd rfl) rfl rfl ?_
        refine g_aload_n 238 (gd rfl) rfl rfl ?_
        refine g_getA (q2 := 174) 241 (gd rfl) rfl rfl rfl rfl ?_
        refine g_iload_n 242 (gd rfl) rfl rfl ?_
        refine g_iaload 243 (gd rfl) rfl (n := 60) rfl (in_ix i229 rfl) (fun z242 e242 => ?_)
        have i242 := inv_I hIc226 (n := 60) (t := 0) 0 26 rfl (in_ix i229 rfl) rfl e242
        refine g_iastore 244 (gd rfl) rfl (n := 60) rfl (in_ix i229 rfl) ?_
        have hI243 := inv_sI (q := 172) (j := y226_2.toNatClampNeg) hIc226 rfl (in_w 0 26 i242 rfl)
        refine g_aload_n 245 (gd rfl) rfl rfl ?_
        refine g_getA (q2 := 173) 248 (gd rfl) rfl rfl rfl rfl ?_
        refine g_iload_n 249 (gd rfl) rfl rfl ?_
        refine g_aload_n 250 (gd rfl) rfl rfl ?_
        refine g_getA (q2 := 175) 253 (gd rfl) rfl rfl rfl rfl ?_
        refine g_iload_n 254 (gd rfl) rfl rfl ?_
        refine g_laload 255 (gd rfl) rfl (n := 60) rfl (in_ix i229 rfl) (fun z254 e254 => ?_)
        refine g_lastore 256 (gd rfl) rfl (n := 60) rfl (in_ix i229 rfl) ?_
        have hI255 := inv_sL (q := 173) (j := y226_2.toNatClampNeg) (x := z254) hI243 rfl (l_rng z254)
        refine g_iinc 259 (gd rfl) rfl rfl (Nat.le_of_ble_eq_true rfl) (fun z256 e256 => ?_)
        have i256 := in_add 1 60 e256 i229 (in_c 1 rfl) rfl rfl
        refine g_goto 226 (gd rfl) rfl ?_
        exact gg_w (by first | exact Nat.le_add_right _ _ | exact gw2 | exact gw3 | exact gwe rfl | exact gwf rfl | exact gwg rfl | exact gwh rfl | omega) (gg_f (gf_cons rfl (gf_cons rfl (gf_cons rfl gf_nil))) (ih226 (sL (sI sc226 172 y226_2.toNatClampNeg z242) 173 y226_2.toNatClampNeg z254) y226_1 z256 hI255 (fr_sL rfl (fr_sI rfl hFc226)) (in_w 0 60 j226_1 rfl) (in_w 0 60 i256 rfl) (m_up mm226 (t_add e256 i229 (in_c 1 rfl) rfl) (in_w 1 1 (in_c 1 rfl) rfl))))
  have ct63 : ∀ (k63 : Nat) (sc63 : GS) (y63_1 : Int32) (y63_2 : Int32), Inv sc63 → Fr fm_386 s sc63 → (In y63_1 0 60) → (In y63_2 0 60) → ((u_109_22).toInt ≤ 60) → ((y63_1).toInt ≤ (y63_2).toInt) → 60 - (y63_2).toInt < (k63 : Int) → GG Z (d - 1) 386 post (gx xp) (54902 + k63 * 900) 63 (fun j => xlook j [(0, .ref (A 109)), (1, .int y63_1), (2, .int y63_2)]) [] (WW Z A sc63 ++ ex) 0 0 := by
    intro k63
    induction k63 with
    | zero => intro sc63 y63_1 y63_2 hIc63 hFc63 j63_1 j63_2 n63_0 n63_1 mm63; exact m_no mm63 j63_2 rfl
    | succ k63 ih63 =>
      intro sc63 y63_1 y63_2 hIc63 hFc63 j63_1 j63_2 n63_0 n63_1 mm63
      refine gg_w (M := 54902 + k63 * 900 + 900) gws ?_
      refine g_iload_n 64 (gd rfl) rfl rfl ?_
      refine g_aload_n 65 (gd rfl) rfl rfl ?_
      refine g_getI 68 (gd rfl) rfl rfl rfl (fun z65 e65 => ?_)
      have q65 : u_109_22 = z65 := (fr_F e_109_22 hFc63 rfl).trans e65.symm
      subst q65
      refine g_cmp_ge 71 152 (gd rfl) rfl rfl (fun c68 => ?_) (fun c68 => ?_)
      · skip
        have i68 := r_le1 0 60 c68 ro_109_22 j63_2 rfl
        refine g_aload_n 153 (gd rfl) rfl rfl ?_
        refine g_getI 156 (gd rfl) rfl rfl rfl (fun z153 e153 => ?_)
        have i153 := inv_F hIc63 0 9 rfl e153
        refine g_if_ne 159 175 (gd rfl) rfl rfl (fun c156 => ?_) (fun c156 => ?_)
        · skip
          have i156 := z_ne 1 9 c156 i153 rfl
          refine g_aload_n 176 (gd rfl) rfl rfl ?_
          refine g_getI 179 (gd rfl) rfl rfl rfl (fun z176 e176 => ?_)
          have q176 : z153 = z176 := (e153).trans e176.symm
          subst q176
          refine g_if_le 182 185 (gd rfl) rfl rfl (fun c179 => ?_) (fun c179 => ?_)
          · skip
            exact zn_le c179 i156 rfl
          · skip
            refine g_bipush (-4) 184 (gd rfl) rfl rfl ?_
            exact g_ireturn (gd rfl) rfl rfl (hP _ _ ⟨sc63, hIc63, hFc63, (Int32.ofInt (-4)), rfl, rfl, in_w (-4) 0 (in_c (-4) rfl) rfl⟩)
        · skip
          have i156 := z_eq 0 0 c156 i153 rfl
          refine g_aload_n 160 (gd rfl) rfl rfl ?_
          refine g_getI 163 (gd rfl) rfl rfl rfl (fun z160 e160 => ?_)
          have i160 := inv_F hIc63 0 10 rfl e160
          refine g_if_le 166 175 (gd rfl) rfl rfl (fun c163 => ?_) (fun c163 => ?_)
          · skip
            have i163 := z_le 0 0 c163 i160 rfl
            refine g_aload_n 176 (gd rfl) rfl rfl ?_
            refine g_getI 179 (gd rfl) rfl rfl rfl (fun z176 e176 => ?_)
            have q176 : z153 = z176 := (e153).trans e176.symm
            subst q176
            refine g_if_le 182 185 (gd rfl) rfl rfl (fun c179 => ?_) (fun c179 => ?_)
            · skip
              refine g_aload_n 186 (gd rfl) rfl rfl ?_
              refine g_callv (X := _) (As := []) (r := []) (b := A 109) (q := 109) 189 (gd rfl) rfl rfl rfl rfl rfl (ww_o rfl) (Nat.le_of_ble_eq_true rfl) (Nat.zero_le _) (Nat.zero_le _) (k_385 (by first | exact dq1 hd rfl | exact dq0 hd rfl | exact dq2 hd rfl | exact dq3 hd rfl | omega) hIc63 ) (fun e u h => h) (fun v u h => ?_)
              obtain ⟨s186, hI186, hF186, rfl, rfl⟩ := h
              show GG _ _ _ _ _ _ _ _ [] _ _ _
              refine g_aload_n 190 (gd rfl) rfl rfl ?_
              refine g_iload_n 191 (gd rfl) rfl rfl ?_
              refine g_putI 194 (gd rfl) rfl rfl rfl rfl ?_
              have hI191 := inv_sF (q := 109) (j := 81) hI186 rfl (in_w 0 60 j63_1 rfl)
              refine g_aload_n 195 (gd rfl) rfl rfl ?_
              refine g_aload_n 196 (gd rfl) rfl rfl ?_
              refine g_getA (q2 := 177) 199 (gd rfl) rfl rfl rfl rfl ?_
              refine g_iconst 0 200 (gd rfl) rfl rfl ?_
              refine g_baload 201 (gd rfl) rfl (n := 12) rfl (in_ix (in_c 0 rfl) rfl) (fun z200 e200 => ?_)
              have i200 := inv_I hI191 (n := 12) (t := 3) 0 1 rfl (in_ix (in_c 0 rfl) rfl) rfl e200
              refine g_putZ 204 (gd rfl) rfl rfl rfl rfl (in01 (in_w 0 1 i200 rfl)) ?_
              have hI201 := inv_sF (q := 109) (j := 84) hI191 rfl (in_w 0 1 i200 rfl)
              refine g_aload_n 205 (gd rfl) rfl rfl ?_
              refine g_aload_n 206 (gd rfl) rfl rfl ?_
              refine g_getA (q2 := 178) 209 (gd rfl) rfl rfl rfl rfl ?_
              refine g_iconst 0 210 (gd rfl) rfl rfl ?_
              refine g_laload 211 (gd rfl) rfl (n := 12) rfl (in_ix (in_c 0 rfl) rfl) (fun z210 e210 => ?_)
              refine g_putL 214 (gd rfl) rfl rfl rfl rfl ?_
              have hI211 := inv_sG (q := 109) (j := 85) (x := z210) hI201 rfl (l_rng z210)
              refine g_aload_n 215 (gd rfl) rfl rfl ?_
              refine g_aload_n 216 (gd rfl) rfl rfl ?_
              refine g_getA (q2 := 179) 219 (gd rfl) rfl rfl rfl rfl ?_
              refine g_iconst 0 220 (gd rfl) rfl rfl ?_
              refine g_laload 221 (gd rfl) rfl (n := 12) rfl (in_ix (in_c 0 rfl) rfl) (fun z220 e220 => ?_)
              refine g_putL 224 (gd rfl) rfl rfl rfl rfl ?_
              have hI221 := inv_sG (q := 109) (j := 86) (x := z220) hI211 rfl (l_rng z220)
              refine g_iconst 0 225 (gd rfl) rfl rfl ?_
              refine g_istore_n 226 (gd rfl) rfl (Nat.le_of_ble_eq_true rfl) ?_
              exact gg_w (by first | exact Nat.le_add_right _ _ | exact gw2 | exact gw3 | exact gwe rfl | exact gwf rfl | exact gwg rfl | exact gwh rfl | omega) (gg_f (gf_cons rfl (gf_cons rfl (gf_cons rfl gf_nil))) (ct226 61 (sG (sG (sF (sF s186 109 81 y63_1) 109 84 z200) 109 85 z210) 109 86 z220) y63_1 (Int32.ofInt 0) hI221 (fr_sG rfl (fr_sG rfl (fr_sF rfl (fr_sF rfl (fr_tr rfl hFc63 hF186))))) (in_w 0 60 j63_1 rfl) (in_w 0 60 (in_c 0 rfl) rfl) (m_in 61 (in_w 0 60 (in_c 0 rfl) rfl) rfl)))
            · skip
              exact zn_gt c179 i156 rfl
          · skip
            have i163 := z_gt 1 10 c163 i160 rfl
            refine g_aload_n 167 (gd rfl) rfl rfl ?_
            refine g_iconst 2 168 (gd rfl) rfl rfl ?_
            refine g_aload_n 169 (gd rfl) rfl rfl ?_
            refine g_getI 172 (gd rfl) rfl rfl rfl (fun z169 e169 => ?_)
            have q169 : u_109_22 = z169 := (fr_F e_109_22 hFc63 rfl).trans e169.symm
            subst q169
            refine g_callv (X := _) (As := [.int (Int32.ofInt 2), .int u_109_22]) (r := []) (b := A 109) (q := 109) 175 (gd rfl) rfl rfl rfl rfl rfl (ww_o rfl) (Nat.le_of_ble_eq_true rfl) (Nat.zero_le _) (Nat.zero_le _) (k_298 (by first | exact dq1 hd rfl | exact dq0 hd rfl | exact dq2 hd rfl | exact dq3 hd rfl | omega) hIc63 (in_w 1 5 (in_c 2 rfl) rfl)) (fun e u h => h) (fun v u h => ?_)
            obtain ⟨s172, hI172, hF172, n172, rfl, rfl⟩ := h
            obtain ⟨z172a, e172⟩ : ∃ w, w = s172.2.2.1 109 23 := ⟨_, rfl⟩
            have i172a := inv_F hI172 0 9 rfl e172
            rw [← (show z172a = s172.2.2.1 109 23 from e172)] at n172
            show GG _ _ _ _ _ _ _ _ [] _ _ _
            refine g_aload_n 176 (gd rfl) rfl rfl ?_
            refine g_getI 179 (gd rfl) rfl rfl rfl (fun z176 e176 => ?_)
            have q176 : z172a = z176 := (e172).trans e176.symm
            subst q176
            refine g_if_le 182 185 (gd rfl) rfl rfl (fun c179 => ?_) (fun c179 => ?_)
            · skip
              have i179 := z_le 0 0 c179 i172a rfl
              refine g_aload_n 186 (gd rfl) rfl rfl ?_
              refine g_callv (X := _) (As := []) (r := []) (b := A 109) (q := 109) 189 (gd rfl) rfl rfl rfl rfl rfl (ww_o rfl) (Nat.le_of_ble_eq_true rfl) (Nat.zero_le _) (Nat.zero_le _) (k_385 (by first | exact dq1 hd rfl | exact dq0 hd rfl | exact dq2 hd rfl | exact dq3 hd rfl | omega) hI172 ) (fun e u h => h) (fun v u h => ?_)
              obtain ⟨s186, hI186, hF186, rfl, rfl⟩ := h
              show GG _ _ _ _ _ _ _ _ [] _ _ _
              refine g_aload_n 190 (gd rfl) rfl rfl ?_
              refine g_iload_n 191 (gd rfl) rfl rfl ?_
              refine g_putI 194 (gd rfl) rfl rfl rfl rfl ?_
              have hI191 := inv_sF (q := 109) (j := 81) hI186 rfl (in_w 0 60 j63_1 rfl)
              refine g_aload_n 195 (gd rfl) rfl rfl ?_
              refine g_aload_n 196 (gd rfl) rfl rfl ?_
              refine g_getA (q2 := 177) 199 (gd rfl) rfl rfl rfl rfl ?_
              refine g_iconst 0 200 (gd rfl) rfl rfl ?_
              refine g_baload 201 (gd rfl) rfl (n := 12) rfl (in_ix (in_c 0 rfl) rfl) (fun z200 e200 => ?_)
              have i200 := inv_I hI191 (n := 12) (t := 3) 0 1 rfl (in_ix (in_c 0 rfl) rfl) rfl e200
              refine g_putZ 204 (gd rfl) rfl rfl rfl rfl (in01 (in_w 0 1 i200 rfl)) ?_
              have hI201 := inv_sF (q := 109) (j := 84) hI191 rfl (in_w 0 1 i200 rfl)
              refine g_aload_n 205 (gd rfl) rfl rfl ?_
              refine g_aload_n 206 (gd rfl) rfl rfl ?_
              refine g_getA (q2 := 178) 209 (gd rfl) rfl rfl rfl rfl ?_
              refine g_iconst 0 210 (gd rfl) rfl rfl ?_
              refine g_laload 211 (gd rfl) rfl (n := 12) rfl (in_ix (in_c 0 rfl) rfl) (fun z210 e210 => ?_)
              refine g_putL 214 (gd rfl) rfl rfl rfl rfl ?_
              have hI211 := inv_sG (q := 109) (j := 85) (x := z210) hI201 rfl (l_rng z210)
              refine g_aload_n 215 (gd rfl) rfl rfl ?_
              refine g_aload_n 216 (gd rfl) rfl rfl ?_
              refine g_getA (q2 := 179) 219 (gd rfl) rfl rfl rfl rfl ?_
              refine g_iconst 0 220 (gd rfl) rfl rfl ?_
              refine g_laload 221 (gd rfl) rfl (n := 12) rfl (in_ix (in_c 0 rfl) rfl) (fun z220 e220 => ?_)
              refine g_putL 224 (gd rfl) rfl rfl rfl rfl ?_
              have hI221 := inv_sG (q := 109) (j := 86) (x := z220) hI211 rfl (l_rng z220)
              refine g_iconst 0 225 (gd rfl) rfl rfl ?_
              refine g_istore_n 226 (gd rfl) rfl (Nat.le_of_ble_eq_true rfl) ?_
              exact gg_w (by first | exact Nat.le_add_right _ _ | exact gw2 | exact gw3 | exact gwe rfl | exact gwf rfl | exact gwg rfl | exact gwh rfl | omega) (gg_f (gf_cons rfl (gf_cons rfl (gf_cons rfl gf_nil))) (ct226 61 (sG (sG (sF (sF s186 109 81 y63_1) 109 84 z200) 109 85 z210) 109 86 z220) y63_1 (Int32.ofInt 0) hI221 (fr_sG rfl (fr_sG rfl (fr_sF rfl (fr_sF rfl (fr_tr rfl (fr_tr rfl hFc63 hF172) hF186))))) (in_w 0 60 j63_1 rfl) (in_w 0 60 (in_c 0 rfl) rfl) (m_in 61 (in_w 0 60 (in_c 0 rfl) rfl) rfl)))
            · skip
              have i179 := z_gt 1 9 c179 i172a rfl
              refine g_bipush (-4) 184 (gd rfl) rfl rfl ?_
              exact g_ireturn (gd rfl) rfl rfl (hP _ _ ⟨s172, hI172, (fr_tr rfl hFc63 hF172), (Int32.ofInt (-4)), rfl, rfl, in_w (-4) 0 (in_c (-4) rfl) rfl⟩)
      · skip
        have i68 := r_lt2 1 1000 c68 j63_2 ro_109_22 rfl
        refine g_aload_n 72 (gd rfl) rfl rfl ?_
        refine g_getI 75 (gd rfl) rfl rfl rfl (fun z72 e72 => ?_)
        have i72 := inv_F hIc63 0 9 rfl e72
        refine g_if_ne 78 152 (gd rfl) rfl rfl (fun c75 => ?_) (fun c75 => ?_)
        · skip
          have i75 := z_ne 1 9 c75 i72 rfl
          refine g_aload_n 153 (gd rfl) rfl rfl ?_
          refine g_getI 156 (gd rfl) rfl rfl rfl (fun z153 e153 => ?_)
          have q153 : z72 = z153 := (e72).trans e153.symm
          subst q153
          refine g_if_ne 159 175 (gd rfl) rfl rfl (fun c156 => ?_) (fun c156 => ?_)
          · skip
            refine g_aload_n 176 (gd rfl) rfl rfl ?_
            refine g_getI 179 (gd rfl) rfl rfl rfl (fun z176 e176 => ?_)
            have q176 : z72 = z176 := (e72).trans e176.symm
            subst q176
            refine g_if_le 182 185 (gd rfl) rfl rfl (fun c179 => ?_) (fun c179 => ?_)
            · skip
              exact zn_le c179 i75 rfl
            · skip
              refine g_bipush (-4) 184 (gd rfl) rfl rfl ?_
              exact g_ireturn (gd rfl) rfl rfl (hP _ _ ⟨sc63, hIc63, hFc63, (Int32.ofInt (-4)), rfl, rfl, in_w (-4) 0 (in_c (-4) rfl) rfl⟩)
          · skip
            exact zn_eq c156 i75 rfl
        · skip
          have i75 := z_eq 0 0 c75 i72 rfl
          refine g_aload_n 79 (gd rfl) rfl rfl ?_
          refine g_getA (q2 := 125) 82 (gd rfl) rfl rfl rfl rfl ?_
          refine g_iload_n 83 (gd rfl) rfl rfl ?_
          refine g_iaload 84 (gd rfl) rfl (n := 1000) rfl (in_ix j63_2 rfl) (fun z83 e83 => ?_)
          have i83 := inv_I hIc63 (n := 1000) (t := 0) 0 126 rfl (in_ix j63_2 rfl) rfl e83
          refine g_istore_n 85 (gd rfl) rfl (Nat.le_of_ble_eq_true rfl) ?_
          refine g_iload_n 86 (gd rfl) rfl rfl ?_
          refine g_calls (As := [.int z83]) (r := []) 89 (gd rfl) rfl rfl rfl rfl rfl (Nat.le_of_ble_eq_true rfl) (mc := 0) (ms := 0) (Nat.zero_le _) (Nat.zero_le _) (P := fun v u => _) ?_ (fun v u h => h)
          intro po86 xx86 hp86 hx86
          refine g_enter2 (k := 296) (N := 300) (by first | exact dq1 hd rfl | exact dq0 hd rfl | exact dq2 hd rfl | exact dq3 hd rfl | omega) rfl (Nat.le_of_ble_eq_true rfl) ?_
          refine g_iload_n 1 (gd rfl) rfl rfl ?_
          refine g_bipush 97 3 (gd rfl) rfl rfl ?_
          refine g_cmp_lt 6 16 (gd rfl) rfl rfl (fun c86x3 => ?_) (fun c86x3 => ?_)
          · skip
            have i86x3 := r_lt1 0 96 c86x3 i83 (in_c 97 rfl) rfl
            refine g_iconst 0 17 (gd rfl) rfl rfl ?_
            refine g_ireturn (gd rfl) rfl (nb01 (in_w 0 1 (in_c 0 rfl) rfl)) (hp86 _ _ ?_)
            show GG _ _ _ _ _ _ _ _ [.int (Int32.ofInt 0)] _ _ _
            refine g_if_ne 92 98 (gd rfl) rfl rfl (fun c89 => ?_) (fun c89 => ?_)
            · skip
              exact zn_ne c89 (in_c 0 rfl) rfl
            · skip
              refine g_iload_n 93 (gd rfl) rfl rfl ?_
              refine g_bipush 46 95 (gd rfl) rfl rfl ?_
              refine g_cmp_ne 98 140 (gd rfl) rfl rfl (fun c95 => ?_) (fun c95 => ?_)
              · skip
                refine g_aload_n 141 (gd rfl) rfl rfl ?_
                refine g_iload_n 142 (gd rfl) rfl rfl ?_
                refine g_iload_n 143 (gd rfl) rfl rfl ?_
                refine g_callv (X := _) (As := [.int z83, .int y63_2]) (r := []) (b := A 109) (q := 109) 146 (gd rfl) rfl rfl rfl rfl rfl (ww_o rfl) (Nat.le_of_ble_eq_true rfl) (Nat.zero_le _) (Nat.zero_le _) (k_388 (by first | exact dq1 hd rfl | exact dq0 hd rfl | exact dq2 hd rfl | exact dq3 hd rfl | omega) hIc63 (in_w 0 126 i86x3 rfl) (in_w 0 60 j63_2 rfl)) (fun e u h => h) (fun v u h => ?_)
                obtain ⟨s143, hI143, hF143, rfl, rfl⟩ := h
                show GG _ _ _ _ _ _ _ _ [] _ _ _
                refine g_iinc 149 (gd rfl) rfl rfl (Nat.le_of_ble_eq_true rfl) (fun z146 e146 => ?_)
                have i146 := in_add 1 61 e146 j63_2 (in_c 1 rfl) rfl rfl
                refine g_goto 63 (gd rfl) rfl ?_
                have i63 : In z146 0 60 := by exact ⟨by have a0 := oa5 i68 j63_2 j63_1 i86x3 i146; have a5 := t_add e146 j63_2 (in_c 1 rfl) rfl; have a6 := in_u ((in_c 1 rfl)); omega, by have a0 := oa5 i68 j63_2 j63_1 i86x3 i146; have a5 := t_add e146 j63_2 (in_c 1 rfl) rfl; have a6 := in_u ((in_c 1 rfl)); omega⟩
                have n63 : (u_109_22).toInt ≤ 60 := by first | exact n63_0 | (have a0 := oa5 i68 j63_2 j63_1 i86x3 i63; have a5 := t_add e146 j63_2 (in_c 1 rfl) rfl; have a6 := in_u ((in_c 1 rfl)); omega)
                have n63a : (y63_1).toInt ≤ (z146).toInt := by have a0 := oa5 i68 j63_2 j63_1 i86x3 i63; have a5 := t_add e146 j63_2 (in_c 1 rfl) rfl; have a6 := in_u ((in_c 1 rfl)); omega
                exact gg_w (by first | exact Nat.le_add_right _ _ | exact gw2 | exact gw3 | exact gwe rfl | exact gwf rfl | exact gwg rfl | exact gwh rfl | omega) (gg_f (gf_cons rfl (gf_cons rfl (gf_cons rfl gf_nil))) (ih63 s143 y63_1 z146 hI143 (fr_tr rfl hFc63 hF143) (in_w 0 60 j63_1 rfl) i63 n63 n63a (m_up mm63 (t_add e146 j63_2 (in_c 1 rfl) rfl) (in_w 1 1 (in_c 1 rfl) rfl))))
              · skip
                have i95 := r_eq1 46 46 c95 i86x3 (in_c 46 rfl) rfl
                refine g_aload_n 99 (gd rfl) rfl rfl ?_
                refine g_callv (X := _) (As := []) (r := []) (b := A 109) (q := 109) 102 (gd rfl) rfl rfl rfl rfl rfl (ww_o rfl) (Nat.le_of_ble_eq_true rfl) (Nat.zero_le _) (Nat.zero_le _) (k_384 (by first | exact dq1 hd rfl | exact dq0 hd rfl | exact dq2 hd rfl | exact dq3 hd rfl | omega) hIc63 ) (fun e u h => h) (fun v u h => ?_)
                obtain ⟨s99, hI99, hF99, rfl, rfl⟩ := h
                show GG _ _ _ _ _ _ _ _ [] _ _ _
                refine g_aload_n 103 (gd rfl) rfl rfl ?_
                refine g_getA (q2 := 174) 106 (gd rfl) rfl rfl rfl rfl ?_
                refine g_iload_n 107 (gd rfl) rfl rfl ?_
                refine g_iload_n 108 (gd rfl) rfl rfl ?_
                refine g_bipush 46 110 (gd rfl) rfl rfl ?_
                refine g_cmp_ne 113 118 (gd rfl) rfl rfl (fun c110 => ?_) (fun c110 => ?_)
                · skip
                  exact n_ne c110 i95 (in_c 46 rfl) rfl
                · skip
                  refine g_bipush 26 115 (gd rfl) rfl rfl ?_
                  refine g_goto 122 (gd rfl) rfl ?_
                  have i122 : In y63_1 0 59 := by have a0 := oa5 i68 j63_2 j63_1 i95 i75; exact ⟨by omega, by omega⟩
                  refine g_iastore 123 (gd rfl) rfl (n := 60) rfl (in_ix i122 rfl) ?_
                  have hI122 := inv_sI (q := 174) (j := y63_1.toNatClampNeg) hI99 rfl (in_w 0 26 (in_c 26 rfl) rfl)
                  refine g_aload_n 124 (gd rfl) rfl rfl ?_
                  refine g_iconst 0 125 (gd rfl) rfl rfl ?_
                  refine g_lconst 1 126 (gd rfl) rfl rfl ?_
                  refine g_iload_n 127 (gd rfl) rfl rfl ?_
                  refine g_lshl 128 (gd rfl) rfl (fun z127 e127 => ?_)
                  have i127 := l_shl 59 e127 i122 rfl
                  refine g_lconst 1 129 (gd rfl) rfl rfl ?_
                  refine g_iload_n 130 (gd rfl) rfl rfl ?_
                  refine g_lshl 131 (gd rfl) rfl (fun z130 e130 => ?_)
                  have i130 := l_shl 59 e130 i122 rfl
                  refine g_callv (X := _) (As := [.int (Int32.ofInt 0), .long z127, .long z130]) (r := []) (b := A 109) (q := 109) 134 (gd rfl) rfl rfl rfl rfl rfl (ww_o rfl) (Nat.le_of_ble_eq_true rfl) (mc := 0) (ms := 0) (Nat.zero_le _) (Nat.zero_le _) (P := fun v u => _) ?_ (fun e u h => h) (fun v u h => h)
                  intro po131 xx131 hp131 hx131
                  refine g_enter2 (k := 387) (N := 300) (by first | exact dq1 hd rfl | exact dq0 hd rfl | exact dq2 hd rfl | exact dq3 hd rfl | omega) rfl (Nat.le_of_ble_eq_true rfl) ?_
                  refine g_aload_n 1 (gd rfl) rfl rfl ?_
                  refine g_iconst 1 2 (gd rfl) rfl rfl ?_
                  refine g_putZ 5 (gd rfl) rfl rfl rfl rfl (in01 (in_w 0 1 (in_c 1 rfl) rfl)) ?_
                  have hI131x2 := inv_sF (q := 109) (j := 97) hI122 rfl (in_w 0 1 (in_c 1 rfl) rfl)
                  refine g_aload_n 6 (gd rfl) rfl rfl ?_
                  refine g_iconst 1 7 (gd rfl) rfl rfl ?_
                  refine g_putZ 10 (gd rfl) rfl rfl rfl rfl (in01 (in_w 0 1 (in_c 1 rfl) rfl)) ?_
                  have hI131x7 := inv_sF (q := 109) (j := 98) hI131x2 rfl (in_w 0 1 (in_c 1 rfl) rfl)
                  refine g_aload_n 11 (gd rfl) rfl rfl ?_
                  refine g_iload_n 12 (gd rfl) rfl rfl ?_
                  refine g_putZ 15 (gd rfl) rfl rfl rfl rfl (in01 (in_w 0 1 (in_c 0 rfl) rfl)) ?_
                  have hI131x12 := inv_sF (q := 109) (j := 99) hI131x7 rfl (in_w 0 1 (in_c 0 rfl) rfl)
                  refine g_aload_n 16 (gd rfl) rfl rfl ?_
                  refine g_lload_n 17 (gd rfl) rfl rfl ?_
                  refine g_putL 20 (gd rfl) rfl rfl rfl rfl ?_
                  have hI131x17 := inv_sG (q := 109) (j := 100) (x := z127) hI131x12 rfl (l_rng z127)
                  refine g_aload_n 21 (gd rfl) rfl rfl ?_
                  refine g_lload 23 (gd rfl) rfl rfl ?_
                  refine g_putL 26 (gd rfl) rfl rfl rfl rfl ?_
                  have hI131x23 := inv_sG (q := 109) (j := 101) (x := z130) hI131x17 rfl (l_rng z130)
                  refine g_return (gd rfl) rfl (hp131 _ _ ?_)
                  show GG _ _ _ _ _ _ _ _ [] _ _ _
                  refine g_iinc 137 (gd rfl) rfl rfl (Nat.le_of_ble_eq_true rfl) (fun z134 e134 => ?_)
                  have i134 := in_add 1 60 e134 i122 (in_c 1 rfl) rfl rfl
                  refine g_goto 146 (gd rfl) rfl ?_
                  refine g_iinc 149 (gd rfl) rfl rfl (Nat.le_of_ble_eq_true rfl) (fun z146 e146 => ?_)
                  have i146 := in_add 1 61 e146 j63_2 (in_c 1 rfl) rfl rfl
                  refine g_goto 63 (gd rfl) rfl ?_
                  have i63 : In z146 0 60 := by exact ⟨by have a0 := oa5 i68 j63_2 i122 i95 i146; have a5 := t_add e146 j63_2 (in_c 1 rfl) rfl; have a6 := oa2 ((in_c 1 rfl)) i134; have a8 := t_add e134 i122 (in_c 1 rfl) rfl; have a9 := oa2 ((in_c 0 rfl)) i75; omega, by have a0 := oa5 i68 j63_2 i122 i95 i146; have a5 := t_add e146 j63_2 (in_c 1 rfl) rfl; have a6 := oa2 ((in_c 1 rfl)) i134; have a8 := t_add e134 i122 (in_c 1 rfl) rfl; have a9 := oa2 ((in_c 0 rfl)) i75; omega⟩
                  have n63 : (u_109_22).toInt ≤ 60 := by first | exact n63_0 | (have a0 := oa5 i68 j63_2 i122 i95 i63; have a5 := t_add e146 j63_2 (in_c 1 rfl) rfl; have a6 := oa2 ((in_c 1 rfl)) i134; have a8 := t_add e134 i122 (in_c 1 rfl) rfl; have a9 := oa2 ((in_c 0 rfl)) i75; omega)
                  have n63a : (z134).toInt ≤ (z146).toInt := by have a0 := oa5 i68 j63_2 i122 i95 i63; have a5 := t_add e146 j63_2 (in_c 1 rfl) rfl; have a6 := oa2 ((in_c 1 rfl)) i134; have a8 := t_add e134 i122 (in_c 1 rfl) rfl; have a9 := oa2 ((in_c 0 rfl)) i75; omega
                  exact gg_w (by first | exact Nat.le_add_right _ _ | exact gw2 | exact gw3 | exact gwe rfl | exact gwf rfl | exact gwg rfl | exact gwh rfl | omega) (gg_f (gf_cons rfl (gf_cons rfl (gf_cons rfl gf_nil))) (ih63 (sG (sG (sF (sF (sF (sI s99 174 y63_1.toNatClampNeg (Int32.ofInt 26)) 109 97 (Int32.ofInt 1)) 109 98 (Int32.ofInt 1)) 109 99 (Int32.ofInt 0)) 109 100 z127) 109 101 z130) z134 z146 hI131x23 (fr_sG rfl (fr_sG rfl (fr_sF rfl (fr_sF rfl (fr_sF rfl (fr_sI rfl (fr_tr rfl hFc63 hF99))))))) (in_w 0 60 i134 rfl) i63 n63 n63a (m_up mm63 (t_add e146 j63_2 (in_c 1 rfl) rfl) (in_w 1 1 (in_c 1 rfl) rfl))))
          · skip
            have i86x3 := r_le2 97 126 c86x3 (in_c 97 rfl) i83 rfl
            refine g_iload_n 7 (gd rfl) rfl rfl ?_
            refine g_bipush 122 9 (gd rfl) rfl rfl ?_
            refine g_cmp_gt 12 16 (gd rfl) rfl rfl (fun c86x9 => ?_) (fun c86x9 => ?_)
            · skip
              have i86x9 := r_lt2 123 126 c86x9 (in_c 122 rfl) i86x3 rfl
              refine g_iconst 0 17 (gd rfl) rfl rfl ?_
              refine g_ireturn (gd rfl) rfl (nb01 (in_w 0 1 (in_c 0 rfl) rfl)) (hp86 _ _ ?_)
              show GG _ _ _ _ _ _ _ _ [.int (Int32.ofInt 0)] _ _ _
              refine g_if_ne 92 98 (gd rfl) rfl rfl (fun c89 => ?_) (fun c89 => ?_)
              · skip
                exact zn_ne c89 (in_c 0 rfl) rfl
              · skip
                refine g_iload_n 93 (gd rfl) rfl rfl ?_
                refine g_bipush 46 95 (gd rfl) rfl rfl ?_
                refine g_cmp_ne 98 140 (gd rfl) rfl rfl (fun c95 => ?_) (fun c95 => ?_)
                · skip
                  refine g_aload_n 141 (gd rfl) rfl rfl ?_
                  refine g_iload_n 142 (gd rfl) rfl rfl ?_
                  refine g_iload_n 143 (gd rfl) rfl rfl ?_
                  refine g_callv (X := _) (As := [.int z83, .int y63_2]) (r := []) (b := A 109) (q := 109) 146 (gd rfl) rfl rfl rfl rfl rfl (ww_o rfl) (Nat.le_of_ble_eq_true rfl) (Nat.zero_le _) (Nat.zero_le _) (k_388 (by first | exact dq1 hd rfl | exact dq0 hd rfl | exact dq2 hd rfl | exact dq3 hd rfl | omega) hIc63 (in_w 0 126 i86x9 rfl) (in_w 0 60 j63_2 rfl)) (fun e u h => h) (fun v u h => ?_)
                  obtain ⟨s143, hI143, hF143, rfl, rfl⟩ := h
                  show GG _ _ _ _ _ _ _ _ [] _ _ _
                  refine g_iinc 149 (gd rfl) rfl rfl (Nat.le_of_ble_eq_true rfl) (fun z146 e146 => ?_)
                  have i146 := in_add 1 61 e146 j63_2 (in_c 1 rfl) rfl rfl
                  refine g_goto 63 (gd rfl) rfl ?_
                  have i63 : In z146 0 60 := by exact ⟨by have a0 := oa5 i68 j63_2 j63_1 i86x9 i146; have a5 := t_add e146 j63_2 (in_c 1 rfl) rfl; have a6 := in_u ((in_c 1 rfl)); omega, by have a0 := oa5 i68 j63_2 j63_1 i86x9 i146; have a5 := t_add e146 j63_2 (in_c 1 rfl) rfl; have a6 := in_u ((in_c 1 rfl)); omega⟩
                  have n63 : (u_109_22).toInt ≤ 60 := by first | exact n63_0 | (have a0 := oa5 i68 j63_2 j63_1 i86x9 i63; have a5 := t_add e146 j63_2 (in_c 1 rfl) rfl; have a6 := in_u ((in_c 1 rfl)); omega)
                  have n63a : (y63_1).toInt ≤ (z146).toInt := by have a0 := oa5 i68 j63_2 j63_1 i86x9 i63; have a5 := t_add e146 j63_2 (in_c 1 rfl) rfl; have a6 := in_u ((in_c 1 rfl)); omega
                  exact gg_w (by first | exact Nat.le_add_right _ _ | exact gw2 | exact gw3 | exact gwe rfl | exact gwf rfl | exact gwg rfl | exact gwh rfl | omega) (gg_f (gf_cons rfl (gf_cons rfl (gf_cons rfl gf_nil))) (ih63 s143 y63_1 z146 hI143 (fr_tr rfl hFc63 hF143) (in_w 0 60 j63_1 rfl) i63 n63 n63a (m_up mm63 (t_add e146 j63_2 (in_c 1 rfl) rfl) (in_w 1 1 (in_c 1 rfl) rfl))))
                · skip
                  exact n_eq c95 i86x9 (in_c 46 rfl) rfl
            · skip
              have i86x9 := r_le1 97 122 c86x9 i86x3 (in_c 122 rfl) rfl
              refine g_iconst 1 13 (gd rfl) rfl rfl ?_
              refine g_goto 17 (gd rfl) rfl ?_
              refine g_ireturn (gd rfl) rfl (nb01 (in_w 0 1 (in_c 1 rfl) rfl)) (hp86 _ _ ?_)
              show GG _ _ _ _ _ _ _ _ [.int (Int32.ofInt 1)] _ _ _
              refine g_if_ne 92 98 (gd rfl) rfl rfl (fun c89 => ?_) (fun c89 => ?_)
              · skip
                refine g_aload_n 99 (gd rfl) rfl rfl ?_
                refine g_callv (X := _) (As := []) (r := []) (b := A 109) (q := 109) 102 (gd rfl) rfl rfl rfl rfl rfl (ww_o rfl) (Nat.le_of_ble_eq_true rfl) (Nat.zero_le _) (Nat.zero_le _) (k_384 (by first | exact dq1 hd rfl | exact dq0 hd rfl | exact dq2 hd rfl | exact dq3 hd rfl | omega) hIc63 ) (fun e u h => h) (fun v u h => ?_)
                obtain ⟨s99, hI99, hF99, rfl, rfl⟩ := h
                show GG _ _ _ _ _ _ _ _ [] _ _ _
                refine g_aload_n 103 (gd rfl) rfl rfl ?_
                refine g_getA (q2 := 174) 106 (gd rfl) rfl rfl rfl rfl ?_
                refine g_iload_n 107 (gd rfl) rfl rfl ?_
                refine g_iload_n 108 (gd rfl) rfl rfl ?_
                refine g_bipush 46 110 (gd rfl) rfl rfl ?_
                refine g_cmp_ne 113 118 (gd rfl) rfl rfl (fun c110 => ?_) (fun c110 => ?_)
                · skip
                  refine g_iload_n 119 (gd rfl) rfl rfl ?_
                  refine g_bipush 97 121 (gd rfl) rfl rfl ?_
                  refine g_isub 122 (gd rfl) rfl (fun z121 e121 => ?_)
                  have i121 := in_sub 0 25 e121 i86x9 (in_c 97 rfl) rfl rfl
                  have i122 : In y63_1 0 59 := by have a0 := oa6 i68 j63_2 j63_1 i86x9 i75 i121; have a6 := t_sub e121 i86x9 (in_c 97 rfl) rfl; have a7 := in_u ((in_c 97 rfl)); exact ⟨by omega, by omega⟩
                  refine g_iastore 123 (gd rfl) rfl (n := 60) rfl (in_ix i122 rfl) ?_
                  have hI122 := inv_sI (q := 174) (j := y63_1.toNatClampNeg) hI99 rfl (in_w 0 26 i121 rfl)
                  refine g_aload_n 124 (gd rfl) rfl rfl ?_
                  refine g_iconst 0 125 (gd rfl) rfl rfl ?_
                  refine g_lconst 1 126 (gd rfl) rfl rfl ?_
                  refine g_iload_n 127 (gd rfl) rfl rfl ?_
                  refine g_lshl 128 (gd rfl) rfl (fun z127 e127 => ?_)
                  have i127 := l_shl 59 e127 i122 rfl
                  refine g_lconst 1 129 (gd rfl) rfl rfl ?_
                  refine g_iload_n 130 (gd rfl) rfl rfl ?_
                  refine g_lshl 131 (gd rfl) rfl (fun z130 e130 => ?_)
                  have i130 := l_shl 59 e130 i122 rfl
                  refine g_callv (X := _) (As := [.int (Int32.ofInt 0), .long z127, .long z130]) (r := []) (b := A 109) (q := 109) 134 (gd rfl) rfl rfl rfl rfl rfl (ww_o rfl) (Nat.le_of_ble_eq_true rfl) (mc := 0) (ms := 0) (Nat.zero_le _) (Nat.zero_le _) (P := fun v u => _) ?_ (fun e u h => h) (fun v u h => h)
                  intro po131 xx131 hp131 hx131
                  refine g_enter2 (k := 387) (N := 300) (by first | exact dq1 hd rfl | exact dq0 hd rfl | exact dq2 hd rfl | exact dq3 hd rfl | omega) rfl (Nat.le_of_ble_eq_true rfl) ?_
                  refine g_aload_n 1 (gd rfl) rfl rfl ?_
                  refine g_iconst 1 2 (gd rfl) rfl rfl ?_
                  refine g_putZ 5 (gd rfl) rfl rfl rfl rfl (in01 (in_w 0 1 (in_c 1 rfl) rfl)) ?_
                  have hI131x2 := inv_sF (q := 109) (j := 97) hI122 rfl (in_w 0 1 (in_c 1 rfl) rfl)
                  refine g_aload_n 6 (gd rfl) rfl rfl ?_
                  refine g_iconst 1 7 (gd rfl) rfl rfl ?_
                  refine g_putZ 10 (gd rfl) rfl rfl rfl rfl (in01 (in_w 0 1 (in_c 1 rfl) rfl)) ?_
                  have hI131x7 := inv_sF (q := 109) (j := 98) hI131x2 rfl (in_w 0 1 (in_c 1 rfl) rfl)
                  refine g_aload_n 11 (gd rfl) rfl rfl ?_
                  refine g_iload_n 12 (gd rfl) rfl rfl ?_
                  refine g_putZ 15 (gd rfl) rfl rfl rfl rfl (in01 (in_w 0 1 (in_c 0 rfl) rfl)) ?_
                  have hI131x12 := inv_sF (q := 109) (j := 99) hI131x7 rfl (in_w 0 1 (in_c 0 rfl) rfl)
                  refine g_aload_n 16 (gd rfl) rfl rfl ?_
                  refine g_lload_n 17 (gd rfl) rfl rfl ?_
                  refine g_putL 20 (gd rfl) rfl rfl rfl rfl ?_
                  have hI131x17 := inv_sG (q := 109) (j := 100) (x := z127) hI131x12 rfl (l_rng z127)
                  refine g_aload_n 21 (gd rfl) rfl rfl ?_
                  refine g_lload 23 (gd rfl) rfl rfl ?_
                  refine g_putL 26 (gd rfl) rfl rfl rfl rfl ?_
                  have hI131x23 := inv_sG (q := 109) (j := 101) (x := z130) hI131x17 rfl (l_rng z130)
                  refine g_return (gd rfl) rfl (hp131 _ _ ?_)
                  show GG _ _ _ _ _ _ _ _ [] _ _ _
                  refine g_iinc 137 (gd rfl) rfl rfl (Nat.le_of_ble_eq_true rfl) (fun z134 e134 => ?_)
                  have i134 := in_add 1 60 e134 i122 (in_c 1 rfl) rfl rfl
                  refine g_goto 146 (gd rfl) rfl ?_
                  refine g_iinc 149 (gd rfl) rfl rfl (Nat.le_of_ble_eq_true rfl) (fun z146 e146 => ?_)
                  have i146 := in_add 1 61 e146 j63_2 (in_c 1 rfl) rfl rfl
                  refine g_goto 63 (gd rfl) rfl ?_
                  have i63 : In z146 0 60 := by exact ⟨by have a0 := oa5 i68 j63_2 i122 i86x9 i146; have a5 := t_add e146 j63_2 (in_c 1 rfl) rfl; have a6 := oa2 ((in_c 1 rfl)) i134; have a8 := t_add e134 i122 (in_c 1 rfl) rfl; have a9 := oa3 ((in_c 0 rfl)) i75 i121; have a12 := t_sub e121 i86x9 (in_c 97 rfl) rfl; have a13 := in_u ((in_c 97 rfl)); omega, by have a0 := oa5 i68 j63_2 i122 i86x9 i146; have a5 := t_add e146 j63_2 (in_c 1 rfl) rfl; have a6 := oa2 ((in_c 1 rfl)) i134; have a8 := t_add e134 i122 (in_c 1 rfl) rfl; have a9 := oa3 ((in_c 0 rfl)) i75 i121; have a12 := t_sub e121 i86x9 (in_c 97 rfl) rfl; have a13 := in_u ((in_c 97 rfl)); omega⟩
                  have n63 : (u_109_22).toInt ≤ 60 := by first | exact n63_0 | (have a0 := oa5 i68 j63_2 i122 i86x9 i63; have a5 := t_add e146 j63_2 (in_c 1 rfl) rfl; have a6 := oa2 ((in_c 1 rfl)) i134; have a8 := t_add e134 i122 (in_c 1 rfl) rfl; have a9 := oa3 ((in_c 0 rfl)) i75 i121; have a12 := t_sub e121 i86x9 (in_c 97 rfl) rfl; have a13 := in_u ((in_c 97 rfl)); omega)
                  have n63a : (z134).toInt ≤ (z146).toInt := by have a0 := oa5 i68 j63_2 i122 i86x9 i63; have a5 := t_add e146 j63_2 (in_c 1 rfl) rfl; have a6 := oa2 ((in_c 1 rfl)) i134; have a8 := t_add e134 i122 (in_c 1 rfl) rfl; have a9 := oa3 ((in_c 0 rfl)) i75 i121; have a12 := t_sub e121 i86x9 (in_c 97 rfl) rfl; have a13 := in_u ((in_c 97 rfl)); omega
                  exact gg_w (by first | exact Nat.le_add_right _ _ | exact gw2 | exact gw3 | exact gwe rfl | exact gwf rfl | exact gwg rfl | exact gwh rfl | omega) (gg_f (gf_cons rfl (gf_cons rfl (gf_cons rfl gf_nil))) (ih63 (sG (sG (sF (sF (sF (sI s99 174 y63_1.toNatClampNeg z121) 109 97 (Int32.ofInt 1)) 109 98 (Int32.ofInt 1)) 109 99 (Int32.ofInt 0)) 109 100 z127) 109 101 z130) z134 z146 hI131x23 (fr_sG rfl (fr_sG rfl (fr_sF rfl (fr_sF rfl (fr_sF rfl (fr_sI rfl (fr_tr rfl hFc63 hF99))))))) (in_w 0 60 i134 rfl) i63 n63 n63a (m_up mm63 (t_add e146 j63_2 (in_c 1 rfl) rfl) (in_w 1 1 (in_c 1 rfl) rfl))))
                · skip
                  exact n_eq c110 i86x9 (in_c 46 rfl) rfl
              · skip
                exact zn_eq c89 (in_c 1 rfl) rfl
  have ct33 : ∀ (k33 : Nat) (sc33 : GS) (y33_1 : Int32) (y33_2 : Int32), Inv sc33 → Fr fm_386 s sc33 → (In y33_1 0 0) → (In y33_2 0 60) → ((u_109_22).toInt ≤ 60) → 60 - (y33_2).toInt < (k33 : Int) → GG Z (d - 1) 386 post (gx xp) (109803 + k33 * 900) 33 (fun j => xlook j [(0, .ref (A 109)), (1, .int y33_1), (2, .int y33_2)]) [] (WW Z A sc33 ++ ex) 0 0 := by
    intro k33
    induction k33 with
    | zero => intro sc33 y33_1 y33_2 hIc33 hFc33 j33_1 j33_2 n33_0 mm33; exact m_no mm33 j33_2 rfl
    | succ k33 ih33 =>
      intro sc33 y33_1 y33_2 hIc33 hFc33 j33_1 j33_2 n33_0 mm33
      refine gg_w (M := 109803 + k33 * 900 + 900) gws ?_
      refine g_iload_n 34 (gd rfl) rfl rfl ?_
      refine g_bipush 60 36 (gd rfl) rfl rfl ?_
      refine g_cmp_ge 39 52 (gd rfl) rfl rfl (fun c36 => ?_) (fun c36 => ?_)
      · skip
        have i36 := r_le2 60 60 c36 (in_c 60 rfl) j33_2 rfl
        refine g_aload_n 53 (gd rfl) rfl rfl ?_
        refine g_iconst 0 54 (gd rfl) rfl rfl ?_
        refine g_putI 57 (gd rfl) rfl rfl rfl rfl ?_
        have hI54 := inv_sF (q := 109) (j := 96) hIc33 rfl (in_w 0 10 (in_c 0 rfl) rfl)
        refine g_aload_n 58 (gd rfl) rfl rfl ?_
        refine g_callv (X := _) (As := []) (r := []) (b := A 109) (q := 109) 61 (gd rfl) rfl rfl rfl rfl rfl (ww_o rfl) (Nat.le_of_ble_eq_true rfl) (mc := 0) (ms := 0) (Nat.zero_le _) (Nat.zero_le _) (P := fun v u => _) ?_ (fun e u h => h) (fun v u h => h)
        intro po58 xx58 hp58 hx58
        refine g_enter2 (k := 381) (N := 300) (by first | exact dq1 hd rfl | exact dq0 hd rfl | exact dq2 hd rfl | exact dq3 hd rfl | omega) rfl (Nat.le_of_ble_eq_true rfl) ?_
        refine g_aload_n 1 (gd rfl) rfl rfl ?_
        refine g_getA (q2 := 176) 4 (gd rfl) rfl rfl rfl rfl ?_
        refine g_aload_n 5 (gd rfl) rfl rfl ?_
        refine g_getI 8 (gd rfl) rfl rfl rfl (fun z58x5 e58x5 => ?_)
        have q58x5 : (Int32.ofInt 0) = z58x5 := (sF_get).trans e58x5.symm
        subst q58x5
        refine g_iconst 0 9 (gd rfl) rfl rfl ?_
        refine g_bastore 10 (gd rfl) rfl (n := 12) rfl (in_ix (in_c 0 rfl) rfl) ?_
        have hI58x9 := inv_sI (q := 176) (j := (Int32.ofInt 0).toNatClampNeg) hI54 rfl (in_w 0 1 (nar01 (in_w 0 1 (in_c 0 rfl) rfl)) rfl)
        refine g_aload_n 11 (gd rfl) rfl rfl ?_
        refine g_getA (q2 := 177) 14 (gd rfl) rfl rfl rfl rfl ?_
        refine g_aload_n 15 (gd rfl) rfl rfl ?_
        refine g_getI 18 (gd rfl) rfl rfl rfl (fun z58x15 e58x15 => ?_)
        have q58x15 : (Int32.ofInt 0) = z58x15 := (sI_F (sF_get)).trans e58x15.symm
        subst q58x15
        refine g_iconst 0 19 (gd rfl) rfl rfl ?_
        refine g_bastore 20 (gd rfl) rfl (n := 12) rfl (in_ix (in_c 0 rfl) rfl) ?_
        have hI58x19 := inv_sI (q := 177) (j := (Int32.ofInt 0).toNatClampNeg) hI58x9 rfl (in_w 0 1 (nar01 (in_w 0 1 (in_c 0 rfl) rfl)) rfl)
        refine g_aload_n 21 (gd rfl) rfl rfl ?_
        refine g_getA (q2 := 178) 24 (gd rfl) rfl rfl rfl rfl ?_
        refine g_aload_n 25 (gd rfl) rfl rfl ?_
        refine g_getI 28 (gd rfl) rfl rfl rfl (fun z58x25 e58x25 => ?_)
        have q58x25 : (Int32.ofInt 0) = z58x25 := (sI_F (sI_F (sF_get))).trans e58x25.symm
        subst q58x25
        refine g_lconst 0 29 (gd rfl) rfl rfl ?_
        refine g_lastore 30 (gd rfl) rfl (n := 12) rfl (in_ix (in_c 0 rfl) rfl) ?_
        have hI58x29 := inv_sL (q := 178) (j := (Int32.ofInt 0).toNatClampNeg) (x := (Int64.ofInt 0)) hI58x19 rfl (l_rng (Int64.ofInt 0))
        refine g_aload_n 31 (gd rfl) rfl rfl ?_
        refine g_getA (q2 := 179) 34 (gd rfl) rfl rfl rfl rfl ?_
        refine g_aload_n 35 (gd rfl) rfl rfl ?_
        refine g_getI 38 (gd rfl) rfl rfl rfl (fun z58x35 e58x35 => ?_)
        have q58x35 : (Int32.ofInt 0) = z58x35 := (sL_F (sI_F (sI_F (sF_get)))).trans e58x35.symm
        subst q58x35
        refine g_lconst 0 39 (gd rfl) rfl rfl ?_
        refine g_lastore 40 (gd rfl) rfl (n := 12) rfl (in_ix (in_c 0 rfl) rfl) ?_
        have hI58x39 := inv_sL (q := 179) (j := (Int32.ofInt 0).toNatClampNeg) (x := (Int64.ofInt 0)) hI58x29 rfl (l_rng (Int64.ofInt 0))
        refine g_aload_n 41 (gd rfl) rfl rfl ?_
        refine g_callv (X := _) (As := []) (r := []) (b := A 109) (q := 109) 44 (gd rfl) rfl rfl rfl rfl rfl (ww_o rfl) (Nat.le_of_ble_eq_true rfl) (mc := 0) (ms := 0) (Nat.zero_le _) (Nat.zero_le _) (P := fun v u => _) ?_ (fun e u h => h) (fun v u h => h)
        intro po58x41 xx58x41 hp58x41 hx58x41
        refine g_enter2 (k := 382) (N := 300) (by first | exact dq1 hd rfl | exact dq0 hd rfl | exact dq2 hd rfl | exact dq3 hd rfl | omega) rfl (Nat.le_of_ble_eq_true rfl) ?_
        refine g_aload_n 1 (gd rfl) rfl rfl ?_
        refine g_getA (q2 := 180) 4 (gd rfl) rfl rfl rfl rfl ?_
        refine g_aload_n 5 (gd rfl) rfl rfl ?_
        refine g_getI 8 (gd rfl) rfl rfl rfl (fun z58x41x5 e58x41x5 => ?_)
        have q58x41x5 : (Int32.ofInt 0) = z58x41x5 := (sL_F (sL_F (sI_F (sI_F (sF_get))))).trans e58x41x5.symm
        subst q58x41x5
        refine g_iconst 1 9 (gd rfl) rfl rfl ?_
        refine g_bastore 10 (gd rfl) rfl (n := 12) rfl (in_ix (in_c 0 rfl) rfl) ?_
        have hI58x41x9 := inv_sI (q := 180) (j := (Int32.ofInt 0).toNatClampNeg) hI58x39 rfl (in_w 0 1 (nar01 (in_w 0 1 (in_c 1 rfl) rfl)) rfl)
        refine g_aload_n 11 (gd rfl) rfl rfl ?_
        refine g_getA (q2 := 181) 14 (gd rfl) rfl rfl rfl rfl ?_
        refine g_aload_n 15 (gd rfl) rfl rfl ?_
        refine g_getI 18 (gd rfl) rfl rfl rfl (fun z58x41x15 e58x41x15 => ?_)
        have q58x41x15 : (Int32.ofInt 0) = z58x41x15 := (sI_F (sL_F (sL_F (sI_F (sI_F (sF_get)))))).trans e58x41x15.symm
        subst q58x41x15
        refine g_lconst 0 19 (gd rfl) rfl rfl ?_
        refine g_lastore 20 (gd rfl) rfl (n := 12) rfl (in_ix (in_c 0 rfl) rfl) ?_
        have hI58x41x19 := inv_sL (q := 181) (j := (Int32.ofInt 0).toNatClampNeg) (x := (Int64.ofInt 0)) hI58x41x9 rfl (l_rng (Int64.ofInt 0))
        refine g_aload_n 21 (gd rfl) rfl rfl ?_
        refine g_getA (q2 := 182) 24 (gd rfl) rfl rfl rfl rfl ?_
        refine g_aload_n 25 (gd rfl) rfl rfl ?_
        refine g_getI 28 (gd rfl) rfl rfl rfl (fun z58x41x25 e58x41x25 => ?_)
        have q58x41x25 : (Int32.ofInt 0) = z58x41x25 := (sL_F (sI_F (sL_F (sL_F (sI_F (sI_F (sF_get))))))).trans e58x41x25.symm
        subst q58x41x25
        refine g_lconst 0 29 (gd rfl) rfl rfl ?_
        refine g_lastore 30 (gd rfl) rfl (n := 12) rfl (in_ix (in_c 0 rfl) rfl) ?_
        have hI58x41x29 := inv_sL (q := 182) (j := (Int32.ofInt 0).toNatClampNeg) (x := (Int64.ofInt 0)) hI58x41x19 rfl (l_rng (Int64.ofInt 0))
        refine g_aload_n 31 (gd rfl) rfl rfl ?_
        refine g_iconst 0 32 (gd rfl) rfl rfl ?_
        refine g_putZ 35 (gd rfl) rfl rfl rfl rfl (in01 (in_w 0 1 (in_c 0 rfl) rfl)) ?_
        have hI58x41x32 := inv_sF (q := 109) (j := 97) hI58x41x29 rfl (in_w 0 1 (in_c 0 rfl) rfl)
        refine g_aload_n 36 (gd rfl) rfl rfl ?_
        refine g_iconst 0 37 (gd rfl) rfl rfl ?_
        refine g_putZ 40 (gd rfl) rfl rfl rfl rfl (in01 (in_w 0 1 (in_c 0 rfl) rfl)) ?_
        have hI58x41x37 := inv_sF (q := 109) (j := 98) hI58x41x32 rfl (in_w 0 1 (in_c 0 rfl) rfl)
        refine g_return (gd rfl) rfl (hp58x41 _ _ ?_)
        show GG _ _ _ _ _ _ _ _ [] _ _ _
        refine g_return (gd rfl) rfl (hp58 _ _ ?_)
        show GG _ _ _ _ _ _ _ _ [] _ _ _
        refine g_iconst 0 62 (gd rfl) rfl rfl ?_
        refine g_istore_n 63 (gd rfl) rfl (Nat.le_of_ble_eq_true rfl) ?_
        have n63 : (u_109_22).toInt ≤ 60 := by first | exact n33_0 | (have a0 := oa4 ro_109_22 i36 j33_1 ((in_c 0 rfl)); omega)
        have n63a : (y33_1).toInt ≤ ((Int32.ofInt 0)).toInt := by have a0 := oa4 ro_109_22 i36 j33_1 ((in_c 0 rfl)); omega
        exact gg_w (by first | exact Nat.le_add_right _ _ | exact gw2 | exact gw3 | exact gwe rfl | exact gwf rfl | exact gwg rfl | exact gwh rfl | omega) (gg_f (gf_cons rfl (gf_cons rfl (gf_cons rfl gf_nil))) (ct63 61 (sF (sF (sL (sL (sI (sL (sL (sI (sI (sF sc33 109 96 (Int32.ofInt 0)) 176 (Int32.ofInt 0).toNatClampNeg (vp_nar .boolean (Int32.ofInt 0))) 177 (Int32.ofInt 0).toNatClampNeg (vp_nar .boolean (Int32.ofInt 0))) 178 (Int32.ofInt 0).toNatClampNeg (Int64.ofInt 0)) 179 (Int32.ofInt 0).toNatClampNeg (Int64.ofInt 0)) 180 (Int32.ofInt 0).toNatClampNeg (vp_nar .boolean (Int32.ofInt 1))) 181 (Int32.ofInt 0).toNatClampNeg (Int64.ofInt 0)) 182 (Int32.ofInt 0).toNatClampNeg (Int64.ofInt 0)) 109 97 (Int32.ofInt 0)) 109 98 (Int32.ofInt 0)) y33_1 (Int32.ofInt 0) hI58x41x37 (fr_sF rfl (fr_sF rfl (fr_sL rfl (fr_sL rfl (fr_sI rfl (fr_sL rfl (fr_sL rfl (fr_sI rfl (fr_sI rfl (fr_sF rfl hFc33)))))))))) (in_w 0 60 j33_1 rfl) (in_w 0 60 (in_c 0 rfl) rfl) n63 n63a (m_in 61 (in_w 0 60 (in_c 0 rfl) rfl) rfl)))
      · skip
        have i36 := r_lt1 0 59 c36 j33_2 (in_c 60 rfl) rfl
        refine g_aload_n 40 (gd rfl) rfl rfl ?_
        refine g_getA (q2 := 175) 43 (gd rfl) rfl rfl rfl rfl ?_
        refine g_iload_n 44 (gd rfl) rfl rfl ?_
        refine g_lconst 0 45 (gd rfl) rfl rfl ?_
        refine g_lastore 46 (gd rfl) rfl (n := 60) rfl (in_ix i36 rfl) ?_
        have hI45 := inv_sL (q := 175) (j := y33_2.toNatClampNeg) (x := (Int64.ofInt 0)) hIc33 rfl (l_rng (Int64.ofInt 0))
        refine g_iinc 49 (gd rfl) rfl rfl (Nat.le_of_ble_eq_true rfl) (fun z46 e46 => ?_)
        have i46 := in_add 1 60 e46 i36 (in_c 1 rfl) rfl rfl
        refine g_goto 33 (gd rfl) rfl ?_
        have n33 : (u_109_22).toInt ≤ 60 := by first | exact n33_0 | (have a0 := oa4 ro_109_22 i36 j33_1 i46; have a4 := t_add e46 i36 (in_c 1 rfl) rfl; have a5 := in_u ((in_c 1 rfl)); omega)
        exact gg_w (by first | exact Nat.le_add_right _ _ | exact gw2 | exact gw3 | exact gwe rfl | exact gwf rfl | exact gwg rfl | exact gwh rfl | omega) (gg_f (gf_cons rfl (gf_cons rfl (gf_cons rfl gf_nil))) (ih33 (sL sc33 175 y33_2.toNatClampNeg (Int64.ofInt 0)) y33_1 z46 hI45 (fr_sL rfl hFc33) (in_w 0 0 j33_1 rfl) (in_w 0 60 i46 rfl) n33 (m_up mm33 (t_add e46 i36 (in_c 1 rfl) rfl) (in_w 1 1 (in_c 1 rfl) rfl))))
  refine g_enter2 (k := 386) (N := 165603) (by first | exact dq1 hd rfl | exact dq0 hd rfl | exact dq2 hd rfl | exact dq3 hd rfl | omega) rfl (Nat.le_of_ble_eq_true rfl) ?_
  refine g_aload_n 1 (gd rfl) rfl rfl ?_
  refine g_iconst 0 2 (gd rfl) rfl rfl ?_
  refine g_putI 5 (gd rfl) rfl rfl rfl rfl ?_
  have hI2 := inv_sF (q := 109) (j := 0) hI rfl (in_w 0 2 (in_c 0 rfl) rfl)
  refine g_aload_n 6 (gd rfl) rfl rfl ?_
  refine g_iconst 0 7 (gd rfl) rfl rfl ?_
  refine g_putI 10 (gd rfl) rfl rfl rfl rfl ?_
  have hI7 := inv_sF (q := 109) (j := 23) hI2 rfl (in_w 0 9 (in_c 0 rfl) rfl)
  refine g_aload_n 11 (gd rfl) rfl rfl ?_
  refine g_getI 14 (gd rfl) rfl rfl rfl (fun z11 e11 => ?_)
  have q11 : u_109_22 = z11 := (sF_ne rfl (sF_ne rfl (e_109_22))).trans e11.symm
  subst q11
  refine g_bipush 60 16 (gd rfl) rfl rfl ?_
  refine g_cmp_le 19 29 (gd rfl) rfl rfl (fun c16 => ?_) (fun c16 => ?_)
  · skip
    have i16 := r_le1 0 60 c16 ro_109_22 (in_c 60 rfl) rfl
    refine g_iconst 0 30 (gd rfl) rfl rfl ?_
    refine g_istore_n 31 (gd rfl) rfl (Nat.le_of_ble_eq_true rfl) ?_
    refine g_iconst 0 32 (gd rfl) rfl rfl ?_
    refine g_istore_n 33 (gd rfl) rfl (Nat.le_of_ble_eq_true rfl) ?_
    have n33 : (u_109_22).toInt ≤ 60 := by have a0 := oa2 i16 ((in_c 0 rfl)); omega
    exact gg_w (by first | exact Nat.le_of_ble_eq_true rfl | omega) (gg_f (gf_cons rfl (gf_cons rfl (gf_cons rfl gf_nil))) (ct33 61 (sF (sF s 109 0 (Int32.ofInt 0)) 109 23 (Int32.ofInt 0)) (Int32.ofInt 0) (Int32.ofInt 0) hI7 (fr_sF rfl (fr_sF rfl fr_rf)) (in_w 0 0 (in_c 0 rfl) rfl) (in_w 0 60 (in_c 0 rfl) rfl) n33 (m_in 61 (in_w 0 60 (in_c 0 rfl) rfl) rfl)))
  · skip
    have i16 := r_lt2 61 1000 c16 (in_c 60 rfl) ro_109_22 rfl
    refine g_aload_n 20 (gd rfl) rfl rfl ?_
    refine g_iconst 2 21 (gd rfl) rfl rfl ?_
    refine g_bipush 60 23 (gd rfl) rfl rfl ?_
    refine g_callv (X := _) (As := [.int (Int32.ofInt 2), .int (Int32.ofInt 60)]) (r := []) (b := A 109) (q := 109) 26 (gd rfl) rfl rfl rfl rfl rfl (ww_o rfl) (Nat.le_of_ble_eq_true rfl) (Nat.zero_le _) (Nat.zero_le _) (k_298 (by first | exact dq1 hd rfl | exact dq0 hd rfl | exact dq2 hd rfl | exact dq3 hd rfl | omega) hI7 (in_w 1 5 (in_c 2 rfl) rfl)) (fun e u h => h) (fun v u h => ?_)
    obtain ⟨s23, hI23, hF23, n23, rfl, rfl⟩ := h
    obtain ⟨z23a, e23⟩ : ∃ w, w = s23.2.2.1 109 23 := ⟨_, rfl⟩
    have i23a := inv_F hI23 0 9 rfl e23
    rw [← (show z23a = s23.2.2.1 109 23 from e23)] at n23
    show GG _ _ _ _ _ _ _ _ [] _ _ _
    refine g_bipush (-4) 28 (gd rfl) rfl rfl ?_
    exact g_ireturn (gd rfl) rfl rfl (hP _ _ ⟨s23, hI23, (fr_tr rfl (fr_sF rfl (fr_sF rfl fr_rf)) hF23), (Int32.ofInt (-4)), rfl, rfl, in_w (-4) 0 (in_c (-4) rfl) rfl⟩)
end
section
/-! methods, by vc.py -/
def fm_60_102_46 : FM := ([104], [], [(46, 2), (46, 3), (46, 4), (46, 5), (46, 6), (46, 7), (102, 4)], [])
def fm_59_102_46 : FM := ([104], [], [(46, 2), (46, 3), (46, 4), (46, 5), (46, 6), (46, 7), (102, 4)], [])
def fm_58_102_46 : FM := ([104], [], [(46, 2), (46, 3), (46, 4), (46, 5), (46, 6), (46, 7), (102, 4)], [])
def fm_61_102_46 : FM := ([104], [], [(46, 2), (46, 3), (46, 4), (46, 5), (46, 6), (46, 7), (102, 4)], [])
theorem k_60_102_46_r {Z : AmZ} {A : Nat → Nat} {ex : va_W} (kk : Nat) (ih : ∀ {s : GS} {d : Nat} {X : AmX} {x2 : Int32} {u_46_2 : Int32} {u_46_1 : Int32} {u_46_4 : Int32} {u_46_3 : Int32} {u_46_5 : Int32} {u_102_4 : Int32}, 60 + kk * 20 ≤ d → Inv s → (In x2 0 10) → (u_46_2 = s.2.2.1 46 2) → (u_46_1 = s.2.2.1 46 1) → (u_46_4 = s.2.2.1 46 4) → (u_46_3 = s.2.2.1 46 3) → (u_46_5 = s.2.2.1 46 5) → (u_102_4 = s.2.2.1 102 4) → (In u_46_1 0 120) → ((u_46_2).toInt ≤ (u_46_1).toInt) → ((u_46_4).toInt ≤ (u_46_2).toInt) → ((u_102_4).toInt ≤ (u_46_4).toInt) → (TK s) → 10 - (x2).toInt < ((kk : Nat) : Int) → GC Z d 61 [.ref (A 102), .ref (A 46), .int x2] (WW Z A s ++ ex) 0 0 (fun v u => ∃ t : GS, Inv t ∧ Fr fm_61_102_46 s t ∧ ((t.2.2.1 46 2).toInt ≤ (t.2.2.1 46 1).toInt) ∧ ((t.2.2.1 46 4).toInt ≤ (t.2.2.1 46 2).toInt) ∧ ((t.2.2.1 102 4).toInt ≤ (t.2.2.1 46 4).toInt) ∧ ((s.2.2.1 46 4).toInt - (s.2.2.1 102 4).toInt ≤ (t.2.2.1 46 4).toInt - (t.2.2.1 102 4).toInt) ∧ ∃ z : Int32, v = some (.int z) ∧ u = WW Z A t ++ ex ∧ In z 0 1 ∧ (TK t) ∧ ((z).toInt ≠ 0 → PCV s t 1)) X) : ∀ {s : GS} {d : Nat} {X : AmX} {x2 : Int32} {u_46_2 : Int32} {u_46_1 : Int32} {u_46_4 : Int32} {u_46_3 : Int32} {u_46_5 : Int32} {u_102_4 : Int32}, 65 + kk * 20 ≤ d → Inv s → (In x2 0 10) → (u_46_2 = s.2.2.1 46 2) → (u_46_1 = s.2.2.1 46 1) → (u_46_4 = s.2.2.1 46 4) → (u_46_3 = s.2.2.1 46 3) → (u_46_5 = s.2.2.1 46 5) → (u_102_4 = s.2.2.1 102 4) → (In u_46_1 0 120) → ((u_46_2).toInt ≤ (u_46_1).toInt) → ((u_46_4).toInt ≤ (u_46_2).toInt) → ((u_102_4).toInt ≤ (u_46_4).toInt) → (TK s) → 10 - (x2).toInt < ((kk : Nat) : Int) → GC Z d 60 [.ref (A 102), .ref (A 46), .int x2] (WW Z A s ++ ex) 0 0 (fun v u => ∃ t : GS, Inv t ∧ Fr fm_60_102_46 s t ∧ ((t.2.2.1 46 2).toInt ≤ (t.2.2.1 46 1).toInt) ∧ ((t.2.2.1 46 4).toInt ≤ (t.2.2.1 46 2).toInt) ∧ ((t.2.2.1 102 4).toInt ≤ (t.2.2.1 46 4).toInt) ∧ ((s.2.2.1 46 4).toInt - (s.2.2.1 102 4).toInt ≤ (t.2.2.1 46 4).toInt - (t.2.2.1 102 4).toInt) ∧ ∃ z : Int32, v = some (.int z) ∧ u = WW Z A t ++ ex ∧ In z 0 1 ∧ (TK t) ∧ ((z).toInt ≠ 0 → PCV s t 1)) X := by
  intro s d X x2 u_46_2 u_46_1 u_46_4 u_46_3 u_46_5 u_102_4 hd hI h2 e_46_2 e_46_1 e_46_4 e_46_3 e_46_5 e_102_4 r_46_1 p_0 p_1 p_2 q_0 hm
  intro post xp hP hX
  have ct13 : ∀ (k13 : Nat) (sc13 : GS) (y13_3 : Int32) (w13_46_2 : Int32) (w13_46_4 : Int32) (w13_46_3 : Int32) (w13_46_5 : Int32) (w13_102_4 : Int32), Inv sc13 → Fr fm_60_102_46 s sc13 → (In y13_3 0 120) → (w13_46_2 = sc13.2.2.1 46 2) → (w13_46_4 = sc13.2.2.1 46 4) → (w13_46_3 = sc13.2.2.1 46 3) → (w13_46_5 = sc13.2.2.1 46 5) → (w13_102_4 = sc13.2.2.1 102 4) → ((w13_46_2).toInt ≤ (u_46_1).toInt) → ((w13_46_4).toInt ≤ (w13_46_2).toInt) → ((w13_102_4).toInt ≤ (w13_46_4).toInt) → ((u_46_4).toInt - (u_102_4).toInt ≤ (w13_46_4).toInt - (w13_102_4).toInt) → (PCV s sc13 1) → (TK sc13) → 120 - (y13_3).toInt < (k13 : Int) → GG Z (d - 1) 60 post (gx xp) (1 + k13 * 900) 13 (fun j => xlook j [(0, .ref (A 102)), (1, .ref (A 46)), (2, .int x2), (3, .int y13_3)]) [] (WW Z A sc13 ++ ex) 0 0 := by
    intro k13
    induction k13 with
    | zero => intro sc13 y13_3 w13_46_2 w13_46_4 w13_46_3 w13_46_5 w13_102_4 hIc13 hFc13 j13_3 v13_46_2 v13_46_4 v13_46_3 v13_46_5 v13_102_4 n13_0 n13_1 n13_2 n13_3 g13_0 g13_1 mm13; exact m_no mm13 j13_3 rfl
    | succ k13 ih13 =>
      intro sc13 y13_3 w13_46_2 w13_46_4 w13_46_3 w13_46_5 w13_102_4 hIc13 hFc13 j13_3 v13_46_2 v13_46_4 v13_46_3 v13_46_5 v13_102_4 n13_0 n13_1 n13_2 n13_3 g13_0 g13_1 mm13
      refine gg_w (M := 1 + k13 * 900 + 900) gws ?_
      refine g_iload_n 14 (gd rfl) rfl rfl ?_
      refine g_bipush 120 16 (gd rfl) rfl rfl ?_
      refine g_cmp_ge 19 59 (gd rfl) rfl rfl (fun c16 => ?_) (fun c16 => ?_)
      · skip
        have i16 := r_le2 120 120 c16 (in_c 120 rfl) j13_3 rfl
        refine g_iconst 1 60 (gd rfl) rfl rfl ?_
        have n60 : TK sc13 := by first | exact g13_1 | exact p38a | exact p3a
        have n60a : ((Int32.ofInt 1)).toInt ≠ 0 → PCV s sc13 1 := by first | (intro _; exact g13_0) | (intro h; exact absurd rfl h)
        have n60b : (w13_46_2).toInt ≤ (u_46_1).toInt := by first | exact n13_0 | (have a0 := oa7 h2 r_46_1 ((inv_F hIc13 0 120 rfl v13_102_4)) ((inv_F hIc13 0 5 rfl v13_46_3)) ((inv_F hIc13 0 1000 rfl v13_46_4)) ((inv_F hIc13 0 1000 rfl v13_46_2)) i16; omega)
        have n60c : (sc13.2.2.1 46 2).toInt ≤ (sc13.2.2.1 46 1).toInt := by have b0 : w13_46_2 = sc13.2.2.1 46 2 := v13_46_2; have b1 : u_46_1 = sc13.2.2.1 46 1 := fr_F e_46_1 hFc13 rfl; rw [← b0, ← b1]; exact n60b
        have n60d : (w13_46_4).toInt ≤ (w13_46_2).toInt := by first | exact n13_1 | (have a0 := oa7 h2 r_46_1 ((inv_F hIc13 0 120 rfl v13_102_4)) ((inv_F hIc13 0 5 rfl v13_46_3)) ((inv_F hIc13 0 1000 rfl v13_46_4)) ((inv_F hIc13 0 1000 rfl v13_46_2)) i16; omega)
        have n60e : (sc13.2.2.1 46 4).toInt ≤ (sc13.2.2.1 46 2).toInt := by have b0 : w13_46_4 = sc13.2.2.1 46 4 := v13_46_4; have b1 : w13_46_2 = sc13.2.2.1 46 2 := v13_46_2; rw [← b0, ← b1]; exact n60d
        have n60f : (w13_102_4).toInt ≤ (w13_46_4).toInt := by first | exact n13_2 | (have a0 := oa7 h2 r_46_1 ((inv_F hIc13 0 120 rfl v13_102_4)) ((inv_F hIc13 0 5 rfl v13_46_3)) ((inv_F hIc13 0 1000 rfl v13_46_4)) ((inv_F hIc13 0 1000 rfl v13_46_2)) i16; omega)
        have n60g : (sc13.2.2.1 102 4).toInt ≤ (sc13.2.2.1 46 4).toInt := by have b0 : w13_102_4 = sc13.2.2.1 102 4 := v13_102_4; have b1 : w13_46_4 = sc13.2.2.1 46 4 := v13_46_4; rw [← b0, ← b1]; exact n60f
        have n60h : (u_46_4).toInt - (u_102_4).toInt ≤ (w13_46_4).toInt - (w13_102_4).toInt := by first | exact n13_3 | (have a0 := oa7 h2 r_46_1 ((inv_F hIc13 0 120 rfl v13_102_4)) ((inv_F hIc13 0 5 rfl v13_46_3)) ((inv_F hIc13 0 1000 rfl v13_46_4)) ((inv_F hIc13 0 1000 rfl v13_46_2)) i16; omega)
        have n60i : (s.2.2.1 46 4).toInt - (s.2.2.1 102 4).toInt ≤ (sc13.2.2.1 46 4).toInt - (sc13.2.2.1 102 4).toInt := by have b0 : w13_46_4 = sc13.2.2.1 46 4 := v13_46_4; have b1 : w13_102_4 = sc13.2.2.1 102 4 := v13_102_4; first | (rw [← b0, ← b1, ← e_46_4, ← e_102_4]; exact n60h) | (rw [← b0, ← b1]; exact n60h)
        exact g_ireturn (gd rfl) rfl (nb01 (in_w 0 1 (in_c 1 rfl) rfl)) (hP _ _ ⟨sc13, hIc13, hFc13, n60c, n60e, n60g, n60i, (Int32.ofInt 1), rfl, rfl, in_w 0 1 (in_c 1 rfl) rfl, n60, n60a⟩)
      · skip
        have i16 := r_lt1 0 119 c16 j13_3 (in_c 120 rfl) rfl
        refine g_aload_n 20 (gd rfl) rfl rfl ?_
        refine g_bipush 42 22 (gd rfl) rfl rfl ?_
        refine g_callv (X := _) (As := [.int (Int32.ofInt 42)]) (r := []) (b := A 46) (q := 46) 25 (gd rfl) rfl rfl rfl rfl rfl (ww_o rfl) (Nat.le_of_ble_eq_true rfl) (mc := 0) (ms := 0) (Nat.zero_le _) (Nat.zero_le _) (P := fun v u => _) ?_ (fun e u h => h) (fun v u h => h)
        intro po22 xx22 hp22 hx22
        refine g_enter2 (k := 170) (N := 300) (by first | exact dq1 hd rfl | exact dq0 hd rfl | exact dq2 hd rfl | exact dq3 hd rfl | omega) rfl (Nat.le_of_ble_eq_true rfl) ?_
        refine g_aload_n 1 (gd rfl) rfl rfl ?_
        refine g_getI 4 (gd rfl) rfl rfl rfl (fun z22x1 e22x1 => ?_)
        have q22x1 : w13_46_3 = z22x1 := (v13_46_3).trans e22x1.symm
        subst q22x1
        refine g_iconst 3 5 (gd rfl) rfl rfl ?_
        refine g_cmp_ne 8 20 (gd rfl) rfl rfl (fun c22x5 => ?_) (fun c22x5 => ?_)
        · skip
          refine g_iconst 0 21 (gd rfl) rfl rfl ?_
          refine g_ireturn (gd rfl) rfl (nb01 (in_w 0 1 (in_c 0 rfl) rfl)) (hp22 _ _ ?_)
          show GG _ _ _ _ _ _ _ _ [.int (Int32.ofInt 0)] _ _ _
          refine g_if_eq 28 59 (gd rfl) rfl rfl (fun c25 => ?_) (fun c25 => ?_)
          · skip
            refine g_iconst 1 60 (gd rfl) rfl rfl ?_
            have n60 : TK sc13 := by first | exact g13_1 | exact p38a | exact p3a
            have n60a : ((Int32.ofInt 1)).toInt ≠ 0 → PCV s sc13 1 := by first | (intro _; exact g13_0) | (intro h; exact absurd rfl h)
            have n60b : (w13_46_2).toInt ≤ (u_46_1).toInt := by first | exact n13_0 | (have a0 := oa7 h2 r_46_1 ((inv_F hIc13 0 120 rfl v13_102_4)) ((inv_F hIc13 0 5 rfl v13_46_3)) ((inv_F hIc13 0 1000 rfl v13_46_4)) ((inv_F hIc13 0 1000 rfl v13_46_2)) i16; omega)
            have n60c : (sc13.2.2.1 46 2).toInt ≤ (sc13.2.2.1 46 1).toInt := by have b0 : w13_46_2 = sc13.2.2.1 46 2 := v13_46_2; have b1 : u_46_1 = sc13.2.2.1 46 1 := fr_F e_46_1 hFc13 rfl; rw [← b0, ← b1]; exact n60b
            have n60d : (w13_46_4).toInt ≤ (w13_46_2).toInt := by first | exact n13_1 | (have a0 := oa7 h2 r_46_1 ((inv_F hIc13 0 120 rfl v13_102_4)) ((inv_F hIc13 0 5 rfl v13_46_3)) ((inv_F hIc13 0 1000 rfl v13_46_4)) ((inv_F hIc13 0 1000 rfl v13_46_2)) i16; omega)
            have n60e : (sc13.2.2.1 46 4).toInt ≤ (sc13.2.2.1 46 2).toInt := by have b0 : w13_46_4 = sc13.2.2.1 46 4 := v13_46_4; have b1 : w13_46_2 = sc13.2.2.1 46 2 := v13_46_2; rw [← b0, ← b1]; exact n60d
            have n60f : (w13_102_4).toInt ≤ (w13_46_4).toInt := by first | exact n13_2 | (have a0 := oa7 h2 r_46_1 ((inv_F hIc13 0 120 rfl v13_102_4)) ((inv_F hIc13 0 5 rfl v13_46_3)) ((inv_F hIc13 0 1000 rfl v13_46_4)) ((inv_F hIc13 0 1000 rfl v13_46_2)) i16; omega)
            have n60g : (sc13.2.2.1 102 4).toInt ≤ (sc13.2.2.1 46 4).toInt := by have b0 : w13_102_4 = sc13.2.2.1 102 4 := v13_102_4; have b1 : w13_46_4 = sc13.2.2.1 46 4 := v13_46_4; rw [← b0, ← b1]; exact n60f
            have n60h : (u_46_4).toInt - (u_102_4).toInt ≤ (w13_46_4).toInt - (w13_102_4).toInt := by first | exact n13_3 | (have a0 := oa7 h2 r_46_1 ((inv_F hIc13 0 120 rfl v13_102_4)) ((inv_F hIc13 0 5 rfl v13_46_3)) ((inv_F hIc13 0 1000 rfl v13_46_4)) ((inv_F hIc13 0 1000 rfl v13_46_2)) i16; omega)
            have n60i : (s.2.2.1 46 4).toInt - (s.2.2.1 102 4).toInt ≤ (sc13.2.2.1 46 4).toInt - (sc13.2.2.1 102 4).toInt := by have b0 : w13_46_4 = sc13.2.2.1 46 4 := v13_46_4; have b1 : w13_102_4 = sc13.2.2.1 102 4 := v13_102_4; first | (rw [← b0, ← b1, ← e_46_4, ← e_102_4]; exact n60h) | (rw [← b0, ← b1]; exact n60h)
            exact g_ireturn (gd rfl) rfl (nb01 (in_w 0 1 (in_c 1 rfl) rfl)) (hP _ _ ⟨sc13, hIc13, hFc13, n60c, n60e, n60g, n60i, (Int32.ofInt 1), rfl, rfl, in_w 0 1 (in_c 1 rfl) rfl, n60, n60a⟩)
          · skip
            exact zn_ne c25 (in_c 0 rfl) rfl
        · skip
          have i22x5 := r_eq1 3 3 c22x5 (inv_F hIc13 0 5 rfl v13_46_3) (in_c 3 rfl) rfl
          refine g_aload_n 9 (gd rfl) rfl rfl ?_
          refine g_getI 12 (gd rfl) rfl rfl rfl (fun z22x9 e22x9 => ?_)
          have q22x9 : w13_46_5 = z22x9 := (v13_46_5).trans e22x9.symm
          subst q22x9
          refine g_iload_n 13 (gd rfl) rfl rfl ?_
          refine g_cmp_ne 16 20 (gd rfl) rfl rfl (fun c22x13 => ?_) (fun c22x13 => ?_)
          · skip
            refine g_iconst 0 21 (gd rfl) rfl rfl ?_
            refine g_ireturn (gd rfl) rfl (nb01 (in_w 0 1 (in_c 0 rfl) rfl)) (hp22 _ _ ?_)
            show GG _ _ _ _ _ _ _ _ [.int (Int32.ofInt 0)] _ _ _
            refine g_if_eq 28 59 (gd rfl) rfl rfl (fun c25 => ?_) (fun c25 => ?_)
            · skip
              refine g_iconst 1 60 (gd rfl) rfl rfl ?_
              have n60 : TK sc13 := by first | exact g13_1 | exact p38a | exact p3a
              have n60a : ((Int32.ofInt 1)).toInt ≠ 0 → PCV s sc13 1 := by first | (intro _; exact g13_0) | (intro h; exact absurd rfl h)
              have n60b : (w13_46_2).toInt ≤ (u_46_1).toInt := by first | exact n13_0 | (have a0 := oa7 h2 r_46_1 ((inv_F hIc13 0 120 rfl v13_102_4)) i22x5 ((inv_F hIc13 0 1000 rfl v13_46_4)) ((inv_F hIc13 0 1000 rfl v13_46_2)) i16; omega)
              have n60c : (sc13.2.2.1 46 2).toInt ≤ (sc13.2.2.1 46 1).toInt := by have b0 : w13_46_2 = sc13.2.2.1 46 2 := v13_46_2; have b1 : u_46_1 = sc13.2.2.1 46 1 := fr_F e_46_1 hFc13 rfl; rw [← b0, ← b1]; exact n60b
              have n60d : (w13_46_4).toInt ≤ (w13_46_2).toInt := by first | exact n13_1 | (have a0 := oa7 h2 r_46_1 ((inv_F hIc13 0 120 rfl v13_102_4)) i22x5 ((inv_F hIc13 0 1000 rfl v13_46_4)) ((inv_F hIc13 0 1000 rfl v13_46_2)) i16; omega)
              have n60e : (sc13.2.2.1 46 4).toInt ≤ (sc13.2.2.1 46 2).toInt := by have b0 : w13_46_4 = sc13.2.2.1 46 4 := v13_46_4; have b1 : w13_46_2 = sc13.2.2.1 46 2 := v13_46_2; rw [← b0, ← b1]; exact n60d
              have n60f : (w13_102_4).toInt ≤ (w13_46_4).toInt := by first | exact n13_2 | (have a0 := oa7 h2 r_46_1 ((inv_F hIc13 0 120 rfl v13_102_4)) i22x5 ((inv_F hIc13 0 1000 rfl v13_46_4)) ((inv_F hIc13 0 1000 rfl v13_46_2)) i16; omega)
              have n60g : (sc13.2.2.1 102 4).toInt ≤ (sc13.2.2.1 46 4).toInt := by have b0 : w13_102_4 = sc13.2.2.1 102 4 := v13_102_4; have b1 : w13_46_4 = sc13.2.2.1 46 4 := v13_46_4; rw [← b0, ← b1]; exact n60f
              have n60h : (u_46_4).toInt - (u_102_4).toInt ≤ (w13_46_4).toInt - (w13_102_4).toInt := by first | exact n13_3 | (have a0 := oa7 h2 r_46_1 ((inv_F hIc13 0 120 rfl v13_102_4)) i22x5 ((inv_F hIc13 0 1000 rfl v13_46_4)) ((inv_F hIc13 0 1000 rfl v13_46_2)) i16; omega)
              have n60i : (s.2.2.1 46 4).toInt - (s.2.2.1 102 4).toInt ≤ (sc13.2.2.1 46 4).toInt - (sc13.2.2.1 102 4).toInt := by have b0 : w13_46_4 = sc13.2.2.1 46 4 := v13_46_4; have b1 : w13_102_4 = sc13.2.2.1 102 4 := v13_102_4; first | (rw [← b0, ← b1, ← e_46_4, ← e_102_4]; exact n60h) | (rw [← b0, ← b1]; exact n60h)
              exact g_ireturn (gd rfl) rfl (nb01 (in_w 0 1 (in_c 1 rfl) rfl)) (hP _ _ ⟨sc13, hIc13, hFc13, n60c, n60e, n60g, n60i, (Int32.ofInt 1), rfl, rfl, in_w 0 1 (in_c 1 rfl) rfl, n60, n60a⟩)
            · skip
              exact zn_ne c25 (in_c 0 rfl) rfl
          · skip
            have i22x13 := r_eq1 42 42 c22x13 (inv_F hIc13 (-2147483648) 2147483647 rfl v13_46_5) (in_c 42 rfl) rfl
            refine g_iconst 1 17 (gd rfl) rfl rfl ?_
            refine g_goto 21 (gd rfl) rfl ?_
            refine g_ireturn (gd rfl) rfl (nb01 (in_w 0 1 (in_c 1 rfl) rfl)) (hp22 _ _ ?_)
            show GG _ _ _ _ _ _ _ _ [.int (Int32.ofInt 1)] _ _ _
            refine g_if_eq 28 59 (gd rfl) rfl rfl (fun c25 => ?_) (fun c25 => ?_)
            · skip
              exact zn_eq c25 (in_c 1 rfl) rfl
            · skip
              refine g_aload_n 29 (gd rfl) rfl rfl ?_
              refine g_bipush 6 31 (gd rfl) rfl rfl ?_
              refine g_iconst 0 32 (gd rfl) rfl rfl ?_
              have hk := tka_1 g13_1 (show w13_46_3 = sc13.2.2.1 46 3 from v13_46_3) (show w13_46_4 = sc13.2.2.1 46 4 from v13_46_4) (show w13_46_2 = sc13.2.2.1 46 2 from v13_46_2) (by have a0 := oa8 h2 r_46_1 ((inv_F hIc13 0 120 rfl v13_102_4)) i22x13 i22x5 ((inv_F hIc13 0 1000 rfl v13_46_4)) ((inv_F hIc13 0 1000 rfl v13_46_2)) i16; omega)
              have v32 : u_46_1 = sc13.2.2.1 46 1 := fr_F e_46_1 hFc13 rfl
              have n32 : (w13_46_2).toInt ≤ (u_46_1).toInt := by first | exact n13_0 | (have a0 := oa8 h2 r_46_1 ((inv_F hIc13 0 120 rfl v13_102_4)) i22x13 i22x5 ((inv_F hIc13 0 1000 rfl v13_46_4)) ((inv_F hIc13 0 1000 rfl v13_46_2)) i16; omega)
              refine g_callv (X := _) (As := [.int (Int32.ofInt 6), .int (Int32.ofInt 0)]) (r := []) (b := A 46) (q := 46) 35 (gd rfl) rfl rfl rfl rfl rfl (ww_o rfl) (Nat.le_of_ble_eq_true rfl) (Nat.zero_le _) (Nat.zero_le _) (k_171_46 (by first | exact dq1 hd rfl | exact dq0 hd rfl | exact dq2 hd rfl | exact dq3 hd rfl | omega) hIc13 (in_w 6 7 (in_c 6 rfl) rfl) (in_w 0 1 (in_c 0 rfl) rfl) v13_46_2 v32 n32) (fun e u h => h) (fun v u h => ?_)
              obtain ⟨s32, hI32, hF32, n32a, n32b, n32c, rfl, rfl, p32, p32a⟩ := h
              obtain ⟨z32a, e32⟩ : ∃ w, w = s32.2.2.1 46 2 := ⟨_, rfl⟩
              have i32a := inv_F hI32 0 1000 rfl e32
              obtain ⟨z32b, e32a⟩ : ∃ w, w = s32.2.2.1 46 4 := ⟨_, rfl⟩
              have i32b := inv_F hI32 0 1000 rfl e32a
              rw [← (show z32a = s32.2.2.1 46 2 from e32)] at n32a
              rw [← (show u_46_1 = s32.2.2.1 46 1 from fr_F (fr_F e_46_1 hFc13 rfl) hF32 rfl)] at n32a
              rw [← (show z32a = s32.2.2.1 46 2 from e32)] at n32b
              rw [← (show z32b = s32.2.2.1 46 4 from e32a)] at n32b
              rw [← (show w13_46_2 = sc13.2.2.1 46 2 from v13_46_2)] at n32c
              rw [← (show z32b = s32.2.2.1 46 4 from e32a)] at n32c
              show GG _ _ _ _ _ _ _ _ [] _ _ _
              refine g_aload_n 36 (gd rfl) rfl rfl ?_
              refine g_aload_n 37 (gd rfl) rfl rfl ?_
              refine g_iload_n 38 (gd rfl) rfl rfl ?_
              have v38 : u_46_1 = s32.2.2.1 46 1 := fr_F (fr_F e_46_1 hFc13 rfl) hF32 rfl
              have v38a : w13_102_4 = s32.2.2.1 102 4 := fr_F (v13_102_4) hF32 rfl
              have n38 : (z32a).toInt ≤ (u_46_1).toInt := by have a0 := oa10 h2 r_46_1 ((inv_F hIc13 0 120 rfl v13_102_4)) i22x13 i22x5 ((inv_F hIc13 0 1000 rfl v13_46_4)) ((inv_F hIc13 0 1000 rfl v13_46_2)) i16 i32b i32a; omega
              have n38a : (z32b).toInt ≤ (z32a).toInt := by have a0 := oa10 h2 r_46_1 ((inv_F hIc13 0 120 rfl v13_102_4)) i22x13 i22x5 ((inv_F hIc13 0 1000 rfl v13_46_4)) ((inv_F hIc13 0 1000 rfl v13_46_2)) i16 i32b i32a; omega
              have n38b : (w13_102_4).toInt ≤ (z32b).toInt := by have a0 := oa10 h2 r_46_1 ((inv_F hIc13 0 120 rfl v13_102_4)) i22x13 i22x5 ((inv_F hIc13 0 1000 rfl v13_46_4)) ((inv_F hIc13 0 1000 rfl v13_46_2)) i16 i32b i32a; omega
              have p38 : TK s32 := by exact p32 (by decide)
              have n38c : 10 - (x2).toInt < ((kk : Nat) : Int) := by have a0 := oa10 h2 r_46_1 ((inv_F hIc13 0 120 rfl v13_102_4)) i22x13 i22x5 ((inv_F hIc13 0 1000 rfl v13_46_4)) ((inv_F hIc13 0 1000 rfl v13_46_2)) i16 i32b i32a; omega
              refine g_callv (X := _) (As := [.ref (A 46), .int x2]) (r := []) (b := A 102) (q := 102) 41 (gd rfl) rfl rfl rfl rfl rfl (ww_o rfl) (Nat.le_of_ble_eq_true rfl) (Nat.zero_le _) (Nat.zero_le _) (ih (by omega) hI32 (in_w 0 10 h2 rfl) e32 v38 e32a rfl rfl v38a (in_w 0 120 r_46_1 rfl) n38 n38a n38b p38 n38c) (fun e u h => h) (fun v u h => ?_)
              obtain ⟨s38, hI38, hF38, n38d, n38e, n38f, n38g, z38, rfl, rfl, i38, p38a, p38b⟩ := h
              obtain ⟨z38a, e38⟩ : ∃ w, w = s38.2.2.1 46 2 := ⟨_, rfl⟩
              have i38a := inv_F hI38 0 1000 rfl e38
              obtain ⟨z38b, e38a⟩ : ∃ w, w = s38.2.2.1 46 4 := ⟨_, rfl⟩
              have i38b := inv_F hI38 0 1000 rfl e38a
              obtain ⟨z38c, e38b⟩ : ∃ w, w = s38.2.2.1 102 4 := ⟨_, rfl⟩
              have i38c := inv_F hI38 0 120 rfl e38b
              rw [← (show z38a = s38.2.2.1 46 2 from e38)] at n38d
              rw [← (show u_46_1 = s38.2.2.1 46 1 from fr_F (fr_F (fr_F e_46_1 hFc13 rfl) hF32 rfl) hF38 rfl)] at n38d
              rw [← (show z38a = s38.2.2.1 46 2 from e38)] at n38e
              rw [← (show z38b = s38.2.2.1 46 4 from e38a)] at n38e
              rw [← (show z38b = s38.2.2.1 46 4 from e38a)] at n38f
              rw [← (show z38c = s38.2.2.1 102 4 from e38b)] at n38f
              rw [← (show z32b = s32.2.2.1 46 4 from e32a)] at n38g
              rw [← (show w13_102_4 = s32.2.2.1 102 4 from fr_F (v13_102_4) hF32 rfl)] at n38g
              rw [← (show z38b = s38.2.2.1 46 4 from e38a)] at n38g
              rw [← (show z38c = s38.2.2.1 102 4 from e38b)] at n38g
              show GG _ _ _ _ _ _ _ _ [.int z38] _ _ _
              refine g_if_ne 44 46 (gd rfl) rfl rfl (fun c41 => ?_) (fun c41 => ?_)
              · skip
                have i41 := z_ne 1 1 c41 i38 rfl
                refine g_aload_n 47 (gd rfl) rfl rfl ?_
                refine g_ldc 1000142 49 (gd rfl) rfl rfl ?_
                have hDe : _ = s38.2.2.1 102 4 := (show z38c = s38.2.2.1 102 4 from e38b)
                have n49 : (z38c).toInt ≤ 119 := by have a0 := oa11 h2 r_46_1 ((inv_F hIc13 0 120 rfl v13_102_4)) i22x13 i22x5 ((inv_F hIc13 0 1000 rfl v13_46_4)) ((inv_F hIc13 0 1000 rfl v13_46_2)) i16 i38c i38b i38a; omega
                refine g_callv (X := _) (As := [.int (Int32.ofInt 1000142)]) (r := []) (b := A 102) (q := 102) 52 (gd rfl) rfl rfl rfl rfl rfl (ww_o rfl) (Nat.le_of_ble_eq_true rfl) (Nat.zero_le _) (Nat.zero_le _) (k_57_102 (by first | exact dq1 hd rfl | exact dq0 hd rfl | exact dq2 hd rfl | exact dq3 hd rfl | omega) hI38 e38b n49) (fun e u h => h) (fun v u h => ?_)
                obtain ⟨s49, hI49, hF49, n49a, z49, rfl, rfl, i49, p49⟩ := h
                obtain ⟨z49a, e49⟩ : ∃ w, w = s49.2.2.1 102 4 := ⟨_, rfl⟩
                have i49a := inv_F hI49 0 120 rfl e49
                rw [← (show z38c = s38.2.2.1 102 4 from e38b)] at n49a
                rw [← (show z49a = s49.2.2.1 102 4 from e49)] at n49a
                show GG _ _ _ _ _ _ _ _ [.int z49] _ _ _
                refine g_pop 53 (gd rfl) rfl rfl ?_
                refine g_iinc 56 (gd rfl) rfl rfl (Nat.le_of_ble_eq_true rfl) (fun z53 e53 => ?_)
                have i53 := in_add 1 120 e53 i16 (in_c 1 rfl) rfl rfl
                refine g_goto 13 (gd rfl) rfl ?_
                have v13 : z38a = s49.2.2.1 46 2 := fr_F (e38) hF49 rfl
                have v13a : z38b = s49.2.2.1 46 4 := fr_F (e38a) hF49 rfl
                have n13 : (z38a).toInt ≤ (u_46_1).toInt := by have a0 := oa9 h2 r_46_1 ((inv_F hIc13 0 120 rfl v13_102_4)) i22x13 i22x5 ((inv_F hIc13 0 1000 rfl v13_46_4)) ((inv_F hIc13 0 1000 rfl v13_46_2)) i16 i53; have a9 := t_add e53 i16 (in_c 1 rfl) rfl; have a10 := oa4 ((in_c 1 rfl)) i49a i38b i38a; omega
                have n13a : (z38b).toInt ≤ (z38a).toInt := by have a0 := oa9 h2 r_46_1 ((inv_F hIc13 0 120 rfl v13_102_4)) i22x13 i22x5 ((inv_F hIc13 0 1000 rfl v13_46_4)) ((inv_F hIc13 0 1000 rfl v13_46_2)) i16 i53; have a9 := t_add e53 i16 (in_c 1 rfl) rfl; have a10 := oa4 ((in_c 1 rfl)) i49a i38b i38a; omega
                have n13b : (z49a).toInt ≤ (z38b).toInt := by have a0 := oa9 h2 r_46_1 ((inv_F hIc13 0 120 rfl v13_102_4)) i22x13 i22x5 ((inv_F hIc13 0 1000 rfl v13_46_4)) ((inv_F hIc13 0 1000 rfl v13_46_2)) i16 i53; have a9 := t_add e53 i16 (in_c 1 rfl) rfl; have a10 := oa4 ((in_c 1 rfl)) i49a i38b i38a; omega
                have n13c : (u_46_4).toInt - (u_102_4).toInt ≤ (z38b).toInt - (z49a).toInt := by have a0 := oa9 h2 r_46_1 ((inv_F hIc13 0 120 rfl v13_102_4)) i22x13 i22x5 ((inv_F hIc13 0 1000 rfl v13_46_4)) ((inv_F hIc13 0 1000 rfl v13_46_2)) i16 i53; have a9 := t_add e53 i16 (in_c 1 rfl) rfl; have a10 := oa4 ((in_c 1 rfl)) i49a i38b i38a; omega
                have n13d : PCV s s49 1 := by exact pv_st (j := 2) (k := 1) (pv_tr (j := 1) (k := 1) (pv_tr (j := 1) (k := 0) g13_0 (pv_sm (hF32.1 104 rfl) (hF32.2.2.1 102 4 rfl))) (p38b c41)) (inv_F hI38 0 120 rfl rfl).1 p49 (by rw [← (show z49a = s49.2.2.1 102 4 from e49), ← hDe]; have a0 := oa9 h2 r_46_1 ((inv_F hIc13 0 120 rfl v13_102_4)) i22x13 i22x5 ((inv_F hIc13 0 1000 rfl v13_46_4)) ((inv_F hIc13 0 1000 rfl v13_46_2)) i16 i53; have a9 := t_add e53 i16 (in_c 1 rfl) rfl; have a10 := oa4 ((in_c 1 rfl)) i49a i38b i38a; omega) (fun e => hc_b (by decide) (by decide) e)
                have n13e : TK s49 := by exact tk_fr hF49 rfl p38a
                exact gg_w (by first | exact Nat.le_add_right _ _ | exact gw2 | exact gw3 | exact gwe rfl | exact gwf rfl | exact gwg rfl | exact gwh rfl | omega) (gg_f (gf_cons rfl (gf_cons rfl (gf_cons rfl (gf_cons rfl gf_nil)))) (ih13 s49 z53 z38a z38b _ _ z49a hI49 (fr_tr rfl (fr_tr rfl (fr_tr rfl hFc13 hF32) hF38) hF49) (in_w 0 120 i53 rfl) v13 v13a rfl rfl e49 n13 n13a n13b n13c n13d n13e (m_up mm13 (t_add e53 i16 (in_c 1 rfl) rfl) (in_w 1 1 (in_c 1 rfl) rfl))))
              · skip
                have i41 := z_eq 0 0 c41 i38 rfl
                refine g_iconst 0 45 (gd rfl) rfl rfl ?_
                have n45 : TK s38 := by first | exact g13_1 | exact p38a | exact p3a
                have n45a : ((Int32.ofInt 0)).toInt ≠ 0 → PCV s s38 1 := by first | (intro _; exact g13_0) | (intro h; exact absurd rfl h)
                have n45b : (z38a).toInt ≤ (u_46_1).toInt := by have a0 := oa11 h2 r_46_1 ((inv_F hIc13 0 120 rfl v13_102_4)) i22x13 i22x5 ((inv_F hIc13 0 1000 rfl v13_46_4)) ((inv_F hIc13 0 1000 rfl v13_46_2)) i16 i38c i38b i38a; omega
                have n45c : (s38.2.2.1 46 2).toInt ≤ (s38.2.2.1 46 1).toInt := by have b0 : z38a = s38.2.2.1 46 2 := e38; have b1 : u_46_1 = s38.2.2.1 46 1 := fr_F (fr_F (fr_F e_46_1 hFc13 rfl) hF32 rfl) hF38 rfl; rw [← b0, ← b1]; exact n45b
                have n45d : (z38b).toInt ≤ (z38a).toInt := by have a0 := oa11 h2 r_46_1 ((inv_F hIc13 0 120 rfl v13_102_4)) i22x13 i22x5 ((inv_F hIc13 0 1000 rfl v13_46_4)) ((inv_F hIc13 0 1000 rfl v13_46_2)) i16 i38c i38b i38a; omega
                have n45e : (s38.2.2.1 46 4).toInt ≤ (s38.2.2.1 46 2).toInt := by have b0 : z38b = s38.2.2.1 46 4 := e38a; have b1 : z38a = s38.2.2.1 46 2 := e38; rw [← b0, ← b1]; exact n45d
                have n45f : (z38c).toInt ≤ (z38b).toInt := by have a0 := oa11 h2 r_46_1 ((inv_F hIc13 0 120 rfl v13_102_4)) i22x13 i22x5 ((inv_F hIc13 0 1000 rfl v13_46_4)) ((inv_F hIc13 0 1000 rfl v13_46_2)) i16 i38c i38b i38a; omega
                have n45g : (s38.2.2.1 102 4).toInt ≤ (s38.2.2.1 46 4).toInt := by have b0 : z38c = s38.2.2.1 102 4 := e38b; have b1 : z38b = s38.2.2.1 46 4 := e38a; rw [← b0, ← b1]; exact n45f
                have n45h : (u_46_4).toInt - (u_102_4).toInt ≤ (z38b).toInt - (z38c).toInt := by have a0 := oa11 h2 r_46_1 ((inv_F hIc13 0 120 rfl v13_102_4)) i22x13 i22x5 ((inv_F hIc13 0 1000 rfl v13_46_4)) ((inv_F hIc13 0 1000 rfl v13_46_2)) i16 i38c i38b i38a; omega
                have n45i : (s.2.2.1 46 4).toInt - (s.2.2.1 102 4).toInt ≤ (s38.2.2.1 46 4).toInt - (s38.2.2.1 102 4).toInt := by have b0 : z38b = s38.2.2.1 46 4 := e38a; have b1 : z38c = s38.2.2.1 102 4 := e38b; first | (rw [← b0, ← b1, ← e_46_4, ← e_102_4]; exact n45h) | (rw [← b0, ← b1]; exact n45h)
                exact g_ireturn (gd rfl) rfl (nb01 (in_w 0 1 (in_c 0 rfl) rfl)) (hP _ _ ⟨s38, hI38, (fr_tr rfl (fr_tr rfl hFc13 hF32) hF38), n45c, n45e, n45g, n45i, (Int32.ofInt 0), rfl, rfl, in_w 0 1 (in_c 0 rfl) rfl, n45, n45a⟩)
  refine g_enter2 (k := 60) (N := 109801) (by first | exact dq1 hd rfl | exact dq0 hd rfl | exact dq2 hd rfl | exact dq3 hd rfl | omega) rfl (Nat.le_of_ble_eq_true rfl) ?_
  refine g_aload_n 1 (gd rfl) rfl rfl ?_
  refine g_aload_n 2 (gd rfl) rfl rfl ?_
  refine g_iload_n 3 (gd rfl) rfl rfl ?_
  have n3 : (u_46_2).toInt ≤ (u_46_1).toInt := by have a0 := oa6 ((inv_F hI 0 120 rfl e_102_4)) ((inv_F hI 0 5 rfl e_46_3)) ((inv_F hI 0 1000 rfl e_46_4)) r_46_1 ((inv_F hI 0 1000 rfl e_46_2)) h2; omega
  have n3a : (u_46_4).toInt ≤ (u_46_2).toInt := by have a0 := oa6 ((inv_F hI 0 120 rfl e_102_4)) ((inv_F hI 0 5 rfl e_46_3)) ((inv_F hI 0 1000 rfl e_46_4)) r_46_1 ((inv_F hI 0 1000 rfl e_46_2)) h2; omega
  have n3b : (u_102_4).toInt ≤ (u_46_4).toInt := by have a0 := oa6 ((inv_F hI 0 120 rfl e_102_4)) ((inv_F hI 0 5 rfl e_46_3)) ((inv_F hI 0 1000 rfl e_46_4)) r_46_1 ((inv_F hI 0 1000 rfl e_46_2)) h2; omega
  have p3 : TK s := by exact q_0
  have n3c : 10 - (x2).toInt < ((kk : Nat) : Int) := by have a0 := oa6 ((inv_F hI 0 120 rfl e_102_4)) ((inv_F hI 0 5 rfl e_46_3)) ((inv_F hI 0 1000 rfl e_46_4)) r_46_1 ((inv_F hI 0 1000 rfl e_46_2)) h2; omega
  refine g_callv (X := _) (As := [.ref (A 46), .int x2]) (r := []) (b := A 102) (q := 102) 6 (gd rfl) rfl rfl rfl rfl rfl (ww_o rfl) (Nat.le_of_ble_eq_true rfl) (Nat.zero_le _) (Nat.zero_le _) (ih (by omega) hI (in_w 0 10 h2 rfl) e_46_2 e_46_1 e_46_4 e_46_3 e_46_5 e_102_4 (in_w 0 120 r_46_1 rfl) n3 n3a n3b p3 n3c) (fun e u h => h) (fun v u h => ?_)
  obtain ⟨s3, hI3, hF3, n3d, n3e, n3f, n3g, z3, rfl, rfl, i3, p3a, p3b⟩ := h
  obtain ⟨z3a, e3⟩ : ∃ w, w = s3.2.2.1 46 2 := ⟨_, rfl⟩
  have i3a := inv_F hI3 0 1000 rfl e3
  obtain ⟨z3b, e3a⟩ : ∃ w, w = s3.2.2.1 46 4 := ⟨_, rfl⟩
  have i3b := inv_F hI3 0 1000 rfl e3a
  obtain ⟨z3c, e3b⟩ : ∃ w, w = s3.2.2.1 102 4 := ⟨_, rfl⟩
  have i3c := inv_F hI3 0 120 rfl e3b
  rw [← (show z3a = s3.2.2.1 46 2 from e3)] at n3d
  rw [← (show u_46_1 = s3.2.2.1 46 1 from fr_F (e_46_1) hF3 rfl)] at n3d
  rw [← (show z3a = s3.2.2.1 46 2 from e3)] at n3e
  rw [← (show z3b = s3.2.2.1 46 4 from e3a)] at n3e
  rw [← (show z3b = s3.2.2.1 46 4 from e3a)] at n3f
  rw [← (show z3c = s3.2.2.1 102 4 from e3b)] at n3f
  rw [← (show u_46_4 = s.2.2.1 46 4 from e_46_4)] at n3g
  rw [← (show u_102_4 = s.2.2.1 102 4 from e_102_4)] at n3g
  rw [← (show z3b = s3.2.2.1 46 4 from e3a)] at n3g
  rw [← (show z3c = s3.2.2.1 102 4 from e3b)] at n3g
  show GG _ _ _ _ _ _ _ _ [.int z3] _ _ _
  refine g_if_ne 9 11 (gd rfl) rfl rfl (fun c6 => ?_) (fun c6 => ?_)
  · skip
    have i6 := z_ne 1 1 c6 i3 rfl
    refine g_iconst 0 12 (gd rfl) rfl rfl ?_
    refine g_istore_n 13 (gd rfl) rfl (Nat.le_of_ble_eq_true rfl) ?_
    have n13 : (z3a).toInt ≤ (u_46_1).toInt := by have a0 := oa10 ((inv_F hI 0 120 rfl e_102_4)) ((inv_F hI 0 5 rfl e_46_3)) ((inv_F hI 0 1000 rfl e_46_4)) r_46_1 ((inv_F hI 0 1000 rfl e_46_2)) h2 ((in_c 0 rfl)) i3c i3b i3a; omega
    have n13a : (z3b).toInt ≤ (z3a).toInt := by have a0 := oa10 ((inv_F hI 0 120 rfl e_102_4)) ((inv_F hI 0 5 rfl e_46_3)) ((inv_F hI 0 1000 rfl e_46_4)) r_46_1 ((inv_F hI 0 1000 rfl e_46_2)) h2 ((in_c 0 rfl)) i3c i3b i3a; omega
    have n13b : (z3c).toInt ≤ (z3b).toInt := by have a0 := oa10 ((inv_F hI 0 120 rfl e_102_4)) ((inv_F hI 0 5 rfl e_46_3)) ((inv_F hI 0 1000 rfl e_46_4)) r_46_1 ((inv_F hI 0 1000 rfl e_46_2)) h2 ((in_c 0 rfl)) i3c i3b i3a; omega
    have n13c : (u_46_4).toInt - (u_102_4).toInt ≤ (z3b).toInt - (z3c).toInt := by have a0 := oa10 ((inv_F hI 0 120 rfl e_102_4)) ((inv_F hI 0 5 rfl e_46_3)) ((inv_F hI 0 1000 rfl e_46_4)) r_46_1 ((inv_F hI 0 1000 rfl e_46_2)) h2 ((in_c 0 rfl)) i3c i3b i3a; omega
    have n13d : PCV s s3 1 := by exact p3b c6
    have n13e : TK s3 := by exact p3a
    exact gg_w (by first | exact Nat.le_of_ble_eq_true rfl | omega) (gg_f (gf_cons rfl (gf_cons rfl (gf_cons rfl (gf_cons rfl gf_nil)))) (ct13 121 s3 (Int32.ofInt 0) z3a z3b _ _ z3c hI3 (fr_tr rfl fr_rf hF3) (in_w 0 120 (in_c 0 rfl) rfl) e3 e3a rfl rfl e3b n13 n13a n13b n13c n13d n13e (m_in 121 (in_w 0 120 (in_c 0 rfl) rfl) rfl)))
  · skip
    have i6 := z_eq 0 0 c6 i3 rfl
    refine g_iconst 0 10 (gd rfl) rfl rfl ?_
    have n10 : TK s3 := by first | exact g13_1 | exact p38a | exact p3a
    have n10a : ((Int32.ofInt 0)).toInt ≠ 0 → PCV s s3 1 := by first | (intro _; exact g13_0) | (intro h; exact absurd rfl h)
    have n10b : (z3a).toInt ≤ (u_46_1).toInt := by have a0 := oa9 ((inv_F hI 0 120 rfl e_102_4)) ((inv_F hI 0 5 rfl e_46_3)) ((inv_F hI 0 1000 rfl e_46_4)) r_46_1 ((inv_F hI 0 1000 rfl e_46_2)) h2 i3c i3b i3a; omega
    have n10c : (s3.2.2.1 46 2).toInt ≤ (s3.2.2.1 46 1).toInt := by have b0 : z3a = s3.2.2.1 46 2 := e3; have b1 : u_46_1 = s3.2.2.1 46 1 := fr_F (e_46_1) hF3 rfl; rw [← b0, ← b1]; exact n10b
    have n10d : (z3b).toInt ≤ (z3a).toInt := by have a0 := oa9 ((inv_F hI 0 120 rfl e_102_4)) ((inv_F hI 0 5 rfl e_46_3)) ((inv_F hI 0 1000 rfl e_46_4)) r_46_1 ((inv_F hI 0 1000 rfl e_46_2)) h2 i3c i3b i3a; omega
    have n10e : (s3.2.2.1 46 4).toInt ≤ (s3.2.2.1 46 2).toInt := by have b0 : z3b = s3.2.2.1 46 4 := e3a; have b1 : z3a = s3.2.2.1 46 2 := e3; rw [← b0, ← b1]; exact n10d
    have n10f : (z3c).toInt ≤ (z3b).toInt := by have a0 := oa9 ((inv_F hI 0 120 rfl e_102_4)) ((inv_F hI 0 5 rfl e_46_3)) ((inv_F hI 0 1000 rfl e_46_4)) r_46_1 ((inv_F hI 0 1000 rfl e_46_2)) h2 i3c i3b i3a; omega
    have n10g : (s3.2.2.1 102 4).toInt ≤ (s3.2.2.1 46 4).toInt := by have b0 : z3c = s3.2.2.1 102 4 := e3b; have b1 : z3b = s3.2.2.1 46 4 := e3a; rw [← b0, ← b1]; exact n10f
    have n10h : (u_46_4).toInt - (u_102_4).toInt ≤ (z3b).toInt - (z3c).toInt := by have a0 := oa9 ((inv_F hI 0 120 rfl e_102_4)) ((inv_F hI 0 5 rfl e_46_3)) ((inv_F hI 0 1000 rfl e_46_4)) r_46_1 ((inv_F hI 0 1000 rfl e_46_2)) h2 i3c i3b i3a; omega
    have n10i : (s.2.2.1 46 4).toInt - (s.2.2.1 102 4).toInt ≤ (s3.2.2.1 46 4).toInt - (s3.2.2.1 102 4).toInt := by have b0 : z3b = s3.2.2.1 46 4 := e3a; have b1 : z3c = s3.2.2.1 102 4 := e3b; first | (rw [← b0, ← b1, ← e_46_4, ← e_102_4]; exact n10h) | (rw [← b0, ← b1]; exact n10h)
    exact g_ireturn (gd rfl) rfl (nb01 (in_w 0 1 (in_c 0 rfl) rfl)) (hP _ _ ⟨s3, hI3, (fr_tr rfl fr_rf hF3), n10c, n10e, n10g, n10i, (Int32.ofInt 0), rfl, rfl, in_w 0 1 (in_c 0 rfl) rfl, n10, n10a⟩)
theorem k_59_102_46_r {Z : AmZ} {A : Nat → Nat} {ex : va_W} (kk : Nat) (ih : ∀ {s : GS} {d : Nat} {X : AmX} {x2 : Int32} {u_46_2 : Int32} {u_46_1 : Int32} {u_46_4 : Int32} {u_46_3 : Int32} {u_46_5 : Int32} {u_102_4 : Int32}, 65 + kk * 20 ≤ d → Inv s → (In x2 0 10) → (u_46_2 = s.2.2.1 46 2) → (u_46_1 = s.2.2.1 46 1) → (u_46_4 = s.2.2.1 46 4) → (u_46_3 = s.2.2.1 46 3) → (u_46_5 = s.2.2.1 46 5) → (u_102_4 = s.2.2.1 102 4) → (In u_46_1 0 120) → ((u_46_2).toInt ≤ (u_46_1).toInt) → ((u_46_4).toInt ≤ (u_46_2).toInt) → ((u_102_4).toInt ≤ (u_46_4).toInt) → (TK s) → 10 - (x2).toInt < ((kk : Nat) : Int) → GC Z d 60 [.ref (A 102), .ref (A 46), .int x2] (WW Z A s ++ ex) 0 0 (fun v u => ∃ t : GS, Inv t ∧ Fr fm_60_102_46 s t ∧ ((t.2.2.1 46 2).toInt ≤ (t.2.2.1 46 1).toInt) ∧ ((t.2.2.1 46 4).toInt ≤ (t.2.2.1 46 2).toInt) ∧ ((t.2.2.1 102 4).toInt ≤ (t.2.2.1 46 4).toInt) ∧ ((s.2.2.1 46 4).toInt - (s.2.2.1 102 4).toInt ≤ (t.2.2.1 46 4).toInt - (t.2.2.1 102 4).toInt) ∧ ∃ z : Int32, v = some (.int z) ∧ u = WW Z A t ++ ex ∧ In z 0 1 ∧ (TK t) ∧ ((z).toInt ≠ 0 → PCV s t 1)) X) : ∀ {s : GS} {d : Nat} {X : AmX} {x2 : Int32} {u_46_2 : Int32} {u_46_1 : Int32} {u_46_4 : Int32} {u_46_3 : Int32} {u_46_5 : Int32} {u_102_4 : Int32}, 70 + kk * 20 ≤ d → Inv s → (In x2 0 10) → (u_46_2 = s.2.2.1 46 2) → (u_46_1 = s.2.2.1 46 1) → (u_46_4 = s.2.2.1 46 4) → (u_46_3 = s.2.2.1 46 3) → (u_46_5 = s.2.2.1 46 5) → (u_102_4 = s.2.2.1 102 4) → (In u_46_1 0 120) → ((u_46_2).toInt ≤ (u_46_1).toInt) → ((u_46_4).toInt ≤ (u_46_2).toInt) → ((u_102_4).toInt ≤ (u_46_4).toInt) → (TK s) → 10 - (x2).toInt < ((kk : Nat) : Int) → GC Z d 59 [.ref (A 102), .ref (A 46), .int x2] (WW Z A s ++ ex) 0 0 (fun v u => ∃ t : GS, Inv t ∧ Fr fm_59_102_46 s t ∧ ((t.2.2.1 46 2).toInt ≤ (t.2.2.1 46 1).toInt) ∧ ((t.2.2.1 46 4).toInt ≤ (t.2.2.1 46 2).toInt) ∧ ((t.2.2.1 102 4).toInt ≤ (t.2.2.1 46 4).toInt) ∧ ((s.2.2.1 46 4).toInt - (s.2.2.1 102 4).toInt ≤ (t.2.2.1 46 4).toInt - (t.2.2.1 102 4).toInt) ∧ ∃ z : Int32, v = some (.int z) ∧ u = WW Z A t ++ ex ∧ In z 0 1 ∧ (TK t) ∧ ((z).toInt ≠ 0 → PCV s t 1)) X := by
  intro s d X x2 u_46_2 u_46_1 u_46_4 u_46_3 u_46_5 u_102_4 hd hI h2 e_46_2 e_46_1 e_46_4 e_46_3 e_46_5 e_102_4 r_46_1 p_0 p_1 p_2 q_0 hm
  intro post xp hP hX
  have ct13 : ∀ (k13 : Nat) (sc13 : GS) (y13_3 : Int32) (w13_46_2 : Int32) (w13_46_4 : Int32) (w13_46_3 : Int32) (w13_46_5 : Int32) (w13_102_4 : Int32), Inv sc13 → Fr fm_59_102_46 s sc13 → (In y13_3 0 120) → (w13_46_2 = sc13.2.2.1 46 2) → (w13_46_4 = sc13.2.2.1 46 4) → (w13_46_3 = sc13.2.2.1 46 3) → (w13_46_5 = sc13.2.2.1 46 5) → (w13_102_4 = sc13.2.2.1 102 4) → ((w13_46_2).toInt ≤ (u_46_1).toInt) → ((w13_46_4).toInt ≤ (w13_46_2).toInt) → ((w13_102_4).toInt ≤ (w13_46_4).toInt) → ((u_46_4).toInt - (u_102_4).toInt ≤ (w13_46_4).toInt - (w13_102_4).toInt) → (PCV s sc13 1) → (TK sc13) → 120 - (y13_3).toInt < (k13 : Int) → GG Z (d - 1) 59 post (gx xp) (1 + k13 * 900) 13 (fun j => xlook j [(0, .ref (A 102)), (1, .ref (A 46)), (2, .int x2), (3, .int y13_3)]) [] (WW Z A sc13 ++ ex) 0 0 := by
    intro k13
    induction k13 with
    | zero => intro sc13 y13_3 w13_46_2 w13_46_4 w13_46_3 w13_46_5 w13_102_4 hIc13 hFc13 j13_3 v13_46_2 v13_46_4 v13_46_3 v13_46_5 v13_102_4 n13_0 n13_1 n13_2 n13_3 g13_0 g13_1 mm13; exact m_no mm13 j13_3 rfl
    | succ k13 ih13 =>
      intro sc13 y13_3 w13_46_2 w13_46_4 w13_46_3 w13_46_5 w13_102_4 hIc13 hFc13 j13_3 v13_46_2 v13_46_4 v13_46_3 v13_46_5 v13_102_4 n13_0 n13_1 n13_2 n13_3 g13_0 g13_1 mm13
      refine gg_w (M := 1 + k13 * 900 + 900) gws ?_
      refine g_iload_n 14 (gd rfl) rfl rfl ?_
      refine g_bipush 120 16 (gd rfl) rfl rfl ?_
      refine g_cmp_ge 19 77 (gd rfl) rfl rfl (fun c16 => ?_) (fun c16 => ?_)
      · skip
        have i16 := r_le2 120 120 c16 (in_c 120 rfl) j13_3 rfl
        refine g_iconst 1 78 (gd rfl) rfl rfl ?_
        have n78 : TK sc13 := by first | exact g13_1 | exact p53a | exact p3a
        have n78a : ((Int32.ofInt 1)).toInt ≠ 0 → PCV s sc13 1 := by first | (intro _; exact g13_0) | (intro h; exact absurd rfl h)
        have n78b : (w13_46_2).toInt ≤ (u_46_1).toInt := by first | exact n13_0 | (have a0 := oa7 h2 r_46_1 ((inv_F hIc13 0 120 rfl v13_102_4)) ((inv_F hIc13 0 5 rfl v13_46_3)) ((inv_F hIc13 0 1000 rfl v13_46_4)) ((inv_F hIc13 0 1000 rfl v13_46_2)) i16; omega)
        have n78c : (sc13.2.2.1 46 2).toInt ≤ (sc13.2.2.1 46 1).toInt := by have b0 : w13_46_2 = sc13.2.2.1 46 2 := v13_46_2; have b1 : u_46_1 = sc13.2.2.1 46 1 := fr_F e_46_1 hFc13 rfl; rw [← b0, ← b1]; exact n78b
        have n78d : (w13_46_4).toInt ≤ (w13_46_2).toInt := by first | exact n13_1 | (have a0 := oa7 h2 r_46_1 ((inv_F hIc13 0 120 rfl v13_102_4)) ((inv_F hIc13 0 5 rfl v13_46_3)) ((inv_F hIc13 0 1000 rfl v13_46_4)) ((inv_F hIc13 0 1000 rfl v13_46_2)) i16; omega)
        have n78e : (sc13.2.2.1 46 4).toInt ≤ (sc13.2.2.1 46 2).toInt := by have b0 : w13_46_4 = sc13.2.2.1 46 4 := v13_46_4; have b1 : w13_46_2 = sc13.2.2.1 46 2 := v13_46_2; rw [← b0, ← b1]; exact n78d
        have n78f : (w13_102_4).toInt ≤ (w13_46_4).toInt := by first | exact n13_2 | (have a0 := oa7 h2 r_46_1 ((inv_F hIc13 0 120 rfl v13_102_4)) ((inv_F hIc13 0 5 rfl v13_46_3)) ((inv_F hIc13 0 1000 rfl v13_46_4)) ((inv_F hIc13 0 1000 rfl v13_46_2)) i16; omega)
        have n78g : (sc13.2.2.1 102 4).toInt ≤ (sc13.2.2.1 46 4).toInt := by have b0 : w13_102_4 = sc13.2.2.1 102 4 := v13_102_4; have b1 : w13_46_4 = sc13.2.2.1 46 4 := v13_46_4; rw [← b0, ← b1]; exact n78f
        have n78h : (u_46_4).toInt - (u_102_4).toInt ≤ (w13_46_4).toInt - (w13_102_4).toInt := by first | exact n13_3 | (have a0 := oa7 h2 r_46_1 ((inv_F hIc13 0 120 rfl v13_102_4)) ((inv_F hIc13 0 5 rfl v13_46_3)) ((inv_F hIc13 0 1000 rfl v13_46_4)) ((inv_F hIc13 0 1000 rfl v13_46_2)) i16; omega)
        have n78i : (s.2.2.1 46 4).toInt - (s.2.2.1 102 4).toInt ≤ (sc13.2.2.1 46 4).toInt - (sc13.2.2.1 102 4).toInt := by have b0 : w13_46_4 = sc13.2.2.1 46 4 := v13_46_4; have b1 : w13_102_4 = sc13.2.2.1 102 4 := v13_102_4; first | (rw [← b0, ← b1, ← e_46_4, ← e_102_4]; exact n78h) | (rw [← b0, ← b1]; exact n78h)
        exact g_ireturn (gd rfl) rfl (nb01 (in_w 0 1 (in_c 1 rfl) rfl)) (hP _ _ ⟨sc13, hIc13, hFc13, n78c, n78e, n78g, n78i, (Int32.ofInt 1), rfl, rfl, in_w 0 1 (in_c 1 rfl) rfl, n78, n78a⟩)
      · skip
        have i16 := r_lt1 0 119 c16 j13_3 (in_c 120 rfl) rfl
        refine g_aload_n 20 (gd rfl) rfl rfl ?_
        refine g_bipush 43 22 (gd rfl) rfl rfl ?_
        refine g_callv (X := _) (As := [.int (Int32.ofInt 43)]) (r := []) (b := A 46) (q := 46) 25 (gd rfl) rfl rfl rfl rfl rfl (ww_o rfl) (Nat.le_of_ble_eq_true rfl) (mc := 0) (ms := 0) (Nat.zero_le _) (Nat.zero_le _) (P := fun v u => _) ?_ (fun e u h => h) (fun v u h => h)
        intro po22 xx22 hp22 hx22
        refine g_enter2 (k := 170) (N := 300) (by first | exact dq1 hd rfl | exact dq0 hd rfl | exact dq2 hd rfl | exact dq3 hd rfl | omega) rfl (Nat.le_of_ble_eq_true rfl) ?_
        refine g_aload_n 1 (gd rfl) rfl rfl ?_
        refine g_getI 4 (gd rfl) rfl rfl rfl (fun z22x1 e22x1 => ?_)
        have q22x1 : w13_46_3 = z22x1 := (v13_46_3).trans e22x1.symm
        subst q22x1
        refine g_iconst 3 5 (gd rfl) rfl rfl ?_
        refine g_cmp_ne 8 20 (gd rfl) rfl rfl (fun c22x5 => ?_) (fun c22x5 => ?_)
        · skip
          refine g_iconst 0 21 (gd rfl) rfl rfl ?_
          refine g_ireturn (gd rfl) rfl (nb01 (in_w 0 1 (in_c 0 rfl) rfl)) (hp22 _ _ ?_)
          show GG _ _ _ _ _ _ _ _ [.int (Int32.ofInt 0)] _ _ _
          refine g_if_ne 28 37 (gd rfl) rfl rfl (fun c25 => ?_) (fun c25 => ?_)
          · skip
            exact zn_ne c25 (in_c 0 rfl) rfl
          · skip
            refine g_aload_n 29 (gd rfl) rfl rfl ?_
            refine g_bipush 45 31 (gd rfl) rfl rfl ?_
            refine g_callv (X := _) (As := [.int (Int32.ofInt 45)]) (r := []) (b := A 46) (q := 46) 34 (gd rfl) rfl rfl rfl rfl rfl (ww_o rfl) (Nat.le_of_ble_eq_true rfl) (mc := 0) (ms := 0) (Nat.zero_le _) (Nat.zero_le _) (P := fun v u => _) ?_ (fun e u h => h) (fun v u h => h)
            intro po31 xx31 hp31 hx31
            refine g_enter2 (k := 170) (N := 300) (by first | exact dq1 hd rfl | exact dq0 hd rfl | exact dq2 hd rfl | exact dq3 hd rfl | omega) rfl (Nat.le_of_ble_eq_true rfl) ?_
            refine g_aload_n 1 (gd rfl) rfl rfl ?_
            refine g_getI 4 (gd rfl) rfl rfl rfl (fun z31x1 e31x1 => ?_)
            have q31x1 : w13_46_3 = z31x1 := (v13_46_3).trans e31x1.symm
            subst q31x1
            refine g_iconst 3 5 (gd rfl) rfl rfl ?_
            refine g_cmp_ne 8 20 (gd rfl) rfl rfl (fun c31x5 => ?_) (fun c31x5 => ?_)
            · skip
              refine g_iconst 0 21 (gd rfl) rfl rfl ?_
              refine g_ireturn (gd rfl) rfl (nb01 (in_w 0 1 (in_c 0 rfl) rfl)) (hp31 _ _ ?_)
              show GG _ _ _ _ _ _ _ _ [.int (Int32.ofInt 0)] _ _ _
              refine g_if_eq 37 77 (gd rfl) rfl rfl (fun c34 => ?_) (fun c34 => ?_)
              · skip
                refine g_iconst 1 78 (gd rfl) rfl rfl ?_
                have n78 : TK sc13 := by first | exact g13_1 | exact p53a | exact p3a
                have n78a : ((Int32.ofInt 1)).toInt ≠ 0 → PCV s sc13 1 := by first | (intro _; exact g13_0) | (intro h; exact absurd rfl h)
                have n78b : (w13_46_2).toInt ≤ (u_46_1).toInt := by first | exact n13_0 | (have a0 := oa7 h2 r_46_1 ((inv_F hIc13 0 120 rfl v13_102_4)) ((inv_F hIc13 0 5 rfl v13_46_3)) ((inv_F hIc13 0 1000 rfl v13_46_4)) ((inv_F hIc13 0 1000 rfl v13_46_2)) i16; omega)
                have n78c : (sc13.2.2.1 46 2).toInt ≤ (sc13.2.2.1 46 1).toInt := by have b0 : w13_46_2 = sc13.2.2.1 46 2 := v13_46_2; have b1 : u_46_1 = sc13.2.2.1 46 1 := fr_F e_46_1 hFc13 rfl; rw [← b0, ← b1]; exact n78b
                have n78d : (w13_46_4).toInt ≤ (w13_46_2).toInt := by first | exact n13_1 | (have a0 := oa7 h2 r_46_1 ((inv_F hIc13 0 120 rfl v13_102_4)) ((inv_F hIc13 0 5 rfl v13_46_3)) ((inv_F hIc13 0 1000 rfl v13_46_4)) ((inv_F hIc13 0 1000 rfl v13_46_2)) i16; omega)
                have n78e : (sc13.2.2.1 46 4).toInt ≤ (sc13.2.2.1 46 2).toInt := by have b0 : w13_46_4 = sc13.2.2.1 46 4 := v13_46_4; have b1 : w13_46_2 = sc13.2.2.1 46 2 := v13_46_2; rw [← b0, ← b1]; exact n78d
                have n78f : (w13_102_4).toInt ≤ (w13_46_4).toInt := by first | exact n13_2 | (have a0 := oa7 h2 r_46_1 ((inv_F hIc13 0 120 rfl v13_102_4)) ((inv_F hIc13 0 5 rfl v13_46_3)) ((inv_F hIc13 0 1000 rfl v13_46_4)) ((inv_F hIc13 0 1000 rfl v13_46_2)) i16; omega)
                have n78g : (sc13.2.2.1 102 4).toInt ≤ (sc13.2.2.1 46 4).toInt := by have b0 : w13_102_4 = sc13.2.2.1 102 4 := v13_102_4; have b1 : w13_46_4 = sc13.2.2.1 46 4 := v13_46_4; rw [← b0, ← b1]; exact n78f
                have n78h : (u_46_4).toInt - (u_102_4).toInt ≤ (w13_46_4).toInt - (w13_102_4).toInt := by first | exact n13_3 | (have a0 := oa7 h2 r_46_1 ((inv_F hIc13 0 120 rfl v13_102_4)) ((inv_F hIc13 0 5 rfl v13_46_3)) ((inv_F hIc13 0 1000 rfl v13_46_4)) ((inv_F hIc13 0 1000 rfl v13_46_2)) i16; omega)
                have n78i : (s.2.2.1 46 4).toInt - (s.2.2.1 102 4).toInt ≤ (sc13.2.2.1 46 4).toInt - (sc13.2.2.1 102 4).toInt := by have b0 : w13_46_4 = sc13.2.2.1 46 4 := v13_46_4; have b1 : w13_102_4 = sc13.2.2.1 102 4 := v13_102_4; first | (rw [← b0, ← b1, ← e_46_4, ← e_102_4]; exact n78h) | (rw [← b0, ← b1]; exact n78h)
                exact g_ireturn (gd rfl) rfl (nb01 (in_w 0 1 (in_c 1 rfl) rfl)) (hP _ _ ⟨sc13, hIc13, hFc13, n78c, n78e, n78g, n78i, (Int32.ofInt 1), rfl, rfl, in_w 0 1 (in_c 1 rfl) rfl, n78, n78a⟩)
              · skip
                exact zn_ne c34 (in_c 0 rfl) rfl
            · skip
              exact absurd c31x5 c22x5
        · skip
          have i22x5 := r_eq1 3 3 c22x5 (inv_F hIc13 0 5 rfl v13_46_3) (in_c 3 rfl) rfl
          refine g_aload_n 9 (gd rfl) rfl rfl ?_
          refine g_getI 12 (gd rfl) rfl rfl rfl (fun z22x9 e22x9 => ?_)
          have q22x9 : w13_46_5 = z22x9 := (v13_46_5).trans e22x9.symm
          subst q22x9
          refine g_iload_n 13 (gd rfl) rfl rfl ?_
          refine g_cmp_ne 16 20 (gd rfl) rfl rfl (fun c22x13 => ?_) (fun c22x13 => ?_)
          · skip
            refine g_iconst 0 21 (gd rfl) rfl rfl ?_
            refine g_ireturn (gd rfl) rfl (nb01 (in_w 0 1 (in_c 0 rfl) rfl)) (hp22 _ _ ?_)
            show GG _ _ _ _ _ _ _ _ [.int (Int32.ofInt 0)] _ _ _
            refine g_if_ne 28 37 (gd rfl) rfl rfl (fun c25 => ?_) (fun c25 => ?_)
            · skip
              exact zn_ne c25 (in_c 0 rfl) rfl
            · skip
              refine g_aload_n 29 (gd rfl) rfl rfl ?_
              refine g_bipush 45 31 (gd rfl) rfl rfl ?_
              refine g_callv (X := _) (As := [.int (Int32.ofInt 45)]) (r := []) (b := A 46) (q := 46) 34 (gd rfl) rfl rfl rfl rfl rfl (ww_o rfl) (Nat.le_of_ble_eq_true rfl) (mc := 0) (ms := 0) (Nat.zero_le _) (Nat.zero_le _) (P := fun v u => _) ?_ (fun e u h => h) (fun v u h => h)
              intro po31 xx31 hp31 hx31
              refine g_enter2 (k := 170) (N := 300) (by first | exact dq1 hd rfl | exact dq0 hd rfl | exact dq2 hd rfl | exact dq3 hd rfl | omega) rfl (Nat.le_of_ble_eq_true rfl) ?_
              refine g_aload_n 1 (gd rfl) rfl rfl ?_
              refine g_getI 4 (gd rfl) rfl rfl rfl (fun z31x1 e31x1 => ?_)
              have q31x1 : w13_46_3 = z31x1 := (v13_46_3).trans e31x1.symm
              subst q31x1
              refine g_iconst 3 5 (gd rfl) rfl rfl ?_
              refine g_cmp_ne 8 20 (gd rfl) rfl rfl (fun c31x5 => ?_) (fun c31x5 => ?_)
              · skip
                exact n_ne c31x5 i22x5 (in_c 3 rfl) rfl
              · skip
                refine g_aload_n 9 (gd rfl) rfl rfl ?_
                refine g_getI 12 (gd rfl) rfl rfl rfl (fun z31x9 e31x9 => ?_)
                have q31x9 : w13_46_5 = z31x9 := (v13_46_5).trans e31x9.symm
                subst q31x9
                refine g_iload_n 13 (gd rfl) rfl rfl ?_
                refine g_cmp_ne 16 20 (gd rfl) rfl rfl (fun c31x13 => ?_) (fun c31x13 => ?_)
                · skip
                  refine g_iconst 0 21 (gd rfl) rfl rfl ?_
                  refine g_ireturn (gd rfl) rfl (nb01 (in_w 0 1 (in_c 0 rfl) rfl)) (hp31 _ _ ?_)
                  show GG _ _ _ _ _ _ _ _ [.int (Int32.ofInt 0)] _ _ _
                  refine g_if_eq 37 77 (gd rfl) rfl rfl (fun c34 => ?_) (fun c34 => ?_)
                  · skip
                    refine g_iconst 1 78 (gd rfl) rfl rfl ?_
                    have n78 : TK sc13 := by first | exact g13_1 | exact p53a | exact p3a
                    have n78a : ((Int32.ofInt 1)).toInt ≠ 0 → PCV s sc13 1 := by first | (intro _; exact g13_0) | (intro h; exact absurd rfl h)
                    have n78b : (w13_46_2).toInt ≤ (u_46_1).toInt := by first | exact n13_0 | (have a0 := oa7 h2 r_46_1 ((inv_F hIc13 0 120 rfl v13_102_4)) i22x5 ((inv_F hIc13 0 1000 rfl v13_46_4)) ((inv_F hIc13 0 1000 rfl v13_46_2)) i16; omega)
                    have n78c : (sc13.2.2.1 46 2).toInt ≤ (sc13.2.2.1 46 1).toInt := by have b0 : w13_46_2 = sc13.2.2.1 46 2 := v13_46_2; have b1 : u_46_1 = sc13.2.2.1 46 1 := fr_F e_46_1 hFc13 rfl; rw [← b0, ← b1]; exact n78b
                    have n78d : (w13_46_4).toInt ≤ (w13_46_2).toInt := by first | exact n13_1 | (have a0 := oa7 h2 r_46_1 ((inv_F hIc13 0 120 rfl v13_102_4)) i22x5 ((inv_F hIc13 0 1000 rfl v13_46_4)) ((inv_F hIc13 0 1000 rfl v13_46_2)) i16; omega)
                    have n78e : (sc13.2.2.1 46 4).toInt ≤ (sc13.2.2.1 46 2).toInt := by have b0 : w13_46_4 = sc13.2.2.1 46 4 := v13_46_4; have b1 : w13_46_2 = sc13.2.2.1 46 2 := v13_46_2; rw [← b0, ← b1]; exact n78d
                    have n78f : (w13_102_4).toInt ≤ (w13_46_4).toInt := by first | exact n13_2 | (have a0 := oa7 h2 r_46_1 ((inv_F hIc13 0 120 rfl v13_102_4)) i22x5 ((inv_F hIc13 0 1000 rfl v13_46_4)) ((inv_F hIc13 0 1000 rfl v13_46_2)) i16; omega)
                    have n78g : (sc13.2.2.1 102 4).toInt ≤ (sc13.2.2.1 46 4).toInt := by have b0 : w13_102_4 = sc13.2.2.1 102 4 := v13_102_4; have b1 : w13_46_4 = sc13.2.2.1 46 4 := v13_46_4; rw [← b0, ← b1]; exact n78f
                    have n78h : (u_46_4).toInt - (u_102_4).toInt ≤ (w13_46_4).toInt - (w13_102_4).toInt := by first | exact n13_3 | (have a0 := oa7 h2 r_46_1 ((inv_F hIc13 0 120 rfl v13_102_4)) i22x5 ((inv_F hIc13 0 1000 rfl v13_46_4)) ((inv_F hIc13 0 1000 rfl v13_46_2)) i16; omega)
                    have n78i : (s.2.2.1 46 4).toInt - (s.2.2.1 102 4).toInt ≤ (sc13.2.2.1 46 4).toInt - (sc13.2.2.1 102 4).toInt := by have b0 : w13_46_4 = sc13.2.2.1 46 4 := v13_46_4; have b1 : w13_102_4 = sc13.2.2.1 102 4 := v13_102_4; first | (rw [← b0, ← b1, ← e_46_4, ← e_102_4]; exact n78h) | (rw [← b0, ← b1]; exact n78h)
                    exact g_ireturn (gd rfl) rfl (nb01 (in_w 0 1 (in_c 1 rfl) rfl)) (hP _ _ ⟨sc13, hIc13, hFc13, n78c, n78e, n78g, n78i, (Int32.ofInt 1), rfl, rfl, in_w 0 1 (in_c 1 rfl) rfl, n78, n78a⟩)
                  · skip
                    exact zn_ne c34 (in_c 0 rfl) rfl
                · skip
                  have i31x13 := r_eq1 45 45 c31x13 (inv_F hIc13 (-2147483648) 2147483647 rfl v13_46_5) (in_c 45 rfl) rfl
                  refine g_iconst 1 17 (gd rfl) rfl rfl ?_
                  refine g_goto 21 (gd rfl) rfl ?_
                  refine g_ireturn (gd rfl) rfl (nb01 (in_w 0 1 (in_c 1 rfl) rfl)) (hp31 _ _ ?_)
                  show GG _ _ _ _ _ _ _ _ [.int (Int32.ofInt 1)] _ _ _
                  refine g_if_eq 37 77 (gd rfl) rfl rfl (fun c34 => ?_) (fun c34 => ?_)
                  · skip
                    exact zn_eq c34 (in_c 1 rfl) rfl
                  · skip
                    refine g_aload_n 38 (gd rfl) rfl rfl ?_
                    refine g_getI 41 (gd rfl) rfl rfl rfl (fun z38 e38 => ?_)
                    have q38 : w13_46_5 = z38 := (v13_46_5).trans e38.symm
                    subst q38
                    refine g_istore 43 (gd rfl) rfl (Nat.le_of_ble_eq_true rfl) ?_
                    refine g_aload_n 44 (gd rfl) rfl rfl ?_
                    refine g_bipush 6 46 (gd rfl) rfl rfl ?_
                    refine g_iconst 0 47 (gd rfl) rfl rfl ?_
                    have hk := tka_1 g13_1 (show w13_46_3 = sc13.2.2.1 46 3 from v13_46_3) (show w13_46_4 = sc13.2.2.1 46 4 from v13_46_4) (show w13_46_2 = sc13.2.2.1 46 2 from v13_46_2) (by have a0 := oa8 h2 r_46_1 ((inv_F hIc13 0 120 rfl v13_102_4)) i31x13 i22x5 ((inv_F hIc13 0 1000 rfl v13_46_4)) ((inv_F hIc13 0 1000 rfl v13_46_2)) i16; omega)
                    have v47 : u_46_1 = sc13.2.2.1 46 1 := fr_F e_46_1 hFc13 rfl
                    have n47 : (w13_46_2).toInt ≤ (u_46_1).toInt := by first | exact n13_0 | (have a0 := oa8 h2 r_46_1 ((inv_F hIc13 0 120 rfl v13_102_4)) i31x13 i22x5 ((inv_F hIc13 0 1000 rfl v13_46_4)) ((inv_F hIc13 0 1000 rfl v13_46_2)) i16; omega)
                    refine g_callv (X := _) (As := [.int (Int32.ofInt 6), .int (Int32.ofInt 0)]) (r := []) (b := A 46) (q := 46) 50 (gd rfl) rfl rfl rfl rfl rfl (ww_o rfl) (Nat.le_of_ble_eq_true rfl) (Nat.zero_le _) (Nat.zero_le _) (k_171_46 (by first | exact dq1 hd rfl | exact dq0 hd rfl | exact dq2 hd rfl | exact dq3 hd rfl | omega) hIc13 (in_w 6 7 (in_c 6 rfl) rfl) (in_w 0 1 (in_c 0 rfl) rfl) v13_46_2 v47 n47) (fun e u h => h) (fun v u h => ?_)
                    obtain ⟨s47, hI47, hF47, n47a, n47b, n47c, rfl, rfl, p47, p47a⟩ := h
                    obtain ⟨z47a, e47⟩ : ∃ w, w = s47.2.2.1 46 2 := ⟨_, rfl⟩
                    have i47a := inv_F hI47 0 1000 rfl e47
                    obtain ⟨z47b, e47a⟩ : ∃ w, w = s47.2.2.1 46 4 := ⟨_, rfl⟩
                    have i47b := inv_F hI47 0 1000 rfl e47a
                    rw [← (show z47a = s47.2.2.1 46 2 from e47)] at n47a
                    rw [← (show u_46_1 = s47.2.2.1 46 1 from fr_F (fr_F e_46_1 hFc13 rfl) hF47 rfl)] at n47a
                    rw [← (show z47a = s47.2.2.1 46 2 from e47)] at n47b
                    rw [← (show z47b = s47.2.2.1 46 4 from e47a)] at n47b
                    rw [← (show w13_46_2 = sc13.2.2.1 46 2 from v13_46_2)] at n47c
                    rw [← (show z47b = s47.2.2.1 46 4 from e47a)] at n47c
                    show GG _ _ _ _ _ _ _ _ [] _ _ _
                    refine g_aload_n 51 (gd rfl) rfl rfl ?_
                    refine g_aload_n 52 (gd rfl) rfl rfl ?_
                    refine g_iload_n 53 (gd rfl) rfl rfl ?_
                    have v53 : u_46_1 = s47.2.2.1 46 1 := fr_F (fr_F e_46_1 hFc13 rfl) hF47 rfl
                    have v53a : w13_102_4 = s47.2.2.1 102 4 := fr_F (v13_102_4) hF47 rfl
                    have n53 : (z47a).toInt ≤ (u_46_1).toInt := by have a0 := oa10 h2 r_46_1 ((inv_F hIc13 0 120 rfl v13_102_4)) i31x13 i22x5 ((inv_F hIc13 0 1000 rfl v13_46_4)) ((inv_F hIc13 0 1000 rfl v13_46_2)) i16 i47b i47a; omega
                    have n53a : (z47b).toInt ≤ (z47a).toInt := by have a0 := oa10 h2 r_46_1 ((inv_F hIc13 0 120 rfl v13_102_4)) i31x13 i22x5 ((inv_F hIc13 0 1000 rfl v13_46_4)) ((inv_F hIc13 0 1000 rfl v13_46_2)) i16 i47b i47a; omega
                    have n53b : (w13_102_4).toInt ≤ (z47b).toInt := by have a0 := oa10 h2 r_46_1 ((inv_F hIc13 0 120 rfl v13_102_4)) i31x13 i22x5 ((inv_F hIc13 0 1000 rfl v13_46_4)) ((inv_F hIc13 0 1000 rfl v13_46_2)) i16 i47b i47a; omega
                    have p53 : TK s47 := by exact p47 (by decide)
                    have n53c : 10 - (x2).toInt < ((kk : Nat) : Int) := by have a0 := oa10 h2 r_46_1 ((inv_F hIc13 0 120 rfl v13_102_4)) i31x13 i22x5 ((inv_F hIc13 0 1000 rfl v13_46_4)) ((inv_F hIc13 0 1000 rfl v13_46_2)) i16 i47b i47a; omega
                    refine g_callv (X := _) (As := [.ref (A 46), .int x2]) (r := []) (b := A 102) (q := 102) 56 (gd rfl) rfl rfl rfl rfl rfl (ww_o rfl) (Nat.le_of_ble_eq_true rfl) (Nat.zero_le _) (Nat.zero_le _) (ih (by omega) hI47 (in_w 0 10 h2 rfl) e47 v53 e47a rfl rfl v53a (in_w 0 120 r_46_1 rfl) n53 n53a n53b p53 n53c) (fun e u h => h) (fun v u h => ?_)
                    obtain ⟨s53, hI53, hF53, n53d, n53e, n53f, n53g, z53, rfl, rfl, i53, p53a, p53b⟩ := h
                    obtain ⟨z53a, e53⟩ : ∃ w, w = s53.2.2.1 46 2 := ⟨_, rfl⟩
                    have i53a := inv_F hI53 0 1000 rfl e53
                    obtain ⟨z53b, e53a⟩ : ∃ w, w = s53.2.2.1 46 4 := ⟨_, rfl⟩
                    have i53b := inv_F hI53 0 1000 rfl e53a
                    obtain ⟨z53c, e53b⟩ : ∃ w, w = s53.2.2.1 102 4 := ⟨_, rfl⟩
                    have i53c := inv_F hI53 0 120 rfl e53b
                    rw [← (show z53a = s53.2.2.1 46 2 from e53)] at n53d
                    rw [← (show u_46_1 = s53.2.2.1 46 1 from fr_F (fr_F (fr_F e_46_1 hFc13 rfl) hF47 rfl) hF53 rfl)] at n53d
                    rw [← (show z53a = s53.2.2.1 46 2 from e53)] at n53e
                    rw [← (show z53b = s53.2.2.1 46 4 from e53a)] at n53e
                    rw [← (show z53b = s53.2.2.1 46 4 from e53a)] at n53f
                    rw [← (show z53c = s53.2.2.1 102 4 from e53b)] at n53f
                    rw [← (show z47b = s47.2.2.1 46 4 from e47a)] at n53g
                    rw [← (show w13_102_4 = s47.2.2.1 102 4 from fr_F (v13_102_4) hF47 rfl)] at n53g
                    rw [← (show z53b = s53.2.2.1 46 4 from e53a)] at n53g
                    rw [← (show z53c = s53.2.2.1 102 4 from e53b)] at n53g
                    show GG _ _ _ _ _ _ _ _ [.int z53] _ _ _
                    refine g_if_ne 59 61 (gd rfl) rfl rfl (fun c56 => ?_) (fun c56 => ?_)
                    · skip
                      have i56 := z_ne 1 1 c56 i53 rfl
                      refine g_aload_n 62 (gd rfl) rfl rfl ?_
                      refine g_ldc 1000100 64 (gd rfl) rfl rfl ?_
                      refine g_iload 66 (gd rfl) rfl rfl ?_
                      refine g_iadd 67 (gd rfl) rfl (fun z66 e66 => ?_)
                      have i66 := in_add 1000145 1000145 e66 (in_c 1000100 rfl) i31x13 rfl rfl
                      have hDe : _ = s53.2.2.1 102 4 := (show z53c = s53.2.2.1 102 4 from e53b)
                      have n67 : (z53c).toInt ≤ 119 := by have a0 := oa12 h2 r_46_1 ((inv_F hIc13 0 120 rfl v13_102_4)) i31x13 i22x5 ((inv_F hIc13 0 1000 rfl v13_46_4)) ((inv_F hIc13 0 1000 rfl v13_46_2)) i16 i53c i53b i53a i66; have a12 := t_add e66 (in_c 1000100 rfl) i31x13 rfl; have a13 := in_u ((in_c 1000100 rfl)); omega
                      refine g_callv (X := _) (As := [.int z66]) (r := []) (b := A 102) (q := 102) 70 (gd rfl) rfl rfl rfl rfl rfl (ww_o rfl) (Nat.le_of_ble_eq_true rfl) (Nat.zero_le _) (Nat.zero_le _) (k_57_102 (by first | exact dq1 hd rfl | exact dq0 hd rfl | exact dq2 hd rfl | exact dq3 hd rfl | omega) hI53 e53b n67) (fun e u h => h) (fun v u h => ?_)
                      obtain ⟨s67, hI67, hF67, n67a, z67, rfl, rfl, i67, p67⟩ := h
                      obtain ⟨z67a, e67⟩ : ∃ w, w = s67.2.2.1 102 4 := ⟨_, rfl⟩
                      have i67a := inv_F hI67 0 120 rfl e67
                      rw [← (show z53c = s53.2.2.1 102 4 from e53b)] at n67a
                      rw [← (show z67a = s67.2.2.1 102 4 from e67)] at n67a
                      show GG _ _ _ _ _ _ _ _ [.int z67] _ _ _
                      refine g_pop 71 (gd rfl) rfl rfl ?_
                      refine g_iinc 74 (gd rfl) rfl rfl (Nat.le_of_ble_eq_true rfl) (fun z71 e71 => ?_)
                      have i71 := in_add 1 120 e71 i16 (in_c 1 rfl) rfl rfl
                      refine g_goto 13 (gd rfl) rfl ?_
                      have v13 : z53a = s67.2.2.1 46 2 := fr_F (e53) hF67 rfl
                      have v13a : z53b = s67.2.2.1 46 4 := fr_F (e53a) hF67 rfl
                      have n13 : (z53a).toInt ≤ (u_46_1).toInt := by have a0 := oa9 h2 r_46_1 ((inv_F hIc13 0 120 rfl v13_102_4)) i31x13 i22x5 ((inv_F hIc13 0 1000 rfl v13_46_4)) ((inv_F hIc13 0 1000 rfl v13_46_2)) i16 i71; have a9 := t_add e71 i16 (in_c 1 rfl) rfl; have a10 := oa5 ((in_c 1 rfl)) i67a i53b i53a i66; have a15 := t_add e66 (in_c 1000100 rfl) i31x13 rfl; have a16 := in_u ((in_c 1000100 rfl)); omega
                      have n13a : (z53b).toInt ≤ (z53a).toInt := by have a0 := oa9 h2 r_46_1 ((inv_F hIc13 0 120 rfl v13_102_4)) i31x13 i22x5 ((inv_F hIc13 0 1000 rfl v13_46_4)) ((inv_F hIc13 0 1000 rfl v13_46_2)) i16 i71; have a9 := t_add e71 i16 (in_c 1 rfl) rfl; have a10 := oa5 ((in_c 1 rfl)) i67a i53b i53a i66; have a15 := t_add e66 (in_c 1000100 rfl) i31x13 rfl; have a16 := in_u ((in_c 1000100 rfl)); omega
                      have n13b : (z67a).toInt ≤ (z53b).toInt := by have a0 := oa9 h2 r_46_1 ((inv_F hIc13 0 120 rfl v13_102_4)) i31x13 i22x5 ((inv_F hIc13 0 1000 rfl v13_46_4)) ((inv_F hIc13 0 1000 rfl v13_46_2)) i16 i71; have a9 := t_add e71 i16 (in_c 1 rfl) rfl; have a10 := oa5 ((in_c 1 rfl)) i67a i53b i53a i66; have a15 := t_add e66 (in_c 1000100 rfl) i31x13 rfl; have a16 := in_u ((in_c 1000100 rfl)); omega
                      have n13c : (u_46_4).toInt - (u_102_4).toInt ≤ (z53b).toInt - (z67a).toInt := by have a0 := oa9 h2 r_46_1 ((inv_F hIc13 0 120 rfl v13_102_4)) i31x13 i22x5 ((inv_F hIc13 0 1000 rfl v13_46_4)) ((inv_F hIc13 0 1000 rfl v13_46_2)) i16 i71; have a9 := t_add e71 i16 (in_c 1 rfl) rfl; have a10 := oa5 ((in_c 1 rfl)) i67a i53b i53a i66; have a15 := t_add e66 (in_c 1000100 rfl) i31x13 rfl; have a16 := in_u ((in_c 1000100 rfl)); omega
                      have n13d : PCV s s67 1 := by exact pv_st (j := 2) (k := 1) (pv_tr (j := 1) (k := 1) (pv_tr (j := 1) (k := 0) g13_0 (pv_sm (hF47.1 104 rfl) (hF47.2.2.1 102 4 rfl))) (p53b c56)) (inv_F hI53 0 120 rfl rfl).1 p67 (by rw [← (show z67a = s67.2.2.1 102 4 from e67), ← hDe]; have a0 := oa9 h2 r_46_1 ((inv_F hIc13 0 120 rfl v13_102_4)) i31x13 i22x5 ((inv_F hIc13 0 1000 rfl v13_46_4)) ((inv_F hIc13 0 1000 rfl v13_46_2)) i16 i71; have a9 := t_add e71 i16 (in_c 1 rfl) rfl; have a10 := oa5 ((in_c 1 rfl)) i67a i53b i53a i66; have a15 := t_add e66 (in_c 1000100 rfl) i31x13 rfl; have a16 := in_u ((in_c 1000100 rfl)); omega) (fun e => hc_b (by have a0 := oa9 h2 r_46_1 ((inv_F hIc13 0 120 rfl v13_102_4)) i31x13 i22x5 ((inv_F hIc13 0 1000 rfl v13_46_4)) ((inv_F hIc13 0 1000 rfl v13_46_2)) i16 i71; have a9 := t_add e71 i16 (in_c 1 rfl) rfl; have a10 := oa5 ((in_c 1 rfl)) i67a i53b i53a i66; have a15 := t_add e66 (in_c 1000100 rfl) i31x13 rfl; have a16 := in_u ((in_c 1000100 rfl)); omega) (by have a0 := oa9 h2 r_46_1 ((inv_F hIc13 0 120 rfl v13_102_4)) i31x13 i22x5 ((inv_F hIc13 0 1000 rfl v13_46_4)) ((inv_F hIc13 0 1000 rfl v13_46_2)) i16 i71; have a9 := t_add e71 i16 (in_c 1 rfl) rfl; have a10 := oa5 ((in_c 1 rfl)) i67a i53b i53a i66; have a15 := t_add e66 (in_c 1000100 rfl) i31x13 rfl; have a16 := in_u ((in_c 1000100 rfl)); omega) e)
                      have n13e : TK s67 := by exact tk_fr hF67 rfl p53a
                      exact gg_w (by first | exact Nat.le_add_right _ _ | exact gw2 | exact gw3 | exact gwe rfl | exact gwf rfl | exact gwg rfl | exact gwh rfl | omega) (gg_f (gf_cons rfl (gf_cons rfl (gf_cons rfl (gf_cons rfl gf_nil)))) (ih13 s67 z71 z53a z53b _ _ z67a hI67 (fr_tr rfl (fr_tr rfl (fr_tr rfl hFc13 hF47) hF53) hF67) (in_w 0 120 i71 rfl) v13 v13a rfl rfl e67 n13 n13a n13b n13c n13d n13e (m_up mm13 (t_add e71 i16 (in_c 1 rfl) rfl) (in_w 1 1 (in_c 1 rfl) rfl))))
                    · skip
                      have i56 := z_eq 0 0 c56 i53 rfl
                      refine g_iconst 0 60 (gd rfl) rfl rfl ?_
                      have n60 : TK s53 := by first | exact g13_1 | exact p53a | exact p3a
                      have n60a : ((Int32.ofInt 0)).toInt ≠ 0 → PCV s s53 1 := by first | (intro _; exact g13_0) | (intro h; exact absurd rfl h)
                      have n60b : (z53a).toInt ≤ (u_46_1).toInt := by have a0 := oa11 h2 r_46_1 ((inv_F hIc13 0 120 rfl v13_102_4)) i31x13 i22x5 ((inv_F hIc13 0 1000 rfl v13_46_4)) ((inv_F hIc13 0 1000 rfl v13_46_2)) i16 i53c i53b i53a; omega
                      have n60c : (s53.2.2.1 46 2).toInt ≤ (s53.2.2.1 46 1).toInt := by have b0 : z53a = s53.2.2.1 46 2 := e53; have b1 : u_46_1 = s53.2.2.1 46 1 := fr_F (fr_F (fr_F e_46_1 hFc13 rfl) hF47 rfl) hF53 rfl; rw [← b0, ← b1]; exact n60b
                      have n60d : (z53b).toInt ≤ (z53a).toInt := by have a0 := oa11 h2 r_46_1 ((inv_F hIc13 0 120 rfl v13_102_4)) i31x13 i22x5 ((inv_F hIc13 0 1000 rfl v13_46_4)) ((inv_F hIc13 0 1000 rfl v13_46_2)) i16 i53c i53b i53a; omega
                      have n60e : (s53.2.2.1 46 4).toInt ≤ (s53.2.2.1 46 2).toInt := by have b0 : z53b = s53.2.2.1 46 4 := e53a; have b1 : z53a = s53.2.2.1 46 2 := e53; rw [← b0, ← b1]; exact n60d
                      have n60f : (z53c).toInt ≤ (z53b).toInt := by have a0 := oa11 h2 r_46_1 ((inv_F hIc13 0 120 rfl v13_102_4)) i31x13 i22x5 ((inv_F hIc13 0 1000 rfl v13_46_4)) ((inv_F hIc13 0 1000 rfl v13_46_2)) i16 i53c i53b i53a; omega
                      have n60g : (s53.2.2.1 102 4).toInt ≤ (s53.2.2.1 46 4).toInt := by have b0 : z53c = s53.2.2.1 102 4 := e53b; have b1 : z53b = s53.2.2.1 46 4 := e53a; rw [← b0, ← b1]; exact n60f
                      have n60h : (u_46_4).toInt - (u_102_4).toInt ≤ (z53b).toInt - (z53c).toInt := by have a0 := oa11 h2 r_46_1 ((inv_F hIc13 0 120 rfl v13_102_4)) i31x13 i22x5 ((inv_F hIc13 0 1000 rfl v13_46_4)) ((inv_F hIc13 0 1000 rfl v13_46_2)) i16 i53c i53b i53a; omega
                      have n60i : (s.2.2.1 46 4).toInt - (s.2.2.1 102 4).toInt ≤ (s53.2.2.1 46 4).toInt - (s53.2.2.1 102 4).toInt := by have b0 : z53b = s53.2.2.1 46 4 := e53a; have b1 : z53c = s53.2.2.1 102 4 := e53b; first | (rw [← b0, ← b1, ← e_46_4, ← e_102_4]; exact n60h) | (rw [← b0, ← b1]; exact n60h)
                      exact g_ireturn (gd rfl) rfl (nb01 (in_w 0 1 (in_c 0 rfl) rfl)) (hP _ _ ⟨s53, hI53, (fr_tr rfl (fr_tr rfl hFc13 hF47) hF53), n60c, n60e, n60g, n60i, (Int32.ofInt 0), rfl, rfl, in_w 0 1 (in_c 0 rfl) rfl, n60, n60a⟩)
          · skip
            have i22x13 := r_eq1 43 43 c22x13 (inv_F hIc13 (-2147483648) 2147483647 rfl v13_46_5) (in_c 43 rfl) rfl
            refine g_iconst 1 17 (gd rfl) rfl rfl ?_
            refine g_goto 21 (gd rfl) rfl ?_
            refine g_ireturn (gd rfl) rfl (nb01 (in_w 0 1 (in_c 1 rfl) rfl)) (hp22 _ _ ?_)
            show GG _ _ _ _ _ _ _ _ [.int (Int32.ofInt 1)] _ _ _
            refine g_if_ne 28 37 (gd rfl) rfl rfl (fun c25 => ?_) (fun c25 => ?_)
            · skip
              refine g_aload_n 38 (gd rfl) rfl rfl ?_
              refine g_getI 41 (gd rfl) rfl rfl rfl (fun z38 e38 => ?_)
              have q38 : w13_46_5 = z38 := (v13_46_5).trans e38.symm
              subst q38
              refine g_istore 43 (gd rfl) rfl (Nat.le_of_ble_eq_true rfl) ?_
              refine g_aload_n 44 (gd rfl) rfl rfl ?_
              refine g_bipush 6 46 (gd rfl) rfl rfl ?_
              refine g_iconst 0 47 (gd rfl) rfl rfl ?_
              have hk := tka_1 g13_1 (show w13_46_3 = sc13.2.2.1 46 3 from v13_46_3) (show w13_46_4 = sc13.2.2.1 46 4 from v13_46_4) (show w13_46_2 = sc13.2.2.1 46 2 from v13_46_2) (by have a0 := oa8 h2 r_46_1 ((inv_F hIc13 0 120 rfl v13_102_4)) i22x13 i22x5 ((inv_F hIc13 0 1000 rfl v13_46_4)) ((inv_F hIc13 0 1000 rfl v13_46_2)) i16; omega)
              have v47 : u_46_1 = sc13.2.2.1 46 1 := fr_F e_46_1 hFc13 rfl
              have n47 : (w13_46_2).toInt ≤ (u_46_1).toInt := by first | exact n13_0 | (have a0 := oa8 h2 r_46_1 ((inv_F hIc13 0 120 rfl v13_102_4)) i22x13 i22x5 ((inv_F hIc13 0 1000 rfl v13_46_4)) ((inv_F hIc13 0 1000 rfl v13_46_2)) i16; omega)
              refine g_callv (X := _) (As := [.int (Int32.ofInt 6), .int (Int32.ofInt 0)]) (r := []) (b := A 46) (q := 46) 50 (gd rfl) rfl rfl rfl rfl rfl (ww_o rfl) (Nat.le_of_ble_eq_true rfl) (Nat.zero_le _) (Nat.zero_le _) (k_171_46 (by first | exact dq1 hd rfl | exact dq0 hd rfl | exact dq2 hd rfl | exact dq3 hd rfl | omega) hIc13 (in_w 6 7 (in_c 6 rfl) rfl) (in_w 0 1 (in_c 0 rfl) rfl) v13_46_2 v47 n47) (fun e u h => h) (fun v u h => ?_)
              obtain ⟨s47, hI47, hF47, n47a, n47b, n47c, rfl, rfl, p47, p47a⟩ := h
              obtain ⟨z47a, e47⟩ : ∃ w, w = s47.2.2.1 46 2 := ⟨_, rfl⟩
              have i47a := inv_F hI47 0 1000 rfl e47
              obtain ⟨z47b, e47a⟩ : ∃ w, w = s47.2.2.1 46 4 := ⟨_, rfl⟩
              have i47b := inv_F hI47 0 1000 rfl e47a
              rw [← (show z47a = s47.2.2.1 46 2 from e47)] at n47a
              rw [← (show u_46_1 = s47.2.2.1 46 1 from fr_F (fr_F e_46_1 hFc13 rfl) hF47 rfl)] at n47a
              rw [← (show z47a = s47.2.2.1 46 2 from e47)] at n47b
              rw [← (show z47b = s47.2.2.1 46 4 from e47a)] at n47b
              rw [← (show w13_46_2 = sc13.2.2.1 46 2 from v13_46_2)] at n47c
              rw [← (show z47b = s47.2.2.1 46 4 from e47a)] at n47c
              show GG _ _ _ _ _ _ _ _ [] _ _ _
              refine g_aload_n 51 (gd rfl) rfl rfl ?_
              refine g_aload_n 52 (gd rfl) rfl rfl ?_
              refine g_iload_n 53 (gd rfl) rfl rfl ?_
              have v53 : u_46_1 = s47.2.2.1 46 1 := fr_F (fr_F e_46_1 hFc13 rfl) hF47 rfl
              have v53a : w13_102_4 = s47.2.2.1 102 4 := fr_F (v13_102_4) hF47 rfl
              have n53 : (z47a).toInt ≤ (u_46_1).toInt := by have a0 := oa10 h2 r_46_1 ((inv_F hIc13 0 120 rfl v13_102_4)) i22x13 i22x5 ((inv_F hIc13 0 1000 rfl v13_46_4)) ((inv_F hIc13 0 1000 rfl v13_46_2)) i16 i47b i47a; omega
              have n53a : (z47b).toInt ≤ (z47a).toInt := by have a0 := oa10 h2 r_46_1 ((inv_F hIc13 0 120 rfl v13_102_4)) i22x13 i22x5 ((inv_F hIc13 0 1000 rfl v13_46_4)) ((inv_F hIc13 0 1000 rfl v13_46_2)) i16 i47b i47a; omega
              have n53b : (w13_102_4).toInt ≤ (z47b).toInt := by have a0 := oa10 h2 r_46_1 ((inv_F hIc13 0 120 rfl v13_102_4)) i22x13 i22x5 ((inv_F hIc13 0 1000 rfl v13_46_4)) ((inv_F hIc13 0 1000 rfl v13_46_2)) i16 i47b i47a; omega
              have p53 : TK s47 := by exact p47 (by decide)
              have n53c : 10 - (x2).toInt < ((kk : Nat) : Int) := by have a0 := oa10 h2 r_46_1 ((inv_F hIc13 0 120 rfl v13_102_4)) i22x13 i22x5 ((inv_F hIc13 0 1000 rfl v13_46_4)) ((inv_F hIc13 0 1000 rfl v13_46_2)) i16 i47b i47a; omega
              refine g_callv (X := _) (As := [.ref (A 46), .int x2]) (r := []) (b := A 102) (q := 102) 56 (gd rfl) rfl rfl rfl rfl rfl (ww_o rfl) (Nat.le_of_ble_eq_true rfl) (Nat.zero_le _) (Nat.zero_le _) (ih (by omega) hI47 (in_w 0 10 h2 rfl) e47 v53 e47a rfl rfl v53a (in_w 0 120 r_46_1 rfl) n53 n53a n53b p53 n53c) (fun e u h => h) (fun v u h => ?_)
              obtain ⟨s53, hI53, hF53, n53d, n53e, n53f, n53g, z53, rfl, rfl, i53, p53a, p53b⟩ := h
              obtain ⟨z53a, e53⟩ : ∃ w, w = s53.2.2.1 46 2 := ⟨_, rfl⟩
              have i53a := inv_F hI53 0 1000 rfl e53
              obtain ⟨z53b, e53a⟩ : ∃ w, w = s53.2.2.1 46 4 := ⟨_, rfl⟩
              have i53b := inv_F hI53 0 1000 rfl e53a
              obtain ⟨z53c, e53b⟩ : ∃ w, w = s53.2.2.1 102 4 := ⟨_, rfl⟩
              have i53c := inv_F hI53 0 120 rfl e53b
              rw [← (show z53a = s53.2.2.1 46 2 from e53)] at n53d
              rw [← (show u_46_1 = s53.2.2.1 46 1 from fr_F (fr_F (fr_F e_46_1 hFc13 rfl) hF47 rfl) hF53 rfl)] at n53d
              rw [← (show z53a = s53.2.2.1 46 2 from e53)] at n53e
              rw [← (show z53b = s53.2.2.1 46 4 from e53a)] at n53e
              rw [← (show z53b = s53.2.2.1 46 4 from e53a)] at n53f
              rw [← (show z53c = s53.2.2.1 102 4 from e53b)] at n53f
              rw [← (show z47b = s47.2.2.1 46 4 from e47a)] at n53g
              rw [← (show w13_102_4 = s47.2.2.1 102 4 from fr_F (v13_102_4) hF47 rfl)] at n53g
              rw [← (show z53b = s53.2.2.1 46 4 from e53a)] at n53g
              rw [← (show z53c = s53.2.2.1 102 4 from e53b)] at n53g
              show GG _ _ _ _ _ _ _ _ [.int z53] _ _ _
              refine g_if_ne 59 61 (gd rfl) rfl rfl (fun c56 => ?_) (fun c56 => ?_)
              · skip
                have i56 := z_ne 1 1 c56 i53 rfl
                refine g_aload_n 62 (gd rfl) rfl rfl ?_
                refine g_ldc 1000100 64 (gd rfl) rfl rfl ?_
                refine g_iload 66 (gd rfl) rfl rfl ?_
                refine g_iadd 67 (gd rfl) rfl (fun z66 e66 => ?_)
                have i66 := in_add 1000143 1000143 e66 (in_c 1000100 rfl) i22x13 rfl rfl
                have hDe : _ = s53.2.2.1 102 4 := (show z53c = s53.2.2.1 102 4 from e53b)
                have n67 : (z53c).toInt ≤ 119 := by have a0 := oa12 h2 r_46_1 ((inv_F hIc13 0 120 rfl v13_102_4)) i22x13 i22x5 ((inv_F hIc13 0 1000 rfl v13_46_4)) ((inv_F hIc13 0 1000 rfl v13_46_2)) i16 i53c i53b i53a i66; have a12 := t_add e66 (in_c 1000100 rfl) i22x13 rfl; have a13 := in_u ((in_c 1000100 rfl)); omega
                refine g_callv (X := _) (As := [.int z66]) (r := []) (b := A 102) (q := 102) 70 (gd rfl) rfl rfl rfl rfl rfl (ww_o rfl) (Nat.le_of_ble_eq_true rfl) (Nat.zero_le _) (Nat.zero_le _) (k_57_102 (by first | exact dq1 hd rfl | exact dq0 hd rfl | exact dq2 hd rfl | exact dq3 hd rfl | omega) hI53 e53b n67) (fun e u h => h) (fun v u h => ?_)
                obtain ⟨s67, hI67, hF67, n67a, z67, rfl, rfl, i67, p67⟩ := h
                obtain ⟨z67a, e67⟩ : ∃ w, w = s67.2.2.1 102 4 := ⟨_, rfl⟩
                have i67a := inv_F hI67 0 120 rfl e67
                rw [← (show z53c = s53.2.2.1 102 4 from e53b)] at n67a
                rw [← (show z67a = s67.2.2.1 102 4 from e67)] at n67a
                show GG _ _ _ _ _ _ _ _ [.int z67] _ _ _
                refine g_pop 71 (gd rfl) rfl rfl ?_
                refine g_iinc 74 (gd rfl) rfl rfl (Nat.le_of_ble_eq_true rfl) (fun z71 e71 => ?_)
                have i71 := in_add 1 120 e71 i16 (in_c 1 rfl) rfl rfl
                refine g_goto 13 (gd rfl) rfl ?_
                have v13 : z53a = s67.2.2.1 46 2 := fr_F (e53) hF67 rfl
                have v13a : z53b = s67.2.2.1 46 4 := fr_F (e53a) hF67 rfl
                have n13 : (z53a).toInt ≤ (u_46_1).toInt := by have a0 := oa9 h2 r_46_1 ((inv_F hIc13 0 120 rfl v13_102_4)) i22x13 i22x5 ((inv_F hIc13 0 1000 rfl v13_46_4)) ((inv_F hIc13 0 1000 rfl v13_46_2)) i16 i71; have a9 := t_add e71 i16 (in_c 1 rfl) rfl; have a10 := oa5 ((in_c 1 rfl)) i67a i53b i53a i66; have a15 := t_add e66 (in_c 1000100 rfl) i22x13 rfl; have a16 := in_u ((in_c 1000100 rfl)); omega
                have n13a : (z53b).toInt ≤ (z53a).toInt := by have a0 := oa9 h2 r_46_1 ((inv_F hIc13 0 120 rfl v13_102_4)) i22x13 i22x5 ((inv_F hIc13 0 1000 rfl v13_46_4)) ((inv_F hIc13 0 1000 rfl v13_46_2)) i16 i71; have a9 := t_add e71 i16 (in_c 1 rfl) rfl; have a10 := oa5 ((in_c 1 rfl)) i67a i53b i53a i66; have a15 := t_add e66 (in_c 1000100 rfl) i22x13 rfl; have a16 := in_u ((in_c 1000100 rfl)); omega
                have n13b : (z67a).toInt ≤ (z53b).toInt := by have a0 := oa9 h2 r_46_1 ((inv_F hIc13 0 120 rfl v13_102_4)) i22x13 i22x5 ((inv_F hIc13 0 1000 rfl v13_46_4)) ((inv_F hIc13 0 1000 rfl v13_46_2)) i16 i71; have a9 := t_add e71 i16 (in_c 1 rfl) rfl; have a10 := oa5 ((in_c 1 rfl)) i67a i53b i53a i66; have a15 := t_add e66 (in_c 1000100 rfl) i22x13 rfl; have a16 := in_u ((in_c 1000100 rfl)); omega
                have n13c : (u_46_4).toInt - (u_102_4).toInt ≤ (z53b).toInt - (z67a).toInt := by have a0 := oa9 h2 r_46_1 ((inv_F hIc13 0 120 rfl v13_102_4)) i22x13 i22x5 ((inv_F hIc13 0 1000 rfl v13_46_4)) ((inv_F hIc13 0 1000 rfl v13_46_2)) i16 i71; have a9 := t_add e71 i16 (in_c 1 rfl) rfl; have a10 := oa5 ((in_c 1 rfl)) i67a i53b i53a i66; have a15 := t_add e66 (in_c 1000100 rfl) i22x13 rfl; have a16 := in_u ((in_c 1000100 rfl)); omega
                have n13d : PCV s s67 1 := by exact pv_st (j := 2) (k := 1) (pv_tr (j := 1) (k := 1) (pv_tr (j := 1) (k := 0) g13_0 (pv_sm (hF47.1 104 rfl) (hF47.2.2.1 102 4 rfl))) (p53b c56)) (inv_F hI53 0 120 rfl rfl).1 p67 (by rw [← (show z67a = s67.2.2.1 102 4 from e67), ← hDe]; have a0 := oa9 h2 r_46_1 ((inv_F hIc13 0 120 rfl v13_102_4)) i22x13 i22x5 ((inv_F hIc13 0 1000 rfl v13_46_4)) ((inv_F hIc13 0 1000 rfl v13_46_2)) i16 i71; have a9 := t_add e71 i16 (in_c 1 rfl) rfl; have a10 := oa5 ((in_c 1 rfl)) i67a i53b i53a i66; have a15 := t_add e66 (in_c 1000100 rfl) i22x13 rfl; have a16 := in_u ((in_c 1000100 rfl)); omega) (fun e => hc_b (by have a0 := oa9 h2 r_46_1 ((inv_F hIc13 0 120 rfl v13_102_4)) i22x13 i22x5 ((inv_F hIc13 0 1000 rfl v13_46_4)) ((inv_F hIc13 0 1000 rfl v13_46_2)) i16 i71; have a9 := t_add e71 i16 (in_c 1 rfl) rfl; have a10 := oa5 ((in_c 1 rfl)) i67a i53b i53a i66; have a15 := t_add e66 (in_c 1000100 rfl) i22x13 rfl; have a16 := in_u ((in_c 1000100 rfl)); omega) (by have a0 := oa9 h2 r_46_1 ((inv_F hIc13 0 120 rfl v13_102_4)) i22x13 i22x5 ((inv_F hIc13 0 1000 rfl v13_46_4)) ((inv_F hIc13 0 1000 rfl v13_46_2)) i16 i71; have a9 := t_add e71 i16 (in_c 1 rfl) rfl; have a10 := oa5 ((in_c 1 rfl)) i67a i53b i53a i66; have a15 := t_add e66 (in_c 1000100 rfl) i22x13 rfl; have a16 := in_u ((in_c 1000100 rfl)); omega) e)
                have n13e : TK s67 := by exact tk_fr hF67 rfl p53a
                exact gg_w (by first | exact Nat.le_add_right _ _ | exact gw2 | exact gw3 | exact gwe rfl | exact gwf rfl | exact gwg rfl | exact gwh rfl | omega) (gg_f (gf_cons rfl (gf_cons rfl (gf_cons rfl (gf_cons rfl gf_nil)))) (ih13 s67 z71 z53a z53b _ _ z67a hI67 (fr_tr rfl (fr_tr rfl (fr_tr rfl hFc13 hF47) hF53) hF67) (in_w 0 120 i71 rfl) v13 v13a rfl rfl e67 n13 n13a n13b n13c n13d n13e (m_up mm13 (t_add e71 i16 (in_c 1 rfl) rfl) (in_w 1 1 (in_c 1 rfl) rfl))))
              · skip
                have i56 := z_eq 0 0 c56 i53 rfl
                refine g_iconst 0 60 (gd rfl) rfl rfl ?_
                have n60 : TK s53 := by first | exact g13_1 | exact p53a | exact p3a
                have n60a : ((Int32.ofInt 0)).toInt ≠ 0 → PCV s s53 1 := by first | (intro _; exact g13_0) | (intro h; exact absurd rfl h)
                have n60b : (z53a).toInt ≤ (u_46_1).toInt := by have a0 := oa11 h2 r_46_1 ((inv_F hIc13 0 120 rfl v13_102_4)) i22x13 i22x5 ((inv_F hIc13 0 1000 rfl v13_46_4)) ((inv_F hIc13 0 1000 rfl v13_46_2)) i16 i53c i53b i53a; omega
                have n60c : (s53.2.2.1 46 2).toInt ≤ (s53.2.2.1 46 1).toInt := by have b0 : z53a = s53.2.2.1 46 2 := e53; have b1 : u_46_1 = s53.2.2.1 46 1 := fr_F (fr_F (fr_F e_46_1 hFc13 rfl) hF47 rfl) hF53 rfl; rw [← b0, ← b1]; exact n60b
                have n60d : (z53b).toInt ≤ (z53a).toInt := by have a0 := oa11 h2 r_46_1 ((inv_F hIc13 0 120 rfl v13_102_4)) i22x13 i22x5 ((inv_F hIc13 0 1000 rfl v13_46_4)) ((inv_F hIc13 0 1000 rfl v13_46_2)) i16 i53c i53b i53a; omega
                have n60e : (s53.2.2.1 46 4).toInt ≤ (s53.2.2.1 46 2).toInt := by have b0 : z53b = s53.2.2.1 46 4 := e53a; have b1 : z53a = s53.2.2.1 46 2 := e53; rw [← b0, ← b1]; exact n60d
                have n60f : (z53c).toInt ≤ (z53b).toInt := by have a0 := oa11 h2 r_46_1 ((inv_F hIc13 0 120 rfl v13_102_4)) i22x13 i22x5 ((inv_F hIc13 0 1000 rfl v13_46_4)) ((inv_F hIc13 0 1000 rfl v13_46_2)) i16 i53c i53b i53a; omega
                have n60g : (s53.2.2.1 102 4).toInt ≤ (s53.2.2.1 46 4).toInt := by have b0 : z53c = s53.2.2.1 102 4 := e53b; have b1 : z53b = s53.2.2.1 46 4 := e53a; rw [← b0, ← b1]; exact n60f
                have n60h : (u_46_4).toInt - (u_102_4).toInt ≤ (z53b).toInt - (z53c).toInt := by have a0 := oa11 h2 r_46_1 ((inv_F hIc13 0 120 rfl v13_102_4)) i22x13 i22x5 ((inv_F hIc13 0 1000 rfl v13_46_4)) ((inv_F hIc13 0 1000 rfl v13_46_2)) i16 i53c i53b i53a; omega
                have n60i : (s.2.2.1 46 4).toInt - (s.2.2.1 102 4).toInt ≤ (s53.2.2.1 46 4).toInt - (s53.2.2.1 102 4).toInt := by have b0 : z53b = s53.2.2.1 46 4 := e53a; have b1 : z53c = s53.2.2.1 102 4 := e53b; first | (rw [← b0, ← b1, ← e_46_4, ← e_102_4]; exact n60h) | (rw [← b0, ← b1]; exact n60h)
                exact g_ireturn (gd rfl) rfl (nb01 (in_w 0 1 (in_c 0 rfl) rfl)) (hP _ _ ⟨s53, hI53, (fr_tr rfl (fr_tr rfl hFc13 hF47) hF53), n60c, n60e, n60g, n60i, (Int32.ofInt 0), rfl, rfl, in_w 0 1 (in_c 0 rfl) rfl, n60, n60a⟩)
            · skip
              exact zn_eq c25 (in_c 1 rfl) rfl
  refine g_enter2 (k := 59) (N := 109801) (by first | exact dq1 hd rfl | exact dq0 hd rfl | exact dq2 hd rfl | exact dq3 hd rfl | omega) rfl (Nat.le_of_ble_eq_true rfl) ?_
  refine g_aload_n 1 (gd rfl) rfl rfl ?_
  refine g_aload_n 2 (gd rfl) rfl rfl ?_
  refine g_iload_n 3 (gd rfl) rfl rfl ?_
  have n3 : (u_46_2).toInt ≤ (u_46_1).toInt := by have a0 := oa6 ((inv_F hI 0 120 rfl e_102_4)) ((inv_F hI 0 5 rfl e_46_3)) ((inv_F hI 0 1000 rfl e_46_4)) r_46_1 ((inv_F hI 0 1000 rfl e_46_2)) h2; omega
  have n3a : (u_46_4).toInt ≤ (u_46_2).toInt := by have a0 := oa6 ((inv_F hI 0 120 rfl e_102_4)) ((inv_F hI 0 5 rfl e_46_3)) ((inv_F hI 0 1000 rfl e_46_4)) r_46_1 ((inv_F hI 0 1000 rfl e_46_2)) h2; omega
  have n3b : (u_102_4).toInt ≤ (u_46_4).toInt := by have a0 := oa6 ((inv_F hI 0 120 rfl e_102_4)) ((inv_F hI 0 5 rfl e_46_3)) ((inv_F hI 0 1000 rfl e_46_4)) r_46_1 ((inv_F hI 0 1000 rfl e_46_2)) h2; omega
  have p3 : TK s := by exact q_0
  have n3c : 10 - (x2).toInt < ((kk : Nat) : Int) := by have a0 := oa6 ((inv_F hI 0 120 rfl e_102_4)) ((inv_F hI 0 5 rfl e_46_3)) ((inv_F hI 0 1000 rfl e_46_4)) r_46_1 ((inv_F hI 0 1000 rfl e_46_2)) h2; omega
  refine g_callv (X := _) (As := [.ref (A 46), .int x2]) (r := []) (b := A 102) (q := 102) 6 (gd rfl) rfl rfl rfl rfl rfl (ww_o rfl) (Nat.le_of_ble_eq_true rfl) (Nat.zero_le _) (Nat.zero_le _) (ih (by omega) hI (in_w 0 10 h2 rfl) e_46_2 e_46_1 e_46_4 e_46_3 e_46_5 e_102_4 (in_w 0 120 r_46_1 rfl) n3 n3a n3b p3 n3c) (fun e u h => h) (fun v u h => ?_)
  obtain ⟨s3, hI3, hF3, n3d, n3e, n3f, n3g, z3, rfl, rfl, i3, p3a, p3b⟩ := h
  obtain ⟨z3a, e3⟩ : ∃ w, w = s3.2.2.1 46 2 := ⟨_, rfl⟩
  have i3a := inv_F hI3 0 1000 rfl e3
  obtain ⟨z3b, e3a⟩ : ∃ w, w = s3.2.2.1 46 4 := ⟨_, rfl⟩
  have i3b := inv_F hI3 0 1000 rfl e3a
  obtain ⟨z3c, e3b⟩ : ∃ w, w = s3.2.2.1 102 4 := ⟨_, rfl⟩
  have i3c := inv_F hI3 0 120 rfl e3b
  rw [← (show z3a = s3.2.2.1 46 2 from e3)] at n3d
  rw [← (show u_46_1 = s3.2.2.1 46 1 from fr_F (e_46_1) hF3 rfl)] at n3d
  rw [← (show z3a = s3.2.2.1 46 2 from e3)] at n3e
  rw [← (show z3b = s3.2.2.1 46 4 from e3a)] at n3e
  rw [← (show z3b = s3.2.2.1 46 4 from e3a)] at n3f
  rw [← (show z3c = s3.2.2.1 102 4 from e3b)] at n3f
  rw [← (show u_46_4 = s.2.2.1 46 4 from e_46_4)] at n3g
  rw [← (show u_102_4 = s.2.2.1 102 4 from e_102_4)] at n3g
  rw [← (show z3b = s3.2.2.1 46 4 from e3a)] at n3g
  rw [← (show z3c = s3.2.2.1 102 4 from e3b)] at n3g
  show GG _ _ _ _ _ _ _ _ [.int z3] _ _ _
  refine g_if_ne 9 11 (gd rfl) rfl rfl (fun c6 => ?_) (fun c6 => ?_)
  · skip
    have i6 := z_ne 1 1 c6 i3 rfl
    refine g_iconst 0 12 (gd rfl) rfl rfl ?_
    refine g_istore_n 13 (gd rfl) rfl (Nat.le_of_ble_eq_true rfl) ?_
    have n13 : (z3a).toInt ≤ (u_46_1).toInt := by have a0 := oa10 ((inv_F hI 0 120 rfl e_102_4)) ((inv_F hI 0 5 rfl e_46_3)) ((inv_F hI 0 1000 rfl e_46_4)) r_46_1 ((inv_F hI 0 1000 rfl e_46_2)) h2 ((in_c 0 rfl)) i3c i3b i3a; omega
    have n13a : (z3b).toInt ≤ (z3a).toInt := by have a0 := oa10 ((inv_F hI 0 120 rfl e_102_4)) ((inv_F hI 0 5 rfl e_46_3)) ((inv_F hI 0 1000 rfl e_46_4)) r_46_1 ((inv_F hI 0 1000 rfl e_46_2)) h2 ((in_c 0 rfl)) i3c i3b i3a; omega
    have n13b : (z3c).toInt ≤ (z3b).toInt := by have a0 := oa10 ((inv_F hI 0 120 rfl e_102_4)) ((inv_F hI 0 5 rfl e_46_3)) ((inv_F hI 0 1000 rfl e_46_4)) r_46_1 ((inv_F hI 0 1000 rfl e_46_2)) h2 ((in_c 0 rfl)) i3c i3b i3a; omega
    have n13c : (u_46_4).toInt - (u_102_4).toInt ≤ (z3b).toInt - (z3c).toInt := by have a0 := oa10 ((inv_F hI 0 120 rfl e_102_4)) ((inv_F hI 0 5 rfl e_46_3)) ((inv_F hI 0 1000 rfl e_46_4)) r_46_1 ((inv_F hI 0 1000 rfl e_46_2)) h2 ((in_c 0 rfl)) i3c i3b i3a; omega
    have n13d : PCV s s3 1 := by exact p3b c6
    have n13e : TK s3 := by exact p3a
    exact gg_w (by first | exact Nat.le_of_ble_eq_true rfl | omega) (gg_f (gf_cons rfl (gf_cons rfl (gf_cons rfl (gf_cons rfl gf_nil)))) (ct13 121 s3 (Int32.ofInt 0) z3a z3b _ _ z3c hI3 (fr_tr rfl fr_rf hF3) (in_w 0 120 (in_c 0 rfl) rfl) e3 e3a rfl rfl e3b n13 n13a n13b n13c n13d n13e (m_in 121 (in_w 0 120 (in_c 0 rfl) rfl) rfl)))
  · skip
    have i6 := z_eq 0 0 c6 i3 rfl
    refine g_iconst 0 10 (gd rfl) rfl rfl ?_
    have n10 : TK s3 := by first | exact g13_1 | exact p53a | exact p3a
    have n10a : ((Int32.ofInt 0)).toInt ≠ 0 → PCV s s3 1 := by first | (intro _; exact g13_0) | (intro h; exact absurd rfl h)
    have n10b : (z3a).toInt ≤ (u_46_1).toInt := by have a0 := oa9 ((inv_F hI 0 120 rfl e_102_4)) ((inv_F hI 0 5 rfl e_46_3)) ((inv_F hI 0 1000 rfl e_46_4)) r_46_1 ((inv_F hI 0 1000 rfl e_46_2)) h2 i3c i3b i3a; omega
    have n10c : (s3.2.2.1 46 2).toInt ≤ (s3.2.2.1 46 1).toInt := by have b0 : z3a = s3.2.2.1 46 2 := e3; have b1 : u_46_1 = s3.2.2.1 46 1 := fr_F (e_46_1) hF3 rfl; rw [← b0, ← b1]; exact n10b
    have n10d : (z3b).toInt ≤ (z3a).toInt := by have a0 := oa9 ((inv_F hI 0 120 rfl e_102_4)) ((inv_F hI 0 5 rfl e_46_3)) ((inv_F hI 0 1000 rfl e_46_4)) r_46_1 ((inv_F hI 0 1000 rfl e_46_2)) h2 i3c i3b i3a; omega
    have n10e : (s3.2.2.1 46 4).toInt ≤ (s3.2.2.1 46 2).toInt := by have b0 : z3b = s3.2.2.1 46 4 := e3a; have b1 : z3a = s3.2.2.1 46 2 := e3; rw [← b0, ← b1]; exact n10d
    have n10f : (z3c).toInt ≤ (z3b).toInt := by have a0 := oa9 ((inv_F hI 0 120 rfl e_102_4)) ((inv_F hI 0 5 rfl e_46_3)) ((inv_F hI 0 1000 rfl e_46_4)) r_46_1 ((inv_F hI 0 1000 rfl e_46_2)) h2 i3c i3b i3a; omega
    have n10g : (s3.2.2.1 102 4).toInt ≤ (s3.2.2.1 46 4).toInt := by have b0 : z3c = s3.2.2.1 102 4 := e3b; have b1 : z3b = s3.2.2.1 46 4 := e3a; rw [← b0, ← b1]; exact n10f
    have n10h : (u_46_4).toInt - (u_102_4).toInt ≤ (z3b).toInt - (z3c).toInt := by have a0 := oa9 ((inv_F hI 0 120 rfl e_102_4)) ((inv_F hI 0 5 rfl e_46_3)) ((inv_F hI 0 1000 rfl e_46_4)) r_46_1 ((inv_F hI 0 1000 rfl e_46_2)) h2 i3c i3b i3a; omega
    have n10i : (s.2.2.1 46 4).toInt - (s.2.2.1 102 4).toInt ≤ (s3.2.2.1 46 4).toInt - (s3.2.2.1 102 4).toInt := by have b0 : z3b = s3.2.2.1 46 4 := e3a; have b1 : z3c = s3.2.2.1 102 4 := e3b; first | (rw [← b0, ← b1, ← e_46_4, ← e_102_4]; exact n10h) | (rw [← b0, ← b1]; exact n10h)
    exact g_ireturn (gd rfl) rfl (nb01 (in_w 0 1 (in_c 0 rfl) rfl)) (hP _ _ ⟨s3, hI3, (fr_tr rfl fr_rf hF3), n10c, n10e, n10g, n10i, (Int32.ofInt 0), rfl, rfl, in_w 0 1 (in_c 0 rfl) rfl, n10, n10a⟩)
theorem k_58_102_46_r {Z : AmZ} {A : Nat → Nat} {ex : va_W} (kk : Nat) (ih : ∀ {s : GS} {d : Nat} {X : AmX} {x2 : Int32} {u_46_2 : Int32} {u_46_1 : Int32} {u_46_4 : Int32} {u_46_3 : Int32} {u_46_5 : Int32} {u_102_4 : Int32}, 70 + kk * 20 ≤ d → Inv s → (In x2 0 10) → (u_46_2 = s.2.2.1 46 2) → (u_46_1 = s.2.2.1 46 1) → (u_46_4 = s.2.2.1 46 4) → (u_46_3 = s.2.2.1 46 3) → (u_46_5 = s.2.2.1 46 5) → (u_102_4 = s.2.2.1 102 4) → (In u_46_1 0 120) → ((u_46_2).toInt ≤ (u_46_1).toInt) → ((u_46_4).toInt ≤ (u_46_2).toInt) → ((u_102_4).toInt ≤ (u_46_4).toInt) → (TK s) → 10 - (x2).toInt < ((kk : Nat) : Int) → GC Z d 59 [.ref (A 102), .ref (A 46), .int x2] (WW Z A s ++ ex) 0 0 (fun v u => ∃ t : GS, Inv t ∧ Fr fm_59_102_46 s t ∧ ((t.2.2.1 46 2).toInt ≤ (t.2.2.1 46 1).toInt) ∧ ((t.2.2.1 46 4).toInt ≤ (t.2.2.1 46 2).toInt) ∧ ((t.2.2.1 102 4).toInt ≤ (t.2.2.1 46 4).toInt) ∧ ((s.2.2.1 46 4).toInt - (s.2.2.1 102 4).toInt ≤ (t.2.2.1 46 4).toInt - (t.2.2.1 102 4).toInt) ∧ ∃ z : Int32, v = some (.int z) ∧ u = WW Z A t ++ ex ∧ In z 0 1 ∧ (TK t) ∧ ((z).toInt ≠ 0 → PCV s t 1)) X) : ∀ {s : GS} {d : Nat} {X : AmX} {x2 : Int32} {u_46_2 : Int32} {u_46_1 : Int32} {u_46_4 : Int32} {u_46_3 : Int32} {u_46_5 : Int32} {u_102_4 : Int32}, 75 + kk * 20 ≤ d → Inv s → (In x2 0 10) → (u_46_2 = s.2.2.1 46 2) → (u_46_1 = s.2.2.1 46 1) → (u_46_4 = s.2.2.1 46 4) → (u_46_3 = s.2.2.1 46 3) → (u_46_5 = s.2.2.1 46 5) → (u_102_4 = s.2.2.1 102 4) → (In u_46_1 0 120) → ((u_46_2).toInt ≤ (u_46_1).toInt) → ((u_46_4).toInt ≤ (u_46_2).toInt) → ((u_102_4).toInt ≤ (u_46_4).toInt) → (TK s) → 10 - (x2).toInt < ((kk : Nat) : Int) → GC Z d 58 [.ref (A 102), .ref (A 46), .int x2] (WW Z A s ++ ex) 0 0 (fun v u => ∃ t : GS, Inv t ∧ Fr fm_58_102_46 s t ∧ ((t.2.2.1 46 2).toInt ≤ (t.2.2.1 46 1).toInt) ∧ ((t.2.2.1 46 4).toInt ≤ (t.2.2.1 46 2).toInt) ∧ ((t.2.2.1 102 4).toInt ≤ (t.2.2.1 46 4).toInt) ∧ ((s.2.2.1 46 4).toInt - (s.2.2.1 102 4).toInt ≤ (t.2.2.1 46 4).toInt - (t.2.2.1 102 4).toInt) ∧ ∃ z : Int32, v = some (.int z) ∧ u = WW Z A t ++ ex ∧ In z 0 1 ∧ (TK t) ∧ ((z).toInt ≠ 0 → PCV s t 1)) X := by
  intro s d X x2 u_46_2 u_46_1 u_46_4 u_46_3 u_46_5 u_102_4 hd hI h2 e_46_2 e_46_1 e_46_4 e_46_3 e_46_5 e_102_4 r_46_1 p_0 p_1 p_2 q_0 hm
  intro post xp hP hX
  refine g_enter2 (k := 58) (N := 900) (by first | exact dq1 hd rfl | exact dq0 hd rfl | exact dq2 hd rfl | exact dq3 hd rfl | omega) rfl (Nat.le_of_ble_eq_true rfl) ?_
  refine g_aload_n 1 (gd rfl) rfl rfl ?_
  refine g_aload_n 2 (gd rfl) rfl rfl ?_
  refine g_iload_n 3 (gd rfl) rfl rfl ?_
  have n3 : (u_46_2).toInt ≤ (u_46_1).toInt := by have a0 := oa6 ((inv_F hI 0 120 rfl e_102_4)) ((inv_F hI 0 5 rfl e_46_3)) ((inv_F hI 0 1000 rfl e_46_4)) r_46_1 ((inv_F hI 0 1000 rfl e_46_2)) h2; omega
  have n3a : (u_46_4).toInt ≤ (u_46_2).toInt := by have a0 := oa6 ((inv_F hI 0 120 rfl e_102_4)) ((inv_F hI 0 5 rfl e_46_3)) ((inv_F hI 0 1000 rfl e_46_4)) r_46_1 ((inv_F hI 0 1000 rfl e_46_2)) h2; omega
  have n3b : (u_102_4).toInt ≤ (u_46_4).toInt := by have a0 := oa6 ((inv_F hI 0 120 rfl e_102_4)) ((inv_F hI 0 5 rfl e_46_3)) ((inv_F hI 0 1000 rfl e_46_4)) r_46_1 ((inv_F hI 0 1000 rfl e_46_2)) h2; omega
  have p3 : TK s := by exact q_0
  have n3c : 10 - (x2).toInt < ((kk : Nat) : Int) := by have a0 := oa6 ((inv_F hI 0 120 rfl e_102_4)) ((inv_F hI 0 5 rfl e_46_3)) ((inv_F hI 0 1000 rfl e_46_4)) r_46_1 ((inv_F hI 0 1000 rfl e_46_2)) h2; omega
  refine g_callv (X := _) (As := [.ref (A 46), .int x2]) (r := []) (b := A 102) (q := 102) 6 (gd rfl) rfl rfl rfl rfl rfl (ww_o rfl) (Nat.le_of_ble_eq_true rfl) (Nat.zero_le _) (Nat.zero_le _) (ih (by omega) hI (in_w 0 10 h2 rfl) e_46_2 e_46_1 e_46_4 e_46_3 e_46_5 e_102_4 (in_w 0 120 r_46_1 rfl) n3 n3a n3b p3 n3c) (fun e u h => h) (fun v u h => ?_)
  obtain ⟨s3, hI3, hF3, n3d, n3e, n3f, n3g, z3, rfl, rfl, i3, p3a, p3b⟩ := h
  obtain ⟨z3a, e3⟩ : ∃ w, w = s3.2.2.1 46 2 := ⟨_, rfl⟩
  have i3a := inv_F hI3 0 1000 rfl e3
  obtain ⟨z3b, e3a⟩ : ∃ w, w = s3.2.2.1 46 4 := ⟨_, rfl⟩
  have i3b := inv_F hI3 0 1000 rfl e3a
  obtain ⟨z3c, e3b⟩ : ∃ w, w = s3.2.2.1 102 4 := ⟨_, rfl⟩
  have i3c := inv_F hI3 0 120 rfl e3b
  rw [← (show z3a = s3.2.2.1 46 2 from e3)] at n3d
  rw [← (show u_46_1 = s3.2.2.1 46 1 from fr_F (e_46_1) hF3 rfl)] at n3d
  rw [← (show z3a = s3.2.2.1 46 2 from e3)] at n3e
  rw [← (show z3b = s3.2.2.1 46 4 from e3a)] at n3e
  rw [← (show z3b = s3.2.2.1 46 4 from e3a)] at n3f
  rw [← (show z3c = s3.2.2.1 102 4 from e3b)] at n3f
  rw [← (show u_46_4 = s.2.2.1 46 4 from e_46_4)] at n3g
  rw [← (show u_102_4 = s.2.2.1 102 4 from e_102_4)] at n3g
  rw [← (show z3b = s3.2.2.1 46 4 from e3a)] at n3g
  rw [← (show z3c = s3.2.2.1 102 4 from e3b)] at n3g
  show GG _ _ _ _ _ _ _ _ [.int z3] _ _ _
  refine g_if_ne 9 11 (gd rfl) rfl rfl (fun c6 => ?_) (fun c6 => ?_)
  · skip
    have i6 := z_ne 1 1 c6 i3 rfl
    refine g_aload_n 12 (gd rfl) rfl rfl ?_
    refine g_bipush 60 14 (gd rfl) rfl rfl ?_
    refine g_callv (X := _) (As := [.int (Int32.ofInt 60)]) (r := []) (b := A 46) (q := 46) 17 (gd rfl) rfl rfl rfl rfl rfl (ww_o rfl) (Nat.le_of_ble_eq_true rfl) (mc := 0) (ms := 0) (Nat.zero_le _) (Nat.zero_le _) (P := fun v u => _) ?_ (fun e u h => h) (fun v u h => h)
    intro po14 xx14 hp14 hx14
    refine g_enter2 (k := 170) (N := 300) (by first | exact dq1 hd rfl | exact dq0 hd rfl | exact dq2 hd rfl | exact dq3 hd rfl | omega) rfl (Nat.le_of_ble_eq_true rfl) ?_
    refine g_aload_n 1 (gd rfl) rfl rfl ?_
    refine g_getI 4 (gd rfl) rfl rfl rfl (fun z14x1 e14x1 => ?_)
    have i14x1 := inv_F hI3 0 5 rfl e14x1
    refine g_iconst 3 5 (gd rfl) rfl rfl ?_
    refine g_cmp_ne 8 20 (gd rfl) rfl rfl (fun c14x5 => ?_) (fun c14x5 => ?_)
    · skip
      refine g_iconst 0 21 (gd rfl) rfl rfl ?_
      refine g_ireturn (gd rfl) rfl (nb01 (in_w 0 1 (in_c 0 rfl) rfl)) (hp14 _ _ ?_)
      show GG _ _ _ _ _ _ _ _ [.int (Int32.ofInt 0)] _ _ _
      refine g_if_ne 20 31 (gd rfl) rfl rfl (fun c17 => ?_) (fun c17 => ?_)
      · skip
        exact zn_ne c17 (in_c 0 rfl) rfl
      · skip
        refine g_aload_n 21 (gd rfl) rfl rfl ?_
        refine g_bipush 61 23 (gd rfl) rfl rfl ?_
        refine g_callv (X := _) (As := [.int (Int32.ofInt 61)]) (r := []) (b := A 46) (q := 46) 26 (gd rfl) rfl rfl rfl rfl rfl (ww_o rfl) (Nat.le_of_ble_eq_true rfl) (mc := 0) (ms := 0) (Nat.zero_le _) (Nat.zero_le _) (P := fun v u => _) ?_ (fun e u h => h) (fun v u h => h)
        intro po23 xx23 hp23 hx23
        refine g_enter2 (k := 170) (N := 300) (by first | exact dq1 hd rfl | exact dq0 hd rfl | exact dq2 hd rfl | exact dq3 hd rfl | omega) rfl (Nat.le_of_ble_eq_true rfl) ?_
        refine g_aload_n 1 (gd rfl) rfl rfl ?_
        refine g_getI 4 (gd rfl) rfl rfl rfl (fun z23x1 e23x1 => ?_)
        have q23x1 : z14x1 = z23x1 := (e14x1).trans e23x1.symm
        subst q23x1
        refine g_iconst 3 5 (gd rfl) rfl rfl ?_
        refine g_cmp_ne 8 20 (gd rfl) rfl rfl (fun c23x5 => ?_) (fun c23x5 => ?_)
        · skip
          refine g_iconst 0 21 (gd rfl) rfl rfl ?_
          refine g_ireturn (gd rfl) rfl (nb01 (in_w 0 1 (in_c 0 rfl) rfl)) (hp23 _ _ ?_)
          show GG _ _ _ _ _ _ _ _ [.int (Int32.ofInt 0)] _ _ _
          refine g_if_ne 29 31 (gd rfl) rfl rfl (fun c26 => ?_) (fun c26 => ?_)
          · skip
            exact zn_ne c26 (in_c 0 rfl) rfl
          · skip
            refine g_iconst 1 30 (gd rfl) rfl rfl ?_
            have n30 : TK s3 := by exact p3a
            have n30a : ((Int32.ofInt 1)).toInt ≠ 0 → PCV s s3 1 := by first | (intro _; exact p3b c6) | (intro h; exact absurd rfl h)
            have n30b : (z3a).toInt ≤ (u_46_1).toInt := by have a0 := oa10 ((inv_F hI 0 120 rfl e_102_4)) ((inv_F hI 0 5 rfl e_46_3)) ((inv_F hI 0 1000 rfl e_46_4)) r_46_1 ((inv_F hI 0 1000 rfl e_46_2)) h2 i14x1 i3c i3b i3a; omega
            have n30c : (s3.2.2.1 46 2).toInt ≤ (s3.2.2.1 46 1).toInt := by have b0 : z3a = s3.2.2.1 46 2 := e3; have b1 : u_46_1 = s3.2.2.1 46 1 := fr_F (e_46_1) hF3 rfl; rw [← b0, ← b1]; exact n30b
            have n30d : (z3b).toInt ≤ (z3a).toInt := by have a0 := oa10 ((inv_F hI 0 120 rfl e_102_4)) ((inv_F hI 0 5 rfl e_46_3)) ((inv_F hI 0 1000 rfl e_46_4)) r_46_1 ((inv_F hI 0 1000 rfl e_46_2)) h2 i14x1 i3c i3b i3a; omega
            have n30e : (s3.2.2.1 46 4).toInt ≤ (s3.2.2.1 46 2).toInt := by have b0 : z3b = s3.2.2.1 46 4 := e3a; have b1 : z3a = s3.2.2.1 46 2 := e3; rw [← b0, ← b1]; exact n30d
            have n30f : (z3c).toInt ≤ (z3b).toInt := by have a0 := oa10 ((inv_F hI 0 120 rfl e_102_4)) ((inv_F hI 0 5 rfl e_46_3)) ((inv_F hI 0 1000 rfl e_46_4)) r_46_1 ((inv_F hI 0 1000 rfl e_46_2)) h2 i14x1 i3c i3b i3a; omega
            have n30g : (s3.2.2.1 102 4).toInt ≤ (s3.2.2.1 46 4).toInt := by have b0 : z3c = s3.2.2.1 102 4 := e3b; have b1 : z3b = s3.2.2.1 46 4 := e3a; rw [← b0, ← b1]; exact n30f
            have n30h : (u_46_4).toInt - (u_102_4).toInt ≤ (z3b).toInt - (z3c).toInt := by have a0 := oa10 ((inv_F hI 0 120 rfl e_102_4)) ((inv_F hI 0 5 rfl e_46_3)) ((inv_F hI 0 1000 rfl e_46_4)) r_46_1 ((inv_F hI 0 1000 rfl e_46_2)) h2 i14x1 i3c i3b i3a; omega
            have n30i : (s.2.2.1 46 4).toInt - (s.2.2.1 102 4).toInt ≤ (s3.2.2.1 46 4).toInt - (s3.2.2.1 102 4).toInt := by have b0 : z3b = s3.2.2.1 46 4 := e3a; have b1 : z3c = s3.2.2.1 102 4 := e3b; first | (rw [← b0, ← b1, ← e_46_4, ← e_102_4]; exact n30h) | (rw [← b0, ← b1]; exact n30h)
            exact g_ireturn (gd rfl) rfl (nb01 (in_w 0 1 (in_c 1 rfl) rfl)) (hP _ _ ⟨s3, hI3, (fr_tr rfl fr_rf hF3), n30c, n30e, n30g, n30i, (Int32.ofInt 1), rfl, rfl, in_w 0 1 (in_c 1 rfl) rfl, n30, n30a⟩)
        · skip
          exact absurd c23x5 c14x5
    · skip
      have i14x5 := r_eq1 3 3 c14x5 i14x1 (in_c 3 rfl) rfl
      refine g_aload_n 9 (gd rfl) rfl rfl ?_
      refine g_getI 12 (gd rfl) rfl rfl rfl (fun z14x9 e14x9 => ?_)
      refine g_iload_n 13 (gd rfl) rfl rfl ?_
      refine g_cmp_ne 16 20 (gd rfl) rfl rfl (fun c14x13 => ?_) (fun c14x13 => ?_)
      · skip
        refine g_iconst 0 21 (gd rfl) rfl rfl ?_
        refine g_ireturn (gd rfl) rfl (nb01 (in_w 0 1 (in_c 0 rfl) rfl)) (hp14 _ _ ?_)
        show GG _ _ _ _ _ _ _ _ [.int (Int32.ofInt 0)] _ _ _
        refine g_if_ne 20 31 (gd rfl) rfl rfl (fun c17 => ?_) (fun c17 => ?_)
        · skip
          exact zn_ne c17 (in_c 0 rfl) rfl
        · skip
          refine g_aload_n 21 (gd rfl) rfl rfl ?_
          refine g_bipush 61 23 (gd rfl) rfl rfl ?_
          refine g_callv (X := _) (As := [.int (Int32.ofInt 61)]) (r := []) (b := A 46) (q := 46) 26 (gd rfl) rfl rfl rfl rfl rfl (ww_o rfl) (Nat.le_of_ble_eq_true rfl) (mc := 0) (ms := 0) (Nat.zero_le _) (Nat.zero_le _) (P := fun v u => _) ?_ (fun e u h => h) (fun v u h => h)
          intro po23 xx23 hp23 hx23
          refine g_enter2 (k := 170) (N := 300) (by first | exact dq1 hd rfl | exact dq0 hd rfl | exact dq2 hd rfl | exact dq3 hd rfl | omega) rfl (Nat.le_of_ble_eq_true rfl) ?_
          refine g_aload_n 1 (gd rfl) rfl rfl ?_
          refine g_getI 4 (gd rfl) rfl rfl rfl (fun z23x1 e23x1 => ?_)
          have q23x1 : z14x1 = z23x1 := (e14x1).trans e23x1.symm
          subst q23x1
          refine g_iconst 3 5 (gd rfl) rfl rfl ?_
          refine g_cmp_ne 8 20 (gd rfl) rfl rfl (fun c23x5 => ?_) (fun c23x5 => ?_)
          · skip
            exact n_ne c23x5 i14x5 (in_c 3 rfl) rfl
          · skip
            refine g_aload_n 9 (gd rfl) rfl rfl ?_
            refine g_getI 12 (gd rfl) rfl rfl rfl (fun z23x9 e23x9 => ?_)
            have q23x9 : z14x9 = z23x9 := (e14x9).trans e23x9.symm
            subst q23x9
            refine g_iload_n 13 (gd rfl) rfl rfl ?_
            refine g_cmp_ne 16 20 (gd rfl) rfl rfl (fun c23x13 => ?_) (fun c23x13 => ?_)
            · skip
              refine g_iconst 0 21 (gd rfl) rfl rfl ?_
              refine g_ireturn (gd rfl) rfl (nb01 (in_w 0 1 (in_c 0 rfl) rfl)) (hp23 _ _ ?_)
              show GG _ _ _ _ _ _ _ _ [.int (Int32.ofInt 0)] _ _ _
              refine g_if_ne 29 31 (gd rfl) rfl rfl (fun c26 => ?_) (fun c26 => ?_)
              · skip
                exact zn_ne c26 (in_c 0 rfl) rfl
              · skip
                refine g_iconst 1 30 (gd rfl) rfl rfl ?_
                have n30 : TK s3 := by exact p3a
                have n30a : ((Int32.ofInt 1)).toInt ≠ 0 → PCV s s3 1 := by first | (intro _; exact p3b c6) | (intro h; exact absurd rfl h)
                have n30b : (z3a).toInt ≤ (u_46_1).toInt := by have a0 := oa10 ((inv_F hI 0 120 rfl e_102_4)) ((inv_F hI 0 5 rfl e_46_3)) ((inv_F hI 0 1000 rfl e_46_4)) r_46_1 ((inv_F hI 0 1000 rfl e_46_2)) h2 i14x5 i3c i3b i3a; omega
                have n30c : (s3.2.2.1 46 2).toInt ≤ (s3.2.2.1 46 1).toInt := by have b0 : z3a = s3.2.2.1 46 2 := e3; have b1 : u_46_1 = s3.2.2.1 46 1 := fr_F (e_46_1) hF3 rfl; rw [← b0, ← b1]; exact n30b
                have n30d : (z3b).toInt ≤ (z3a).toInt := by have a0 := oa10 ((inv_F hI 0 120 rfl e_102_4)) ((inv_F hI 0 5 rfl e_46_3)) ((inv_F hI 0 1000 rfl e_46_4)) r_46_1 ((inv_F hI 0 1000 rfl e_46_2)) h2 i14x5 i3c i3b i3a; omega
                have n30e : (s3.2.2.1 46 4).toInt ≤ (s3.2.2.1 46 2).toInt := by have b0 : z3b = s3.2.2.1 46 4 := e3a; have b1 : z3a = s3.2.2.1 46 2 := e3; rw [← b0, ← b1]; exact n30d
                have n30f : (z3c).toInt ≤ (z3b).toInt := by have a0 := oa10 ((inv_F hI 0 120 rfl e_102_4)) ((inv_F hI 0 5 rfl e_46_3)) ((inv_F hI 0 1000 rfl e_46_4)) r_46_1 ((inv_F hI 0 1000 rfl e_46_2)) h2 i14x5 i3c i3b i3a; omega
                have n30g : (s3.2.2.1 102 4).toInt ≤ (s3.2.2.1 46 4).toInt := by have b0 : z3c = s3.2.2.1 102 4 := e3b; have b1 : z3b = s3.2.2.1 46 4 := e3a; rw [← b0, ← b1]; exact n30f
                have n30h : (u_46_4).toInt - (u_102_4).toInt ≤ (z3b).toInt - (z3c).toInt := by have a0 := oa10 ((inv_F hI 0 120 rfl e_102_4)) ((inv_F hI 0 5 rfl e_46_3)) ((inv_F hI 0 1000 rfl e_46_4)) r_46_1 ((inv_F hI 0 1000 rfl e_46_2)) h2 i14x5 i3c i3b i3a; omega
                have n30i : (s.2.2.1 46 4).toInt - (s.2.2.1 102 4).toInt ≤ (s3.2.2.1 46 4).toInt - (s3.2.2.1 102 4).toInt := by have b0 : z3b = s3.2.2.1 46 4 := e3a; have b1 : z3c = s3.2.2.1 102 4 := e3b; first | (rw [← b0, ← b1, ← e_46_4, ← e_102_4]; exact n30h) | (rw [← b0, ← b1]; exact n30h)
                exact g_ireturn (gd rfl) rfl (nb01 (in_w 0 1 (in_c 1 rfl) rfl)) (hP _ _ ⟨s3, hI3, (fr_tr rfl fr_rf hF3), n30c, n30e, n30g, n30i, (Int32.ofInt 1), rfl, rfl, in_w 0 1 (in_c 1 rfl) rfl, n30, n30a⟩)
            · skip
              have i23x13 := r_eq1 61 61 c23x13 (i_rng z14x9) (in_c 61 rfl) rfl
              refine g_iconst 1 17 (gd rfl) rfl rfl ?_
              refine g_goto 21 (gd rfl) rfl ?_
              refine g_ireturn (gd rfl) rfl (nb01 (in_w 0 1 (in_c 1 rfl) rfl)) (hp23 _ _ ?_)
              show GG _ _ _ _ _ _ _ _ [.int (Int32.ofInt 1)] _ _ _
              refine g_if_ne 29 31 (gd rfl) rfl rfl (fun c26 => ?_) (fun c26 => ?_)
              · skip
                refine g_aload_n 32 (gd rfl) rfl rfl ?_
                refine g_getI 35 (gd rfl) rfl rfl rfl (fun z32 e32 => ?_)
                have q32 : z14x9 = z32 := (e14x9).trans e32.symm
                subst q32
                refine g_istore_n 36 (gd rfl) rfl (Nat.le_of_ble_eq_true rfl) ?_
                refine g_aload_n 37 (gd rfl) rfl rfl ?_
                refine g_bipush 6 39 (gd rfl) rfl rfl ?_
                refine g_iconst 0 40 (gd rfl) rfl rfl ?_
                have hk := tka_1 p3a (show z14x1 = s3.2.2.1 46 3 from e14x1) (show z3b = s3.2.2.1 46 4 from e3a) (show z3a = s3.2.2.1 46 2 from e3) (by have a0 := oa11 ((inv_F hI 0 120 rfl e_102_4)) ((inv_F hI 0 5 rfl e_46_3)) ((inv_F hI 0 1000 rfl e_46_4)) r_46_1 ((inv_F hI 0 1000 rfl e_46_2)) h2 i23x13 i14x5 i3c i3b i3a; omega)
                have v40 : u_46_1 = s3.2.2.1 46 1 := fr_F (e_46_1) hF3 rfl
                have n40 : (z3a).toInt ≤ (u_46_1).toInt := by have a0 := oa11 ((inv_F hI 0 120 rfl e_102_4)) ((inv_F hI 0 5 rfl e_46_3)) ((inv_F hI 0 1000 rfl e_46_4)) r_46_1 ((inv_F hI 0 1000 rfl e_46_2)) h2 i23x13 i14x5 i3c i3b i3a; omega
                refine g_callv (X := _) (As := [.int (Int32.ofInt 6), .int (Int32.ofInt 0)]) (r := []) (b := A 46) (q := 46) 43 (gd rfl) rfl rfl rfl rfl rfl (ww_o rfl) (Nat.le_of_ble_eq_true rfl) (Nat.zero_le _) (Nat.zero_le _) (k_171_46 (by first | exact dq1 hd rfl | exact dq0 hd rfl | exact dq2 hd rfl | exact dq3 hd rfl | omega) hI3 (in_w 6 7 (in_c 6 rfl) rfl) (in_w 0 1 (in_c 0 rfl) rfl) e3 v40 n40) (fun e u h => h) (fun v u h => ?_)
                obtain ⟨s40, hI40, hF40, n40a, n40b, n40c, rfl, rfl, p40, p40a⟩ := h
                obtain ⟨z40a, e40⟩ : ∃ w, w = s40.2.2.1 46 2 := ⟨_, rfl⟩
                have i40a := inv_F hI40 0 1000 rfl e40
                obtain ⟨z40b, e40a⟩ : ∃ w, w = s40.2.2.1 46 4 := ⟨_, rfl⟩
                have i40b := inv_F hI40 0 1000 rfl e40a
                rw [← (show z40a = s40.2.2.1 46 2 from e40)] at n40a
                rw [← (show u_46_1 = s40.2.2.1 46 1 from fr_F (fr_F (e_46_1) hF3 rfl) hF40 rfl)] at n40a
                rw [← (show z40a = s40.2.2.1 46 2 from e40)] at n40b
                rw [← (show z40b = s40.2.2.1 46 4 from e40a)] at n40b
                rw [← (show z3a = s3.2.2.1 46 2 from e3)] at n40c
                rw [← (show z40b = s40.2.2.1 46 4 from e40a)] at n40c
                show GG _ _ _ _ _ _ _ _ [] _ _ _
                refine g_aload_n 44 (gd rfl) rfl rfl ?_
                refine g_aload_n 45 (gd rfl) rfl rfl ?_
                refine g_iload_n 46 (gd rfl) rfl rfl ?_
                have v46 : u_46_1 = s40.2.2.1 46 1 := fr_F (fr_F (e_46_1) hF3 rfl) hF40 rfl
                have v46a : z3c = s40.2.2.1 102 4 := fr_F (e3b) hF40 rfl
                have n46 : (z40a).toInt ≤ (u_46_1).toInt := by have a0 := oa10 ((inv_F hI 0 120 rfl e_102_4)) ((inv_F hI 0 5 rfl e_46_3)) ((inv_F hI 0 1000 rfl e_46_4)) r_46_1 ((inv_F hI 0 1000 rfl e_46_2)) h2 i23x13 i40b i40a i3c; omega
                have n46a : (z40b).toInt ≤ (z40a).toInt := by have a0 := oa10 ((inv_F hI 0 120 rfl e_102_4)) ((inv_F hI 0 5 rfl e_46_3)) ((inv_F hI 0 1000 rfl e_46_4)) r_46_1 ((inv_F hI 0 1000 rfl e_46_2)) h2 i23x13 i40b i40a i3c; omega
                have n46b : (z3c).toInt ≤ (z40b).toInt := by have a0 := oa10 ((inv_F hI 0 120 rfl e_102_4)) ((inv_F hI 0 5 rfl e_46_3)) ((inv_F hI 0 1000 rfl e_46_4)) r_46_1 ((inv_F hI 0 1000 rfl e_46_2)) h2 i23x13 i40b i40a i3c; omega
                have p46 : TK s40 := by exact p40 (by decide)
                have n46c : 10 - (x2).toInt < ((kk : Nat) : Int) := by have a0 := oa10 ((inv_F hI 0 120 rfl e_102_4)) ((inv_F hI 0 5 rfl e_46_3)) ((inv_F hI 0 1000 rfl e_46_4)) r_46_1 ((inv_F hI 0 1000 rfl e_46_2)) h2 i23x13 i40b i40a i3c; omega
                refine g_callv (X := _) (As := [.ref (A 46), .int x2]) (r := []) (b := A 102) (q := 102) 49 (gd rfl) rfl rfl rfl rfl rfl (ww_o rfl) (Nat.le_of_ble_eq_true rfl) (Nat.zero_le _) (Nat.zero_le _) (ih (by omega) hI40 (in_w 0 10 h2 rfl) e40 v46 e40a rfl rfl v46a (in_w 0 120 r_46_1 rfl) n46 n46a n46b p46 n46c) (fun e u h => h) (fun v u h => ?_)
                obtain ⟨s46, hI46, hF46, n46d, n46e, n46f, n46g, z46, rfl, rfl, i46, p46a, p46b⟩ := h
                obtain ⟨z46a, e46⟩ : ∃ w, w = s46.2.2.1 46 2 := ⟨_, rfl⟩
                have i46a := inv_F hI46 0 1000 rfl e46
                obtain ⟨z46b, e46a⟩ : ∃ w, w = s46.2.2.1 46 4 := ⟨_, rfl⟩
                have i46b := inv_F hI46 0 1000 rfl e46a
                obtain ⟨z46c, e46b⟩ : ∃ w, w = s46.2.2.1 102 4 := ⟨_, rfl⟩
                have i46c := inv_F hI46 0 120 rfl e46b
                rw [← (show z46a = s46.2.2.1 46 2 from e46)] at n46d
                rw [← (show u_46_1 = s46.2.2.1 46 1 from fr_F (fr_F (fr_F (e_46_1) hF3 rfl) hF40 rfl) hF46 rfl)] at n46d
                rw [← (show z46a = s46.2.2.1 46 2 from e46)] at n46e
                rw [← (show z46b = s46.2.2.1 46 4 from e46a)] at n46e
                rw [← (show z46b = s46.2.2.1 46 4 from e46a)] at n46f
                rw [← (show z46c = s46.2.2.1 102 4 from e46b)] at n46f
                rw [← (show z40b = s40.2.2.1 46 4 from e40a)] at n46g
                rw [← (show z3c = s40.2.2.1 102 4 from fr_F (e3b) hF40 rfl)] at n46g
                rw [← (show z46b = s46.2.2.1 46 4 from e46a)] at n46g
                rw [← (show z46c = s46.2.2.1 102 4 from e46b)] at n46g
                show GG _ _ _ _ _ _ _ _ [.int z46] _ _ _
                refine g_if_eq 52 67 (gd rfl) rfl rfl (fun c49 => ?_) (fun c49 => ?_)
                · skip
                  have i49 := z_eq 0 0 c49 i46 rfl
                  refine g_iconst 0 68 (gd rfl) rfl rfl ?_
                  have n68 : TK s46 := by exact p46a
                  have n68a : ((Int32.ofInt 0)).toInt ≠ 0 → PCV s s46 1 := by first | (intro _; exact p3b c6) | (intro h; exact absurd rfl h)
                  have n68b : (z46a).toInt ≤ (u_46_1).toInt := by have a0 := oa10 ((inv_F hI 0 120 rfl e_102_4)) ((inv_F hI 0 5 rfl e_46_3)) ((inv_F hI 0 1000 rfl e_46_4)) r_46_1 ((inv_F hI 0 1000 rfl e_46_2)) h2 i23x13 i46c i46b i46a; omega
                  have n68c : (s46.2.2.1 46 2).toInt ≤ (s46.2.2.1 46 1).toInt := by have b0 : z46a = s46.2.2.1 46 2 := e46; have b1 : u_46_1 = s46.2.2.1 46 1 := fr_F (fr_F (fr_F (e_46_1) hF3 rfl) hF40 rfl) hF46 rfl; rw [← b0, ← b1]; exact n68b
                  have n68d : (z46b).toInt ≤ (z46a).toInt := by have a0 := oa10 ((inv_F hI 0 120 rfl e_102_4)) ((inv_F hI 0 5 rfl e_46_3)) ((inv_F hI 0 1000 rfl e_46_4)) r_46_1 ((inv_F hI 0 1000 rfl e_46_2)) h2 i23x13 i46c i46b i46a; omega
                  have n68e : (s46.2.2.1 46 4).toInt ≤ (s46.2.2.1 46 2).toInt := by have b0 : z46b = s46.2.2.1 46 4 := e46a; have b1 : z46a = s46.2.2.1 46 2 := e46; rw [← b0, ← b1]; exact n68d
                  have n68f : (z46c).toInt ≤ (z46b).toInt := by have a0 := oa10 ((inv_F hI 0 120 rfl e_102_4)) ((inv_F hI 0 5 rfl e_46_3)) ((inv_F hI 0 1000 rfl e_46_4)) r_46_1 ((inv_F hI 0 1000 rfl e_46_2)) h2 i23x13 i46c i46b i46a; omega
                  have n68g : (s46.2.2.1 102 4).toInt ≤ (s46.2.2.1 46 4).toInt := by have b0 : z46c = s46.2.2.1 102 4 := e46b; have b1 : z46b = s46.2.2.1 46 4 := e46a; rw [← b0, ← b1]; exact n68f
                  have n68h : (u_46_4).toInt - (u_102_4).toInt ≤ (z46b).toInt - (z46c).toInt := by have a0 := oa10 ((inv_F hI 0 120 rfl e_102_4)) ((inv_F hI 0 5 rfl e_46_3)) ((inv_F hI 0 1000 rfl e_46_4)) r_46_1 ((inv_F hI 0 1000 rfl e_46_2)) h2 i23x13 i46c i46b i46a; omega
                  have n68i : (s.2.2.1 46 4).toInt - (s.2.2.1 102 4).toInt ≤ (s46.2.2.1 46 4).toInt - (s46.2.2.1 102 4).toInt := by have b0 : z46b = s46.2.2.1 46 4 := e46a; have b1 : z46c = s46.2.2.1 102 4 := e46b; first | (rw [← b0, ← b1, ← e_46_4, ← e_102_4]; exact n68h) | (rw [← b0, ← b1]; exact n68h)
                  exact g_ireturn (gd rfl) rfl (nb01 (in_w 0 1 (in_c 0 rfl) rfl)) (hP _ _ ⟨s46, hI46, (fr_tr rfl (fr_tr rfl (fr_tr rfl fr_rf hF3) hF40) hF46), n68c, n68e, n68g, n68i, (Int32.ofInt 0), rfl, rfl, in_w 0 1 (in_c 0 rfl) rfl, n68, n68a⟩)
                · skip
                  have i49 := z_ne 1 1 c49 i46 rfl
                  refine g_aload_n 53 (gd rfl) rfl rfl ?_
                  refine g_ldc 1000100 55 (gd rfl) rfl rfl ?_
                  refine g_iload_n 56 (gd rfl) rfl rfl ?_
                  refine g_iadd 57 (gd rfl) rfl (fun z56 e56 => ?_)
                  have i56 := in_add 1000161 1000161 e56 (in_c 1000100 rfl) i23x13 rfl rfl
                  have hDe : _ = s46.2.2.1 102 4 := (show z46c = s46.2.2.1 102 4 from e46b)
                  have n57 : (z46c).toInt ≤ 119 := by have a0 := oa11 ((inv_F hI 0 120 rfl e_102_4)) ((inv_F hI 0 5 rfl e_46_3)) ((inv_F hI 0 1000 rfl e_46_4)) r_46_1 ((inv_F hI 0 1000 rfl e_46_2)) h2 i23x13 i46c i46b i46a i56; have a11 := t_add e56 (in_c 1000100 rfl) i23x13 rfl; have a12 := in_u ((in_c 1000100 rfl)); omega
                  refine g_callv (X := _) (As := [.int z56]) (r := []) (b := A 102) (q := 102) 60 (gd rfl) rfl rfl rfl rfl rfl (ww_o rfl) (Nat.le_of_ble_eq_true rfl) (Nat.zero_le _) (Nat.zero_le _) (k_57_102 (by first | exact dq1 hd rfl | exact dq0 hd rfl | exact dq2 hd rfl | exact dq3 hd rfl | omega) hI46 e46b n57) (fun e u h => h) (fun v u h => ?_)
                  obtain ⟨s57, hI57, hF57, n57a, z57, rfl, rfl, i57, p57⟩ := h
                  obtain ⟨z57a, e57⟩ : ∃ w, w = s57.2.2.1 102 4 := ⟨_, rfl⟩
                  have i57a := inv_F hI57 0 120 rfl e57
                  rw [← (show z46c = s46.2.2.1 102 4 from e46b)] at n57a
                  rw [← (show z57a = s57.2.2.1 102 4 from e57)] at n57a
                  show GG _ _ _ _ _ _ _ _ [.int z57] _ _ _
                  refine g_if_eq 63 67 (gd rfl) rfl rfl (fun c60 => ?_) (fun c60 => ?_)
                  · skip
                    exact zn_eq c60 i57 rfl
                  · skip
                    refine g_iconst 1 64 (gd rfl) rfl rfl ?_
                    refine g_goto 68 (gd rfl) rfl ?_
                    have n68 : TK s57 := by exact tk_fr hF57 rfl p46a
                    have n68a : ((Int32.ofInt 1)).toInt ≠ 0 → PCV s s57 1 := by intro _; exact pv_st (j := 2) (k := 1) (pv_tr (j := 1) (k := 1) (pv_tr (j := 1) (k := 0) (p3b c6) (pv_sm (hF40.1 104 rfl) (hF40.2.2.1 102 4 rfl))) (p46b c49)) (inv_F hI46 0 120 rfl rfl).1 p57 (by rw [← (show z57a = s57.2.2.1 102 4 from e57), ← hDe]; have a0 := oa11 ((inv_F hI 0 120 rfl e_102_4)) ((inv_F hI 0 5 rfl e_46_3)) ((inv_F hI 0 1000 rfl e_46_4)) r_46_1 ((inv_F hI 0 1000 rfl e_46_2)) h2 i23x13 i57a i46b i46a i56; have a11 := t_add e56 (in_c 1000100 rfl) i23x13 rfl; have a12 := in_u ((in_c 1000100 rfl)); omega) (fun e => hc_b (by have a0 := oa11 ((inv_F hI 0 120 rfl e_102_4)) ((inv_F hI 0 5 rfl e_46_3)) ((inv_F hI 0 1000 rfl e_46_4)) r_46_1 ((inv_F hI 0 1000 rfl e_46_2)) h2 i23x13 i57a i46b i46a i56; have a11 := t_add e56 (in_c 1000100 rfl) i23x13 rfl; have a12 := in_u ((in_c 1000100 rfl)); omega) (by have a0 := oa11 ((inv_F hI 0 120 rfl e_102_4)) ((inv_F hI 0 5 rfl e_46_3)) ((inv_F hI 0 1000 rfl e_46_4)) r_46_1 ((inv_F hI 0 1000 rfl e_46_2)) h2 i23x13 i57a i46b i46a i56; have a11 := t_add e56 (in_c 1000100 rfl) i23x13 rfl; have a12 := in_u ((in_c 1000100 rfl)); omega) e)
                    have n68b : (z46a).toInt ≤ (u_46_1).toInt := by have a0 := oa11 ((inv_F hI 0 120 rfl e_102_4)) ((inv_F hI 0 5 rfl e_46_3)) ((inv_F hI 0 1000 rfl e_46_4)) r_46_1 ((inv_F hI 0 1000 rfl e_46_2)) h2 i23x13 i57a i46b i46a i56; have a11 := t_add e56 (in_c 1000100 rfl) i23x13 rfl; have a12 := in_u ((in_c 1000100 rfl)); omega
                    have n68c : (s57.2.2.1 46 2).toInt ≤ (s57.2.2.1 46 1).toInt := by have b0 : z46a = s57.2.2.1 46 2 := fr_F (e46) hF57 rfl; have b1 : u_46_1 = s57.2.2.1 46 1 := fr_F (fr_F (fr_F (fr_F (e_46_1) hF3 rfl) hF40 rfl) hF46 rfl) hF57 rfl; rw [← b0, ← b1]; exact n68b
                    have n68d : (z46b).toInt ≤ (z46a).toInt := by have a0 := oa11 ((inv_F hI 0 120 rfl e_102_4)) ((inv_F hI 0 5 rfl e_46_3)) ((inv_F hI 0 1000 rfl e_46_4)) r_46_1 ((inv_F hI 0 1000 rfl e_46_2)) h2 i23x13 i57a i46b i46a i56; have a11 := t_add e56 (in_c 1000100 rfl) i23x13 rfl; have a12 := in_u ((in_c 1000100 rfl)); omega
                    have n68e : (s57.2.2.1 46 4).toInt ≤ (s57.2.2.1 46 2).toInt := by have b0 : z46b = s57.2.2.1 46 4 := fr_F (e46a) hF57 rfl; have b1 : z46a = s57.2.2.1 46 2 := fr_F (e46) hF57 rfl; rw [← b0, ← b1]; exact n68d
                    have n68f : (z57a).toInt ≤ (z46b).toInt := by have a0 := oa11 ((inv_F hI 0 120 rfl e_102_4)) ((inv_F hI 0 5 rfl e_46_3)) ((inv_F hI 0 1000 rfl e_46_4)) r_46_1 ((inv_F hI 0 1000 rfl e_46_2)) h2 i23x13 i57a i46b i46a i56; have a11 := t_add e56 (in_c 1000100 rfl) i23x13 rfl; have a12 := in_u ((in_c 1000100 rfl)); omega
                    have n68g : (s57.2.2.1 102 4).toInt ≤ (s57.2.2.1 46 4).toInt := by have b0 : z57a = s57.2.2.1 102 4 := e57; have b1 : z46b = s57.2.2.1 46 4 := fr_F (e46a) hF57 rfl; rw [← b0, ← b1]; exact n68f
                    have n68h : (u_46_4).toInt - (u_102_4).toInt ≤ (z46b).toInt - (z57a).toInt := by have a0 := oa11 ((inv_F hI 0 120 rfl e_102_4)) ((inv_F hI 0 5 rfl e_46_3)) ((inv_F hI 0 1000 rfl e_46_4)) r_46_1 ((inv_F hI 0 1000 rfl e_46_2)) h2 i23x13 i57a i46b i46a i56; have a11 := t_add e56 (in_c 1000100 rfl) i23x13 rfl; have a12 := in_u ((in_c 1000100 rfl)); omega
                    have n68i : (s.2.2.1 46 4).toInt - (s.2.2.1 102 4).toInt ≤ (s57.2.2.1 46 4).toInt - (s57.2.2.1 102 4).toInt := by have b0 : z46b = s57.2.2.1 46 4 := fr_F (e46a) hF57 rfl; have b1 : z57a = s57.2.2.1 102 4 := e57; first | (rw [← b0, ← b1, ← e_46_4, ← e_102_4]; exact n68h) | (rw [← b0, ← b1]; exact n68h)
                    exact g_ireturn (gd rfl) rfl (nb01 (in_w 0 1 (in_c 1 rfl) rfl)) (hP _ _ ⟨s57, hI57, (fr_tr rfl (fr_tr rfl (fr_tr rfl (fr_tr rfl fr_rf hF3) hF40) hF46) hF57), n68c, n68e, n68g, n68i, (Int32.ofInt 1), rfl, rfl, in_w 0 1 (in_c 1 rfl) rfl, n68, n68a⟩)
              · skip
                exact zn_eq c26 (in_c 1 rfl) rfl
      · skip
        have i14x13 := r_eq1 60 60 c14x13 (i_rng z14x9) (in_c 60 rfl) rfl
        refine g_iconst 1 17 (gd rfl) rfl rfl ?_
        refine g_goto 21 (gd rfl) rfl ?_
        refine g_ireturn (gd rfl) rfl (nb01 (in_w 0 1 (in_c 1 rfl) rfl)) (hp14 _ _ ?_)
        show GG _ _ _ _ _ _ _ _ [.int (Int32.ofInt 1)] _ _ _
        refine g_if_ne 20 31 (gd rfl) rfl rfl (fun c17 => ?_) (fun c17 => ?_)
        · skip
          refine g_aload_n 32 (gd rfl) rfl rfl ?_
          refine g_getI 35 (gd rfl) rfl rfl rfl (fun z32 e32 => ?_)
          have q32 : z14x9 = z32 := (e14x9).trans e32.symm
          subst q32
          refine g_istore_n 36 (gd rfl) rfl (Nat.le_of_ble_eq_true rfl) ?_
          refine g_aload_n 37 (gd rfl) rfl rfl ?_
          refine g_bipush 6 39 (gd rfl) rfl rfl ?_
          refine g_iconst 0 40 (gd rfl) rfl rfl ?_
          have hk := tka_1 p3a (show z14x1 = s3.2.2.1 46 3 from e14x1) (show z3b = s3.2.2.1 46 4 from e3a) (show z3a = s3.2.2.1 46 2 from e3) (by have a0 := oa11 ((inv_F hI 0 120 rfl e_102_4)) ((inv_F hI 0 5 rfl e_46_3)) ((inv_F hI 0 1000 rfl e_46_4)) r_46_1 ((inv_F hI 0 1000 rfl e_46_2)) h2 i14x13 i14x5 i3c i3b i3a; omega)
          have v40 : u_46_1 = s3.2.2.1 46 1 := fr_F (e_46_1) hF3 rfl
          have n40 : (z3a).toInt ≤ (u_46_1).toInt := by have a0 := oa11 ((inv_F hI 0 120 rfl e_102_4)) ((inv_F hI 0 5 rfl e_46_3)) ((inv_F hI 0 1000 rfl e_46_4)) r_46_1 ((inv_F hI 0 1000 rfl e_46_2)) h2 i14x13 i14x5 i3c i3b i3a; omega
          refine g_callv (X := _) (As := [.int (Int32.ofInt 6), .int (Int32.ofInt 0)]) (r := []) (b := A 46) (q := 46) 43 (gd rfl) rfl rfl rfl rfl rfl (ww_o rfl) (Nat.le_of_ble_eq_true rfl) (Nat.zero_le _) (Nat.zero_le _) (k_171_46 (by first | exact dq1 hd rfl | exact dq0 hd rfl | exact dq2 hd rfl | exact dq3 hd rfl | omega) hI3 (in_w 6 7 (in_c 6 rfl) rfl) (in_w 0 1 (in_c 0 rfl) rfl) e3 v40 n40) (fun e u h => h) (fun v u h => ?_)
          obtain ⟨s40, hI40, hF40, n40a, n40b, n40c, rfl, rfl, p40, p40a⟩ := h
          obtain ⟨z40a, e40⟩ : ∃ w, w = s40.2.2.1 46 2 := ⟨_, rfl⟩
          have i40a := inv_F hI40 0 1000 rfl e40
          obtain ⟨z40b, e40a⟩ : ∃ w, w = s40.2.2.1 46 4 := ⟨_, rfl⟩
          have i40b := inv_F hI40 0 1000 rfl e40a
          rw [← (show z40a = s40.2.2.1 46 2 from e40)] at n40a
          rw [← (show u_46_1 = s40.2.2.1 46 1 from fr_F (fr_F (e_46_1) hF3 rfl) hF40 rfl)] at n40a
          rw [← (show z40a = s40.2.2.1 46 2 from e40)] at n40b
          rw [← (show z40b = s40.2.2.1 46 4 from e40a)] at n40b
          rw [← (show z3a = s3.2.2.1 46 2 from e3)] at n40c
          rw [← (show z40b = s40.2.2.1 46 4 from e40a)] at n40c
          show GG _ _ _ _ _ _ _ _ [] _ _ _
          refine g_aload_n 44 (gd rfl) rfl rfl ?_
          refine g_aload_n 45 (gd rfl) rfl rfl ?_
          refine g_iload_n 46 (gd rfl) rfl rfl ?_
          have v46 : u_46_1 = s40.2.2.1 46 1 := fr_F (fr_F (e_46_1) hF3 rfl) hF40 rfl
          have v46a : z3c = s40.2.2.1 102 4 := fr_F (e3b) hF40 rfl
          have n46 : (z40a).toInt ≤ (u_46_1).toInt := by have a0 := oa10 ((inv_F hI 0 120 rfl e_102_4)) ((inv_F hI 0 5 rfl e_46_3)) ((inv_F hI 0 1000 rfl e_46_4)) r_46_1 ((inv_F hI 0 1000 rfl e_46_2)) h2 i14x13 i40b i40a i3c; omega
          have n46a : (z40b).toInt ≤ (z40a).toInt := by have a0 := oa10 ((inv_F hI 0 120 rfl e_102_4)) ((inv_F hI 0 5 rfl e_46_3)) ((inv_F hI 0 1000 rfl e_46_4)) r_46_1 ((inv_F hI 0 1000 rfl e_46_2)) h2 i14x13 i40b i40a i3c; omega
          have n46b : (z3c).toInt ≤ (z40b).toInt := by have a0 := oa10 ((inv_F hI 0 120 rfl e_102_4)) ((inv_F hI 0 5 rfl e_46_3)) ((inv_F hI 0 1000 rfl e_46_4)) r_46_1 ((inv_F hI 0 1000 rfl e_46_2)) h2 i14x13 i40b i40a i3c; omega
          have p46 : TK s40 := by exact p40 (by decide)
          have n46c : 10 - (x2).toInt < ((kk : Nat) : Int) := by have a0 := oa10 ((inv_F hI 0 120 rfl e_102_4)) ((inv_F hI 0 5 rfl e_46_3)) ((inv_F hI 0 1000 rfl e_46_4)) r_46_1 ((inv_F hI 0 1000 rfl e_46_2)) h2 i14x13 i40b i40a i3c; omega
          refine g_callv (X := _) (As := [.ref (A 46), .int x2]) (r := []) (b := A 102) (q := 102) 49 (gd rfl) rfl rfl rfl rfl rfl (ww_o rfl) (Nat.le_of_ble_eq_true rfl) (Nat.zero_le _) (Nat.zero_le _) (ih (by omega) hI40 (in_w 0 10 h2 rfl) e40 v46 e40a rfl rfl v46a (in_w 0 120 r_46_1 rfl) n46 n46a n46b p46 n46c) (fun e u h => h) (fun v u h => ?_)
          obtain ⟨s46, hI46, hF46, n46d, n46e, n46f, n46g, z46, rfl, rfl, i46, p46a, p46b⟩ := h
          obtain ⟨z46a, e46⟩ : ∃ w, w = s46.2.2.1 46 2 := ⟨_, rfl⟩
          have i46a := inv_F hI46 0 1000 rfl e46
          obtain ⟨z46b, e46a⟩ : ∃ w, w = s46.2.2.1 46 4 := ⟨_, rfl⟩
          have i46b := inv_F hI46 0 1000 rfl e46a
          obtain ⟨z46c, e46b⟩ : ∃ w, w = s46.2.2.1 102 4 := ⟨_, rfl⟩
          have i46c := inv_F hI46 0 120 rfl e46b
          rw [← (show z46a = s46.2.2.1 46 2 from e46)] at n46d
          rw [← (show u_46_1 = s46.2.2.1 46 1 from fr_F (fr_F (fr_F (e_46_1) hF3 rfl) hF40 rfl) hF46 rfl)] at n46d
          rw [← (show z46a = s46.2.2.1 46 2 from e46)] at n46e
          rw [← (show z46b = s46.2.2.1 46 4 from e46a)] at n46e
          rw [← (show z46b = s46.2.2.1 46 4 from e46a)] at n46f
          rw [← (show z46c = s46.2.2.1 102 4 from e46b)] at n46f
          rw [← (show z40b = s40.2.2.1 46 4 from e40a)] at n46g
          rw [← (show z3c = s40.2.2.1 102 4 from fr_F (e3b) hF40 rfl)] at n46g
          rw [← (show z46b = s46.2.2.1 46 4 from e46a)] at n46g
          rw [← (show z46c = s46.2.2.1 102 4 from e46b)] at n46g
          show GG _ _ _ _ _ _ _ _ [.int z46] _ _ _
          refine g_if_eq 52 67 (gd rfl) rfl rfl (fun c49 => ?_) (fun c49 => ?_)
          · skip
            have i49 := z_eq 0 0 c49 i46 rfl
            refine g_iconst 0 68 (gd rfl) rfl rfl ?_
            have n68 : TK s46 := by exact p46a
            have n68a : ((Int32.ofInt 0)).toInt ≠ 0 → PCV s s46 1 := by first | (intro _; exact p3b c6) | (intro h; exact absurd rfl h)
            have n68b : (z46a).toInt ≤ (u_46_1).toInt := by have a0 := oa10 ((inv_F hI 0 120 rfl e_102_4)) ((inv_F hI 0 5 rfl e_46_3)) ((inv_F hI 0 1000 rfl e_46_4)) r_46_1 ((inv_F hI 0 1000 rfl e_46_2)) h2 i14x13 i46c i46b i46a; omega
            have n68c : (s46.2.2.1 46 2).toInt ≤ (s46.2.2.1 46 1).toInt := by have b0 : z46a = s46.2.2.1 46 2 := e46; have b1 : u_46_1 = s46.2.2.1 46 1 := fr_F (fr_F (fr_F (e_46_1) hF3 rfl) hF40 rfl) hF46 rfl; rw [← b0, ← b1]; exact n68b
            have n68d : (z46b).toInt ≤ (z46a).toInt := by have a0 := oa10 ((inv_F hI 0 120 rfl e_102_4)) ((inv_F hI 0 5 rfl e_46_3)) ((inv_F hI 0 1000 rfl e_46_4)) r_46_1 ((inv_F hI 0 1000 rfl e_46_2)) h2 i14x13 i46c i46b i46a; omega
            have n68e : (s46.2.2.1 46 4).toInt ≤ (s46.2.2.1 46 2).toInt := by have b0 : z46b = s46.2.2.1 46 4 := e46a; have b1 : z46a = s46.2.2.1 46 2 := e46; rw [← b0, ← b1]; exact n68d
            have n68f : (z46c).toInt ≤ (z46b).toInt := by have a0 := oa10 ((inv_F hI 0 120 rfl e_102_4)) ((inv_F hI 0 5 rfl e_46_3)) ((inv_F hI 0 1000 rfl e_46_4)) r_46_1 ((inv_F hI 0 1000 rfl e_46_2)) h2 i14x13 i46c i46b i46a; omega
            have n68g : (s46.2.2.1 102 4).toInt ≤ (s46.2.2.1 46 4).toInt := by have b0 : z46c = s46.2.2.1 102 4 := e46b; have b1 : z46b = s46.2.2.1 46 4 := e46a; rw [← b0, ← b1]; exact n68f
            have n68h : (u_46_4).toInt - (u_102_4).toInt ≤ (z46b).toInt - (z46c).toInt := by have a0 := oa10 ((inv_F hI 0 120 rfl e_102_4)) ((inv_F hI 0 5 rfl e_46_3)) ((inv_F hI 0 1000 rfl e_46_4)) r_46_1 ((inv_F hI 0 1000 rfl e_46_2)) h2 i14x13 i46c i46b i46a; omega
            have n68i : (s.2.2.1 46 4).toInt - (s.2.2.1 102 4).toInt ≤ (s46.2.2.1 46 4).toInt - (s46.2.2.1 102 4).toInt := by have b0 : z46b = s46.2.2.1 46 4 := e46a; have b1 : z46c = s46.2.2.1 102 4 := e46b; first | (rw [← b0, ← b1, ← e_46_4, ← e_102_4]; exact n68h) | (rw [← b0, ← b1]; exact n68h)
            exact g_ireturn (gd rfl) rfl (nb01 (in_w 0 1 (in_c 0 rfl) rfl)) (hP _ _ ⟨s46, hI46, (fr_tr rfl (fr_tr rfl (fr_tr rfl fr_rf hF3) hF40) hF46), n68c, n68e, n68g, n68i, (Int32.ofInt 0), rfl, rfl, in_w 0 1 (in_c 0 rfl) rfl, n68, n68a⟩)
          · skip
            have i49 := z_ne 1 1 c49 i46 rfl
            refine g_aload_n 53 (gd rfl) rfl rfl ?_
            refine g_ldc 1000100 55 (gd rfl) rfl rfl ?_
            refine g_iload_n 56 (gd rfl) rfl rfl ?_
            refine g_iadd 57 (gd rfl) rfl (fun z56 e56 => ?_)
            have i56 := in_add 1000160 1000160 e56 (in_c 1000100 rfl) i14x13 rfl rfl
            have hDe : _ = s46.2.2.1 102 4 := (show z46c = s46.2.2.1 102 4 from e46b)
            have n57 : (z46c).toInt ≤ 119 := by have a0 := oa11 ((inv_F hI 0 120 rfl e_102_4)) ((inv_F hI 0 5 rfl e_46_3)) ((inv_F hI 0 1000 rfl e_46_4)) r_46_1 ((inv_F hI 0 1000 rfl e_46_2)) h2 i14x13 i46c i46b i46a i56; have a11 := t_add e56 (in_c 1000100 rfl) i14x13 rfl; have a12 := in_u ((in_c 1000100 rfl)); omega
            refine g_callv (X := _) (As := [.int z56]) (r := []) (b := A 102) (q := 102) 60 (gd rfl) rfl rfl rfl rfl rfl (ww_o rfl) (Nat.le_of_ble_eq_true rfl) (Nat.zero_le _) (Nat.zero_le _) (k_57_102 (by first | exact dq1 hd rfl | exact dq0 hd rfl | exact dq2 hd rfl | exact dq3 hd rfl | omega) hI46 e46b n57) (fun e u h => h) (fun v u h => ?_)
            obtain ⟨s57, hI57, hF57, n57a, z57, rfl, rfl, i57, p57⟩ := h
            obtain ⟨z57a, e57⟩ : ∃ w, w = s57.2.2.1 102 4 := ⟨_, rfl⟩
            have i57a := inv_F hI57 0 120 rfl e57
            rw [← (show z46c = s46.2.2.1 102 4 from e46b)] at n57a
            rw [← (show z57a = s57.2.2.1 102 4 from e57)] at n57a
            show GG _ _ _ _ _ _ _ _ [.int z57] _ _ _
            refine g_if_eq 63 67 (gd rfl) rfl rfl (fun c60 => ?_) (fun c60 => ?_)
            · skip
              exact zn_eq c60 i57 rfl
            · skip
              refine g_iconst 1 64 (gd rfl) rfl rfl ?_
              refine g_goto 68 (gd rfl) rfl ?_
              have n68 : TK s57 := by exact tk_fr hF57 rfl p46a
              have n68a : ((Int32.ofInt 1)).toInt ≠ 0 → PCV s s57 1 := by intro _; exact pv_st (j := 2) (k := 1) (pv_tr (j := 1) (k := 1) (pv_tr (j := 1) (k := 0) (p3b c6) (pv_sm (hF40.1 104 rfl) (hF40.2.2.1 102 4 rfl))) (p46b c49)) (inv_F hI46 0 120 rfl rfl).1 p57 (by rw [← (show z57a = s57.2.2.1 102 4 from e57), ← hDe]; have a0 := oa11 ((inv_F hI 0 120 rfl e_102_4)) ((inv_F hI 0 5 rfl e_46_3)) ((inv_F hI 0 1000 rfl e_46_4)) r_46_1 ((inv_F hI 0 1000 rfl e_46_2)) h2 i14x13 i57a i46b i46a i56; have a11 := t_add e56 (in_c 1000100 rfl) i14x13 rfl; have a12 := in_u ((in_c 1000100 rfl)); omega) (fun e => hc_b (by have a0 := oa11 ((inv_F hI 0 120 rfl e_102_4)) ((inv_F hI 0 5 rfl e_46_3)) ((inv_F hI 0 1000 rfl e_46_4)) r_46_1 ((inv_F hI 0 1000 rfl e_46_2)) h2 i14x13 i57a i46b i46a i56; have a11 := t_add e56 (in_c 1000100 rfl) i14x13 rfl; have a12 := in_u ((in_c 1000100 rfl)); omega) (by have a0 := oa11 ((inv_F hI 0 120 rfl e_102_4)) ((inv_F hI 0 5 rfl e_46_3)) ((inv_F hI 0 1000 rfl e_46_4)) r_46_1 ((inv_F hI 0 1000 rfl e_46_2)) h2 i14x13 i57a i46b i46a i56; have a11 := t_add e56 (in_c 1000100 rfl) i14x13 rfl; have a12 := in_u ((in_c 1000100 rfl)); omega) e)
              have n68b : (z46a).toInt ≤ (u_46_1).toInt := by have a0 := oa11 ((inv_F hI 0 120 rfl e_102_4)) ((inv_F hI 0 5 rfl e_46_3)) ((inv_F hI 0 1000 rfl e_46_4)) r_46_1 ((inv_F hI 0 1000 rfl e_46_2)) h2 i14x13 i57a i46b i46a i56; have a11 := t_add e56 (in_c 1000100 rfl) i14x13 rfl; have a12 := in_u ((in_c 1000100 rfl)); omega
              have n68c : (s57.2.2.1 46 2).toInt ≤ (s57.2.2.1 46 1).toInt := by have b0 : z46a = s57.2.2.1 46 2 := fr_F (e46) hF57 rfl; have b1 : u_46_1 = s57.2.2.1 46 1 := fr_F (fr_F (fr_F (fr_F (e_46_1) hF3 rfl) hF40 rfl) hF46 rfl) hF57 rfl; rw [← b0, ← b1]; exact n68b
              have n68d : (z46b).toInt ≤ (z46a).toInt := by have a0 := oa11 ((inv_F hI 0 120 rfl e_102_4)) ((inv_F hI 0 5 rfl e_46_3)) ((inv_F hI 0 1000 rfl e_46_4)) r_46_1 ((inv_F hI 0 1000 rfl e_46_2)) h2 i14x13 i57a i46b i46a i56; have a11 := t_add e56 (in_c 1000100 rfl) i14x13 rfl; have a12 := in_u ((in_c 1000100 rfl)); omega
              have n68e : (s57.2.2.1 46 4).toInt ≤ (s57.2.2.1 46 2).toInt := by have b0 : z46b = s57.2.2.1 46 4 := fr_F (e46a) hF57 rfl; have b1 : z46a = s57.2.2.1 46 2 := fr_F (e46) hF57 rfl; rw [← b0, ← b1]; exact n68d
              have n68f : (z57a).toInt ≤ (z46b).toInt := by have a0 := oa11 ((inv_F hI 0 120 rfl e_102_4)) ((inv_F hI 0 5 rfl e_46_3)) ((inv_F hI 0 1000 rfl e_46_4)) r_46_1 ((inv_F hI 0 1000 rfl e_46_2)) h2 i14x13 i57a i46b i46a i56; have a11 := t_add e56 (in_c 1000100 rfl) i14x13 rfl; have a12 := in_u ((in_c 1000100 rfl)); omega
              have n68g : (s57.2.2.1 102 4).toInt ≤ (s57.2.2.1 46 4).toInt := by have b0 : z57a = s57.2.2.1 102 4 := e57; have b1 : z46b = s57.2.2.1 46 4 := fr_F (e46a) hF57 rfl; rw [← b0, ← b1]; exact n68f
              have n68h : (u_46_4).toInt - (u_102_4).toInt ≤ (z46b).toInt - (z57a).toInt := by have a0 := oa11 ((inv_F hI 0 120 rfl e_102_4)) ((inv_F hI 0 5 rfl e_46_3)) ((inv_F hI 0 1000 rfl e_46_4)) r_46_1 ((inv_F hI 0 1000 rfl e_46_2)) h2 i14x13 i57a i46b i46a i56; have a11 := t_add e56 (in_c 1000100 rfl) i14x13 rfl; have a12 := in_u ((in_c 1000100 rfl)); omega
              have n68i : (s.2.2.1 46 4).toInt - (s.2.2.1 102 4).toInt ≤ (s57.2.2.1 46 4).toInt - (s57.2.2.1 102 4).toInt := by have b0 : z46b = s57.2.2.1 46 4 := fr_F (e46a) hF57 rfl; have b1 : z57a = s57.2.2.1 102 4 := e57; first | (rw [← b0, ← b1, ← e_46_4, ← e_102_4]; exact n68h) | (rw [← b0, ← b1]; exact n68h)
              exact g_ireturn (gd rfl) rfl (nb01 (in_w 0 1 (in_c 1 rfl) rfl)) (hP _ _ ⟨s57, hI57, (fr_tr rfl (fr_tr rfl (fr_tr rfl (fr_tr rfl fr_rf hF3) hF40) hF46) hF57), n68c, n68e, n68g, n68i, (Int32.ofInt 1), rfl, rfl, in_w 0 1 (in_c 1 rfl) rfl, n68, n68a⟩)
        · skip
          exact zn_eq c17 (in_c 1 rfl) rfl
  · skip
    have i6 := z_eq 0 0 c6 i3 rfl
    refine g_iconst 0 10 (gd rfl) rfl rfl ?_
    have n10 : TK s3 := by exact p3a
    have n10a : ((Int32.ofInt 0)).toInt ≠ 0 → PCV s s3 1 := by first | (intro _; exact p3b c6) | (intro h; exact absurd rfl h)
    have n10b : (z3a).toInt ≤ (u_46_1).toInt := by have a0 := oa9 ((inv_F hI 0 120 rfl e_102_4)) ((inv_F hI 0 5 rfl e_46_3)) ((inv_F hI 0 1000 rfl e_46_4)) r_46_1 ((inv_F hI 0 1000 rfl e_46_2)) h2 i3c i3b i3a; omega
    have n10c : (s3.2.2.1 46 2).toInt ≤ (s3.2.2.1 46 1).toInt := by have b0 : z3a = s3.2.2.1 46 2 := e3; have b1 : u_46_1 = s3.2.2.1 46 1 := fr_F (e_46_1) hF3 rfl; rw [← b0, ← b1]; exact n10b
    have n10d : (z3b).toInt ≤ (z3a).toInt := by have a0 := oa9 ((inv_F hI 0 120 rfl e_102_4)) ((inv_F hI 0 5 rfl e_46_3)) ((inv_F hI 0 1000 rfl e_46_4)) r_46_1 ((inv_F hI 0 1000 rfl e_46_2)) h2 i3c i3b i3a; omega
    have n10e : (s3.2.2.1 46 4).toInt ≤ (s3.2.2.1 46 2).toInt := by have b0 : z3b = s3.2.2.1 46 4 := e3a; have b1 : z3a = s3.2.2.1 46 2 := e3; rw [← b0, ← b1]; exact n10d
    have n10f : (z3c).toInt ≤ (z3b).toInt := by have a0 := oa9 ((inv_F hI 0 120 rfl e_102_4)) ((inv_F hI 0 5 rfl e_46_3)) ((inv_F hI 0 1000 rfl e_46_4)) r_46_1 ((inv_F hI 0 1000 rfl e_46_2)) h2 i3c i3b i3a; omega
    have n10g : (s3.2.2.1 102 4).toInt ≤ (s3.2.2.1 46 4).toInt := by have b0 : z3c = s3.2.2.1 102 4 := e3b; have b1 : z3b = s3.2.2.1 46 4 := e3a; rw [← b0, ← b1]; exact n10f
    have n10h : (u_46_4).toInt - (u_102_4).toInt ≤ (z3b).toInt - (z3c).toInt := by have a0 := oa9 ((inv_F hI 0 120 rfl e_102_4)) ((inv_F hI 0 5 rfl e_46_3)) ((inv_F hI 0 1000 rfl e_46_4)) r_46_1 ((inv_F hI 0 1000 rfl e_46_2)) h2 i3c i3b i3a; omega
    have n10i : (s.2.2.1 46 4).toInt - (s.2.2.1 102 4).toInt ≤ (s3.2.2.1 46 4).toInt - (s3.2.2.1 102 4).toInt := by have b0 : z3b = s3.2.2.1 46 4 := e3a; have b1 : z3c = s3.2.2.1 102 4 := e3b; first | (rw [← b0, ← b1, ← e_46_4, ← e_102_4]; exact n10h) | (rw [← b0, ← b1]; exact n10h)
    exact g_ireturn (gd rfl) rfl (nb01 (in_w 0 1 (in_c 0 rfl) rfl)) (hP _ _ ⟨s3, hI3, (fr_tr rfl fr_rf hF3), n10c, n10e, n10g, n10i, (Int32.ofInt 0), rfl, rfl, in_w 0 1 (in_c 0 rfl) rfl, n10, n10a⟩)
theorem k_61_102_46_r {Z : AmZ} {A : Nat → Nat} {ex : va_W} (kk : Nat) : ∀ {s : GS} {d : Nat} {X : AmX} {x2 : Int32} {u_46_2 : Int32} {u_46_1 : Int32} {u_46_4 : Int32} {u_46_3 : Int32} {u_46_5 : Int32} {u_102_4 : Int32}, 60 + kk * 20 ≤ d → Inv s → (In x2 0 10) → (u_46_2 = s.2.2.1 46 2) → (u_46_1 = s.2.2.1 46 1) → (u_46_4 = s.2.2.1 46 4) → (u_46_3 = s.2.2.1 46 3) → (u_46_5 = s.2.2.1 46 5) → (u_102_4 = s.2.2.1 102 4) → (In u_46_1 0 120) → ((u_46_2).toInt ≤ (u_46_1).toInt) → ((u_46_4).toInt ≤ (u_46_2).toInt) → ((u_102_4).toInt ≤ (u_46_4).toInt) → (TK s) → 10 - (x2).toInt < ((kk : Nat) : Int) → GC Z d 61 [.ref (A 102), .ref (A 46), .int x2] (WW Z A s ++ ex) 0 0 (fun v u => ∃ t : GS, Inv t ∧ Fr fm_61_102_46 s t ∧ ((t.2.2.1 46 2).toInt ≤ (t.2.2.1 46 1).toInt) ∧ ((t.2.2.1 46 4).toInt ≤ (t.2.2.1 46 2).toInt) ∧ ((t.2.2.1 102 4).toInt ≤ (t.2.2.1 46 4).toInt) ∧ ((s.2.2.1 46 4).toInt - (s.2.2.1 102 4).toInt ≤ (t.2.2.1 46 4).toInt - (t.2.2.1 102 4).toInt) ∧ ∃ z : Int32, v = some (.int z) ∧ u = WW Z A t ++ ex ∧ In z 0 1 ∧ (TK t) ∧ ((z).toInt ≠ 0 → PCV s t 1)) X := by
  induction kk with
  | zero => intro s d X x2 u_46_2 u_46_1 u_46_4 u_46_3 u_46_5 u_102_4 hd hI h2 e_46_2 e_46_1 e_46_4 e_46_3 e_46_5 e_102_4 r_46_1 p_0 p_1 p_2 q_0 hm; exact m_no hm h2 rfl
  | succ kk ih =>
    have ihl : ∀ {s : GS} {d : Nat} {X : AmX} {x2 : Int32} {u_46_2 : Int32} {u_46_1 : Int32} {u_46_4 : Int32} {u_46_3 : Int32} {u_46_5 : Int32} {u_102_4 : Int32}, 75 + kk * 20 ≤ d → Inv s → (In x2 0 10) → (u_46_2 = s.2.2.1 46 2) → (u_46_1 = s.2.2.1 46 1) → (u_46_4 = s.2.2.1 46 4) → (u_46_3 = s.2.2.1 46 3) → (u_46_5 = s.2.2.1 46 5) → (u_102_4 = s.2.2.1 102 4) → (In u_46_1 0 120) → ((u_46_2).toInt ≤ (u_46_1).toInt) → ((u_46_4).toInt ≤ (u_46_2).toInt) → ((u_102_4).toInt ≤ (u_46_4).toInt) → (TK s) → 10 - (x2).toInt < ((kk : Nat) : Int) → GC Z d 58 [.ref (A 102), .ref (A 46), .int x2] (WW Z A s ++ ex) 0 0 (fun v u => ∃ t : GS, Inv t ∧ Fr fm_58_102_46 s t ∧ ((t.2.2.1 46 2).toInt ≤ (t.2.2.1 46 1).toInt) ∧ ((t.2.2.1 46 4).toInt ≤ (t.2.2.1 46 2).toInt) ∧ ((t.2.2.1 102 4).toInt ≤ (t.2.2.1 46 4).toInt) ∧ ((s.2.2.1 46 4).toInt - (s.2.2.1 102 4).toInt ≤ (t.2.2.1 46 4).toInt - (t.2.2.1 102 4).toInt) ∧ ∃ z : Int32, v = some (.int z) ∧ u = WW Z A t ++ ex ∧ In z 0 1 ∧ (TK t) ∧ ((z).toInt ≠ 0 → PCV s t 1)) X := (k_58_102_46_r kk (k_59_102_46_r kk (k_60_102_46_r kk ih)))
    intro s d X x2 u_46_2 u_46_1 u_46_4 u_46_3 u_46_5 u_102_4 hd hI h2 e_46_2 e_46_1 e_46_4 e_46_3 e_46_5 e_102_4 r_46_1 p_0 p_1 p_2 q_0 hm
    intro post xp hP hX
    refine g_enter2 (k := 61) (N := 900) (by first | exact dq1 hd rfl | exact dq0 hd rfl | exact dq2 hd rfl | exact dq3 hd rfl | omega) rfl (Nat.le_of_ble_eq_true rfl) ?_
    refine g_aload_n 1 (gd rfl) rfl rfl ?_
    refine g_getI 4 (gd rfl) rfl rfl rfl (fun z1 e1 => ?_)
    have q1 : u_46_3 = z1 := (e_46_3).trans e1.symm
    subst q1
    refine g_iconst 2 5 (gd rfl) rfl rfl ?_
    refine g_cmp_eq 8 16 (gd rfl) rfl rfl (fun c5 => ?_) (fun c5 => ?_)
    · skip
      have i5 := r_eq1 2 2 c5 (inv_F hI 0 5 rfl e_46_3) (in_c 2 rfl) rfl
      refine g_aload_n 17 (gd rfl) rfl rfl ?_
      refine g_aload_n 18 (gd rfl) rfl rfl ?_
      have n18 : (u_46_2).toInt ≤ (u_46_1).toInt := by have a0 := oa6 ((inv_F hI 0 120 rfl e_102_4)) i5 ((inv_F hI 0 1000 rfl e_46_4)) r_46_1 ((inv_F hI 0 1000 rfl e_46_2)) h2; omega
      have n18a : (u_46_4).toInt ≤ (u_46_2).toInt := by have a0 := oa6 ((inv_F hI 0 120 rfl e_102_4)) i5 ((inv_F hI 0 1000 rfl e_46_4)) r_46_1 ((inv_F hI 0 1000 rfl e_46_2)) h2; omega
      have n18b : (u_102_4).toInt ≤ (u_46_4).toInt := by have a0 := oa6 ((inv_F hI 0 120 rfl e_102_4)) i5 ((inv_F hI 0 1000 rfl e_46_4)) r_46_1 ((inv_F hI 0 1000 rfl e_46_2)) h2; omega
      have n18c : 1 ≤ (u_46_3).toInt := by have a0 := oa6 ((inv_F hI 0 120 rfl e_102_4)) i5 ((inv_F hI 0 1000 rfl e_46_4)) r_46_1 ((inv_F hI 0 1000 rfl e_46_2)) h2; omega
      have n18d : (u_46_3).toInt ≤ 2 := by have a0 := oa6 ((inv_F hI 0 120 rfl e_102_4)) i5 ((inv_F hI 0 1000 rfl e_46_4)) r_46_1 ((inv_F hI 0 1000 rfl e_46_2)) h2; omega
      have p18 : TK s := by exact q_0
      refine g_callv (X := _) (As := [.ref (A 46)]) (r := []) (b := A 102) (q := 102) 21 (gd rfl) rfl rfl rfl rfl rfl (ww_o rfl) (Nat.le_of_ble_eq_true rfl) (Nat.zero_le _) (Nat.zero_le _) (k_62_102_46 (by first | exact dq1 hd rfl | exact dq0 hd rfl | exact dq2 hd rfl | exact dq3 hd rfl | omega) hI e_46_2 e_46_1 e_46_4 e_46_3 e_46_5 e_102_4 (in_w 0 120 r_46_1 rfl) n18 n18a n18b n18c n18d p18) (fun e u h => h) (fun v u h => ?_)
      obtain ⟨s18, hI18, hF18, n18e, n18f, n18g, n18h, z18, rfl, rfl, i18, p18a, p18b⟩ := h
      obtain ⟨z18a, e18⟩ : ∃ w, w = s18.2.2.1 46 2 := ⟨_, rfl⟩
      have i18a := inv_F hI18 0 1000 rfl e18
      obtain ⟨z18b, e18a⟩ : ∃ w, w = s18.2.2.1 46 4 := ⟨_, rfl⟩
      have i18b := inv_F hI18 0 1000 rfl e18a
      obtain ⟨z18c, e18b⟩ : ∃ w, w = s18.2.2.1 102 4 := ⟨_, rfl⟩
      have i18c := inv_F hI18 0 120 rfl e18b
      rw [← (show z18a = s18.2.2.1 46 2 from e18)] at n18e
      rw [← (show u_46_1 = s18.2.2.1 46 1 from fr_F (e_46_1) hF18 rfl)] at n18e
      rw [← (show z18a = s18.2.2.1 46 2 from e18)] at n18f
      rw [← (show z18b = s18.2.2.1 46 4 from e18a)] at n18f
      rw [← (show z18b = s18.2.2.1 46 4 from e18a)] at n18g
      rw [← (show z18c = s18.2.2.1 102 4 from e18b)] at n18g
      rw [← (show u_46_4 = s.2.2.1 46 4 from e_46_4)] at n18h
      rw [← (show u_102_4 = s.2.2.1 102 4 from e_102_4)] at n18h
      rw [← (show z18b = s18.2.2.1 46 4 from e18a)] at n18h
      rw [← (show z18c = s18.2.2.1 102 4 from e18b)] at n18h
      show GG _ _ _ _ _ _ _ _ [.int z18] _ _ _
      have n21 : TK s18 := by exact p18a
      have n21a : (z18).toInt ≠ 0 → PCV s s18 1 := by exact p18b
      have n21b : (z18a).toInt ≤ (u_46_1).toInt := by have a0 := oa9 ((inv_F hI 0 120 rfl e_102_4)) i5 ((inv_F hI 0 1000 rfl e_46_4)) r_46_1 ((inv_F hI 0 1000 rfl e_46_2)) h2 i18c i18b i18a; omega
      have n21c : (s18.2.2.1 46 2).toInt ≤ (s18.2.2.1 46 1).toInt := by have b0 : z18a = s18.2.2.1 46 2 := e18; have b1 : u_46_1 = s18.2.2.1 46 1 := fr_F (e_46_1) hF18 rfl; rw [← b0, ← b1]; exact n21b
      have n21d : (z18b).toInt ≤ (z18a).toInt := by have a0 := oa9 ((inv_F hI 0 120 rfl e_102_4)) i5 ((inv_F hI 0 1000 rfl e_46_4)) r_46_1 ((inv_F hI 0 1000 rfl e_46_2)) h2 i18c i18b i18a; omega
      have n21e : (s18.2.2.1 46 4).toInt ≤ (s18.2.2.1 46 2).toInt := by have b0 : z18b = s18.2.2.1 46 4 := e18a; have b1 : z18a = s18.2.2.1 46 2 := e18; rw [← b0, ← b1]; exact n21d
      have n21f : (z18c).toInt ≤ (z18b).toInt := by have a0 := oa9 ((inv_F hI 0 120 rfl e_102_4)) i5 ((inv_F hI 0 1000 rfl e_46_4)) r_46_1 ((inv_F hI 0 1000 rfl e_46_2)) h2 i18c i18b i18a; omega
      have n21g : (s18.2.2.1 102 4).toInt ≤ (s18.2.2.1 46 4).toInt := by have b0 : z18c = s18.2.2.1 102 4 := e18b; have b1 : z18b = s18.2.2.1 46 4 := e18a; rw [← b0, ← b1]; exact n21f
      have n21h : (u_46_4).toInt - (u_102_4).toInt ≤ (z18b).toInt - (z18c).toInt := by have a0 := oa9 ((inv_F hI 0 120 rfl e_102_4)) i5 ((inv_F hI 0 1000 rfl e_46_4)) r_46_1 ((inv_F hI 0 1000 rfl e_46_2)) h2 i18c i18b i18a; omega
      have n21i : (s.2.2.1 46 4).toInt - (s.2.2.1 102 4).toInt ≤ (s18.2.2.1 46 4).toInt - (s18.2.2.1 102 4).toInt := by have b0 : z18b = s18.2.2.1 46 4 := e18a; have b1 : z18c = s18.2.2.1 102 4 := e18b; first | (rw [← b0, ← b1, ← e_46_4, ← e_102_4]; exact n21h) | (rw [← b0, ← b1]; exact n21h)
      exact g_ireturn (gd rfl) rfl (nb01 (in_w 0 1 i18 rfl)) (hP _ _ ⟨s18, hI18, (fr_tr rfl fr_rf hF18), n21c, n21e, n21g, n21i, z18, rfl, rfl, in_w 0 1 i18 rfl, n21, n21a⟩)
    · skip
      refine g_aload_n 9 (gd rfl) rfl rfl ?_
      refine g_getI 12 (gd rfl) rfl rfl rfl (fun z9 e9 => ?_)
      have q9 : u_46_3 = z9 := (e_46_3).trans e9.symm
      subst q9
      refine g_iconst 1 13 (gd rfl) rfl rfl ?_
      refine g_cmp_ne 16 22 (gd rfl) rfl rfl (fun c13 => ?_) (fun c13 => ?_)
      · skip
        refine g_aload_n 23 (gd rfl) rfl rfl ?_
        refine g_bipush 45 25 (gd rfl) rfl rfl ?_
        refine g_callv (X := _) (As := [.int (Int32.ofInt 45)]) (r := []) (b := A 46) (q := 46) 28 (gd rfl) rfl rfl rfl rfl rfl (ww_o rfl) (Nat.le_of_ble_eq_true rfl) (mc := 0) (ms := 0) (Nat.zero_le _) (Nat.zero_le _) (P := fun v u => _) ?_ (fun e u h => h) (fun v u h => h)
        intro po25 xx25 hp25 hx25
        refine g_enter2 (k := 170) (N := 300) (by first | exact dq1 hd rfl | exact dq0 hd rfl | exact dq2 hd rfl | exact dq3 hd rfl | omega) rfl (Nat.le_of_ble_eq_true rfl) ?_
        refine g_aload_n 1 (gd rfl) rfl rfl ?_
        refine g_getI 4 (gd rfl) rfl rfl rfl (fun z25x1 e25x1 => ?_)
        have q25x1 : u_46_3 = z25x1 := (e_46_3).trans e25x1.symm
        subst q25x1
        refine g_iconst 3 5 (gd rfl) rfl rfl ?_
        refine g_cmp_ne 8 20 (gd rfl) rfl rfl (fun c25x5 => ?_) (fun c25x5 => ?_)
        · skip
          refine g_iconst 0 21 (gd rfl) rfl rfl ?_
          refine g_ireturn (gd rfl) rfl (nb01 (in_w 0 1 (in_c 0 rfl) rfl)) (hp25 _ _ ?_)
          show GG _ _ _ _ _ _ _ _ [.int (Int32.ofInt 0)] _ _ _
          refine g_istore_n 29 (gd rfl) rfl (Nat.le_of_ble_eq_true rfl) ?_
          refine g_iload_n 30 (gd rfl) rfl rfl ?_
          refine g_if_ne 33 49 (gd rfl) rfl rfl (fun c30 => ?_) (fun c30 => ?_)
          · skip
            exact zn_ne c30 (in_c 0 rfl) rfl
          · skip
            refine g_aload_n 34 (gd rfl) rfl rfl ?_
            refine g_bipush 40 36 (gd rfl) rfl rfl ?_
            refine g_callv (X := _) (As := [.int (Int32.ofInt 40)]) (r := []) (b := A 46) (q := 46) 39 (gd rfl) rfl rfl rfl rfl rfl (ww_o rfl) (Nat.le_of_ble_eq_true rfl) (mc := 0) (ms := 0) (Nat.zero_le _) (Nat.zero_le _) (P := fun v u => _) ?_ (fun e u h => h) (fun v u h => h)
            intro po36 xx36 hp36 hx36
            refine g_enter2 (k := 170) (N := 300) (by first | exact dq1 hd rfl | exact dq0 hd rfl | exact dq2 hd rfl | exact dq3 hd rfl | omega) rfl (Nat.le_of_ble_eq_true rfl) ?_
            refine g_aload_n 1 (gd rfl) rfl rfl ?_
            refine g_getI 4 (gd rfl) rfl rfl rfl (fun z36x1 e36x1 => ?_)
            have q36x1 : u_46_3 = z36x1 := (e_46_3).trans e36x1.symm
            subst q36x1
            refine g_iconst 3 5 (gd rfl) rfl rfl ?_
            refine g_cmp_ne 8 20 (gd rfl) rfl rfl (fun c36x5 => ?_) (fun c36x5 => ?_)
            · skip
              refine g_iconst 0 21 (gd rfl) rfl rfl ?_
              refine g_ireturn (gd rfl) rfl (nb01 (in_w 0 1 (in_c 0 rfl) rfl)) (hp36 _ _ ?_)
              show GG _ _ _ _ _ _ _ _ [.int (Int32.ofInt 0)] _ _ _
              refine g_if_ne 42 49 (gd rfl) rfl rfl (fun c39 => ?_) (fun c39 => ?_)
              · skip
                exact zn_ne c39 (in_c 0 rfl) rfl
              · skip
                refine g_aload_n 43 (gd rfl) rfl rfl ?_
                refine g_iconst 2 44 (gd rfl) rfl rfl ?_
                refine g_iconst 4 45 (gd rfl) rfl rfl ?_
                refine g_callv (X := _) (As := [.int (Int32.ofInt 2), .int (Int32.ofInt 4)]) (r := []) (b := A 46) (q := 46) 48 (gd rfl) rfl rfl rfl rfl rfl (ww_o rfl) (Nat.le_of_ble_eq_true rfl) (Nat.zero_le _) (Nat.zero_le _) (k_169_46 (by first | exact dq1 hd rfl | exact dq0 hd rfl | exact dq2 hd rfl | exact dq3 hd rfl | omega) hI (in_w 2 2 (in_c 2 rfl) rfl) (in_w 3 4 (in_c 4 rfl) rfl)) (fun e u h => h) (fun v u h => ?_)
                obtain ⟨s45, hI45, hF45, z45, rfl, rfl, i45⟩ := h
                show GG _ _ _ _ _ _ _ _ [.int z45] _ _ _
                have n48 : TK s45 := by exact tk_fr hF45 rfl q_0
                have n48a : (z45).toInt ≠ 0 → PCV s s45 1 := by intro h; unfold In at i45; omega
                have n48b : (u_46_2).toInt ≤ (u_46_1).toInt := by have a0 := oa7 ((inv_F hI 0 120 rfl e_102_4)) ((inv_F hI 0 5 rfl e_46_3)) ((inv_F hI 0 1000 rfl e_46_4)) r_46_1 ((inv_F hI 0 1000 rfl e_46_2)) h2 ((in_c 0 rfl)); omega
                have n48c : (s45.2.2.1 46 2).toInt ≤ (s45.2.2.1 46 1).toInt := by have b0 : u_46_2 = s45.2.2.1 46 2 := fr_F (e_46_2) hF45 rfl; have b1 : u_46_1 = s45.2.2.1 46 1 := fr_F (e_46_1) hF45 rfl; rw [← b0, ← b1]; exact n48b
                have n48d : (u_46_4).toInt ≤ (u_46_2).toInt := by have a0 := oa7 ((inv_F hI 0 120 rfl e_102_4)) ((inv_F hI 0 5 rfl e_46_3)) ((inv_F hI 0 1000 rfl e_46_4)) r_46_1 ((inv_F hI 0 1000 rfl e_46_2)) h2 ((in_c 0 rfl)); omega
                have n48e : (s45.2.2.1 46 4).toInt ≤ (s45.2.2.1 46 2).toInt := by have b0 : u_46_4 = s45.2.2.1 46 4 := fr_F (e_46_4) hF45 rfl; have b1 : u_46_2 = s45.2.2.1 46 2 := fr_F (e_46_2) hF45 rfl; rw [← b0, ← b1]; exact n48d
                have n48f : (u_102_4).toInt ≤ (u_46_4).toInt := by have a0 := oa7 ((inv_F hI 0 120 rfl e_102_4)) ((inv_F hI 0 5 rfl e_46_3)) ((inv_F hI 0 1000 rfl e_46_4)) r_46_1 ((inv_F hI 0 1000 rfl e_46_2)) h2 ((in_c 0 rfl)); omega
                have n48g : (s45.2.2.1 102 4).toInt ≤ (s45.2.2.1 46 4).toInt := by have b0 : u_102_4 = s45.2.2.1 102 4 := fr_F (e_102_4) hF45 rfl; have b1 : u_46_4 = s45.2.2.1 46 4 := fr_F (e_46_4) hF45 rfl; rw [← b0, ← b1]; exact n48f
                have n48h : (u_46_4).toInt - (u_102_4).toInt ≤ (u_46_4).toInt - (u_102_4).toInt := by exact Int.le_refl _
                have n48i : (s.2.2.1 46 4).toInt - (s.2.2.1 102 4).toInt ≤ (s45.2.2.1 46 4).toInt - (s45.2.2.1 102 4).toInt := by have b0 : u_46_4 = s45.2.2.1 46 4 := fr_F (e_46_4) hF45 rfl; have b1 : u_102_4 = s45.2.2.1 102 4 := fr_F (e_102_4) hF45 rfl; first | (rw [← b0, ← b1, ← e_46_4, ← e_102_4]; exact n48h) | (rw [← b0, ← b1]; exact n48h)
                exact g_ireturn (gd rfl) rfl (nb01 (in_w 0 1 i45 rfl)) (hP _ _ ⟨s45, hI45, (fr_tr rfl fr_rf hF45), n48c, n48e, n48g, n48i, z45, rfl, rfl, in_w 0 1 i45 rfl, n48, n48a⟩)
            · skip
              exact absurd c36x5 c25x5
        · skip
          have i25x5 := r_eq1 3 3 c25x5 (inv_F hI 0 5 rfl e_46_3) (in_c 3 rfl) rfl
          refine g_aload_n 9 (gd rfl) rfl rfl ?_
          refine g_getI 12 (gd rfl) rfl rfl rfl (fun z25x9 e25x9 => ?_)
          have q25x9 : u_46_5 = z25x9 := (e_46_5).trans e25x9.symm
          subst q25x9
          refine g_iload_n 13 (gd rfl) rfl rfl ?_
          refine g_cmp_ne 16 20 (gd rfl) rfl rfl (fun c25x13 => ?_) (fun c25x13 => ?_)
          · skip
            refine g_iconst 0 21 (gd rfl) rfl rfl ?_
            refine g_ireturn (gd rfl) rfl (nb01 (in_w 0 1 (in_c 0 rfl) rfl)) (hp25 _ _ ?_)
            show GG _ _ _ _ _ _ _ _ [.int (Int32.ofInt 0)] _ _ _
            refine g_istore_n 29 (gd rfl) rfl (Nat.le_of_ble_eq_true rfl) ?_
            refine g_iload_n 30 (gd rfl) rfl rfl ?_
            refine g_if_ne 33 49 (gd rfl) rfl rfl (fun c30 => ?_) (fun c30 => ?_)
            · skip
              exact zn_ne c30 (in_c 0 rfl) rfl
            · skip
              refine g_aload_n 34 (gd rfl) rfl rfl ?_
              refine g_bipush 40 36 (gd rfl) rfl rfl ?_
              refine g_callv (X := _) (As := [.int (Int32.ofInt 40)]) (r := []) (b := A 46) (q := 46) 39 (gd rfl) rfl rfl rfl rfl rfl (ww_o rfl) (Nat.le_of_ble_eq_true rfl) (mc := 0) (ms := 0) (Nat.zero_le _) (Nat.zero_le _) (P := fun v u => _) ?_ (fun e u h => h) (fun v u h => h)
              intro po36 xx36 hp36 hx36
              refine g_enter2 (k := 170) (N := 300) (by first | exact dq1 hd rfl | exact dq0 hd rfl | exact dq2 hd rfl | exact dq3 hd rfl | omega) rfl (Nat.le_of_ble_eq_true rfl) ?_
              refine g_aload_n 1 (gd rfl) rfl rfl ?_
              refine g_getI 4 (gd rfl) rfl rfl rfl (fun z36x1 e36x1 => ?_)
              have q36x1 : u_46_3 = z36x1 := (e_46_3).trans e36x1.symm
              subst q36x1
              refine g_iconst 3 5 (gd rfl) rfl rfl ?_
              refine g_cmp_ne 8 20 (gd rfl) rfl rfl (fun c36x5 => ?_) (fun c36x5 => ?_)
              · skip
                exact n_ne c36x5 i25x5 (in_c 3 rfl) rfl
              · skip
                refine g_aload_n 9 (gd rfl) rfl rfl ?_
                refine g_getI 12 (gd rfl) rfl rfl rfl (fun z36x9 e36x9 => ?_)
                have q36x9 : u_46_5 = z36x9 := (e_46_5).trans e36x9.symm
                subst q36x9
                refine g_iload_n 13 (gd rfl) rfl rfl ?_
                refine g_cmp_ne 16 20 (gd rfl) rfl rfl (fun c36x13 => ?_) (fun c36x13 => ?_)
                · skip
                  refine g_iconst 0 21 (gd rfl) rfl rfl ?_
                  refine g_ireturn (gd rfl) rfl (nb01 (in_w 0 1 (in_c 0 rfl) rfl)) (hp36 _ _ ?_)
                  show GG _ _ _ _ _ _ _ _ [.int (Int32.ofInt 0)] _ _ _
                  refine g_if_ne 42 49 (gd rfl) rfl rfl (fun c39 => ?_) (fun c39 => ?_)
                  · skip
                    exact zn_ne c39 (in_c 0 rfl) rfl
                  · skip
                    refine g_aload_n 43 (gd rfl) rfl rfl ?_
                    refine g_iconst 2 44 (gd rfl) rfl rfl ?_
                    refine g_iconst 4 45 (gd rfl) rfl rfl ?_
                    refine g_callv (X := _) (As := [.int (Int32.ofInt 2), .int (Int32.ofInt 4)]) (r := []) (b := A 46) (q := 46) 48 (gd rfl) rfl rfl rfl rfl rfl (ww_o rfl) (Nat.le_of_ble_eq_true rfl) (Nat.zero_le _) (Nat.zero_le _) (k_169_46 (by first | exact dq1 hd rfl | exact dq0 hd rfl | exact dq2 hd rfl | exact dq3 hd rfl | omega) hI (in_w 2 2 (in_c 2 rfl) rfl) (in_w 3 4 (in_c 4 rfl) rfl)) (fun e u h => h) (fun v u h => ?_)
                    obtain ⟨s45, hI45, hF45, z45, rfl, rfl, i45⟩ := h
                    show GG _ _ _ _ _ _ _ _ [.int z45] _ _ _
                    have n48 : TK s45 := by exact tk_fr hF45 rfl q_0
                    have n48a : (z45).toInt ≠ 0 → PCV s s45 1 := by intro h; unfold In at i45; omega
                    have n48b : (u_46_2).toInt ≤ (u_46_1).toInt := by have a0 := oa7 ((inv_F hI 0 120 rfl e_102_4)) i25x5 ((inv_F hI 0 1000 rfl e_46_4)) r_46_1 ((inv_F hI 0 1000 rfl e_46_2)) h2 ((in_c 0 rfl)); omega
                    have n48c : (s45.2.2.1 46 2).toInt ≤ (s45.2.2.1 46 1).toInt := by have b0 : u_46_2 = s45.2.2.1 46 2 := fr_F (e_46_2) hF45 rfl; have b1 : u_46_1 = s45.2.2.1 46 1 := fr_F (e_46_1) hF45 rfl; rw [← b0, ← b1]; exact n48b
                    have n48d : (u_46_4).toInt ≤ (u_46_2).toInt := by have a0 := oa7 ((inv_F hI 0 120 rfl e_102_4)) i25x5 ((inv_F hI 0 1000 rfl e_46_4)) r_46_1 ((inv_F hI 0 1000 rfl e_46_2)) h2 ((in_c 0 rfl)); omega
                    have n48e : (s45.2.2.1 46 4).toInt ≤ (s45.2.2.1 46 2).toInt := by have b0 : u_46_4 = s45.2.2.1 46 4 := fr_F (e_46_4) hF45 rfl; have b1 : u_46_2 = s45.2.2.1 46 2 := fr_F (e_46_2) hF45 rfl; rw [← b0, ← b1]; exact n48d
                    have n48f : (u_102_4).toInt ≤ (u_46_4).toInt := by have a0 := oa7 ((inv_F hI 0 120 rfl e_102_4)) i25x5 ((inv_F hI 0 1000 rfl e_46_4)) r_46_1 ((inv_F hI 0 1000 rfl e_46_2)) h2 ((in_c 0 rfl)); omega
                    have n48g : (s45.2.2.1 102 4).toInt ≤ (s45.2.2.1 46 4).toInt := by have b0 : u_102_4 = s45.2.2.1 102 4 := fr_F (e_102_4) hF45 rfl; have b1 : u_46_4 = s45.2.2.1 46 4 := fr_F (e_46_4) hF45 rfl; rw [← b0, ← b1]; exact n48f
                    have n48h : (u_46_4).toInt - (u_102_4).toInt ≤ (u_46_4).toInt - (u_102_4).toInt := by exact Int.le_refl _
                    have n48i : (s.2.2.1 46 4).toInt - (s.2.2.1 102 4).toInt ≤ (s45.2.2.1 46 4).toInt - (s45.2.2.1 102 4).toInt := by have b0 : u_46_4 = s45.2.2.1 46 4 := fr_F (e_46_4) hF45 rfl; have b1 : u_102_4 = s45.2.2.1 102 4 := fr_F (e_102_4) hF45 rfl; first | (rw [← b0, ← b1, ← e_46_4, ← e_102_4]; exact n48h) | (rw [← b0, ← b1]; exact n48h)
                    exact g_ireturn (gd rfl) rfl (nb01 (in_w 0 1 i45 rfl)) (hP _ _ ⟨s45, hI45, (fr_tr rfl fr_rf hF45), n48c, n48e, n48g, n48i, z45, rfl, rfl, in_w 0 1 i45 rfl, n48, n48a⟩)
                · skip
                  have i36x13 := r_eq1 40 40 c36x13 (inv_F hI (-2147483648) 2147483647 rfl e_46_5) (in_c 40 rfl) rfl
                  refine g_iconst 1 17 (gd rfl) rfl rfl ?_
                  refine g_goto 21 (gd rfl) rfl ?_
                  refine g_ireturn (gd rfl) rfl (nb01 (in_w 0 1 (in_c 1 rfl) rfl)) (hp36 _ _ ?_)
                  show GG _ _ _ _ _ _ _ _ [.int (Int32.ofInt 1)] _ _ _
                  refine g_if_ne 42 49 (gd rfl) rfl rfl (fun c39 => ?_) (fun c39 => ?_)
                  · skip
                    refine g_iload_n 50 (gd rfl) rfl rfl ?_
                    refine g_bipush 10 52 (gd rfl) rfl rfl ?_
                    refine g_cmp_lt 55 65 (gd rfl) rfl rfl (fun c52 => ?_) (fun c52 => ?_)
                    · skip
                      have i52 := r_lt1 0 9 c52 h2 (in_c 10 rfl) rfl
                      refine g_aload_n 66 (gd rfl) rfl rfl ?_
                      refine g_bipush 6 68 (gd rfl) rfl rfl ?_
                      refine g_iconst 0 69 (gd rfl) rfl rfl ?_
                      have hk := tka_1 q_0 (show u_46_3 = s.2.2.1 46 3 from e_46_3) (show u_46_4 = s.2.2.1 46 4 from e_46_4) (show u_46_2 = s.2.2.1 46 2 from e_46_2) (by have a0 := oa8 ((inv_F hI 0 120 rfl e_102_4)) i36x13 i25x5 ((inv_F hI 0 1000 rfl e_46_4)) r_46_1 ((inv_F hI 0 1000 rfl e_46_2)) i52 ((in_c 0 rfl)); omega)
                      have n69 : (u_46_2).toInt ≤ (u_46_1).toInt := by have a0 := oa8 ((inv_F hI 0 120 rfl e_102_4)) i36x13 i25x5 ((inv_F hI 0 1000 rfl e_46_4)) r_46_1 ((inv_F hI 0 1000 rfl e_46_2)) i52 ((in_c 0 rfl)); omega
                      refine g_callv (X := _) (As := [.int (Int32.ofInt 6), .int (Int32.ofInt 0)]) (r := []) (b := A 46) (q := 46) 72 (gd rfl) rfl rfl rfl rfl rfl (ww_o rfl) (Nat.le_of_ble_eq_true rfl) (Nat.zero_le _) (Nat.zero_le _) (k_171_46 (by first | exact dq1 hd rfl | exact dq0 hd rfl | exact dq2 hd rfl | exact dq3 hd rfl | omega) hI (in_w 6 7 (in_c 6 rfl) rfl) (in_w 0 1 (in_c 0 rfl) rfl) e_46_2 e_46_1 n69) (fun e u h => h) (fun v u h => ?_)
                      obtain ⟨s69, hI69, hF69, n69a, n69b, n69c, rfl, rfl, p69, p69a⟩ := h
                      obtain ⟨z69a, e69⟩ : ∃ w, w = s69.2.2.1 46 2 := ⟨_, rfl⟩
                      have i69a := inv_F hI69 0 1000 rfl e69
                      obtain ⟨z69b, e69a⟩ : ∃ w, w = s69.2.2.1 46 4 := ⟨_, rfl⟩
                      have i69b := inv_F hI69 0 1000 rfl e69a
                      rw [← (show z69a = s69.2.2.1 46 2 from e69)] at n69a
                      rw [← (show u_46_1 = s69.2.2.1 46 1 from fr_F (e_46_1) hF69 rfl)] at n69a
                      rw [← (show z69a = s69.2.2.1 46 2 from e69)] at n69b
                      rw [← (show z69b = s69.2.2.1 46 4 from e69a)] at n69b
                      rw [← (show u_46_2 = s.2.2.1 46 2 from e_46_2)] at n69c
                      rw [← (show z69b = s69.2.2.1 46 4 from e69a)] at n69c
                      show GG _ _ _ _ _ _ _ _ [] _ _ _
                      refine g_iload_n 73 (gd rfl) rfl rfl ?_
                      refine g_if_eq 76 102 (gd rfl) rfl rfl (fun c73 => ?_) (fun c73 => ?_)
                      · skip
                        refine g_aload_n 103 (gd rfl) rfl rfl ?_
                        refine g_aload_n 104 (gd rfl) rfl rfl ?_
                        refine g_iload_n 105 (gd rfl) rfl rfl ?_
                        refine g_iconst 1 106 (gd rfl) rfl rfl ?_
                        refine g_iadd 107 (gd rfl) rfl (fun z106 e106 => ?_)
                        have i106 := in_add 1 10 e106 i52 (in_c 1 rfl) rfl rfl
                        have v107 : u_46_1 = s69.2.2.1 46 1 := fr_F (e_46_1) hF69 rfl
                        have v107a : u_102_4 = s69.2.2.1 102 4 := fr_F (e_102_4) hF69 rfl
                        have n107 : (z69a).toInt ≤ (u_46_1).toInt := by have a0 := oa11 ((inv_F hI 0 120 rfl e_102_4)) i36x13 i25x5 ((inv_F hI 0 1000 rfl e_46_4)) r_46_1 ((inv_F hI 0 1000 rfl e_46_2)) i52 ((in_c 0 rfl)) i69b i69a i106; have a11 := t_add e106 i52 (in_c 1 rfl) rfl; have a12 := in_u ((in_c 1 rfl)); omega
                        have n107a : (z69b).toInt ≤ (z69a).toInt := by have a0 := oa11 ((inv_F hI 0 120 rfl e_102_4)) i36x13 i25x5 ((inv_F hI 0 1000 rfl e_46_4)) r_46_1 ((inv_F hI 0 1000 rfl e_46_2)) i52 ((in_c 0 rfl)) i69b i69a i106; have a11 := t_add e106 i52 (in_c 1 rfl) rfl; have a12 := in_u ((in_c 1 rfl)); omega
                        have n107b : (u_102_4).toInt ≤ (z69b).toInt := by have a0 := oa11 ((inv_F hI 0 120 rfl e_102_4)) i36x13 i25x5 ((inv_F hI 0 1000 rfl e_46_4)) r_46_1 ((inv_F hI 0 1000 rfl e_46_2)) i52 ((in_c 0 rfl)) i69b i69a i106; have a11 := t_add e106 i52 (in_c 1 rfl) rfl; have a12 := in_u ((in_c 1 rfl)); omega
                        have p107 : TK s69 := by exact p69 (by decide)
                        have n107c : 10 - (z106).toInt < ((kk : Nat) : Int) := by have a0 := oa11 ((inv_F hI 0 120 rfl e_102_4)) i36x13 i25x5 ((inv_F hI 0 1000 rfl e_46_4)) r_46_1 ((inv_F hI 0 1000 rfl e_46_2)) i52 ((in_c 0 rfl)) i69b i69a i106; have a11 := t_add e106 i52 (in_c 1 rfl) rfl; have a12 := in_u ((in_c 1 rfl)); omega
                        refine g_callv (X := _) (As := [.ref (A 46), .int z106]) (r := []) (b := A 102) (q := 102) 110 (gd rfl) rfl rfl rfl rfl rfl (ww_o rfl) (Nat.le_of_ble_eq_true rfl) (Nat.zero_le _) (Nat.zero_le _) (ihl (by omega) hI69 (in_w 0 10 i106 rfl) e69 v107 e69a rfl rfl v107a (in_w 0 120 r_46_1 rfl) n107 n107a n107b p107 n107c) (fun e u h => h) (fun v u h => ?_)
                        obtain ⟨s107, hI107, hF107, n107d, n107e, n107f, n107g, z107, rfl, rfl, i107, p107a, p107b⟩ := h
                        obtain ⟨z107a, e107⟩ : ∃ w, w = s107.2.2.1 46 2 := ⟨_, rfl⟩
                        have i107a := inv_F hI107 0 1000 rfl e107
                        obtain ⟨z107b, e107a⟩ : ∃ w, w = s107.2.2.1 46 4 := ⟨_, rfl⟩
                        have i107b := inv_F hI107 0 1000 rfl e107a
                        obtain ⟨z107c, e107b⟩ : ∃ w, w = s107.2.2.1 102 4 := ⟨_, rfl⟩
                        have i107c := inv_F hI107 0 120 rfl e107b
                        rw [← (show z107a = s107.2.2.1 46 2 from e107)] at n107d
                        rw [← (show u_46_1 = s107.2.2.1 46 1 from fr_F (fr_F (e_46_1) hF69 rfl) hF107 rfl)] at n107d
                        rw [← (show z107a = s107.2.2.1 46 2 from e107)] at n107e
                        rw [← (show z107b = s107.2.2.1 46 4 from e107a)] at n107e
                        rw [← (show z107b = s107.2.2.1 46 4 from e107a)] at n107f
                        rw [← (show z107c = s107.2.2.1 102 4 from e107b)] at n107f
                        rw [← (show z69b = s69.2.2.1 46 4 from e69a)] at n107g
                        rw [← (show u_102_4 = s69.2.2.1 102 4 from fr_F (e_102_4) hF69 rfl)] at n107g
                        rw [← (show z107b = s107.2.2.1 46 4 from e107a)] at n107g
                        rw [← (show z107c = s107.2.2.1 102 4 from e107b)] at n107g
                        show GG _ _ _ _ _ _ _ _ [.int z107] _ _ _
                        refine g_if_ne 113 115 (gd rfl) rfl rfl (fun c110 => ?_) (fun c110 => ?_)
                        · skip
                          have i110 := z_ne 1 1 c110 i107 rfl
                          refine g_aload_n 116 (gd rfl) rfl rfl ?_
                          refine g_bipush 41 118 (gd rfl) rfl rfl ?_
                          refine g_callv (X := _) (As := [.int (Int32.ofInt 41)]) (r := []) (b := A 46) (q := 46) 121 (gd rfl) rfl rfl rfl rfl rfl (ww_o rfl) (Nat.le_of_ble_eq_true rfl) (mc := 0) (ms := 0) (Nat.zero_le _) (Nat.zero_le _) (P := fun v u => _) ?_ (fun e u h => h) (fun v u h => h)
                          intro po118 xx118 hp118 hx118
                          refine g_enter2 (k := 170) (N := 300) (by first | exact dq1 hd rfl | exact dq0 hd rfl | exact dq2 hd rfl | exact dq3 hd rfl | omega) rfl (Nat.le_of_ble_eq_true rfl) ?_
                          refine g_aload_n 1 (gd rfl) rfl rfl ?_
                          refine g_getI 4 (gd rfl) rfl rfl rfl (fun z118x1 e118x1 => ?_)
                          have i118x1 := inv_F hI107 0 5 rfl e118x1
                          refine g_iconst 3 5 (gd rfl) rfl rfl ?_
                          refine g_cmp_ne 8 20 (gd rfl) rfl rfl (fun c118x5 => ?_) (fun c118x5 => ?_)
                          · skip
                            refine g_iconst 0 21 (gd rfl) rfl rfl ?_
                            refine g_ireturn (gd rfl) rfl (nb01 (in_w 0 1 (in_c 0 rfl) rfl)) (hp118 _ _ ?_)
                            show GG _ _ _ _ _ _ _ _ [.int (Int32.ofInt 0)] _ _ _
                            refine g_if_ne 124 131 (gd rfl) rfl rfl (fun c121 => ?_) (fun c121 => ?_)
                            · skip
                              exact zn_ne c121 (in_c 0 rfl) rfl
                            · skip
                              refine g_aload_n 125 (gd rfl) rfl rfl ?_
                              refine g_iconst 2 126 (gd rfl) rfl rfl ?_
                              refine g_iconst 4 127 (gd rfl) rfl rfl ?_
                              refine g_callv (X := _) (As := [.int (Int32.ofInt 2), .int (Int32.ofInt 4)]) (r := []) (b := A 46) (q := 46) 130 (gd rfl) rfl rfl rfl rfl rfl (ww_o rfl) (Nat.le_of_ble_eq_true rfl) (Nat.zero_le _) (Nat.zero_le _) (k_169_46 (by first | exact dq1 hd rfl | exact dq0 hd rfl | exact dq2 hd rfl | exact dq3 hd rfl | omega) hI107 (in_w 2 2 (in_c 2 rfl) rfl) (in_w 3 4 (in_c 4 rfl) rfl)) (fun e u h => h) (fun v u h => ?_)
                              obtain ⟨s127, hI127, hF127, z127, rfl, rfl, i127⟩ := h
                              show GG _ _ _ _ _ _ _ _ [.int z127] _ _ _
                              have n130 : TK s127 := by exact tk_fr hF127 rfl p107a
                              have n130a : (z127).toInt ≠ 0 → PCV s s127 1 := by intro h; unfold In at i127; omega
                              have n130b : (z107a).toInt ≤ (u_46_1).toInt := by have a0 := oa13 ((inv_F hI 0 120 rfl e_102_4)) i36x13 i25x5 ((inv_F hI 0 1000 rfl e_46_4)) r_46_1 ((inv_F hI 0 1000 rfl e_46_2)) i52 ((in_c 0 rfl)) i118x1 i107c i107b i107a i106; have a13 := t_add e106 i52 (in_c 1 rfl) rfl; have a14 := in_u ((in_c 1 rfl)); omega
                              have n130c : (s127.2.2.1 46 2).toInt ≤ (s127.2.2.1 46 1).toInt := by have b0 : z107a = s127.2.2.1 46 2 := fr_F (e107) hF127 rfl; have b1 : u_46_1 = s127.2.2.1 46 1 := fr_F (fr_F (fr_F (e_46_1) hF69 rfl) hF107 rfl) hF127 rfl; rw [← b0, ← b1]; exact n130b
                              have n130d : (z107b).toInt ≤ (z107a).toInt := by have a0 := oa13 ((inv_F hI 0 120 rfl e_102_4)) i36x13 i25x5 ((inv_F hI 0 1000 rfl e_46_4)) r_46_1 ((inv_F hI 0 1000 rfl e_46_2)) i52 ((in_c 0 rfl)) i118x1 i107c i107b i107a i106; have a13 := t_add e106 i52 (in_c 1 rfl) rfl; have a14 := in_u ((in_c 1 rfl)); omega
                              have n130e : (s127.2.2.1 46 4).toInt ≤ (s127.2.2.1 46 2).toInt := by have b0 : z107b = s127.2.2.1 46 4 := fr_F (e107a) hF127 rfl; have b1 : z107a = s127.2.2.1 46 2 := fr_F (e107) hF127 rfl; rw [← b0, ← b1]; exact n130d
                              have n130f : (z107c).toInt ≤ (z107b).toInt := by have a0 := oa13 ((inv_F hI 0 120 rfl e_102_4)) i36x13 i25x5 ((inv_F hI 0 1000 rfl e_46_4)) r_46_1 ((inv_F hI 0 1000 rfl e_46_2)) i52 ((in_c 0 rfl)) i118x1 i107c i107b i107a i106; have a13 := t_add e106 i52 (in_c 1 rfl) rfl; have a14 := in_u ((in_c 1 rfl)); omega
                              have n130g : (s127.2.2.1 102 4).toInt ≤ (s127.2.2.1 46 4).toInt := by have b0 : z107c = s127.2.2.1 102 4 := fr_F (e107b) hF127 rfl; have b1 : z107b = s127.2.2.1 46 4 := fr_F (e107a) hF127 rfl; rw [← b0, ← b1]; exact n130f
                              have n130h : (u_46_4).toInt - (u_102_4).toInt ≤ (z107b).toInt - (z107c).toInt := by have a0 := oa13 ((inv_F hI 0 120 rfl e_102_4)) i36x13 i25x5 ((inv_F hI 0 1000 rfl e_46_4)) r_46_1 ((inv_F hI 0 1000 rfl e_46_2)) i52 ((in_c 0 rfl)) i118x1 i107c i107b i107a i106; have a13 := t_add e106 i52 (in_c 1 rfl) rfl; have a14 := in_u ((in_c 1 rfl)); omega
                              have n130i : (s.2.2.1 46 4).toInt - (s.2.2.1 102 4).toInt ≤ (s127.2.2.1 46 4).toInt - (s127.2.2.1 102 4).toInt := by have b0 : z107b = s127.2.2.1 46 4 := fr_F (e107a) hF127 rfl; have b1 : z107c = s127.2.2.1 102 4 := fr_F (e107b) hF127 rfl; first | (rw [← b0, ← b1, ← e_46_4, ← e_102_4]; exact n130h) | (rw [← b0, ← b1]; exact n130h)
                              exact g_ireturn (gd rfl) rfl (nb01 (in_w 0 1 i127 rfl)) (hP _ _ ⟨s127, hI127, (fr_tr rfl (fr_tr rfl (fr_tr rfl fr_rf hF69) hF107) hF127), n130c, n130e, n130g, n130i, z127, rfl, rfl, in_w 0 1 i127 rfl, n130, n130a⟩)
                          · skip
                            have i118x5 := r_eq1 3 3 c118x5 i118x1 (in_c 3 rfl) rfl
                            refine g_aload_n 9 (gd rfl) rfl rfl ?_
                            refine g_getI 12 (gd rfl) rfl rfl rfl (fun z118x9 e118x9 => ?_)
                            refine g_iload_n 13 (gd rfl) rfl rfl ?_
                            refine g_cmp_ne 16 20 (gd rfl) rfl rfl (fun c118x13 => ?_) (fun c118x13 => ?_)
                            · skip
                              refine g_iconst 0 21 (gd rfl) rfl rfl ?_
                              refine g_ireturn (gd rfl) rfl (nb01 (in_w 0 1 (in_c 0 rfl) rfl)) (hp118 _ _ ?_)
                              show GG _ _ _ _ _ _ _ _ [.int (Int32.ofInt 0)] _ _ _
                              refine g_if_ne 124 131 (gd rfl) rfl rfl (fun c121 => ?_) (fun c121 => ?_)
                              · skip
                                exact zn_ne c121 (in_c 0 rfl) rfl
                              · skip
                                refine g_aload_n 125 (gd rfl) rfl rfl ?_
                                refine g_iconst 2 126 (gd rfl) rfl rfl ?_
                                refine g_iconst 4 127 (gd rfl) rfl rfl ?_
                                refine g_callv (X := _) (As := [.int (Int32.ofInt 2), .int (Int32.ofInt 4)]) (r := []) (b := A 46) (q := 46) 130 (gd rfl) rfl rfl rfl rfl rfl (ww_o rfl) (Nat.le_of_ble_eq_true rfl) (Nat.zero_le _) (Nat.zero_le _) (k_169_46 (by first | exact dq1 hd rfl | exact dq0 hd rfl | exact dq2 hd rfl | exact dq3 hd rfl | omega) hI107 (in_w 2 2 (in_c 2 rfl) rfl) (in_w 3 4 (in_c 4 rfl) rfl)) (fun e u h => h) (fun v u h => ?_)
                                obtain ⟨s127, hI127, hF127, z127, rfl, rfl, i127⟩ := h
                                show GG _ _ _ _ _ _ _ _ [.int z127] _ _ _
                                have n130 : TK s127 := by exact tk_fr hF127 rfl p107a
                                have n130a : (z127).toInt ≠ 0 → PCV s s127 1 := by intro h; unfold In at i127; omega
                                have n130b : (z107a).toInt ≤ (u_46_1).toInt := by have a0 := oa13 ((inv_F hI 0 120 rfl e_102_4)) i36x13 i25x5 ((inv_F hI 0 1000 rfl e_46_4)) r_46_1 ((inv_F hI 0 1000 rfl e_46_2)) i52 ((in_c 0 rfl)) i118x5 i107c i107b i107a i106; have a13 := t_add e106 i52 (in_c 1 rfl) rfl; have a14 := in_u ((in_c 1 rfl)); omega
                                have n130c : (s127.2.2.1 46 2).toInt ≤ (s127.2.2.1 46 1).toInt := by have b0 : z107a = s127.2.2.1 46 2 := fr_F (e107) hF127 rfl; have b1 : u_46_1 = s127.2.2.1 46 1 := fr_F (fr_F (fr_F (e_46_1) hF69 rfl) hF107 rfl) hF127 rfl; rw [← b0, ← b1]; exact n130b
                                have n130d : (z107b).toInt ≤ (z107a).toInt := by have a0 := oa13 ((inv_F hI 0 120 rfl e_102_4)) i36x13 i25x5 ((inv_F hI 0 1000 rfl e_46_4)) r_46_1 ((inv_F hI 0 1000 rfl e_46_2)) i52 ((in_c 0 rfl)) i118x5 i107c i107b i107a i106; have a13 := t_add e106 i52 (in_c 1 rfl) rfl; have a14 := in_u ((in_c 1 rfl)); omega
                                have n130e : (s127.2.2.1 46 4).toInt ≤ (s127.2.2.1 46 2).toInt := by have b0 : z107b = s127.2.2.1 46 4 := fr_F (e107a) hF127 rfl; have b1 : z107a = s127.2.2.1 46 2 := fr_F (e107) hF127 rfl; rw [← b0, ← b1]; exact n130d
                                have n130f : (z107c).toInt ≤ (z107b).toInt := by have a0 := oa13 ((inv_F hI 0 120 rfl e_102_4)) i36x13 i25x5 ((inv_F hI 0 1000 rfl e_46_4)) r_46_1 ((inv_F hI 0 1000 rfl e_46_2)) i52 ((in_c 0 rfl)) i118x5 i107c i107b i107a i106; have a13 := t_add e106 i52 (in_c 1 rfl) rfl; have a14 := in_u ((in_c 1 rfl)); omega
                                have n130g : (s127.2.2.1 102 4).toInt ≤ (s127.2.2.1 46 4).toInt := by have b0 : z107c = s127.2.2.1 102 4 := fr_F (e107b) hF127 rfl; have b1 : z107b = s127.2.2.1 46 4 := fr_F (e107a) hF127 rfl; rw [← b0, ← b1]; exact n130f
                                have n130h : (u_46_4).toInt - (u_102_4).toInt ≤ (z107b).toInt - (z107c).toInt := by have a0 := oa13 ((inv_F hI 0 120 rfl e_102_4)) i36x13 i25x5 ((inv_F hI 0 1000 rfl e_46_4)) r_46_1 ((inv_F hI 0 1000 rfl e_46_2)) i52 ((in_c 0 rfl)) i118x5 i107c i107b i107a i106; have a13 := t_add e106 i52 (in_c 1 rfl) rfl; have a14 := in_u ((in_c 1 rfl)); omega
                                have n130i : (s.2.2.1 46 4).toInt - (s.2.2.1 102 4).toInt ≤ (s127.2.2.1 46 4).toInt - (s127.2.2.1 102 4).toInt := by have b0 : z107b = s127.2.2.1 46 4 := fr_F (e107a) hF127 rfl; have b1 : z107c = s127.2.2.1 102 4 := fr_F (e107b) hF127 rfl; first | (rw [← b0, ← b1, ← e_46_4, ← e_102_4]; exact n130h) | (rw [← b0, ← b1]; exact n130h)
                                exact g_ireturn (gd rfl) rfl (nb01 (in_w 0 1 i127 rfl)) (hP _ _ ⟨s127, hI127, (fr_tr rfl (fr_tr rfl (fr_tr rfl fr_rf hF69) hF107) hF127), n130c, n130e, n130g, n130i, z127, rfl, rfl, in_w 0 1 i127 rfl, n130, n130a⟩)
                            · skip
                              have i118x13 := r_eq1 41 41 c118x13 (i_rng z118x9) (in_c 41 rfl) rfl
                              refine g_iconst 1 17 (gd rfl) rfl rfl ?_
                              refine g_goto 21 (gd rfl) rfl ?_
                              refine g_ireturn (gd rfl) rfl (nb01 (in_w 0 1 (in_c 1 rfl) rfl)) (hp118 _ _ ?_)
                              show GG _ _ _ _ _ _ _ _ [.int (Int32.ofInt 1)] _ _ _
                              refine g_if_ne 124 131 (gd rfl) rfl rfl (fun c121 => ?_) (fun c121 => ?_)
                              · skip
                                refine g_aload_n 132 (gd rfl) rfl rfl ?_
                                refine g_bipush 6 134 (gd rfl) rfl rfl ?_
                                refine g_iconst 0 135 (gd rfl) rfl rfl ?_
                                have hk := tka_1 p107a (show z118x1 = s107.2.2.1 46 3 from e118x1) (show z107b = s107.2.2.1 46 4 from e107a) (show z107a = s107.2.2.1 46 2 from e107) (by have a0 := oa14 ((inv_F hI 0 120 rfl e_102_4)) i36x13 i25x5 ((inv_F hI 0 1000 rfl e_46_4)) r_46_1 ((inv_F hI 0 1000 rfl e_46_2)) i52 ((in_c 0 rfl)) i118x13 i118x5 i107c i107b i107a i106; have a14 := t_add e106 i52 (in_c 1 rfl) rfl; have a15 := in_u ((in_c 1 rfl)); omega)
                                have v135 : u_46_1 = s107.2.2.1 46 1 := fr_F (fr_F (e_46_1) hF69 rfl) hF107 rfl
                                have n135 : (z107a).toInt ≤ (u_46_1).toInt := by have a0 := oa14 ((inv_F hI 0 120 rfl e_102_4)) i36x13 i25x5 ((inv_F hI 0 1000 rfl e_46_4)) r_46_1 ((inv_F hI 0 1000 rfl e_46_2)) i52 ((in_c 0 rfl)) i118x13 i118x5 i107c i107b i107a i106; have a14 := t_add e106 i52 (in_c 1 rfl) rfl; have a15 := in_u ((in_c 1 rfl)); omega
                                refine g_callv (X := _) (As := [.int (Int32.ofInt 6), .int (Int32.ofInt 0)]) (r := []) (b := A 46) (q := 46) 138 (gd rfl) rfl rfl rfl rfl rfl (ww_o rfl) (Nat.le_of_ble_eq_true rfl) (Nat.zero_le _) (Nat.zero_le _) (k_171_46 (by first | exact dq1 hd rfl | exact dq0 hd rfl | exact dq2 hd rfl | exact dq3 hd rfl | omega) hI107 (in_w 6 7 (in_c 6 rfl) rfl) (in_w 0 1 (in_c 0 rfl) rfl) e107 v135 n135) (fun e u h => h) (fun v u h => ?_)
                                obtain ⟨s135, hI135, hF135, n135a, n135b, n135c, rfl, rfl, p135, p135a⟩ := h
                                obtain ⟨z135a, e135⟩ : ∃ w, w = s135.2.2.1 46 2 := ⟨_, rfl⟩
                                have i135a := inv_F hI135 0 1000 rfl e135
                                obtain ⟨z135b, e135a⟩ : ∃ w, w = s135.2.2.1 46 4 := ⟨_, rfl⟩
                                have i135b := inv_F hI135 0 1000 rfl e135a
                                rw [← (show z135a = s135.2.2.1 46 2 from e135)] at n135a
                                rw [← (show u_46_1 = s135.2.2.1 46 1 from fr_F (fr_F (fr_F (e_46_1) hF69 rfl) hF107 rfl) hF135 rfl)] at n135a
                                rw [← (show z135a = s135.2.2.1 46 2 from e135)] at n135b
                                rw [← (show z135b = s135.2.2.1 46 4 from e135a)] at n135b
                                rw [← (show z107a = s107.2.2.1 46 2 from e107)] at n135c
                                rw [← (show z135b = s135.2.2.1 46 4 from e135a)] at n135c
                                show GG _ _ _ _ _ _ _ _ [] _ _ _
                                refine g_iconst 1 139 (gd rfl) rfl rfl ?_
                                have n139 : TK s135 := by exact p135 (by decide)
                                have n139a : ((Int32.ofInt 1)).toInt ≠ 0 → PCV s s135 1 := by intro _; exact pv_tr (j := 1) (k := 0) (pv_tr (j := 0) (k := 1) (pv_sm (hF69.1 104 rfl) (hF69.2.2.1 102 4 rfl)) (p107b c110)) (pv_sm (hF135.1 104 rfl) (hF135.2.2.1 102 4 rfl))
                                have n139b : (z135a).toInt ≤ (u_46_1).toInt := by have a0 := oa12 ((inv_F hI 0 120 rfl e_102_4)) i36x13 i25x5 ((inv_F hI 0 1000 rfl e_46_4)) r_46_1 ((inv_F hI 0 1000 rfl e_46_2)) i52 ((in_c 0 rfl)) i135b i135a i107c i106; have a12 := t_add e106 i52 (in_c 1 rfl) rfl; have a13 := in_u ((in_c 1 rfl)); omega
                                have n139c : (s135.2.2.1 46 2).toInt ≤ (s135.2.2.1 46 1).toInt := by have b0 : z135a = s135.2.2.1 46 2 := e135; have b1 : u_46_1 = s135.2.2.1 46 1 := fr_F (fr_F (fr_F (e_46_1) hF69 rfl) hF107 rfl) hF135 rfl; rw [← b0, ← b1]; exact n139b
                                have n139d : (z135b).toInt ≤ (z135a).toInt := by have a0 := oa12 ((inv_F hI 0 120 rfl e_102_4)) i36x13 i25x5 ((inv_F hI 0 1000 rfl e_46_4)) r_46_1 ((inv_F hI 0 1000 rfl e_46_2)) i52 ((in_c 0 rfl)) i135b i135a i107c i106; have a12 := t_add e106 i52 (in_c 1 rfl) rfl; have a13 := in_u ((in_c 1 rfl)); omega
                                have n139e : (s135.2.2.1 46 4).toInt ≤ (s135.2.2.1 46 2).toInt := by have b0 : z135b = s135.2.2.1 46 4 := e135a; have b1 : z135a = s135.2.2.1 46 2 := e135; rw [← b0, ← b1]; exact n139d
                                have n139f : (z107c).toInt ≤ (z135b).toInt := by have a0 := oa12 ((inv_F hI 0 120 rfl e_102_4)) i36x13 i25x5 ((inv_F hI 0 1000 rfl e_46_4)) r_46_1 ((inv_F hI 0 1000 rfl e_46_2)) i52 ((in_c 0 rfl)) i135b i135a i107c i106; have a12 := t_add e106 i52 (in_c 1 rfl) rfl; have a13 := in_u ((in_c 1 rfl)); omega
                                have n139g : (s135.2.2.1 102 4).toInt ≤ (s135.2.2.1 46 4).toInt := by have b0 : z107c = s135.2.2.1 102 4 := fr_F (e107b) hF135 rfl; have b1 : z135b = s135.2.2.1 46 4 := e135a; rw [← b0, ← b1]; exact n139f
                                have n139h : (u_46_4).toInt - (u_102_4).toInt ≤ (z135b).toInt - (z107c).toInt := by have a0 := oa12 ((inv_F hI 0 120 rfl e_102_4)) i36x13 i25x5 ((inv_F hI 0 1000 rfl e_46_4)) r_46_1 ((inv_F hI 0 1000 rfl e_46_2)) i52 ((in_c 0 rfl)) i135b i135a i107c i106; have a12 := t_add e106 i52 (in_c 1 rfl) rfl; have a13 := in_u ((in_c 1 rfl)); omega
                                have n139i : (s.2.2.1 46 4).toInt - (s.2.2.1 102 4).toInt ≤ (s135.2.2.1 46 4).toInt - (s135.2.2.1 102 4).toInt := by have b0 : z135b = s135.2.2.1 46 4 := e135a; have b1 : z107c = s135.2.2.1 102 4 := fr_F (e107b) hF135 rfl; first | (rw [← b0, ← b1, ← e_46_4, ← e_102_4]; exact n139h) | (rw [← b0, ← b1]; exact n139h)
                                exact g_ireturn (gd rfl) rfl (nb01 (in_w 0 1 (in_c 1 rfl) rfl)) (hP _ _ ⟨s135, hI135, (fr_tr rfl (fr_tr rfl (fr_tr rfl fr_rf hF69) hF107) hF135), n139c, n139e, n139g, n139i, (Int32.ofInt 1), rfl, rfl, in_w 0 1 (in_c 1 rfl) rfl, n139, n139a⟩)
                              · skip
                                exact zn_eq c121 (in_c 1 rfl) rfl
                        · skip
                          have i110 := z_eq 0 0 c110 i107 rfl
                          refine g_iconst 0 114 (gd rfl) rfl rfl ?_
                          have n114 : TK s107 := by exact p107a
                          have n114a : ((Int32.ofInt 0)).toInt ≠ 0 → PCV s s107 1 := by intro h; exact absurd rfl h
                          have n114b : (z107a).toInt ≤ (u_46_1).toInt := by have a0 := oa12 ((inv_F hI 0 120 rfl e_102_4)) i36x13 i25x5 ((inv_F hI 0 1000 rfl e_46_4)) r_46_1 ((inv_F hI 0 1000 rfl e_46_2)) i52 ((in_c 0 rfl)) i107c i107b i107a i106; have a12 := t_add e106 i52 (in_c 1 rfl) rfl; have a13 := in_u ((in_c 1 rfl)); omega
                          have n114c : (s107.2.2.1 46 2).toInt ≤ (s107.2.2.1 46 1).toInt := by have b0 : z107a = s107.2.2.1 46 2 := e107; have b1 : u_46_1 = s107.2.2.1 46 1 := fr_F (fr_F (e_46_1) hF69 rfl) hF107 rfl; rw [← b0, ← b1]; exact n114b
                          have n114d : (z107b).toInt ≤ (z107a).toInt := by have a0 := oa12 ((inv_F hI 0 120 rfl e_102_4)) i36x13 i25x5 ((inv_F hI 0 1000 rfl e_46_4)) r_46_1 ((inv_F hI 0 1000 rfl e_46_2)) i52 ((in_c 0 rfl)) i107c i107b i107a i106; have a12 := t_add e106 i52 (in_c 1 rfl) rfl; have a13 := in_u ((in_c 1 rfl)); omega
                          have n114e : (s107.2.2.1 46 4).toInt ≤ (s107.2.2.1 46 2).toInt := by have b0 : z107b = s107.2.2.1 46 4 := e107a; have b1 : z107a = s107.2.2.1 46 2 := e107; rw [← b0, ← b1]; exact n114d
                          have n114f : (z107c).toInt ≤ (z107b).toInt := by have a0 := oa12 ((inv_F hI 0 120 rfl e_102_4)) i36x13 i25x5 ((inv_F hI 0 1000 rfl e_46_4)) r_46_1 ((inv_F hI 0 1000 rfl e_46_2)) i52 ((in_c 0 rfl)) i107c i107b i107a i106; have a12 := t_add e106 i52 (in_c 1 rfl) rfl; have a13 := in_u ((in_c 1 rfl)); omega
                          have n114g : (s107.2.2.1 102 4).toInt ≤ (s107.2.2.1 46 4).toInt := by have b0 : z107c = s107.2.2.1 102 4 := e107b; have b1 : z107b = s107.2.2.1 46 4 := e107a; rw [← b0, ← b1]; exact n114f
                          have n114h : (u_46_4).toInt - (u_102_4).toInt ≤ (z107b).toInt - (z107c).toInt := by have a0 := oa12 ((inv_F hI 0 120 rfl e_102_4)) i36x13 i25x5 ((inv_F hI 0 1000 rfl e_46_4)) r_46_1 ((inv_F hI 0 1000 rfl e_46_2)) i52 ((in_c 0 rfl)) i107c i107b i107a i106; have a12 := t_add e106 i52 (in_c 1 rfl) rfl; have a13 := in_u ((in_c 1 rfl)); omega
                          have n114i : (s.2.2.1 46 4).toInt - (s.2.2.1 102 4).toInt ≤ (s107.2.2.1 46 4).toInt - (s107.2.2.1 102 4).toInt := by have b0 : z107b = s107.2.2.1 46 4 := e107a; have b1 : z107c = s107.2.2.1 102 4 := e107b; first | (rw [← b0, ← b1, ← e_46_4, ← e_102_4]; exact n114h) | (rw [← b0, ← b1]; exact n114h)
                          exact g_ireturn (gd rfl) rfl (nb01 (in_w 0 1 (in_c 0 rfl) rfl)) (hP _ _ ⟨s107, hI107, (fr_tr rfl (fr_tr rfl fr_rf hF69) hF107), n114c, n114e, n114g, n114i, (Int32.ofInt 0), rfl, rfl, in_w 0 1 (in_c 0 rfl) rfl, n114, n114a⟩)
                      · skip
                        exact zn_ne c73 (in_c 0 rfl) rfl
                    · skip
                      have i52 := r_le2 10 10 c52 (in_c 10 rfl) h2 rfl
                      refine g_aload_n 56 (gd rfl) rfl rfl ?_
                      refine g_iconst 3 57 (gd rfl) rfl rfl ?_
                      refine g_aload_n 58 (gd rfl) rfl rfl ?_
                      refine g_getI 61 (gd rfl) rfl rfl rfl (fun z58 e58 => ?_)
                      have q58 : u_46_4 = z58 := (e_46_4).trans e58.symm
                      subst q58
                      refine g_callv (X := _) (As := [.int (Int32.ofInt 3), .int u_46_4]) (r := []) (b := A 46) (q := 46) 64 (gd rfl) rfl rfl rfl rfl rfl (ww_o rfl) (Nat.le_of_ble_eq_true rfl) (Nat.zero_le _) (Nat.zero_le _) (k_168_46 (by first | exact dq1 hd rfl | exact dq0 hd rfl | exact dq2 hd rfl | exact dq3 hd rfl | omega) hI (in_w 1 5 (in_c 3 rfl) rfl) (in_w 0 1000 (inv_F hI 0 1000 rfl e_46_4) rfl)) (fun e u h => h) (fun v u h => ?_)
                      obtain ⟨s61, hI61, hF61, z61, rfl, rfl, i61⟩ := h
                      show GG _ _ _ _ _ _ _ _ [.int z61] _ _ _
                      have n64 : TK s61 := by exact tk_fr hF61 rfl q_0
                      have n64a : (z61).toInt ≠ 0 → PCV s s61 1 := by intro h; unfold In at i61; omega
                      have n64b : (u_46_2).toInt ≤ (u_46_1).toInt := by have a0 := oa8 ((inv_F hI 0 120 rfl e_102_4)) i36x13 i25x5 ((inv_F hI 0 1000 rfl e_46_4)) r_46_1 ((inv_F hI 0 1000 rfl e_46_2)) i52 ((in_c 0 rfl)); omega
                      have n64c : (s61.2.2.1 46 2).toInt ≤ (s61.2.2.1 46 1).toInt := by have b0 : u_46_2 = s61.2.2.1 46 2 := fr_F (e_46_2) hF61 rfl; have b1 : u_46_1 = s61.2.2.1 46 1 := fr_F (e_46_1) hF61 rfl; rw [← b0, ← b1]; exact n64b
                      have n64d : (u_46_4).toInt ≤ (u_46_2).toInt := by have a0 := oa8 ((inv_F hI 0 120 rfl e_102_4)) i36x13 i25x5 ((inv_F hI 0 1000 rfl e_46_4)) r_46_1 ((inv_F hI 0 1000 rfl e_46_2)) i52 ((in_c 0 rfl)); omega
                      have n64e : (s61.2.2.1 46 4).toInt ≤ (s61.2.2.1 46 2).toInt := by have b0 : u_46_4 = s61.2.2.1 46 4 := fr_F (e_46_4) hF61 rfl; have b1 : u_46_2 = s61.2.2.1 46 2 := fr_F (e_46_2) hF61 rfl; rw [← b0, ← b1]; exact n64d
                      have n64f : (u_102_4).toInt ≤ (u_46_4).toInt := by have a0 := oa8 ((inv_F hI 0 120 rfl e_102_4)) i36x13 i25x5 ((inv_F hI 0 1000 rfl e_46_4)) r_46_1 ((inv_F hI 0 1000 rfl e_46_2)) i52 ((in_c 0 rfl)); omega
                      have n64g : (s61.2.2.1 102 4).toInt ≤ (s61.2.2.1 46 4).toInt := by have b0 : u_102_4 = s61.2.2.1 102 4 := fr_F (e_102_4) hF61 rfl; have b1 : u_46_4 = s61.2.2.1 46 4 := fr_F (e_46_4) hF61 rfl; rw [← b0, ← b1]; exact n64f
                      have n64h : (u_46_4).toInt - (u_102_4).toInt ≤ (u_46_4).toInt - (u_102_4).toInt := by exact Int.le_refl _
                      have n64i : (s.2.2.1 46 4).toInt - (s.2.2.1 102 4).toInt ≤ (s61.2.2.1 46 4).toInt - (s61.2.2.1 102 4).toInt := by have b0 : u_46_4 = s61.2.2.1 46 4 := fr_F (e_46_4) hF61 rfl; have b1 : u_102_4 = s61.2.2.1 102 4 := fr_F (e_102_4) hF61 rfl; first | (rw [← b0, ← b1, ← e_46_4, ← e_102_4]; exact n64h) | (rw [← b0, ← b1]; exact n64h)
                      exact g_ireturn (gd rfl) rfl (nb01 (in_w 0 1 i61 rfl)) (hP _ _ ⟨s61, hI61, (fr_tr rfl fr_rf hF61), n64c, n64e, n64g, n64i, z61, rfl, rfl, in_w 0 1 i61 rfl, n64, n64a⟩)
                  · skip
                    exact zn_eq c39 (in_c 1 rfl) rfl
          · skip
            have i25x13 := r_eq1 45 45 c25x13 (inv_F hI (-2147483648) 2147483647 rfl e_46_5) (in_c 45 rfl) rfl
            refine g_iconst 1 17 (gd rfl) rfl rfl ?_
            refine g_goto 21 (gd rfl) rfl ?_
            refine g_ireturn (gd rfl) rfl (nb01 (in_w 0 1 (in_c 1 rfl) rfl)) (hp25 _ _ ?_)
            show GG _ _ _ _ _ _ _ _ [.int (Int32.ofInt 1)] _ _ _
            refine g_istore_n 29 (gd rfl) rfl (Nat.le_of_ble_eq_true rfl) ?_
            refine g_iload_n 30 (gd rfl) rfl rfl ?_
            refine g_if_ne 33 49 (gd rfl) rfl rfl (fun c30 => ?_) (fun c30 => ?_)
            · skip
              refine g_iload_n 50 (gd rfl) rfl rfl ?_
              refine g_bipush 10 52 (gd rfl) rfl rfl ?_
              refine g_cmp_lt 55 65 (gd rfl) rfl rfl (fun c52 => ?_) (fun c52 => ?_)
              · skip
                have i52 := r_lt1 0 9 c52 h2 (in_c 10 rfl) rfl
                refine g_aload_n 66 (gd rfl) rfl rfl ?_
                refine g_bipush 6 68 (gd rfl) rfl rfl ?_
                refine g_iconst 0 69 (gd rfl) rfl rfl ?_
                have hk := tka_1 q_0 (show u_46_3 = s.2.2.1 46 3 from e_46_3) (show u_46_4 = s.2.2.1 46 4 from e_46_4) (show u_46_2 = s.2.2.1 46 2 from e_46_2) (by have a0 := oa8 ((inv_F hI 0 120 rfl e_102_4)) i25x13 i25x5 ((inv_F hI 0 1000 rfl e_46_4)) r_46_1 ((inv_F hI 0 1000 rfl e_46_2)) i52 ((in_c 1 rfl)); omega)
                have n69 : (u_46_2).toInt ≤ (u_46_1).toInt := by have a0 := oa8 ((inv_F hI 0 120 rfl e_102_4)) i25x13 i25x5 ((inv_F hI 0 1000 rfl e_46_4)) r_46_1 ((inv_F hI 0 1000 rfl e_46_2)) i52 ((in_c 1 rfl)); omega
                refine g_callv (X := _) (As := [.int (Int32.ofInt 6), .int (Int32.ofInt 0)]) (r := []) (b := A 46) (q := 46) 72 (gd rfl) rfl rfl rfl rfl rfl (ww_o rfl) (Nat.le_of_ble_eq_true rfl) (Nat.zero_le _) (Nat.zero_le _) (k_171_46 (by first | exact dq1 hd rfl | exact dq0 hd rfl | exact dq2 hd rfl | exact dq3 hd rfl | omega) hI (in_w 6 7 (in_c 6 rfl) rfl) (in_w 0 1 (in_c 0 rfl) rfl) e_46_2 e_46_1 n69) (fun e u h => h) (fun v u h => ?_)
                obtain ⟨s69, hI69, hF69, n69a, n69b, n69c, rfl, rfl, p69, p69a⟩ := h
                obtain ⟨z69a, e69⟩ : ∃ w, w = s69.2.2.1 46 2 := ⟨_, rfl⟩
                have i69a := inv_F hI69 0 1000 rfl e69
                obtain ⟨z69b, e69a⟩ : ∃ w, w = s69.2.2.1 46 4 := ⟨_, rfl⟩
                have i69b := inv_F hI69 0 1000 rfl e69a
                rw [← (show z69a = s69.2.2.1 46 2 from e69)] at n69a
                rw [← (show u_46_1 = s69.2.2.1 46 1 from fr_F (e_46_1) hF69 rfl)] at n69a
                rw [← (show z69a = s69.2.2.1 46 2 from e69)] at n69b
                rw [← (show z69b = s69.2.2.1 46 4 from e69a)] at n69b
                rw [← (show u_46_2 = s.2.2.1 46 2 from e_46_2)] at n69c
                rw [← (show z69b = s69.2.2.1 46 4 from e69a)] at n69c
                show GG _ _ _ _ _ _ _ _ [] _ _ _
                refine g_iload_n 73 (gd rfl) rfl rfl ?_
                refine g_if_eq 76 102 (gd rfl) rfl rfl (fun c73 => ?_) (fun c73 => ?_)
                · skip
                  exact zn_eq c73 (in_c 1 rfl) rfl
                · skip
                  refine g_aload_n 77 (gd rfl) rfl rfl ?_
                  refine g_aload_n 78 (gd rfl) rfl rfl ?_
                  refine g_iload_n 79 (gd rfl) rfl rfl ?_
                  refine g_iconst 1 80 (gd rfl) rfl rfl ?_
                  refine g_iadd 81 (gd rfl) rfl (fun z80 e80 => ?_)
                  have i80 := in_add 1 10 e80 i52 (in_c 1 rfl) rfl rfl
                  have v81 : u_46_1 = s69.2.2.1 46 1 := fr_F (e_46_1) hF69 rfl
                  have v81a : u_102_4 = s69.2.2.1 102 4 := fr_F (e_102_4) hF69 rfl
                  have n81 : (z69a).toInt ≤ (u_46_1).toInt := by have a0 := oa11 ((inv_F hI 0 120 rfl e_102_4)) i25x13 i25x5 ((inv_F hI 0 1000 rfl e_46_4)) r_46_1 ((inv_F hI 0 1000 rfl e_46_2)) i52 ((in_c 1 rfl)) i69b i69a i80; have a11 := t_add e80 i52 (in_c 1 rfl) rfl; omega
                  have n81a : (z69b).toInt ≤ (z69a).toInt := by have a0 := oa11 ((inv_F hI 0 120 rfl e_102_4)) i25x13 i25x5 ((inv_F hI 0 1000 rfl e_46_4)) r_46_1 ((inv_F hI 0 1000 rfl e_46_2)) i52 ((in_c 1 rfl)) i69b i69a i80; have a11 := t_add e80 i52 (in_c 1 rfl) rfl; omega
                  have n81b : (u_102_4).toInt ≤ (z69b).toInt := by have a0 := oa11 ((inv_F hI 0 120 rfl e_102_4)) i25x13 i25x5 ((inv_F hI 0 1000 rfl e_46_4)) r_46_1 ((inv_F hI 0 1000 rfl e_46_2)) i52 ((in_c 1 rfl)) i69b i69a i80; have a11 := t_add e80 i52 (in_c 1 rfl) rfl; omega
                  have p81 : TK s69 := by exact p69 (by decide)
                  have n81c : 10 - (z80).toInt < ((kk : Nat) : Int) := by have a0 := oa11 ((inv_F hI 0 120 rfl e_102_4)) i25x13 i25x5 ((inv_F hI 0 1000 rfl e_46_4)) r_46_1 ((inv_F hI 0 1000 rfl e_46_2)) i52 ((in_c 1 rfl)) i69b i69a i80; have a11 := t_add e80 i52 (in_c 1 rfl) rfl; omega
                  refine g_callv (X := _) (As := [.ref (A 46), .int z80]) (r := []) (b := A 102) (q := 102) 84 (gd rfl) rfl rfl rfl rfl rfl (ww_o rfl) (Nat.le_of_ble_eq_true rfl) (Nat.zero_le _) (Nat.zero_le _) (ih (by omega) hI69 (in_w 0 10 i80 rfl) e69 v81 e69a rfl rfl v81a (in_w 0 120 r_46_1 rfl) n81 n81a n81b p81 n81c) (fun e u h => h) (fun v u h => ?_)
                  obtain ⟨s81, hI81, hF81, n81d, n81e, n81f, n81g, z81, rfl, rfl, i81, p81a, p81b⟩ := h
                  obtain ⟨z81a, e81⟩ : ∃ w, w = s81.2.2.1 46 2 := ⟨_, rfl⟩
                  have i81a := inv_F hI81 0 1000 rfl e81
                  obtain ⟨z81b, e81a⟩ : ∃ w, w = s81.2.2.1 46 4 := ⟨_, rfl⟩
                  have i81b := inv_F hI81 0 1000 rfl e81a
                  obtain ⟨z81c, e81b⟩ : ∃ w, w = s81.2.2.1 102 4 := ⟨_, rfl⟩
                  have i81c := inv_F hI81 0 120 rfl e81b
                  rw [← (show z81a = s81.2.2.1 46 2 from e81)] at n81d
                  rw [← (show u_46_1 = s81.2.2.1 46 1 from fr_F (fr_F (e_46_1) hF69 rfl) hF81 rfl)] at n81d
                  rw [← (show z81a = s81.2.2.1 46 2 from e81)] at n81e
                  rw [← (show z81b = s81.2.2.1 46 4 from e81a)] at n81e
                  rw [← (show z81b = s81.2.2.1 46 4 from e81a)] at n81f
                  rw [← (show z81c = s81.2.2.1 102 4 from e81b)] at n81f
                  rw [← (show z69b = s69.2.2.1 46 4 from e69a)] at n81g
                  rw [← (show u_102_4 = s69.2.2.1 102 4 from fr_F (e_102_4) hF69 rfl)] at n81g
                  rw [← (show z81b = s81.2.2.1 46 4 from e81a)] at n81g
                  rw [← (show z81c = s81.2.2.1 102 4 from e81b)] at n81g
                  show GG _ _ _ _ _ _ _ _ [.int z81] _ _ _
                  refine g_if_eq 87 100 (gd rfl) rfl rfl (fun c84 => ?_) (fun c84 => ?_)
                  · skip
                    have i84 := z_eq 0 0 c84 i81 rfl
                    refine g_iconst 0 101 (gd rfl) rfl rfl ?_
                    have n101 : TK s81 := by exact p81a
                    have n101a : ((Int32.ofInt 0)).toInt ≠ 0 → PCV s s81 1 := by intro h; exact absurd rfl h
                    have n101b : (z81a).toInt ≤ (u_46_1).toInt := by have a0 := oa12 ((inv_F hI 0 120 rfl e_102_4)) i25x13 i25x5 ((inv_F hI 0 1000 rfl e_46_4)) r_46_1 ((inv_F hI 0 1000 rfl e_46_2)) i52 ((in_c 1 rfl)) i81c i81b i81a i80; have a12 := t_add e80 i52 (in_c 1 rfl) rfl; omega
                    have n101c : (s81.2.2.1 46 2).toInt ≤ (s81.2.2.1 46 1).toInt := by have b0 : z81a = s81.2.2.1 46 2 := e81; have b1 : u_46_1 = s81.2.2.1 46 1 := fr_F (fr_F (e_46_1) hF69 rfl) hF81 rfl; rw [← b0, ← b1]; exact n101b
                    have n101d : (z81b).toInt ≤ (z81a).toInt := by have a0 := oa12 ((inv_F hI 0 120 rfl e_102_4)) i25x13 i25x5 ((inv_F hI 0 1000 rfl e_46_4)) r_46_1 ((inv_F hI 0 1000 rfl e_46_2)) i52 ((in_c 1 rfl)) i81c i81b i81a i80; have a12 := t_add e80 i52 (in_c 1 rfl) rfl; omega
                    have n101e : (s81.2.2.1 46 4).toInt ≤ (s81.2.2.1 46 2).toInt := by have b0 : z81b = s81.2.2.1 46 4 := e81a; have b1 : z81a = s81.2.2.1 46 2 := e81; rw [← b0, ← b1]; exact n101d
                    have n101f : (z81c).toInt ≤ (z81b).toInt := by have a0 := oa12 ((inv_F hI 0 120 rfl e_102_4)) i25x13 i25x5 ((inv_F hI 0 1000 rfl e_46_4)) r_46_1 ((inv_F hI 0 1000 rfl e_46_2)) i52 ((in_c 1 rfl)) i81c i81b i81a i80; have a12 := t_add e80 i52 (in_c 1 rfl) rfl; omega
                    have n101g : (s81.2.2.1 102 4).toInt ≤ (s81.2.2.1 46 4).toInt := by have b0 : z81c = s81.2.2.1 102 4 := e81b; have b1 : z81b = s81.2.2.1 46 4 := e81a; rw [← b0, ← b1]; exact n101f
                    have n101h : (u_46_4).toInt - (u_102_4).toInt ≤ (z81b).toInt - (z81c).toInt := by have a0 := oa12 ((inv_F hI 0 120 rfl e_102_4)) i25x13 i25x5 ((inv_F hI 0 1000 rfl e_46_4)) r_46_1 ((inv_F hI 0 1000 rfl e_46_2)) i52 ((in_c 1 rfl)) i81c i81b i81a i80; have a12 := t_add e80 i52 (in_c 1 rfl) rfl; omega
                    have n101i : (s.2.2.1 46 4).toInt - (s.2.2.1 102 4).toInt ≤ (s81.2.2.1 46 4).toInt - (s81.2.2.1 102 4).toInt := by have b0 : z81b = s81.2.2.1 46 4 := e81a; have b1 : z81c = s81.2.2.1 102 4 := e81b; first | (rw [← b0, ← b1, ← e_46_4, ← e_102_4]; exact n101h) | (rw [← b0, ← b1]; exact n101h)
                    exact g_ireturn (gd rfl) rfl (nb01 (in_w 0 1 (in_c 0 rfl) rfl)) (hP _ _ ⟨s81, hI81, (fr_tr rfl (fr_tr rfl fr_rf hF69) hF81), n101c, n101e, n101g, n101i, (Int32.ofInt 0), rfl, rfl, in_w 0 1 (in_c 0 rfl) rfl, n101, n101a⟩)
                  · skip
                    have i84 := z_ne 1 1 c84 i81 rfl
                    refine g_aload_n 88 (gd rfl) rfl rfl ?_
                    refine g_ldc 1000226 90 (gd rfl) rfl rfl ?_
                    have hDe : _ = s81.2.2.1 102 4 := (show z81c = s81.2.2.1 102 4 from e81b)
                    have n90 : (z81c).toInt ≤ 119 := by have a0 := oa12 ((inv_F hI 0 120 rfl e_102_4)) i25x13 i25x5 ((inv_F hI 0 1000 rfl e_46_4)) r_46_1 ((inv_F hI 0 1000 rfl e_46_2)) i52 ((in_c 1 rfl)) i81c i81b i81a i80; have a12 := t_add e80 i52 (in_c 1 rfl) rfl; omega
                    refine g_callv (X := _) (As := [.int (Int32.ofInt 1000226)]) (r := []) (b := A 102) (q := 102) 93 (gd rfl) rfl rfl rfl rfl rfl (ww_o rfl) (Nat.le_of_ble_eq_true rfl) (Nat.zero_le _) (Nat.zero_le _) (k_57_102 (by first | exact dq1 hd rfl | exact dq0 hd rfl | exact dq2 hd rfl | exact dq3 hd rfl | omega) hI81 e81b n90) (fun e u h => h) (fun v u h => ?_)
                    obtain ⟨s90, hI90, hF90, n90a, z90, rfl, rfl, i90, p90⟩ := h
                    obtain ⟨z90a, e90⟩ : ∃ w, w = s90.2.2.1 102 4 := ⟨_, rfl⟩
                    have i90a := inv_F hI90 0 120 rfl e90
                    rw [← (show z81c = s81.2.2.1 102 4 from e81b)] at n90a
                    rw [← (show z90a = s90.2.2.1 102 4 from e90)] at n90a
                    show GG _ _ _ _ _ _ _ _ [.int z90] _ _ _
                    refine g_if_eq 96 100 (gd rfl) rfl rfl (fun c93 => ?_) (fun c93 => ?_)
                    · skip
                      exact zn_eq c93 i90 rfl
                    · skip
                      refine g_iconst 1 97 (gd rfl) rfl rfl ?_
                      refine g_goto 101 (gd rfl) rfl ?_
                      have n101 : TK s90 := by exact tk_fr hF90 rfl p81a
                      have n101a : ((Int32.ofInt 1)).toInt ≠ 0 → PCV s s90 1 := by intro _; exact pv_st (j := 1) (k := 1) (pv_tr (j := 0) (k := 1) (pv_sm (hF69.1 104 rfl) (hF69.2.2.1 102 4 rfl)) (p81b c84)) (inv_F hI81 0 120 rfl rfl).1 p90 (by rw [← (show z90a = s90.2.2.1 102 4 from e90), ← hDe]; have a0 := oa12 ((inv_F hI 0 120 rfl e_102_4)) i25x13 i25x5 ((inv_F hI 0 1000 rfl e_46_4)) r_46_1 ((inv_F hI 0 1000 rfl e_46_2)) i52 ((in_c 1 rfl)) i90a i81b i81a i80; have a12 := t_add e80 i52 (in_c 1 rfl) rfl; omega) (fun e => hc_n (by decide) e)
                      have n101b : (z81a).toInt ≤ (u_46_1).toInt := by have a0 := oa12 ((inv_F hI 0 120 rfl e_102_4)) i25x13 i25x5 ((inv_F hI 0 1000 rfl e_46_4)) r_46_1 ((inv_F hI 0 1000 rfl e_46_2)) i52 ((in_c 1 rfl)) i90a i81b i81a i80; have a12 := t_add e80 i52 (in_c 1 rfl) rfl; omega
                      have n101c : (s90.2.2.1 46 2).toInt ≤ (s90.2.2.1 46 1).toInt := by have b0 : z81a = s90.2.2.1 46 2 := fr_F (e81) hF90 rfl; have b1 : u_46_1 = s90.2.2.1 46 1 := fr_F (fr_F (fr_F (e_46_1) hF69 rfl) hF81 rfl) hF90 rfl; rw [← b0, ← b1]; exact n101b
                      have n101d : (z81b).toInt ≤ (z81a).toInt := by have a0 := oa12 ((inv_F hI 0 120 rfl e_102_4)) i25x13 i25x5 ((inv_F hI 0 1000 rfl e_46_4)) r_46_1 ((inv_F hI 0 1000 rfl e_46_2)) i52 ((in_c 1 rfl)) i90a i81b i81a i80; have a12 := t_add e80 i52 (in_c 1 rfl) rfl; omega
                      have n101e : (s90.2.2.1 46 4).toInt ≤ (s90.2.2.1 46 2).toInt := by have b0 : z81b = s90.2.2.1 46 4 := fr_F (e81a) hF90 rfl; have b1 : z81a = s90.2.2.1 46 2 := fr_F (e81) hF90 rfl; rw [← b0, ← b1]; exact n101d
                      have n101f : (z90a).toInt ≤ (z81b).toInt := by have a0 := oa12 ((inv_F hI 0 120 rfl e_102_4)) i25x13 i25x5 ((inv_F hI 0 1000 rfl e_46_4)) r_46_1 ((inv_F hI 0 1000 rfl e_46_2)) i52 ((in_c 1 rfl)) i90a i81b i81a i80; have a12 := t_add e80 i52 (in_c 1 rfl) rfl; omega
                      have n101g : (s90.2.2.1 102 4).toInt ≤ (s90.2.2.1 46 4).toInt := by have b0 : z90a = s90.2.2.1 102 4 := e90; have b1 : z81b = s90.2.2.1 46 4 := fr_F (e81a) hF90 rfl; rw [← b0, ← b1]; exact n101f
                      have n101h : (u_46_4).toInt - (u_102_4).toInt ≤ (z81b).toInt - (z90a).toInt := by have a0 := oa12 ((inv_F hI 0 120 rfl e_102_4)) i25x13 i25x5 ((inv_F hI 0 1000 rfl e_46_4)) r_46_1 ((inv_F hI 0 1000 rfl e_46_2)) i52 ((in_c 1 rfl)) i90a i81b i81a i80; have a12 := t_add e80 i52 (in_c 1 rfl) rfl; omega
                      have n101i : (s.2.2.1 46 4).toInt - (s.2.2.1 102 4).toInt ≤ (s90.2.2.1 46 4).toInt - (s90.2.2.1 102 4).toInt := by have b0 : z81b = s90.2.2.1 46 4 := fr_F (e81a) hF90 rfl; have b1 : z90a = s90.2.2.1 102 4 := e90; first | (rw [← b0, ← b1, ← e_46_4, ← e_102_4]; exact n101h) | (rw [← b0, ← b1]; exact n101h)
                      exact g_ireturn (gd rfl) rfl (nb01 (in_w 0 1 (in_c 1 rfl) rfl)) (hP _ _ ⟨s90, hI90, (fr_tr rfl (fr_tr rfl (fr_tr rfl fr_rf hF69) hF81) hF90), n101c, n101e, n101g, n101i, (Int32.ofInt 1), rfl, rfl, in_w 0 1 (in_c 1 rfl) rfl, n101, n101a⟩)
              · skip
                have i52 := r_le2 10 10 c52 (in_c 10 rfl) h2 rfl
                refine g_aload_n 56 (gd rfl) rfl rfl ?_
                refine g_iconst 3 57 (gd rfl) rfl rfl ?_
                refine g_aload_n 58 (gd rfl) rfl rfl ?_
                refine g_getI 61 (gd rfl) rfl rfl rfl (fun z58 e58 => ?_)
                have q58 : u_46_4 = z58 := (e_46_4).trans e58.symm
                subst q58
                refine g_callv (X := _) (As := [.int (Int32.ofInt 3), .int u_46_4]) (r := []) (b := A 46) (q := 46) 64 (gd rfl) rfl rfl rfl rfl rfl (ww_o rfl) (Nat.le_of_ble_eq_true rfl) (Nat.zero_le _) (Nat.zero_le _) (k_168_46 (by first | exact dq1 hd rfl | exact dq0 hd rfl | exact dq2 hd rfl | exact dq3 hd rfl | omega) hI (in_w 1 5 (in_c 3 rfl) rfl) (in_w 0 1000 (inv_F hI 0 1000 rfl e_46_4) rfl)) (fun e u h => h) (fun v u h => ?_)
                obtain ⟨s61, hI61, hF61, z61, rfl, rfl, i61⟩ := h
                show GG _ _ _ _ _ _ _ _ [.int z61] _ _ _
                have n64 : TK s61 := by exact tk_fr hF61 rfl q_0
                have n64a : (z61).toInt ≠ 0 → PCV s s61 1 := by intro h; unfold In at i61; omega
                have n64b : (u_46_2).toInt ≤ (u_46_1).toInt := by have a0 := oa8 ((inv_F hI 0 120 rfl e_102_4)) i25x13 i25x5 ((inv_F hI 0 1000 rfl e_46_4)) r_46_1 ((inv_F hI 0 1000 rfl e_46_2)) i52 ((in_c 1 rfl)); omega
                have n64c : (s61.2.2.1 46 2).toInt ≤ (s61.2.2.1 46 1).toInt := by have b0 : u_46_2 = s61.2.2.1 46 2 := fr_F (e_46_2) hF61 rfl; have b1 : u_46_1 = s61.2.2.1 46 1 := fr_F (e_46_1) hF61 rfl; rw [← b0, ← b1]; exact n64b
                have n64d : (u_46_4).toInt ≤ (u_46_2).toInt := by have a0 := oa8 ((inv_F hI 0 120 rfl e_102_4)) i25x13 i25x5 ((inv_F hI 0 1000 rfl e_46_4)) r_46_1 ((inv_F hI 0 1000 rfl e_46_2)) i52 ((in_c 1 rfl)); omega
                have n64e : (s61.2.2.1 46 4).toInt ≤ (s61.2.2.1 46 2).toInt := by have b0 : u_46_4 = s61.2.2.1 46 4 := fr_F (e_46_4) hF61 rfl; have b1 : u_46_2 = s61.2.2.1 46 2 := fr_F (e_46_2) hF61 rfl; rw [← b0, ← b1]; exact n64d
                have n64f : (u_102_4).toInt ≤ (u_46_4).toInt := by have a0 := oa8 ((inv_F hI 0 120 rfl e_102_4)) i25x13 i25x5 ((inv_F hI 0 1000 rfl e_46_4)) r_46_1 ((inv_F hI 0 1000 rfl e_46_2)) i52 ((in_c 1 rfl)); omega
                have n64g : (s61.2.2.1 102 4).toInt ≤ (s61.2.2.1 46 4).toInt := by have b0 : u_102_4 = s61.2.2.1 102 4 := fr_F (e_102_4) hF61 rfl; have b1 : u_46_4 = s61.2.2.1 46 4 := fr_F (e_46_4) hF61 rfl; rw [← b0, ← b1]; exact n64f
                have n64h : (u_46_4).toInt - (u_102_4).toInt ≤ (u_46_4).toInt - (u_102_4).toInt := by exact Int.le_refl _
                have n64i : (s.2.2.1 46 4).toInt - (s.2.2.1 102 4).toInt ≤ (s61.2.2.1 46 4).toInt - (s61.2.2.1 102 4).toInt := by have b0 : u_46_4 = s61.2.2.1 46 4 := fr_F (e_46_4) hF61 rfl; have b1 : u_102_4 = s61.2.2.1 102 4 := fr_F (e_102_4) hF61 rfl; first | (rw [← b0, ← b1, ← e_46_4, ← e_102_4]; exact n64h) | (rw [← b0, ← b1]; exact n64h)
                exact g_ireturn (gd rfl) rfl (nb01 (in_w 0 1 i61 rfl)) (hP _ _ ⟨s61, hI61, (fr_tr rfl fr_rf hF61), n64c, n64e, n64g, n64i, z61, rfl, rfl, in_w 0 1 i61 rfl, n64, n64a⟩)
            · skip
              exact zn_eq c30 (in_c 1 rfl) rfl
      · skip
        have i13 := r_eq1 1 1 c13 (inv_F hI 0 5 rfl e_46_3) (in_c 1 rfl) rfl
        refine g_aload_n 17 (gd rfl) rfl rfl ?_
        refine g_aload_n 18 (gd rfl) rfl rfl ?_
        have n18 : (u_46_2).toInt ≤ (u_46_1).toInt := by have a0 := oa6 ((inv_F hI 0 120 rfl e_102_4)) i13 ((inv_F hI 0 1000 rfl e_46_4)) r_46_1 ((inv_F hI 0 1000 rfl e_46_2)) h2; omega
        have n18a : (u_46_4).toInt ≤ (u_46_2).toInt := by have a0 := oa6 ((inv_F hI 0 120 rfl e_102_4)) i13 ((inv_F hI 0 1000 rfl e_46_4)) r_46_1 ((inv_F hI 0 1000 rfl e_46_2)) h2; omega
        have n18b : (u_102_4).toInt ≤ (u_46_4).toInt := by have a0 := oa6 ((inv_F hI 0 120 rfl e_102_4)) i13 ((inv_F hI 0 1000 rfl e_46_4)) r_46_1 ((inv_F hI 0 1000 rfl e_46_2)) h2; omega
        have n18c : 1 ≤ (u_46_3).toInt := by have a0 := oa6 ((inv_F hI 0 120 rfl e_102_4)) i13 ((inv_F hI 0 1000 rfl e_46_4)) r_46_1 ((inv_F hI 0 1000 rfl e_46_2)) h2; omega
        have n18d : (u_46_3).toInt ≤ 2 := by have a0 := oa6 ((inv_F hI 0 120 rfl e_102_4)) i13 ((inv_F hI 0 1000 rfl e_46_4)) r_46_1 ((inv_F hI 0 1000 rfl e_46_2)) h2; omega
        have p18 : TK s := by exact q_0
        refine g_callv (X := _) (As := [.ref (A 46)]) (r := []) (b := A 102) (q := 102) 21 (gd rfl) rfl rfl rfl rfl rfl (ww_o rfl) (Nat.le_of_ble_eq_true rfl) (Nat.zero_le _) (Nat.zero_le _) (k_62_102_46 (by first | exact dq1 hd rfl | exact dq0 hd rfl | exact dq2 hd rfl | exact dq3 hd rfl | omega) hI e_46_2 e_46_1 e_46_4 e_46_3 e_46_5 e_102_4 (in_w 0 120 r_46_1 rfl) n18 n18a n18b n18c n18d p18) (fun e u h => h) (fun v u h => ?_)
        obtain ⟨s18, hI18, hF18, n18e, n18f, n18g, n18h, z18, rfl, rfl, i18, p18a, p18b⟩ := h
        obtain ⟨z18a, e18⟩ : ∃ w, w = s18.2.2.1 46 2 := ⟨_, rfl⟩
        have i18a := inv_F hI18 0 1000 rfl e18
        obtain ⟨z18b, e18a⟩ : ∃ w, w = s18.2.2.1 46 4 := ⟨_, rfl⟩
        have i18b := inv_F hI18 0 1000 rfl e18a
        obtain ⟨z18c, e18b⟩ : ∃ w, w = s18.2.2.1 102 4 := ⟨_, rfl⟩
        have i18c := inv_F hI18 0 120 rfl e18b
        rw [← (show z18a = s18.2.2.1 46 2 from e18)] at n18e
        rw [← (show u_46_1 = s18.2.2.1 46 1 from fr_F (e_46_1) hF18 rfl)] at n18e
        rw [← (show z18a = s18.2.2.1 46 2 from e18)] at n18f
        rw [← (show z18b = s18.2.2.1 46 4 from e18a)] at n18f
        rw [← (show z18b = s18.2.2.1 46 4 from e18a)] at n18g
        rw [← (show z18c = s18.2.2.1 102 4 from e18b)] at n18g
        rw [← (show u_46_4 = s.2.2.1 46 4 from e_46_4)] at n18h
        rw [← (show u_102_4 = s.2.2.1 102 4 from e_102_4)] at n18h
        rw [← (show z18b = s18.2.2.1 46 4 from e18a)] at n18h
        rw [← (show z18c = s18.2.2.1 102 4 from e18b)] at n18h
        show GG _ _ _ _ _ _ _ _ [.int z18] _ _ _
        have n21 : TK s18 := by exact p18a
        have n21a : (z18).toInt ≠ 0 → PCV s s18 1 := by exact p18b
        have n21b : (z18a).toInt ≤ (u_46_1).toInt := by have a0 := oa9 ((inv_F hI 0 120 rfl e_102_4)) i13 ((inv_F hI 0 1000 rfl e_46_4)) r_46_1 ((inv_F hI 0 1000 rfl e_46_2)) h2 i18c i18b i18a; omega
        have n21c : (s18.2.2.1 46 2).toInt ≤ (s18.2.2.1 46 1).toInt := by have b0 : z18a = s18.2.2.1 46 2 := e18; have b1 : u_46_1 = s18.2.2.1 46 1 := fr_F (e_46_1) hF18 rfl; rw [← b0, ← b1]; exact n21b
        have n21d : (z18b).toInt ≤ (z18a).toInt := by have a0 := oa9 ((inv_F hI 0 120 rfl e_102_4)) i13 ((inv_F hI 0 1000 rfl e_46_4)) r_46_1 ((inv_F hI 0 1000 rfl e_46_2)) h2 i18c i18b i18a; omega
        have n21e : (s18.2.2.1 46 4).toInt ≤ (s18.2.2.1 46 2).toInt := by have b0 : z18b = s18.2.2.1 46 4 := e18a; have b1 : z18a = s18.2.2.1 46 2 := e18; rw [← b0, ← b1]; exact n21d
        have n21f : (z18c).toInt ≤ (z18b).toInt := by have a0 := oa9 ((inv_F hI 0 120 rfl e_102_4)) i13 ((inv_F hI 0 1000 rfl e_46_4)) r_46_1 ((inv_F hI 0 1000 rfl e_46_2)) h2 i18c i18b i18a; omega
        have n21g : (s18.2.2.1 102 4).toInt ≤ (s18.2.2.1 46 4).toInt := by have b0 : z18c = s18.2.2.1 102 4 := e18b; have b1 : z18b = s18.2.2.1 46 4 := e18a; rw [← b0, ← b1]; exact n21f
        have n21h : (u_46_4).toInt - (u_102_4).toInt ≤ (z18b).toInt - (z18c).toInt := by have a0 := oa9 ((inv_F hI 0 120 rfl e_102_4)) i13 ((inv_F hI 0 1000 rfl e_46_4)) r_46_1 ((inv_F hI 0 1000 rfl e_46_2)) h2 i18c i18b i18a; omega
        have n21i : (s.2.2.1 46 4).toInt - (s.2.2.1 102 4).toInt ≤ (s18.2.2.1 46 4).toInt - (s18.2.2.1 102 4).toInt := by have b0 : z18b = s18.2.2.1 46 4 := e18a; have b1 : z18c = s18.2.2.1 102 4 := e18b; first | (rw [← b0, ← b1, ← e_46_4, ← e_102_4]; exact n21h) | (rw [← b0, ← b1]; exact n21h)
        exact g_ireturn (gd rfl) rfl (nb01 (in_w 0 1 i18 rfl)) (hP _ _ ⟨s18, hI18, (fr_tr rfl fr_rf hF18), n21c, n21e, n21g, n21i, z18, rfl, rfl, in_w 0 1 i18 rfl, n21, n21a⟩)
theorem k_58_102_46 {Z : AmZ} {A : Nat → Nat} {s : GS} {ex : va_W} {d : Nat} {X : AmX} {x2 : Int32} {u_46_2 : Int32} {u_46_1 : Int32} {u_46_4 : Int32} {u_46_3 : Int32} {u_46_5 : Int32} {u_102_4 : Int32} (hd : 295 ≤ d) (hI : Inv s) (h2 : In x2 0 10) (e_46_2 : u_46_2 = s.2.2.1 46 2) (e_46_1 : u_46_1 = s.2.2.1 46 1) (e_46_4 : u_46_4 = s.2.2.1 46 4) (e_46_3 : u_46_3 = s.2.2.1 46 3) (e_46_5 : u_46_5 = s.2.2.1 46 5) (e_102_4 : u_102_4 = s.2.2.1 102 4) (r_46_1 : In u_46_1 0 120) (p_0 : (u_46_2).toInt ≤ (u_46_1).toInt) (p_1 : (u_46_4).toInt ≤ (u_46_2).toInt) (p_2 : (u_102_4).toInt ≤ (u_46_4).toInt) (q_0 : TK s) : GC Z d 58 [.ref (A 102), .ref (A 46), .int x2] (WW Z A s ++ ex) 0 0 (fun v u => ∃ t : GS, Inv t ∧ Fr fm_58_102_46 s t ∧ ((t.2.2.1 46 2).toInt ≤ (t.2.2.1 46 1).toInt) ∧ ((t.2.2.1 46 4).toInt ≤ (t.2.2.1 46 2).toInt) ∧ ((t.2.2.1 102 4).toInt ≤ (t.2.2.1 46 4).toInt) ∧ ((s.2.2.1 46 4).toInt - (s.2.2.1 102 4).toInt ≤ (t.2.2.1 46 4).toInt - (t.2.2.1 102 4).toInt) ∧ ∃ z : Int32, v = some (.int z) ∧ u = WW Z A t ++ ex ∧ In z 0 1 ∧ (TK t) ∧ ((z).toInt ≠ 0 → PCV s t 1)) X := (k_58_102_46_r 11 (k_59_102_46_r 11 (k_60_102_46_r 11 (k_61_102_46_r 11)))) (by omega) hI h2 e_46_2 e_46_1 e_46_4 e_46_3 e_46_5 e_102_4 r_46_1 p_0 p_1 p_2 q_0 (m_in 11 h2 rfl)
end
