section
/-! methods, by vc.py -/
def fm_54_60_32 : FM := ([61, 62, 63], [], [(60, 7)], [])
/-- GraphHouse$Colours.canLower -/
theorem k_54_60_32 {Z : AmZ} {A : Nat → Nat} {s : GS} {ex : va_W} {d : Nat} {X : AmX} {x2 : Int32} {x3 : Int32} {x4 : Int32} (hd : 381 ≤ d) (hI : Inv s) (h2 : In x2 0 31) (h3 : In x3 0 31) (h4 : In x4 0 31) : GC Z d 54 [.ref (A 60), .ref (A 32), .int x2, .int x3, .int x4] (WW Z A s ++ ex) 0 0 (fun v u => ∃ t : GS, Inv t ∧ Fr fm_54_60_32 s t ∧ ∃ z : Int32, v = some (.int z) ∧ u = WW Z A t ++ ex ∧ In z 0 1) X := by
  intro post xp hP hX
  obtain ⟨u_32_1, e_32_1⟩ : ∃ w, w = s.2.2.1 32 1 := ⟨_, rfl⟩
  have ro_32_1 := inv_F hI 0 32 rfl e_32_1
  obtain ⟨u_60_3, e_60_3⟩ : ∃ w, w = s.2.2.1 60 3 := ⟨_, rfl⟩
  have ro_60_3 := inv_F hI 0 32 rfl e_60_3
  have ct108 : ∀ (k108 : Nat) (sc108 : GS) (y108_5 : Int32) (y108_6 : Int32) (y108_7 : Int32) (y108_8 : Int32), Inv sc108 → Fr fm_54_60_32 s sc108 → (In y108_8 0 32) → 32 - (y108_8).toInt < (k108 : Int) → GG Z (d - 1) 54 post (gx xp) (1 + k108 * 900) 108 (fun j => xlook j [(0, .ref (A 60)), (1, .ref (A 32)), (2, .int x2), (3, .int x3), (4, .int x4), (5, .int y108_5), (6, .int y108_6), (7, .int y108_7), (8, .int y108_8)]) [] (WW Z A sc108 ++ ex) 0 0 := by
    intro k108
    induction k108 with
    | zero => intro sc108 y108_5 y108_6 y108_7 y108_8 hIc108 hFc108 j108_8 mm108; exact m_no mm108 j108_8 rfl
    | succ k108 ih108 =>
      intro sc108 y108_5 y108_6 y108_7 y108_8 hIc108 hFc108 j108_8 mm108
      refine gg_w (M := 1 + k108 * 900 + 900) gws ?_
      refine g_iload 110 (gd rfl) rfl rfl ?_
      refine g_aload_n 111 (gd rfl) rfl rfl ?_
      refine g_getI 114 (gd rfl) rfl rfl rfl (fun z111 e111 => ?_)
      have q111 : u_60_3 = z111 := (fr_F e_60_3 hFc108 rfl).trans e111.symm
      subst q111
      refine g_cmp_ge 117 135 (gd rfl) rfl rfl (fun c114 => ?_) (fun c114 => ?_)
      · skip
        refine g_aload_n 136 (gd rfl) rfl rfl ?_
        refine g_getA (q2 := 61) 139 (gd rfl) rfl rfl rfl rfl ?_
        refine g_iload_n 140 (gd rfl) rfl rfl ?_
        refine g_dup2 141 (gd rfl) rfl rfl rfl ?_
        refine g_iaload 142 (gd rfl) rfl (n := 32) rfl (in_ix h3 rfl) (fun z141 e141 => ?_)
        refine g_iload 144 (gd rfl) rfl rfl ?_
        refine g_ior 145 (gd rfl) rfl (fun z144 e144 => ?_)
        refine g_iastore 146 (gd rfl) rfl (n := 32) rfl (in_ix h3 rfl) ?_
        have hI145 := inv_sI (q := 61) (j := x3.toNatClampNeg) hIc108 rfl (in_w (-2147483648) 2147483647 (i_rng z144) rfl)
        refine g_aload_n 147 (gd rfl) rfl rfl ?_
        refine g_aload_n 148 (gd rfl) rfl rfl ?_
        refine g_getA (q2 := 39) 151 (gd rfl) rfl rfl rfl rfl ?_
        refine g_aload_n 152 (gd rfl) rfl rfl ?_
        refine g_callv (X := _) (As := []) (r := [.ref (A 39), .ref (A 60)]) (b := A 32) (q := 32) 155 (gd rfl) rfl rfl rfl rfl rfl (ww_o rfl) (Nat.le_of_ble_eq_true rfl) (mc := 0) (ms := 0) (Nat.zero_le _) (Nat.zero_le _) (P := fun v u => _) ?_ (fun e u h => h) (fun v u h => h)
        intro po152 xx152 hp152 hx152
        refine g_enter2 (k := 102) (N := 300) (by first | exact dq1 hd rfl | exact dq0 hd rfl | exact dq2 hd rfl | exact dq3 hd rfl | omega) rfl (Nat.le_of_ble_eq_true rfl) ?_
        refine g_aload_n 1 (gd rfl) rfl rfl ?_
        refine g_getI 4 (gd rfl) rfl rfl rfl (fun z152x1 e152x1 => ?_)
        have q152x1 : u_32_1 = z152x1 := (sI_F (fr_F e_32_1 hFc108 rfl)).trans e152x1.symm
        subst q152x1
        refine g_bipush 32 6 (gd rfl) rfl rfl ?_
        refine g_cmp_lt 9 13 (gd rfl) rfl rfl (fun c152x6 => ?_) (fun c152x6 => ?_)
        · skip
          have i152x6 := r_lt1 0 31 c152x6 ro_32_1 (in_c 32 rfl) rfl
          refine g_iconst 1 14 (gd rfl) rfl rfl ?_
          refine g_aload_n 15 (gd rfl) rfl rfl ?_
          refine g_getI 18 (gd rfl) rfl rfl rfl (fun z152x15 e152x15 => ?_)
          have q152x15 : u_32_1 = z152x15 := (sI_F (fr_F e_32_1 hFc108 rfl)).trans e152x15.symm
          subst q152x15
          refine g_ishl 19 (gd rfl) rfl (fun z152x18 e152x18 => ?_)
          refine g_iconst 1 20 (gd rfl) rfl rfl ?_
          refine g_isub 21 (gd rfl) rfl (fun z152x20 e152x20 => ?_)
          refine g_ireturn (gd rfl) rfl rfl (hp152 _ _ ?_)
          show GG _ _ _ _ _ _ _ _ [.int z152x20, .ref (A 39), .ref (A 60)] _ _ _
          refine g_iload 157 (gd rfl) rfl rfl ?_
          refine g_iconst (-1) 158 (gd rfl) rfl rfl ?_
          refine g_ixor 159 (gd rfl) rfl (fun z158 e158 => ?_)
          refine g_iand 160 (gd rfl) rfl (fun z159 e159 => ?_)
          refine g_iload 162 (gd rfl) rfl rfl ?_
          refine g_iconst (-1) 163 (gd rfl) rfl rfl ?_
          refine g_ixor 164 (gd rfl) rfl (fun z163 e163 => ?_)
          refine g_iand 165 (gd rfl) rfl (fun z164 e164 => ?_)
          refine g_iconst 0 166 (gd rfl) rfl rfl ?_
          refine g_callv (X := _) (As := [.ref (A 39), .int z164, .int (Int32.ofInt 0)]) (r := []) (b := A 60) (q := 60) 169 (gd rfl) rfl rfl rfl rfl rfl (ww_o rfl) (Nat.le_of_ble_eq_true rfl) (Nat.zero_le _) (Nat.zero_le _) (k_46_60_39 (by first | exact dq1 hd rfl | exact dq0 hd rfl | exact dq2 hd rfl | exact dq3 hd rfl | omega) hI145 (in_w 0 33 (in_c 0 rfl) rfl)) (fun e u h => h) (fun v u h => ?_)
          obtain ⟨s166, hI166, hF166, z166, rfl, rfl, i166⟩ := h
          show GG _ _ _ _ _ _ _ _ [.int z166] _ _ _
          refine g_if_eq 172 174 (gd rfl) rfl rfl (fun c169 => ?_) (fun c169 => ?_)
          · skip
            have i169 := z_eq 0 0 c169 i166 rfl
            refine g_aload_n 175 (gd rfl) rfl rfl ?_
            refine g_getA (q2 := 62) 178 (gd rfl) rfl rfl rfl rfl ?_
            refine g_iconst 0 179 (gd rfl) rfl rfl ?_
            refine g_aload_n 180 (gd rfl) rfl rfl ?_
            refine g_getA (q2 := 61) 183 (gd rfl) rfl rfl rfl rfl ?_
            refine g_iconst 0 184 (gd rfl) rfl rfl ?_
            refine g_bipush 32 186 (gd rfl) rfl rfl ?_
            refine g_cpI (q2 := 62) (q := 61) (n0 := 32) (n1 := 32) 189 (gd rfl) rfl rfl rfl rfl (Nat.le_of_ble_eq_true rfl) (cp_0 (in_c 0 rfl) rfl) (cp_0 (in_c 0 rfl) rfl) (cp_0 (in_c 32 rfl) rfl) (cp_1 (in_c 0 rfl) (in_c 32 rfl) rfl) (cp_1 (in_c 0 rfl) (in_c 32 rfl) rfl) hI166 rfl rfl rfl rfl (fun s186 hI186 hF186 cp186 => ?_)
            refine g_iconst 0 190 (gd rfl) rfl rfl ?_
            exact g_ireturn (gd rfl) rfl (nb01 (in_w 0 1 (in_c 0 rfl) rfl)) (hP _ _ ⟨s186, hI186, (fr_tr rfl (fr_tr rfl (fr_sI rfl hFc108) hF166) hF186), (Int32.ofInt 0), rfl, rfl, in_w 0 1 (in_c 0 rfl) rfl⟩)
          · skip
            have i169 := z_ne 1 1 c169 i166 rfl
            refine g_iconst 1 173 (gd rfl) rfl rfl ?_
            exact g_ireturn (gd rfl) rfl (nb01 (in_w 0 1 (in_c 1 rfl) rfl)) (hP _ _ ⟨s166, hI166, (fr_tr rfl (fr_sI rfl hFc108) hF166), (Int32.ofInt 1), rfl, rfl, in_w 0 1 (in_c 1 rfl) rfl⟩)
        · skip
          have i152x6 := r_le2 32 32 c152x6 (in_c 32 rfl) ro_32_1 rfl
          refine g_iconst (-1) 10 (gd rfl) rfl rfl ?_
          refine g_goto 21 (gd rfl) rfl ?_
          refine g_ireturn (gd rfl) rfl rfl (hp152 _ _ ?_)
          show GG _ _ _ _ _ _ _ _ [.int (Int32.ofInt (-1)), .ref (A 39), .ref (A 60)] _ _ _
          refine g_iload 157 (gd rfl) rfl rfl ?_
          refine g_iconst (-1) 158 (gd rfl) rfl rfl ?_
          refine g_ixor 159 (gd rfl) rfl (fun z158 e158 => ?_)
          refine g_iand 160 (gd rfl) rfl (fun z159 e159 => ?_)
          refine g_iload 162 (gd rfl) rfl rfl ?_
          refine g_iconst (-1) 163 (gd rfl) rfl rfl ?_
          refine g_ixor 164 (gd rfl) rfl (fun z163 e163 => ?_)
          refine g_iand 165 (gd rfl) rfl (fun z164 e164 => ?_)
          refine g_iconst 0 166 (gd rfl) rfl rfl ?_
          refine g_callv (X := _) (As := [.ref (A 39), .int z164, .int (Int32.ofInt 0)]) (r := []) (b := A 60) (q := 60) 169 (gd rfl) rfl rfl rfl rfl rfl (ww_o rfl) (Nat.le_of_ble_eq_true rfl) (Nat.zero_le _) (Nat.zero_le _) (k_46_60_39 (by first | exact dq1 hd rfl | exact dq0 hd rfl | exact dq2 hd rfl | exact dq3 hd rfl | omega) hI145 (in_w 0 33 (in_c 0 rfl) rfl)) (fun e u h => h) (fun v u h => ?_)
          obtain ⟨s166, hI166, hF166, z166, rfl, rfl, i166⟩ := h
          show GG _ _ _ _ _ _ _ _ [.int z166] _ _ _
          refine g_if_eq 172 174 (gd rfl) rfl rfl (fun c169 => ?_) (fun c169 => ?_)
          · skip
            have i169 := z_eq 0 0 c169 i166 rfl
            refine g_aload_n 175 (gd rfl) rfl rfl ?_
            refine g_getA (q2 := 62) 178 (gd rfl) rfl rfl rfl rfl ?_
            refine g_iconst 0 179 (gd rfl) rfl rfl ?_
            refine g_aload_n 180 (gd rfl) rfl rfl ?_
            refine g_getA (q2 := 61) 183 (gd rfl) rfl rfl rfl rfl ?_
            refine g_iconst 0 184 (gd rfl) rfl rfl ?_
            refine g_bipush 32 186 (gd rfl) rfl rfl ?_
            refine g_cpI (q2 := 62) (q := 61) (n0 := 32) (n1 := 32) 189 (gd rfl) rfl rfl rfl rfl (Nat.le_of_ble_eq_true rfl) (cp_0 (in_c 0 rfl) rfl) (cp_0 (in_c 0 rfl) rfl) (cp_0 (in_c 32 rfl) rfl) (cp_1 (in_c 0 rfl) (in_c 32 rfl) rfl) (cp_1 (in_c 0 rfl) (in_c 32 rfl) rfl) hI166 rfl rfl rfl rfl (fun s186 hI186 hF186 cp186 => ?_)
            refine g_iconst 0 190 (gd rfl) rfl rfl ?_
            exact g_ireturn (gd rfl) rfl (nb01 (in_w 0 1 (in_c 0 rfl) rfl)) (hP _ _ ⟨s186, hI186, (fr_tr rfl (fr_tr rfl (fr_sI rfl hFc108) hF166) hF186), (Int32.ofInt 0), rfl, rfl, in_w 0 1 (in_c 0 rfl) rfl⟩)
          · skip
            have i169 := z_ne 1 1 c169 i166 rfl
            refine g_iconst 1 173 (gd rfl) rfl rfl ?_
            exact g_ireturn (gd rfl) rfl (nb01 (in_w 0 1 (in_c 1 rfl) rfl)) (hP _ _ ⟨s166, hI166, (fr_tr rfl (fr_sI rfl hFc108) hF166), (Int32.ofInt 1), rfl, rfl, in_w 0 1 (in_c 1 rfl) rfl⟩)
      · skip
        have i114 := r_lt1 0 31 c114 j108_8 ro_60_3 rfl
        have i114a := r_lt2 1 32 c114 j108_8 ro_60_3 rfl
        refine g_aload_n 118 (gd rfl) rfl rfl ?_
        refine g_getA (q2 := 61) 121 (gd rfl) rfl rfl rfl rfl ?_
        refine g_iload 123 (gd rfl) rfl rfl ?_
        refine g_dup2 124 (gd rfl) rfl rfl rfl ?_
        refine g_iaload 125 (gd rfl) rfl (n := 32) rfl (in_ix i114 rfl) (fun z124 e124 => ?_)
        refine g_iload 127 (gd rfl) rfl rfl ?_
        refine g_iand 128 (gd rfl) rfl (fun z127 e127 => ?_)
        refine g_iastore 129 (gd rfl) rfl (n := 32) rfl (in_ix i114 rfl) ?_
        have hI128 := inv_sI (q := 61) (j := y108_8.toNatClampNeg) hIc108 rfl (in_w (-2147483648) 2147483647 (i_rng z127) rfl)
        refine g_iinc 132 (gd rfl) rfl rfl (Nat.le_of_ble_eq_true rfl) (fun z129 e129 => ?_)
        have i129 := in_add 1 32 e129 i114 (in_c 1 rfl) rfl rfl
        refine g_goto 108 (gd rfl) rfl ?_
        exact gg_w (by first | exact Nat.le_add_right _ _ | exact gw2 | exact gw3 | exact gwe rfl | exact gwf rfl | exact gwg rfl | exact gwh rfl | omega) (gg_f (gf_cons rfl (gf_cons rfl (gf_cons rfl (gf_cons rfl (gf_cons rfl (gf_cons rfl (gf_cons rfl (gf_cons rfl (gf_cons rfl gf_nil))))))))) (ih108 (sI sc108 61 y108_8.toNatClampNeg z127) y108_5 y108_6 y108_7 z129 hI128 (fr_sI rfl hFc108) (in_w 0 32 i129 rfl) (m_up mm108 (t_add e129 i114 (in_c 1 rfl) rfl) (in_w 1 1 (in_c 1 rfl) rfl))))
  refine g_enter2 (k := 54) (N := 30601) (by first | exact dq1 hd rfl | exact dq0 hd rfl | exact dq2 hd rfl | exact dq3 hd rfl | omega) rfl (Nat.le_of_ble_eq_true rfl) ?_
  refine g_iconst 1 1 (gd rfl) rfl rfl ?_
  refine g_iload_n 2 (gd rfl) rfl rfl ?_
  refine g_ishl 3 (gd rfl) rfl (fun z2 e2 => ?_)
  refine g_istore 5 (gd rfl) rfl (Nat.le_of_ble_eq_true rfl) ?_
  refine g_iload 7 (gd rfl) rfl rfl ?_
  refine g_iconst 1 8 (gd rfl) rfl rfl ?_
  refine g_isub 9 (gd rfl) rfl (fun z8 e8 => ?_)
  refine g_istore 11 (gd rfl) rfl (Nat.le_of_ble_eq_true rfl) ?_
  refine g_aload_n 12 (gd rfl) rfl rfl ?_
  refine g_getA (q2 := 61) 15 (gd rfl) rfl rfl rfl rfl ?_
  refine g_iload_n 16 (gd rfl) rfl rfl ?_
  refine g_iaload 17 (gd rfl) rfl (n := 32) rfl (in_ix h3 rfl) (fun z16 e16 => ?_)
  refine g_aload_n 18 (gd rfl) rfl rfl ?_
  refine g_getA (q2 := 39) 21 (gd rfl) rfl rfl rfl rfl ?_
  refine g_iload_n 22 (gd rfl) rfl rfl ?_
  refine g_iaload 23 (gd rfl) rfl (n := 32) rfl (in_ix h2 rfl) (fun z22 e22 => ?_)
  refine g_iand 24 (gd rfl) rfl (fun z23 e23 => ?_)
  refine g_iload 26 (gd rfl) rfl rfl ?_
  refine g_iand 27 (gd rfl) rfl (fun z26 e26 => ?_)
  refine g_if_eq 30 32 (gd rfl) rfl rfl (fun c27 => ?_) (fun c27 => ?_)
  · skip
    have i27 := z_eq 0 0 c27 (i_rng z26) rfl
    refine g_aload_n 33 (gd rfl) rfl rfl ?_
    refine g_getA (q2 := 39) 36 (gd rfl) rfl rfl rfl rfl ?_
    refine g_iload 38 (gd rfl) rfl rfl ?_
    refine g_aload_n 39 (gd rfl) rfl rfl ?_
    refine g_getA (q2 := 61) 42 (gd rfl) rfl rfl rfl rfl ?_
    refine g_iload_n 43 (gd rfl) rfl rfl ?_
    refine g_iaload 44 (gd rfl) rfl (n := 32) rfl (in_ix h3 rfl) (fun z43 e43 => ?_)
    have q43 : z16 = z43 := (e16).trans e43.symm
    subst q43
    refine g_aload_n 45 (gd rfl) rfl rfl ?_
    refine g_getA (q2 := 61) 48 (gd rfl) rfl rfl rfl rfl ?_
    refine g_iload 50 (gd rfl) rfl rfl ?_
    refine g_iaload 51 (gd rfl) rfl (n := 32) rfl (in_ix h4 rfl) (fun z50 e50 => ?_)
    refine g_ior 52 (gd rfl) rfl (fun z51 e51 => ?_)
    refine g_calls (As := [.ref (A 39), .int z2, .int z51]) (r := []) 55 (gd rfl) rfl rfl rfl rfl rfl (Nat.le_of_ble_eq_true rfl) (Nat.zero_le _) (Nat.zero_le _) (k_266_39 (by first | exact dq1 hd rfl | exact dq0 hd rfl | exact dq2 hd rfl | exact dq3 hd rfl | omega) hI ) (fun v u h => ?_)
    obtain ⟨z52, rfl, rfl, i52, p52⟩ := h
    show GG _ _ _ _ _ _ _ _ [.int z52] _ _ _
    refine g_istore 57 (gd rfl) rfl (Nat.le_of_ble_eq_true rfl) ?_
    refine g_iload 59 (gd rfl) rfl rfl ?_
    refine g_iload 61 (gd rfl) rfl rfl ?_
    refine g_iand 62 (gd rfl) rfl (fun z61 e61 => ?_)
    refine g_if_ne 65 90 (gd rfl) rfl rfl (fun c62 => ?_) (fun c62 => ?_)
    · skip
      refine g_aload_n 91 (gd rfl) rfl rfl ?_
      refine g_getA (q2 := 61) 94 (gd rfl) rfl rfl rfl rfl ?_
      refine g_iconst 0 95 (gd rfl) rfl rfl ?_
      refine g_aload_n 96 (gd rfl) rfl rfl ?_
      refine g_getA (q2 := 62) 99 (gd rfl) rfl rfl rfl rfl ?_
      refine g_iconst 0 100 (gd rfl) rfl rfl ?_
      refine g_bipush 32 102 (gd rfl) rfl rfl ?_
      refine g_cpI (q2 := 61) (q := 62) (n0 := 32) (n1 := 32) 105 (gd rfl) rfl rfl rfl rfl (Nat.le_of_ble_eq_true rfl) (cp_0 (in_c 0 rfl) rfl) (cp_0 (in_c 0 rfl) rfl) (cp_0 (in_c 32 rfl) rfl) (cp_1 (in_c 0 rfl) (in_c 32 rfl) rfl) (cp_1 (in_c 0 rfl) (in_c 32 rfl) rfl) hI rfl rfl rfl rfl (fun s102 hI102 hF102 cp102 => ?_)
      refine g_iconst 0 106 (gd rfl) rfl rfl ?_
      refine g_istore 108 (gd rfl) rfl (Nat.le_of_ble_eq_true rfl) ?_
      exact gg_w (by first | exact Nat.le_of_ble_eq_true rfl | omega) (gg_f (gf_cons rfl (gf_cons rfl (gf_cons rfl (gf_cons rfl (gf_cons rfl (gf_cons rfl (gf_cons rfl (gf_cons rfl (gf_cons rfl gf_nil))))))))) (ct108 33 s102 z2 z8 z52 (Int32.ofInt 0) hI102 (fr_tr rfl fr_rf hF102) (in_w 0 32 (in_c 0 rfl) rfl) (m_in 33 (in_w 0 32 (in_c 0 rfl) rfl) rfl)))
    · skip
      have i62 := z_eq 0 0 c62 (i_rng z61) rfl
      refine g_aload_n 66 (gd rfl) rfl rfl ?_
      refine g_getA (q2 := 61) 69 (gd rfl) rfl rfl rfl rfl ?_
      refine g_iload_n 70 (gd rfl) rfl rfl ?_
      refine g_dup2 71 (gd rfl) rfl rfl rfl ?_
      refine g_iaload 72 (gd rfl) rfl (n := 32) rfl (in_ix h3 rfl) (fun z71 e71 => ?_)
      have q71 : z16 = z71 := (e16).trans e71.symm
      subst q71
      refine g_iload 74 (gd rfl) rfl rfl ?_
      refine g_ixor 75 (gd rfl) rfl (fun z74 e74 => ?_)
      refine g_iastore 76 (gd rfl) rfl (n := 32) rfl (in_ix h3 rfl) ?_
      have hI75 := inv_sI (q := 61) (j := x3.toNatClampNeg) hI rfl (in_w (-2147483648) 2147483647 (i_rng z74) rfl)
      refine g_aload_n 77 (gd rfl) rfl rfl ?_
      refine g_getA (q2 := 61) 80 (gd rfl) rfl rfl rfl rfl ?_
      refine g_iload 82 (gd rfl) rfl rfl ?_
      refine g_dup2 83 (gd rfl) rfl rfl rfl ?_
      refine g_iaload 84 (gd rfl) rfl (n := 32) rfl (in_ix h4 rfl) (fun z83 e83 => ?_)
      refine g_iload 86 (gd rfl) rfl rfl ?_
      refine g_ixor 87 (gd rfl) rfl (fun z86 e86 => ?_)
      refine g_iastore 88 (gd rfl) rfl (n := 32) rfl (in_ix h4 rfl) ?_
      have hI87 := inv_sI (q := 61) (j := x4.toNatClampNeg) hI75 rfl (in_w (-2147483648) 2147483647 (i_rng z86) rfl)
      refine g_iconst 1 89 (gd rfl) rfl rfl ?_
      exact g_ireturn (gd rfl) rfl (nb01 (in_w 0 1 (in_c 1 rfl) rfl)) (hP _ _ ⟨(sI (sI s 61 x3.toNatClampNeg z74) 61 x4.toNatClampNeg z86), hI87, (fr_sI rfl (fr_sI rfl fr_rf)), (Int32.ofInt 1), rfl, rfl, in_w 0 1 (in_c 1 rfl) rfl⟩)
  · skip
    refine g_iconst 0 31 (gd rfl) rfl rfl ?_
    exact g_ireturn (gd rfl) rfl (nb01 (in_w 0 1 (in_c 0 rfl) rfl)) (hP _ _ ⟨s, hI, fr_rf, (Int32.ofInt 0), rfl, rfl, in_w 0 1 (in_c 0 rfl) rfl⟩)

def fm_63_102_2 : FM := ([9, 10, 11, 12, 13, 14, 15], [105, 106, 107, 108], [(2, 4), (102, 9)], [])
/-- GraphHouse$Engine.work -/
theorem k_63_102_2 {Z : AmZ} {A : Nat → Nat} {s : GS} {ex : va_W} {d : Nat} {X : AmX} {x2 : Int32} (hd : 7 ≤ d) (hI : Inv s) (h2 : In x2 0 200) : GC Z d 63 [.ref (A 102), .ref (A 2), .int x2] (WW Z A s ++ ex) 0 0 (fun v u => ∃ t : GS, Inv t ∧ Fr fm_63_102_2 s t ∧ ∃ z : Int32, v = some (.int z) ∧ u = WW Z A t ++ ex ∧ In z 0 200) X := by
  intro post xp hP hX
  obtain ⟨u_2_1, e_2_1⟩ : ∃ w, w = s.2.2.1 2 1 := ⟨_, rfl⟩
  have ro_2_1 := inv_F hI 0 32 rfl e_2_1
  have ct29 : ∀ (k29 : Nat) (sc29 : GS) (y29_3 : Int32) (w29_2_4 : Int32) (w29_2_0 : Int32), Inv sc29 → Fr fm_63_102_2 s sc29 → (In y29_3 1 400) → (w29_2_4 = sc29.2.2.1 2 4) → (w29_2_0 = sc29.2.2.1 2 0) → ((w29_2_4).toInt = (w29_2_0).toInt) → 400 - (y29_3).toInt < (k29 : Int) → GG Z (d - 1) 63 post (gx xp) (1 + k29 * 900) 29 (fun j => xlook j [(0, .ref (A 102)), (1, .ref (A 2)), (2, .int x2), (3, .int y29_3)]) [] (WW Z A sc29 ++ ex) 0 0 := by
    intro k29
    induction k29 with
    | zero => intro sc29 y29_3 w29_2_4 w29_2_0 hIc29 hFc29 j29_3 v29_2_4 v29_2_0 n29_0 mm29; exact m_no mm29 j29_3 rfl
    | succ k29 ih29 =>
      intro sc29 y29_3 w29_2_4 w29_2_0 hIc29 hFc29 j29_3 v29_2_4 v29_2_0 n29_0 mm29
      refine gg_w (M := 1 + k29 * 900 + 900) gws ?_
      refine g_iload_n 30 (gd rfl) rfl rfl ?_
      refine g_iload_n 31 (gd rfl) rfl rfl ?_
      refine g_cmp_gt 34 66 (gd rfl) rfl rfl (fun c31 => ?_) (fun c31 => ?_)
      · skip
        refine g_iload_n 67 (gd rfl) rfl rfl ?_
        exact g_ireturn (gd rfl) rfl rfl (hP _ _ ⟨sc29, hIc29, hFc29, x2, rfl, rfl, in_w 0 200 h2 rfl⟩)
      · skip
        have i31 := r_le1 1 200 c31 j29_3 h2 rfl
        have i31a := r_le2 1 200 c31 j29_3 h2 rfl
        refine g_aload_n 35 (gd rfl) rfl rfl ?_
        refine g_getA (q2 := 107) 38 (gd rfl) rfl rfl rfl rfl ?_
        refine g_iconst 0 39 (gd rfl) rfl rfl ?_
        refine g_aload_n 40 (gd rfl) rfl rfl ?_
        refine g_getA (q2 := 108) 43 (gd rfl) rfl rfl rfl rfl ?_
        refine g_iconst 0 44 (gd rfl) rfl rfl ?_
        refine g_bipush 32 46 (gd rfl) rfl rfl ?_
        refine g_cpL (q2 := 107) (q := 108) (n0 := 32) (n1 := 32) 49 (gd rfl) rfl rfl rfl rfl (Nat.le_of_ble_eq_true rfl) (cp_0 (in_c 0 rfl) rfl) (cp_0 (in_c 0 rfl) rfl) (cp_0 (in_c 32 rfl) rfl) (cp_1 (in_c 0 rfl) (in_c 32 rfl) rfl) (cp_1 (in_c 0 rfl) (in_c 32 rfl) rfl) hIc29 rfl rfl rfl (fun s46 hI46 hF46 cp46 => ?_)
        refine g_aload_n 50 (gd rfl) rfl rfl ?_
        refine g_aload_n 51 (gd rfl) rfl rfl ?_
        refine g_iload_n 52 (gd rfl) rfl rfl ?_
        have v52 : w29_2_4 = s46.2.2.1 2 4 := fr_F (v29_2_4) hF46 rfl
        have v52a : w29_2_0 = s46.2.2.1 2 0 := fr_F (v29_2_0) hF46 rfl
        have n52 : (w29_2_4).toInt = (w29_2_0).toInt := by first | exact n29_0 | (have a0 := in_u i31a; have a1 := in_u ro_2_1; have a2 := in_u ((inv_F hIc29 0 4000 rfl v29_2_0)); have a3 := in_u ((inv_F hIc29 (-1) 4000 rfl v29_2_4)); have a4 := in_u i31; omega)
        refine g_callv (X := _) (As := [.ref (A 2), .int y29_3]) (r := []) (b := A 102) (q := 102) 55 (gd rfl) rfl rfl rfl rfl rfl (ww_o rfl) (Nat.le_of_ble_eq_true rfl) (Nat.zero_le _) (Nat.zero_le _) (k_64_102_2 (by first | exact dq1 hd rfl | exact dq0 hd rfl | exact dq2 hd rfl | exact dq3 hd rfl | omega) hI46 (in_w 0 200 i31 rfl) v52 v52a n52) (fun e u h => h) (fun v u h => ?_)
        obtain ⟨s52, hI52, hF52, z52, rfl, rfl, i52⟩ := h
        show GG _ _ _ _ _ _ _ _ [.int z52] _ _ _
        refine g_if_ne 58 60 (gd rfl) rfl rfl (fun c55 => ?_) (fun c55 => ?_)
        · skip
          have i55 := z_ne 1 1 c55 i52 rfl
          refine g_iinc 63 (gd rfl) rfl rfl (Nat.le_of_ble_eq_true rfl) (fun z60 e60 => ?_)
          have i60 := in_add 2 201 e60 i31 (in_c 1 rfl) rfl rfl
          refine g_goto 29 (gd rfl) rfl ?_
          have v29 : w29_2_4 = s52.2.2.1 2 4 := fr_F (fr_F (v29_2_4) hF46 rfl) hF52 rfl
          have v29a : w29_2_0 = s52.2.2.1 2 0 := fr_F (fr_F (v29_2_0) hF46 rfl) hF52 rfl
          have n29 : (w29_2_4).toInt = (w29_2_0).toInt := by first | exact n29_0 | (have a0 := in_u i31a; have a1 := in_u ro_2_1; have a2 := in_u ((inv_F hIc29 0 4000 rfl v29_2_0)); have a3 := in_u ((inv_F hIc29 (-1) 4000 rfl v29_2_4)); have a4 := in_u i31; have a5 := in_u i60; have a6 := t_add e60 i31 (in_c 1 rfl) rfl; have a7 := in_u ((in_c 1 rfl)); omega)
          exact gg_w (by first | exact Nat.le_add_right _ _ | exact gw2 | exact gw3 | exact gwe rfl | exact gwf rfl | exact gwg rfl | exact gwh rfl | omega) (gg_f (gf_cons rfl (gf_cons rfl (gf_cons rfl (gf_cons rfl gf_nil)))) (ih29 s52 z60 w29_2_4 w29_2_0 hI52 (fr_tr rfl (fr_tr rfl hFc29 hF46) hF52) (in_w 1 400 i60 rfl) v29 v29a n29 (m_up mm29 (t_add e60 i31 (in_c 1 rfl) rfl) (in_w 1 1 (in_c 1 rfl) rfl))))
        · skip
          have i55 := z_eq 0 0 c55 i52 rfl
          refine g_iload_n 59 (gd rfl) rfl rfl ?_
          exact g_ireturn (gd rfl) rfl rfl (hP _ _ ⟨s52, hI52, (fr_tr rfl (fr_tr rfl hFc29 hF46) hF52), y29_3, rfl, rfl, in_w 0 200 i31 rfl⟩)
  refine g_enter2 (k := 63) (N := 360901) (by first | exact dq1 hd rfl | exact dq0 hd rfl | exact dq2 hd rfl | exact dq3 hd rfl | omega) rfl (Nat.le_of_ble_eq_true rfl) ?_
  refine g_aload_n 1 (gd rfl) rfl rfl ?_
  refine g_callv (X := _) (As := []) (r := []) (b := A 2) (q := 2) 4 (gd rfl) rfl rfl rfl rfl rfl (ww_o rfl) (Nat.le_of_ble_eq_true rfl) (Nat.zero_le _) (Nat.zero_le _) (k_106_2 (by first | exact dq1 hd rfl | exact dq0 hd rfl | exact dq2 hd rfl | exact dq3 hd rfl | omega) hI ) (fun e u h => h) (fun v u h => ?_)
  obtain ⟨s1, hI1, hF1, n1, rfl, rfl⟩ := h
  obtain ⟨z1a, e1⟩ : ∃ w, w = s1.2.2.1 2 4 := ⟨_, rfl⟩
  have i1a := inv_F hI1 (-1) 4000 rfl e1
  obtain ⟨z1b, e1a⟩ : ∃ w, w = s1.2.2.1 2 0 := ⟨_, rfl⟩
  have i1b := inv_F hI1 0 4000 rfl e1a
  rw [← (show z1a = s1.2.2.1 2 4 from e1)] at n1
  rw [← (show z1b = s1.2.2.1 2 0 from e1a)] at n1
  show GG _ _ _ _ _ _ _ _ [] _ _ _
  refine g_aload_n 5 (gd rfl) rfl rfl ?_
  refine g_aload_n 6 (gd rfl) rfl rfl ?_
  refine g_getI 9 (gd rfl) rfl rfl rfl (fun z6 e6 => ?_)
  have q6 : u_2_1 = z6 := (fr_F (e_2_1) hF1 rfl).trans e6.symm
  subst q6
  refine g_putI 12 (gd rfl) rfl rfl rfl rfl ?_
  have hI9 := inv_sF (q := 102) (j := 9) hI1 rfl (in_w 0 32 ro_2_1 rfl)
  refine g_aload_n 13 (gd rfl) rfl rfl ?_
  refine g_getA (q2 := 108) 16 (gd rfl) rfl rfl rfl rfl ?_
  refine g_lconst 0 17 (gd rfl) rfl rfl ?_
  refine g_calls (As := [.ref (A 108), .long (Int64.ofInt 0)]) (r := []) 20 (gd rfl) rfl rfl rfl rfl rfl (Nat.le_of_ble_eq_true rfl) (Nat.zero_le _) (Nat.zero_le _) (k_fillL 108 (by first | exact dq1 hd rfl | exact dq0 hd rfl | exact dq2 hd rfl | exact dq3 hd rfl | omega) hI9 (n := 32) rfl rfl rfl (l_rng (Int64.ofInt 0))) (fun v u h => ?_)
  obtain ⟨s17, hI17, hF17, rfl, rfl, fl17⟩ := h
  show GG _ _ _ _ _ _ _ _ [] _ _ _
  refine g_aload_n 21 (gd rfl) rfl rfl ?_
  refine g_aload_n 22 (gd rfl) rfl rfl ?_
  refine g_iconst 0 23 (gd rfl) rfl rfl ?_
  have v23 : z1a = s17.2.2.1 2 4 := fr_F (s := (sF s1 102 9 u_2_1)) (sF_ne rfl (e1)) hF17 rfl
  have v23a : z1b = s17.2.2.1 2 0 := fr_F (s := (sF s1 102 9 u_2_1)) (sF_ne rfl (e1a)) hF17 rfl
  have n23 : (z1a).toInt = (z1b).toInt := by have a0 := in_u ro_2_1; have a1 := in_u h2; have a2 := in_u i1b; have a3 := in_u i1a; omega
  refine g_callv (X := _) (As := [.ref (A 2), .int (Int32.ofInt 0)]) (r := []) (b := A 102) (q := 102) 26 (gd rfl) rfl rfl rfl rfl rfl (ww_o rfl) (Nat.le_of_ble_eq_true rfl) (Nat.zero_le _) (Nat.zero_le _) (k_64_102_2 (by first | exact dq1 hd rfl | exact dq0 hd rfl | exact dq2 hd rfl | exact dq3 hd rfl | omega) hI17 (in_w 0 200 (in_c 0 rfl) rfl) v23 v23a n23) (fun e u h => h) (fun v u h => ?_)
  obtain ⟨s23, hI23, hF23, z23, rfl, rfl, i23⟩ := h
  show GG _ _ _ _ _ _ _ _ [.int z23] _ _ _
  refine g_pop 27 (gd rfl) rfl rfl ?_
  refine g_iconst 1 28 (gd rfl) rfl rfl ?_
  refine g_istore_n 29 (gd rfl) rfl (Nat.le_of_ble_eq_true rfl) ?_
  have v29 : z1a = s23.2.2.1 2 4 := fr_F (fr_F (s := (sF s1 102 9 u_2_1)) (sF_ne rfl (e1)) hF17 rfl) hF23 rfl
  have v29a : z1b = s23.2.2.1 2 0 := fr_F (fr_F (s := (sF s1 102 9 u_2_1)) (sF_ne rfl (e1a)) hF17 rfl) hF23 rfl
  have n29 : (z1a).toInt = (z1b).toInt := by have a0 := in_u ro_2_1; have a1 := in_u h2; have a2 := in_u ((in_c 1 rfl)); have a3 := in_u i1b; have a4 := in_u i1a; omega
  exact gg_w (by first | exact Nat.le_of_ble_eq_true rfl | omega) (gg_f (gf_cons rfl (gf_cons rfl (gf_cons rfl (gf_cons rfl gf_nil)))) (ct29 400 s23 (Int32.ofInt 1) z1a z1b hI23 (fr_tr rfl (fr_tr rfl (fr_sF rfl (fr_tr rfl fr_rf hF1)) hF17) hF23) (in_w 1 400 (in_c 1 rfl) rfl) v29 v29a n29 (m_in 400 (in_w 1 400 (in_c 1 rfl) rfl) rfl)))

def fm_63_102_32 : FM := ([39, 40, 41, 42, 43, 44, 45], [105, 106, 107, 108], [(32, 4), (102, 9)], [])
/-- GraphHouse$Engine.work -/
theorem k_63_102_32 {Z : AmZ} {A : Nat → Nat} {s : GS} {ex : va_W} {d : Nat} {X : AmX} {x2 : Int32} (hd : 7 ≤ d) (hI : Inv s) (h2 : In x2 0 200) : GC Z d 63 [.ref (A 102), .ref (A 32), .int x2] (WW Z A s ++ ex) 0 0 (fun v u => ∃ t : GS, Inv t ∧ Fr fm_63_102_32 s t ∧ ∃ z : Int32, v = some (.int z) ∧ u = WW Z A t ++ ex ∧ In z 0 200) X := by
  intro post xp hP hX
  obtain ⟨u_32_1, e_32_1⟩ : ∃ w, w = s.2.2.1 32 1 := ⟨_, rfl⟩
  have ro_32_1 := inv_F hI 0 32 rfl e_32_1
  have ct29 : ∀ (k29 : Nat) (sc29 : GS) (y29_3 : Int32) (w29_32_4 : Int32) (w29_32_0 : Int32), Inv sc29 → Fr fm_63_102_32 s sc29 → (In y29_3 1 400) → (w29_32_4 = sc29.2.2.1 32 4) → (w29_32_0 = sc29.2.2.1 32 0) → ((w29_32_4).toInt = (w29_32_0).toInt) → 400 - (y29_3).toInt < (k29 : Int) → GG Z (d - 1) 63 post (gx xp) (1 + k29 * 900) 29 (fun j => xlook j [(0, .ref (A 102)), (1, .ref (A 32)), (2, .int x2), (3, .int y29_3)]) [] (WW Z A sc29 ++ ex) 0 0 := by
    intro k29
    induction k29 with
    | zero => intro sc29 y29_3 w29_32_4 w29_32_0 hIc29 hFc29 j29_3 v29_32_4 v29_32_0 n29_0 mm29; exact m_no mm29 j29_3 rfl
    | succ k29 ih29 =>
      intro sc29 y29_3 w29_32_4 w29_32_0 hIc29 hFc29 j29_3 v29_32_4 v29_32_0 n29_0 mm29
      refine gg_w (M := 1 + k29 * 900 + 900) gws ?_
      refine g_iload_n 30 (gd rfl) rfl rfl ?_
      refine g_iload_n 31 (gd rfl) rfl rfl ?_
      refine g_cmp_gt 34 66 (gd rfl) rfl rfl (fun c31 => ?_) (fun c31 => ?_)
      · skip
        refine g_iload_n 67 (gd rfl) rfl rfl ?_
        exact g_ireturn (gd rfl) rfl rfl (hP _ _ ⟨sc29, hIc29, hFc29, x2, rfl, rfl, in_w 0 200 h2 rfl⟩)
      · skip
        have i31 := r_le1 1 200 c31 j29_3 h2 rfl
        have i31a := r_le2 1 200 c31 j29_3 h2 rfl
        refine g_aload_n 35 (gd rfl) rfl rfl ?_
        refine g_getA (q2 := 107) 38 (gd rfl) rfl rfl rfl rfl ?_
        refine g_iconst 0 39 (gd rfl) rfl rfl ?_
        refine g_aload_n 40 (gd rfl) rfl rfl ?_
        refine g_getA (q2 := 108) 43 (gd rfl) rfl rfl rfl rfl ?_
        refine g_iconst 0 44 (gd rfl) rfl rfl ?_
        refine g_bipush 32 46 (gd rfl) rfl rfl ?_
        refine g_cpL (q2 := 107) (q := 108) (n0 := 32) (n1 := 32) 49 (gd rfl) rfl rfl rfl rfl (Nat.le_of_ble_eq_true rfl) (cp_0 (in_c 0 rfl) rfl) (cp_0 (in_c 0 rfl) rfl) (cp_0 (in_c 32 rfl) rfl) (cp_1 (in_c 0 rfl) (in_c 32 rfl) rfl) (cp_1 (in_c 0 rfl) (in_c 32 rfl) rfl) hIc29 rfl rfl rfl (fun s46 hI46 hF46 cp46 => ?_)
        refine g_aload_n 50 (gd rfl) rfl rfl ?_
        refine g_aload_n 51 (gd rfl) rfl rfl ?_
        refine g_iload_n 52 (gd rfl) rfl rfl ?_
        have v52 : w29_32_4 = s46.2.2.1 32 4 := fr_F (v29_32_4) hF46 rfl
        have v52a : w29_32_0 = s46.2.2.1 32 0 := fr_F (v29_32_0) hF46 rfl
        have n52 : (w29_32_4).toInt = (w29_32_0).toInt := by first | exact n29_0 | (have a0 := in_u i31a; have a1 := in_u ro_32_1; have a2 := in_u ((inv_F hIc29 0 4000 rfl v29_32_0)); have a3 := in_u ((inv_F hIc29 (-1) 4000 rfl v29_32_4)); have a4 := in_u i31; omega)
        refine g_callv (X := _) (As := [.ref (A 32), .int y29_3]) (r := []) (b := A 102) (q := 102) 55 (gd rfl) rfl rfl rfl rfl rfl (ww_o rfl) (Nat.le_of_ble_eq_true rfl) (Nat.zero_le _) (Nat.zero_le _) (k_64_102_32 (by first | exact dq1 hd rfl | exact dq0 hd rfl | exact dq2 hd rfl | exact dq3 hd rfl | omega) hI46 (in_w 0 200 i31 rfl) v52 v52a n52) (fun e u h => h) (fun v u h => ?_)
        obtain ⟨s52, hI52, hF52, z52, rfl, rfl, i52⟩ := h
        show GG _ _ _ _ _ _ _ _ [.int z52] _ _ _
        refine g_if_ne 58 60 (gd rfl) rfl rfl (fun c55 => ?_) (fun c55 => ?_)
        · skip
          have i55 := z_ne 1 1 c55 i52 rfl
          refine g_iinc 63 (gd rfl) rfl rfl (Nat.le_of_ble_eq_true rfl) (fun z60 e60 => ?_)
          have i60 := in_add 2 201 e60 i31 (in_c 1 rfl) rfl rfl
          refine g_goto 29 (gd rfl) rfl ?_
          have v29 : w29_32_4 = s52.2.2.1 32 4 := fr_F (fr_F (v29_32_4) hF46 rfl) hF52 rfl
          have v29a : w29_32_0 = s52.2.2.1 32 0 := fr_F (fr_F (v29_32_0) hF46 rfl) hF52 rfl
          have n29 : (w29_32_4).toInt = (w29_32_0).toInt := by first | exact n29_0 | (have a0 := in_u i31a; have a1 := in_u ro_32_1; have a2 := in_u ((inv_F hIc29 0 4000 rfl v29_32_0)); have a3 := in_u ((inv_F hIc29 (-1) 4000 rfl v29_32_4)); have a4 := in_u i31; have a5 := in_u i60; have a6 := t_add e60 i31 (in_c 1 rfl) rfl; have a7 := in_u ((in_c 1 rfl)); omega)
          exact gg_w (by first | exact Nat.le_add_right _ _ | exact gw2 | exact gw3 | exact gwe rfl | exact gwf rfl | exact gwg rfl | exact gwh rfl | omega) (gg_f (gf_cons rfl (gf_cons rfl (gf_cons rfl (gf_cons rfl gf_nil)))) (ih29 s52 z60 w29_32_4 w29_32_0 hI52 (fr_tr rfl (fr_tr rfl hFc29 hF46) hF52) (in_w 1 400 i60 rfl) v29 v29a n29 (m_up mm29 (t_add e60 i31 (in_c 1 rfl) rfl) (in_w 1 1 (in_c 1 rfl) rfl))))
        · skip
          have i55 := z_eq 0 0 c55 i52 rfl
          refine g_iload_n 59 (gd rfl) rfl rfl ?_
          exact g_ireturn (gd rfl) rfl rfl (hP _ _ ⟨s52, hI52, (fr_tr rfl (fr_tr rfl hFc29 hF46) hF52), y29_3, rfl, rfl, in_w 0 200 i31 rfl⟩)
  refine g_enter2 (k := 63) (N := 360901) (by first | exact dq1 hd rfl | exact dq0 hd rfl | exact dq2 hd rfl | exact dq3 hd rfl | omega) rfl (Nat.le_of_ble_eq_true rfl) ?_
  refine g_aload_n 1 (gd rfl) rfl rfl ?_
  refine g_callv (X := _) (As := []) (r := []) (b := A 32) (q := 32) 4 (gd rfl) rfl rfl rfl rfl rfl (ww_o rfl) (Nat.le_of_ble_eq_true rfl) (Nat.zero_le _) (Nat.zero_le _) (k_106_32 (by first | exact dq1 hd rfl | exact dq0 hd rfl | exact dq2 hd rfl | exact dq3 hd rfl | omega) hI ) (fun e u h => h) (fun v u h => ?_)
  obtain ⟨s1, hI1, hF1, n1, rfl, rfl⟩ := h
  obtain ⟨z1a, e1⟩ : ∃ w, w = s1.2.2.1 32 4 := ⟨_, rfl⟩
  have i1a := inv_F hI1 (-1) 4000 rfl e1
  obtain ⟨z1b, e1a⟩ : ∃ w, w = s1.2.2.1 32 0 := ⟨_, rfl⟩
  have i1b := inv_F hI1 0 4000 rfl e1a
  rw [← (show z1a = s1.2.2.1 32 4 from e1)] at n1
  rw [← (show z1b = s1.2.2.1 32 0 from e1a)] at n1
  show GG _ _ _ _ _ _ _ _ [] _ _ _
  refine g_aload_n 5 (gd rfl) rfl rfl ?_
  refine g_aload_n 6 (gd rfl) rfl rfl ?_
  refine g_getI 9 (gd rfl) rfl rfl rfl (fun z6 e6 => ?_)
  have q6 : u_32_1 = z6 := (fr_F (e_32_1) hF1 rfl).trans e6.symm
  subst q6
  refine g_putI 12 (gd rfl) rfl rfl rfl rfl ?_
  have hI9 := inv_sF (q := 102) (j := 9) hI1 rfl (in_w 0 32 ro_32_1 rfl)
  refine g_aload_n 13 (gd rfl) rfl rfl ?_
  refine g_getA (q2 := 108) 16 (gd rfl) rfl rfl rfl rfl ?_
  refine g_lconst 0 17 (gd rfl) rfl rfl ?_
  refine g_calls (As := [.ref (A 108), .long (Int64.ofInt 0)]) (r := []) 20 (gd rfl) rfl rfl rfl rfl rfl (Nat.le_of_ble_eq_true rfl) (Nat.zero_le _) (Nat.zero_le _) (k_fillL 108 (by first | exact dq1 hd rfl | exact dq0 hd rfl | exact dq2 hd rfl | exact dq3 hd rfl | omega) hI9 (n := 32) rfl rfl rfl (l_rng (Int64.ofInt 0))) (fun v u h => ?_)
  obtain ⟨s17, hI17, hF17, rfl, rfl, fl17⟩ := h
  show GG _ _ _ _ _ _ _ _ [] _ _ _
  refine g_aload_n 21 (gd rfl) rfl rfl ?_
  refine g_aload_n 22 (gd rfl) rfl rfl ?_
  refine g_iconst 0 23 (gd rfl) rfl rfl ?_
  have v23 : z1a = s17.2.2.1 32 4 := fr_F (s := (sF s1 102 9 u_32_1)) (sF_ne rfl (e1)) hF17 rfl
  have v23a : z1b = s17.2.2.1 32 0 := fr_F (s := (sF s1 102 9 u_32_1)) (sF_ne rfl (e1a)) hF17 rfl
  have n23 : (z1a).toInt = (z1b).toInt := by have a0 := in_u ro_32_1; have a1 := in_u h2; have a2 := in_u i1b; have a3 := in_u i1a; omega
  refine g_callv (X := _) (As := [.ref (A 32), .int (Int32.ofInt 0)]) (r := []) (b := A 102) (q := 102) 26 (gd rfl) rfl rfl rfl rfl rfl (ww_o rfl) (Nat.le_of_ble_eq_true rfl) (Nat.zero_le _) (Nat.zero_le _) (k_64_102_32 (by first | exact dq1 hd rfl | exact dq0 hd rfl | exact dq2 hd rfl | exact dq3 hd rfl | omega) hI17 (in_w 0 200 (in_c 0 rfl) rfl) v23 v23a n23) (fun e u h => h) (fun v u h => ?_)
  obtain ⟨s23, hI23, hF23, z23, rfl, rfl, i23⟩ := h
  show GG _ _ _ _ _ _ _ _ [.int z23] _ _ _
  refine g_pop 27 (gd rfl) rfl rfl ?_
  refine g_iconst 1 28 (gd rfl) rfl rfl ?_
  refine g_istore_n 29 (gd rfl) rfl (Nat.le_of_ble_eq_true rfl) ?_
  have v29 : z1a = s23.2.2.1 32 4 := fr_F (fr_F (s := (sF s1 102 9 u_32_1)) (sF_ne rfl (e1)) hF17 rfl) hF23 rfl
  have v29a : z1b = s23.2.2.1 32 0 := fr_F (fr_F (s := (sF s1 102 9 u_32_1)) (sF_ne rfl (e1a)) hF17 rfl) hF23 rfl
  have n29 : (z1a).toInt = (z1b).toInt := by have a0 := in_u ro_32_1; have a1 := in_u h2; have a2 := in_u ((in_c 1 rfl)); have a3 := in_u i1b; have a4 := in_u i1a; omega
  exact gg_w (by first | exact Nat.le_of_ble_eq_true rfl | omega) (gg_f (gf_cons rfl (gf_cons rfl (gf_cons rfl (gf_cons rfl gf_nil)))) (ct29 400 s23 (Int32.ofInt 1) z1a z1b hI23 (fr_tr rfl (fr_tr rfl (fr_sF rfl (fr_tr rfl fr_rf hF1)) hF17) hF23) (in_w 1 400 (in_c 1 rfl) rfl) v29 v29a n29 (m_in 400 (in_w 1 400 (in_c 1 rfl) rfl) rfl)))

def fm_81_65 : FM := ([68, 73, 74], [75], [], [])
/-- GraphHouse$Flows.turnEarners -/
theorem k_81_65 {Z : AmZ} {A : Nat → Nat} {s : GS} {ex : va_W} {d : Nat} {X : AmX} {x1 : Int32} {x2 : Int32} {x3 : Int32} (hd : 3 ≤ d) (hI : Inv s) (h1 : In x1 0 32) (h2 : In x2 1 1048576) (h3 : In x3 1 65536) : GC Z d 81 [.ref (A 65), .int x1, .int x2, .int x3] (WW Z A s ++ ex) 0 0 (fun v u => ∃ t : GS, Inv t ∧ Fr fm_81_65 s t ∧ v = none ∧ u = WW Z A t ++ ex) X := by
  intro post xp hP hX
  obtain ⟨u_65_8, e_65_8⟩ : ∃ w, w = s.2.2.1 65 8 := ⟨_, rfl⟩
  have ro_65_8 := inv_F hI 0 160 rfl e_65_8
  have ct17 : ∀ (k17 : Nat) (sc17 : GS) (y17_4 : Int32), Inv sc17 → Fr fm_81_65 s sc17 → (In y17_4 0 160) → 160 - (y17_4).toInt < (k17 : Int) → GG Z (d - 1) 81 post (gx xp) (1 + k17 * 900) 17 (fun j => xlook j [(0, .ref (A 65)), (1, .int x1), (2, .int x2), (3, .int x3), (4, .int y17_4)]) [] (WW Z A sc17 ++ ex) 0 0 := by
    intro k17
    induction k17 with
    | zero => intro sc17 y17_4 hIc17 hFc17 j17_4 mm17; exact m_no mm17 j17_4 rfl
    | succ k17 ih17 =>
      intro sc17 y17_4 hIc17 hFc17 j17_4 mm17
      refine gg_w (M := 1 + k17 * 900 + 900) gws ?_
      refine g_iload 19 (gd rfl) rfl rfl ?_
      refine g_aload_n 20 (gd rfl) rfl rfl ?_
      refine g_getI 23 (gd rfl) rfl rfl rfl (fun z20 e20 => ?_)
      have q20 : u_65_8 = z20 := (fr_F e_65_8 hFc17 rfl).trans e20.symm
      subst q20
      refine g_cmp_ge 26 141 (gd rfl) rfl rfl (fun c23 => ?_) (fun c23 => ?_)
      · skip
        exact g_return (gd rfl) rfl (hP _ _ ⟨sc17, hIc17, hFc17, rfl, rfl⟩)
      · skip
        have i23 := r_lt1 0 159 c23 j17_4 ro_65_8 rfl
        have i23a := r_lt2 1 160 c23 j17_4 ro_65_8 rfl
        refine g_aload_n 27 (gd rfl) rfl rfl ?_
        refine g_getA (q2 := 75) 30 (gd rfl) rfl rfl rfl rfl ?_
        refine g_aload_n 31 (gd rfl) rfl rfl ?_
        refine g_getA (q2 := 69) 34 (gd rfl) rfl rfl rfl rfl ?_
        refine g_iload 36 (gd rfl) rfl rfl ?_
        refine g_iaload 37 (gd rfl) rfl (n := 160) rfl (in_ix i23 rfl) (fun z36 e36 => ?_)
        have i36 := inv_I hIc17 (n := 160) (t := 0) 0 31 rfl (in_ix i23 rfl) rfl e36
        refine g_laload 38 (gd rfl) rfl (n := 32) rfl (in_ix i36 rfl) (fun z37 e37 => ?_)
        refine g_aload_n 39 (gd rfl) rfl rfl ?_
        refine g_getA (q2 := 71) 42 (gd rfl) rfl rfl rfl rfl ?_
        refine g_iload 44 (gd rfl) rfl rfl ?_
        refine g_iaload 45 (gd rfl) rfl (n := 160) rfl (in_ix i23 rfl) (fun z44 e44 => ?_)
        have i44 := inv_I hIc17 (n := 160) (t := 0) (-1000000) 1000000 rfl (in_ix i23 rfl) rfl e44
        refine g_i2l 46 (gd rfl) rfl (fun z45 e45 => ?_)
        have i45 := l_i e45 i44
        refine g_ladd 47 (gd rfl) rfl (fun z46 e46 => ?_)
        refine g_aload_n 48 (gd rfl) rfl rfl ?_
        refine g_getA (q2 := 75) 51 (gd rfl) rfl rfl rfl rfl ?_
        refine g_aload_n 52 (gd rfl) rfl rfl ?_
        refine g_getA (q2 := 70) 55 (gd rfl) rfl rfl rfl rfl ?_
        refine g_iload 57 (gd rfl) rfl rfl ?_
        refine g_iaload 58 (gd rfl) rfl (n := 160) rfl (in_ix i23 rfl) (fun z57 e57 => ?_)
        have i57 := inv_I hIc17 (n := 160) (t := 0) 0 31 rfl (in_ix i23 rfl) rfl e57
        refine g_laload 59 (gd rfl) rfl (n := 32) rfl (in_ix i57 rfl) (fun z58 e58 => ?_)
        refine g_lsub 60 (gd rfl) rfl (fun z59 e59 => ?_)
        refine g_lstore 62 (gd rfl) rfl (Nat.le_of_ble_eq_true rfl) ?_
        refine g_aload_n 63 (gd rfl) rfl rfl ?_
        refine g_getA (q2 := 72) 66 (gd rfl) rfl rfl rfl rfl ?_
        refine g_iload 68 (gd rfl) rfl rfl ?_
        refine g_iaload 69 (gd rfl) rfl (n := 160) rfl (in_ix i23 rfl) (fun z68 e68 => ?_)
        have i68 := inv_I hIc17 (n := 160) (t := 0) 0 1000000 rfl (in_ix i23 rfl) rfl e68
        refine g_aload_n 70 (gd rfl) rfl rfl ?_
        refine g_getA (q2 := 73) 73 (gd rfl) rfl rfl rfl rfl ?_
        refine g_iload 75 (gd rfl) rfl rfl ?_
        refine g_iaload 76 (gd rfl) rfl (n := 160) rfl (in_ix i23 rfl) (fun z75 e75 => ?_)
        refine g_isub 77 (gd rfl) rfl (fun z76 e76 => ?_)
        refine g_istore 79 (gd rfl) rfl (Nat.le_of_ble_eq_true rfl) ?_
        refine g_lload 81 (gd rfl) rfl rfl ?_
        refine g_lconst 0 82 (gd rfl) rfl rfl ?_
        refine g_lcmp 83 (gd rfl) rfl (fun z82 e82 => ?_)
        have i82 := lc_in e82
        refine g_if_ge 86 103 (gd rfl) rfl rfl (fun c83 => ?_) (fun c83 => ?_)
        · skip
          have i83 := z_ge 0 1 c83 i82 rfl
          have c83a := lc_ge e82 c83
          have i83a := lr_le2 0 9223372036854775807 c83a (l_c 0 rfl) (l_rng z59) rfl
          refine g_lload 105 (gd rfl) rfl rfl ?_
          refine g_lconst 0 106 (gd rfl) rfl rfl ?_
          refine g_lcmp 107 (gd rfl) rfl (fun z106 e106 => ?_)
          have i106 := lc_in e106
          refine g_if_le 110 135 (gd rfl) rfl rfl (fun c107 => ?_) (fun c107 => ?_)
          · skip
            have i107 := z_le (-1) 0 c107 i106 rfl
            have c107a := lc_le e106 c107
            have i107a := lr_le1 0 0 c107a i83a (l_c 0 rfl) rfl
            refine g_iinc 138 (gd rfl) rfl rfl (Nat.le_of_ble_eq_true rfl) (fun z135 e135 => ?_)
            have i135 := in_add 1 160 e135 i23 (in_c 1 rfl) rfl rfl
            refine g_goto 17 (gd rfl) rfl ?_
            exact gg_w (by first | exact Nat.le_add_right _ _ | exact gw2 | exact gw3 | exact gwe rfl | exact gwf rfl | exact gwg rfl | exact gwh rfl | omega) (gg_f (gf_cons rfl (gf_cons rfl (gf_cons rfl (gf_cons rfl (gf_cons rfl gf_nil))))) (ih17 sc17 z135 hIc17 hFc17 (in_w 0 160 i135 rfl) (m_up mm17 (t_add e135 i23 (in_c 1 rfl) rfl) (in_w 1 1 (in_c 1 rfl) rfl))))
          · skip
            have i107 := z_gt 1 1 c107 i106 rfl
            have c107a := lc_gt e106 c107
            have i107a := lr_lt2 1 9223372036854775807 c107a (l_c 0 rfl) i83a rfl
            refine g_aload_n 111 (gd rfl) rfl rfl ?_
            refine g_getA (q2 := 73) 114 (gd rfl) rfl rfl rfl rfl ?_
            refine g_iload 116 (gd rfl) rfl rfl ?_
            refine g_iaload 117 (gd rfl) rfl (n := 160) rfl (in_ix i23 rfl) (fun z116 e116 => ?_)
            have q116 : z75 = z116 := (e75).trans e116.symm
            subst q116
            refine g_iload_n 118 (gd rfl) rfl rfl ?_
            refine g_cmp_lt 121 135 (gd rfl) rfl rfl (fun c118 => ?_) (fun c118 => ?_)
            · skip
              have i118 := r_lt1 (-2147483648) 65535 c118 (i_rng z75) h3 rfl
              refine g_iinc 138 (gd rfl) rfl rfl (Nat.le_of_ble_eq_true rfl) (fun z135 e135 => ?_)
              have i135 := in_add 1 160 e135 i23 (in_c 1 rfl) rfl rfl
              refine g_goto 17 (gd rfl) rfl ?_
              exact gg_w (by first | exact Nat.le_add_right _ _ | exact gw2 | exact gw3 | exact gwe rfl | exact gwf rfl | exact gwg rfl | exact gwh rfl | omega) (gg_f (gf_cons rfl (gf_cons rfl (gf_cons rfl (gf_cons rfl (gf_cons rfl gf_nil))))) (ih17 sc17 z135 hIc17 hFc17 (in_w 0 160 i135 rfl) (m_up mm17 (t_add e135 i23 (in_c 1 rfl) rfl) (in_w 1 1 (in_c 1 rfl) rfl))))
            · skip
              have i118 := r_le2 1 2147483647 c118 h3 (i_rng z75) rfl
              refine g_aload_n 122 (gd rfl) rfl rfl ?_
              refine g_iload 124 (gd rfl) rfl rfl ?_
              refine g_aload_n 125 (gd rfl) rfl rfl ?_
              refine g_getA (q2 := 73) 128 (gd rfl) rfl rfl rfl rfl ?_
              refine g_iload 130 (gd rfl) rfl rfl ?_
              refine g_iaload 131 (gd rfl) rfl (n := 160) rfl (in_ix i23 rfl) (fun z130 e130 => ?_)
              have q130 : z75 = z130 := (e75).trans e130.symm
              subst q130
              refine g_ineg 132 (gd rfl) rfl (fun z131 e131 => ?_)
              have i131 := in_neg (-2147483647) (-1) e131 i118 rfl
              refine g_callv (X := _) (As := [.int y17_4, .int z131]) (r := []) (b := A 65) (q := 65) 135 (gd rfl) rfl rfl rfl rfl rfl (ww_o rfl) (Nat.le_of_ble_eq_true rfl) (mc := 0) (ms := 0) (Nat.zero_le _) (Nat.zero_le _) (P := fun v u => _) ?_ (fun e u h => h) (fun v u h => h)
              intro po132 xx132 hp132 hx132
              refine g_enter2 (k := 82) (N := 300) (by first | exact dq1 hd rfl | exact dq0 hd rfl | exact dq2 hd rfl | exact dq3 hd rfl | omega) rfl (Nat.le_of_ble_eq_true rfl) ?_
              refine g_aload_n 1 (gd rfl) rfl rfl ?_
              refine g_getA (q2 := 73) 4 (gd rfl) rfl rfl rfl rfl ?_
              refine g_iload_n 5 (gd rfl) rfl rfl ?_
              refine g_dup2 6 (gd rfl) rfl rfl rfl ?_
              refine g_iaload 7 (gd rfl) rfl (n := 160) rfl (in_ix i23 rfl) (fun z132x6 e132x6 => ?_)
              have q132x6 : z75 = z132x6 := (e75).trans e132x6.symm
              subst q132x6
              refine g_iload_n 8 (gd rfl) rfl rfl ?_
              refine g_iadd 9 (gd rfl) rfl (fun z132x8 e132x8 => ?_)
              have i132x8 := in_add (-2147483646) 2147483646 e132x8 i118 i131 rfl rfl
              refine g_iastore 10 (gd rfl) rfl (n := 160) rfl (in_ix i23 rfl) ?_
              have hI132x9 := inv_sI (q := 73) (j := y17_4.toNatClampNeg) hIc17 rfl (in_w (-2147483648) 2147483647 i132x8 rfl)
              refine g_aload_n 11 (gd rfl) rfl rfl ?_
              refine g_getA (q2 := 74) 14 (gd rfl) rfl rfl rfl rfl ?_
              refine g_aload_n 15 (gd rfl) rfl rfl ?_
              refine g_getA (q2 := 70) 18 (gd rfl) rfl rfl rfl rfl ?_
              refine g_iload_n 19 (gd rfl) rfl rfl ?_
              refine g_iaload 20 (gd rfl) rfl (n := 160) rfl (in_ix i23 rfl) (fun z132x19 e132x19 => ?_)
              have q132x19 : z57 = z132x19 := (sI_ne rfl (e57)).trans e132x19.symm
              subst q132x19
              refine g_dup2 21 (gd rfl) rfl rfl rfl ?_
              refine g_iaload 22 (gd rfl) rfl (n := 32) rfl (in_ix i57 rfl) (fun z132x21 e132x21 => ?_)
              refine g_iload_n 23 (gd rfl) rfl rfl ?_
              refine g_iadd 24 (gd rfl) rfl (fun z132x23 e132x23 => ?_)
              refine g_iastore 25 (gd rfl) rfl (n := 32) rfl (in_ix i57 rfl) ?_
              have hI132x24 := inv_sI (q := 74) (j := z57.toNatClampNeg) hI132x9 rfl (in_w (-2147483648) 2147483647 (i_rng z132x23) rfl)
              refine g_aload_n 26 (gd rfl) rfl rfl ?_
              refine g_getA (q2 := 74) 29 (gd rfl) rfl rfl rfl rfl ?_
              refine g_aload_n 30 (gd rfl) rfl rfl ?_
              refine g_getA (q2 := 69) 33 (gd rfl) rfl rfl rfl rfl ?_
              refine g_iload_n 34 (gd rfl) rfl rfl ?_
              refine g_iaload 35 (gd rfl) rfl (n := 160) rfl (in_ix i23 rfl) (fun z132x34 e132x34 => ?_)
              have q132x34 : z36 = z132x34 := (sI_ne rfl (sI_ne rfl (e36))).trans e132x34.symm
              subst q132x34
              refine g_dup2 36 (gd rfl) rfl rfl rfl ?_
              refine g_iaload 37 (gd rfl) rfl (n := 32) rfl (in_ix i36 rfl) (fun z132x36 e132x36 => ?_)
              refine g_iload_n 38 (gd rfl) rfl rfl ?_
              refine g_isub 39 (gd rfl) rfl (fun z132x38 e132x38 => ?_)
              refine g_iastore 40 (gd rfl) rfl (n := 32) rfl (in_ix i36 rfl) ?_
              have hI132x39 := inv_sI (q := 74) (j := z36.toNatClampNeg) hI132x24 rfl (in_w (-2147483648) 2147483647 (i_rng z132x38) rfl)
              refine g_return (gd rfl) rfl (hp132 _ _ ?_)
              show GG _ _ _ _ _ _ _ _ [] _ _ _
              refine g_iinc 138 (gd rfl) rfl rfl (Nat.le_of_ble_eq_true rfl) (fun z135 e135 => ?_)
              have i135 := in_add 1 160 e135 i23 (in_c 1 rfl) rfl rfl
              refine g_goto 17 (gd rfl) rfl ?_
              exact gg_w (by first | exact Nat.le_add_right _ _ | exact gw2 | exact gw3 | exact gwe rfl | exact gwf rfl | exact gwg rfl | exact gwh rfl | omega) (gg_f (gf_cons rfl (gf_cons rfl (gf_cons rfl (gf_cons rfl (gf_cons rfl gf_nil))))) (ih17 (sI (sI (sI sc17 73 y17_4.toNatClampNeg z132x8) 74 z57.toNatClampNeg z132x23) 74 z36.toNatClampNeg z132x38) z135 hI132x39 (fr_sI rfl (fr_sI rfl (fr_sI rfl hFc17))) (in_w 0 160 i135 rfl) (m_up mm17 (t_add e135 i23 (in_c 1 rfl) rfl) (in_w 1 1 (in_c 1 rfl) rfl))))
        · skip
          have i83 := z_lt (-1) (-1) c83 i82 rfl
          have c83a := lc_lt e82 c83
          have i83a := lr_lt1 (-9223372036854775808) (-1) c83a (l_rng z59) (l_c 0 rfl) rfl
          refine g_iload 88 (gd rfl) rfl rfl ?_
          refine g_iload_n 89 (gd rfl) rfl rfl ?_
          refine g_cmp_lt 92 103 (gd rfl) rfl rfl (fun c89 => ?_) (fun c89 => ?_)
          · skip
            have i89 := r_lt1 (-2147483648) 65535 c89 (i_rng z76) h3 rfl
            refine g_lload 105 (gd rfl) rfl rfl ?_
            refine g_lconst 0 106 (gd rfl) rfl rfl ?_
            refine g_lcmp 107 (gd rfl) rfl (fun z106 e106 => ?_)
            have i106 := lc_in e106
            refine g_if_le 110 135 (gd rfl) rfl rfl (fun c107 => ?_) (fun c107 => ?_)
            · skip
              have i107 := z_le (-1) 0 c107 i106 rfl
              have c107a := lc_le e106 c107
              refine g_iinc 138 (gd rfl) rfl rfl (Nat.le_of_ble_eq_true rfl) (fun z135 e135 => ?_)
              have i135 := in_add 1 160 e135 i23 (in_c 1 rfl) rfl rfl
              refine g_goto 17 (gd rfl) rfl ?_
              exact gg_w (by first | exact Nat.le_add_right _ _ | exact gw2 | exact gw3 | exact gwe rfl | exact gwf rfl | exact gwg rfl | exact gwh rfl | omega) (gg_f (gf_cons rfl (gf_cons rfl (gf_cons rfl (gf_cons rfl (gf_cons rfl gf_nil))))) (ih17 sc17 z135 hIc17 hFc17 (in_w 0 160 i135 rfl) (m_up mm17 (t_add e135 i23 (in_c 1 rfl) rfl) (in_w 1 1 (in_c 1 rfl) rfl))))
            · skip
              have i107 := z_gt 1 1 c107 i106 rfl
              have c107a := lc_gt e106 c107
              exact ln_lt c107a (l_c 0 rfl) i83a rfl
          · skip
            have i89 := r_le2 1 2147483647 c89 h3 (i_rng z76) rfl
            refine g_aload_n 93 (gd rfl) rfl rfl ?_
            refine g_iload 95 (gd rfl) rfl rfl ?_
            refine g_iload 97 (gd rfl) rfl rfl ?_
            refine g_callv (X := _) (As := [.int y17_4, .int z76]) (r := []) (b := A 65) (q := 65) 100 (gd rfl) rfl rfl rfl rfl rfl (ww_o rfl) (Nat.le_of_ble_eq_true rfl) (mc := 0) (ms := 0) (Nat.zero_le _) (Nat.zero_le _) (P := fun v u => _) ?_ (fun e u h => h) (fun v u h => h)
            intro po97 xx97 hp97 hx97
            refine g_enter2 (k := 82) (N := 300) (by first | exact dq1 hd rfl | exact dq0 hd rfl | exact dq2 hd rfl | exact dq3 hd rfl | omega) rfl (Nat.le_of_ble_eq_true rfl) ?_
            refine g_aload_n 1 (gd rfl) rfl rfl ?_
            refine g_getA (q2 := 73) 4 (gd rfl) rfl rfl rfl rfl ?_
            refine g_iload_n 5 (gd rfl) rfl rfl ?_
            refine g_dup2 6 (gd rfl) rfl rfl rfl ?_
            refine g_iaload 7 (gd rfl) rfl (n := 160) rfl (in_ix i23 rfl) (fun z97x6 e97x6 => ?_)
            have q97x6 : z75 = z97x6 := (e75).trans e97x6.symm
            subst q97x6
            refine g_iload_n 8 (gd rfl) rfl rfl ?_
            refine g_iadd 9 (gd rfl) rfl (fun z97x8 e97x8 => ?_)
            refine g_iastore 10 (gd rfl) rfl (n := 160) rfl (in_ix i23 rfl) ?_
            have hI97x9 := inv_sI (q := 73) (j := y17_4.toNatClampNeg) hIc17 rfl (in_w (-2147483648) 2147483647 (i_rng z97x8) rfl)
            refine g_aload_n 11 (gd rfl) rfl rfl ?_
            refine g_getA (q2 := 74) 14 (gd rfl) rfl rfl rfl rfl ?_
            refine g_aload_n 15 (gd rfl) rfl rfl ?_
            refine g_getA (q2 := 70) 18 (gd rfl) rfl rfl rfl rfl ?_
            refine g_iload_n 19 (gd rfl) rfl rfl ?_
            refine g_iaload 20 (gd rfl) rfl (n := 160) rfl (in_ix i23 rfl) (fun z97x19 e97x19 => ?_)
            have q97x19 : z57 = z97x19 := (sI_ne rfl (e57)).trans e97x19.symm
            subst q97x19
            refine g_dup2 21 (gd rfl) rfl rfl rfl ?_
            refine g_iaload 22 (gd rfl) rfl (n := 32) rfl (in_ix i57 rfl) (fun z97x21 e97x21 => ?_)
            refine g_iload_n 23 (gd rfl) rfl rfl ?_
            refine g_iadd 24 (gd rfl) rfl (fun z97x23 e97x23 => ?_)
            refine g_iastore 25 (gd rfl) rfl (n := 32) rfl (in_ix i57 rfl) ?_
            have hI97x24 := inv_sI (q := 74) (j := z57.toNatClampNeg) hI97x9 rfl (in_w (-2147483648) 2147483647 (i_rng z97x23) rfl)
            refine g_aload_n 26 (gd rfl) rfl rfl ?_
            refine g_getA (q2 := 74) 29 (gd rfl) rfl rfl rfl rfl ?_
            refine g_aload_n 30 (gd rfl) rfl rfl ?_
            refine g_getA (q2 := 69) 33 (gd rfl) rfl rfl rfl rfl ?_
            refine g_iload_n 34 (gd rfl) rfl rfl ?_
            refine g_iaload 35 (gd rfl) rfl (n := 160) rfl (in_ix i23 rfl) (fun z97x34 e97x34 => ?_)
            have q97x34 : z36 = z97x34 := (sI_ne rfl (sI_ne rfl (e36))).trans e97x34.symm
            subst q97x34
            refine g_dup2 36 (gd rfl) rfl rfl rfl ?_
            refine g_iaload 37 (gd rfl) rfl (n := 32) rfl (in_ix i36 rfl) (fun z97x36 e97x36 => ?_)
            refine g_iload_n 38 (gd rfl) rfl rfl ?_
            refine g_isub 39 (gd rfl) rfl (fun z97x38 e97x38 => ?_)
            refine g_iastore 40 (gd rfl) rfl (n := 32) rfl (in_ix i36 rfl) ?_
            have hI97x39 := inv_sI (q := 74) (j := z36.toNatClampNeg) hI97x24 rfl (in_w (-2147483648) 2147483647 (i_rng z97x38) rfl)
            refine g_return (gd rfl) rfl (hp97 _ _ ?_)
            show GG _ _ _ _ _ _ _ _ [] _ _ _
            refine g_goto 135 (gd rfl) rfl ?_
            refine g_iinc 138 (gd rfl) rfl rfl (Nat.le_of_ble_eq_true rfl) (fun z135 e135 => ?_)
            have i135 := in_add 1 160 e135 i23 (in_c 1 rfl) rfl rfl
            refine g_goto 17 (gd rfl) rfl ?_
            exact gg_w (by first | exact Nat.le_add_right _ _ | exact gw2 | exact gw3 | exact gwe rfl | exact gwf rfl | exact gwg rfl | exact gwh rfl | omega) (gg_f (gf_cons rfl (gf_cons rfl (gf_cons rfl (gf_cons rfl (gf_cons rfl gf_nil))))) (ih17 (sI (sI (sI sc17 73 y17_4.toNatClampNeg z97x8) 74 z57.toNatClampNeg z97x23) 74 z36.toNatClampNeg z97x38) z135 hI97x39 (fr_sI rfl (fr_sI rfl (fr_sI rfl hFc17))) (in_w 0 160 i135 rfl) (m_up mm17 (t_add e135 i23 (in_c 1 rfl) rfl) (in_w 1 1 (in_c 1 rfl) rfl))))
  refine g_enter2 (k := 81) (N := 145801) (by first | exact dq1 hd rfl | exact dq0 hd rfl | exact dq2 hd rfl | exact dq3 hd rfl | omega) rfl (Nat.le_of_ble_eq_true rfl) ?_
  refine g_aload_n 1 (gd rfl) rfl rfl ?_
  refine g_getA (q2 := 75) 4 (gd rfl) rfl rfl rfl rfl ?_
  refine g_lconst 0 5 (gd rfl) rfl rfl ?_
  refine g_calls (As := [.ref (A 75), .long (Int64.ofInt 0)]) (r := []) 8 (gd rfl) rfl rfl rfl rfl rfl (Nat.le_of_ble_eq_true rfl) (Nat.zero_le _) (Nat.zero_le _) (k_fillL 75 (by first | exact dq1 hd rfl | exact dq0 hd rfl | exact dq2 hd rfl | exact dq3 hd rfl | omega) hI (n := 32) rfl rfl rfl (l_rng (Int64.ofInt 0))) (fun v u h => ?_)
  obtain ⟨s5, hI5, hF5, rfl, rfl, fl5⟩ := h
  show GG _ _ _ _ _ _ _ _ [] _ _ _
  refine g_aload_n 9 (gd rfl) rfl rfl ?_
  refine g_iload_n 10 (gd rfl) rfl rfl ?_
  refine g_iload_n 11 (gd rfl) rfl rfl ?_
  refine g_callv (X := _) (As := [.int x1, .int x2]) (r := []) (b := A 65) (q := 65) 14 (gd rfl) rfl rfl rfl rfl rfl (ww_o rfl) (Nat.le_of_ble_eq_true rfl) (Nat.zero_le _) (Nat.zero_le _) (k_86_65 (by first | exact dq1 hd rfl | exact dq0 hd rfl | exact dq2 hd rfl | exact dq3 hd rfl | omega) hI5 (in_w 0 32 h1 rfl) (in_w 1 1048576 h2 rfl)) (fun e u h => h) (fun v u h => ?_)
  obtain ⟨s11, hI11, hF11, rfl, rfl⟩ := h
  show GG _ _ _ _ _ _ _ _ [] _ _ _
  refine g_iconst 0 15 (gd rfl) rfl rfl ?_
  refine g_istore 17 (gd rfl) rfl (Nat.le_of_ble_eq_true rfl) ?_
  exact gg_w (by first | exact Nat.le_of_ble_eq_true rfl | omega) (gg_f (gf_cons rfl (gf_cons rfl (gf_cons rfl (gf_cons rfl (gf_cons rfl gf_nil))))) (ct17 161 s11 (Int32.ofInt 0) hI11 (fr_tr rfl (fr_tr rfl fr_rf hF5) hF11) (in_w 0 160 (in_c 0 rfl) rfl) (m_in 161 (in_w 0 160 (in_c 0 rfl) rfl) rfl)))

def fm_85_65 : FM := ([68], [75], [], [])
/-- GraphHouse$Flows.nearestLack -/
theorem k_85_65 {Z : AmZ} {A : Nat → Nat} {s : GS} {ex : va_W} {d : Nat} {X : AmX} {x1 : Int32} {x2 : Int32} (hd : 3 ≤ d) (hI : Inv s) (h1 : In x1 0 32) (h2 : In x2 1 65536) : GC Z d 85 [.ref (A 65), .int x1, .int x2] (WW Z A s ++ ex) 0 0 (fun v u => ∃ t : GS, Inv t ∧ Fr fm_85_65 s t ∧ ∃ z : Int32, v = some (.int z) ∧ u = WW Z A t ++ ex ∧ In z (-1) 31) X := by
  intro post xp hP hX
  have ct54 : ∀ (k54 : Nat) (sc54 : GS) (y54_3 : Int32) (y54_4 : Int32), Inv sc54 → Fr fm_85_65 s sc54 → (In y54_3 (-1) 31) → (In y54_4 0 32) → 32 - (y54_4).toInt < (k54 : Int) → GG Z (d - 1) 85 post (gx xp) (1 + k54 * 900) 54 (fun j => xlook j [(0, .ref (A 65)), (1, .int x1), (2, .int x2), (3, .int y54_3), (4, .int y54_4)]) [] (WW Z A sc54 ++ ex) 0 0 := by
    intro k54
    induction k54 with
    | zero => intro sc54 y54_3 y54_4 hIc54 hFc54 j54_3 j54_4 mm54; exact m_no mm54 j54_4 rfl
    | succ k54 ih54 =>
      intro sc54 y54_3 y54_4 hIc54 hFc54 j54_3 j54_4 mm54
      refine gg_w (M := 1 + k54 * 900 + 900) gws ?_
      refine g_iload 56 (gd rfl) rfl rfl ?_
      refine g_iload_n 57 (gd rfl) rfl rfl ?_
      refine g_cmp_ge 60 117 (gd rfl) rfl rfl (fun c57 => ?_) (fun c57 => ?_)
      · skip
        refine g_iload_n 118 (gd rfl) rfl rfl ?_
        exact g_ireturn (gd rfl) rfl rfl (hP _ _ ⟨sc54, hIc54, hFc54, y54_3, rfl, rfl, in_w (-1) 31 j54_3 rfl⟩)
      · skip
        have i57 := r_lt1 0 31 c57 j54_4 h1 rfl
        have i57a := r_lt2 1 32 c57 j54_4 h1 rfl
        refine g_aload_n 61 (gd rfl) rfl rfl ?_
        refine g_getA (q2 := 74) 64 (gd rfl) rfl rfl rfl rfl ?_
        refine g_iload 66 (gd rfl) rfl rfl ?_
        refine g_iaload 67 (gd rfl) rfl (n := 32) rfl (in_ix i57 rfl) (fun z66 e66 => ?_)
        refine g_iload_n 68 (gd rfl) rfl rfl ?_
        refine g_ineg 69 (gd rfl) rfl (fun z68 e68 => ?_)
        have i68 := in_neg (-65536) (-1) e68 h2 rfl
        refine g_cmp_gt 72 111 (gd rfl) rfl rfl (fun c69 => ?_) (fun c69 => ?_)
        · skip
          have i69 := r_lt2 (-65535) 2147483647 c69 i68 (i_rng z66) rfl
          refine g_iinc 114 (gd rfl) rfl rfl (Nat.le_of_ble_eq_true rfl) (fun z111 e111 => ?_)
          have i111 := in_add 1 32 e111 i57 (in_c 1 rfl) rfl rfl
          refine g_goto 54 (gd rfl) rfl ?_
          exact gg_w (by first | exact Nat.le_add_right _ _ | exact gw2 | exact gw3 | exact gwe rfl | exact gwf rfl | exact gwg rfl | exact gwh rfl | omega) (gg_f (gf_cons rfl (gf_cons rfl (gf_cons rfl (gf_cons rfl (gf_cons rfl gf_nil))))) (ih54 sc54 y54_3 z111 hIc54 hFc54 (in_w (-1) 31 j54_3 rfl) (in_w 0 32 i111 rfl) (m_up mm54 (t_add e111 i57 (in_c 1 rfl) rfl) (in_w 1 1 (in_c 1 rfl) rfl))))
        · skip
          have i69 := r_le1 (-2147483648) (-1) c69 (i_rng z66) i68 rfl
          refine g_aload_n 73 (gd rfl) rfl rfl ?_
          refine g_getA (q2 := 75) 76 (gd rfl) rfl rfl rfl rfl ?_
          refine g_iload 78 (gd rfl) rfl rfl ?_
          refine g_laload 79 (gd rfl) rfl (n := 32) rfl (in_ix i57 rfl) (fun z78 e78 => ?_)
          refine g_ldc2_w 9223372036854775807 82 (gd rfl) rfl rfl ?_
          refine g_lcmp 83 (gd rfl) rfl (fun z82 e82 => ?_)
          have i82 := lc_in e82
          refine g_if_eq 86 111 (gd rfl) rfl rfl (fun c83 => ?_) (fun c83 => ?_)
          · skip
            have i83 := z_eq 0 0 c83 i82 rfl
            have c83a := lc_eq e82 c83
            have i83a := lr_eq1 9223372036854775807 9223372036854775807 c83a (l_rng z78) (l_c 9223372036854775807 rfl) rfl
            refine g_iinc 114 (gd rfl) rfl rfl (Nat.le_of_ble_eq_true rfl) (fun z111 e111 => ?_)
            have i111 := in_add 1 32 e111 i57 (in_c 1 rfl) rfl rfl
            refine g_goto 54 (gd rfl) rfl ?_
            exact gg_w (by first | exact Nat.le_add_right _ _ | exact gw2 | exact gw3 | exact gwe rfl | exact gwf rfl | exact gwg rfl | exact gwh rfl | omega) (gg_f (gf_cons rfl (gf_cons rfl (gf_cons rfl (gf_cons rfl (gf_cons rfl gf_nil))))) (ih54 sc54 y54_3 z111 hIc54 hFc54 (in_w (-1) 31 j54_3 rfl) (in_w 0 32 i111 rfl) (m_up mm54 (t_add e111 i57 (in_c 1 rfl) rfl) (in_w 1 1 (in_c 1 rfl) rfl))))
          · skip
            have c83a := lc_ne e82 c83
            have i83 := lr_ne1 (-9223372036854775808) 9223372036854775806 c83a (l_rng z78) (l_c 9223372036854775807 rfl) rfl
            refine g_iload_n 87 (gd rfl) rfl rfl ?_
            refine g_iconst (-1) 88 (gd rfl) rfl rfl ?_
            refine g_cmp_eq 91 108 (gd rfl) rfl rfl (fun c88 => ?_) (fun c88 => ?_)
            · skip
              have i88 := r_eq1 (-1) (-1) c88 j54_3 (in_c (-1) rfl) rfl
              refine g_iload 110 (gd rfl) rfl rfl ?_
              refine g_istore_n 111 (gd rfl) rfl (Nat.le_of_ble_eq_true rfl) ?_
              refine g_iinc 114 (gd rfl) rfl rfl (Nat.le_of_ble_eq_true rfl) (fun z111 e111 => ?_)
              have i111 := in_add 1 32 e111 i57 (in_c 1 rfl) rfl rfl
              refine g_goto 54 (gd rfl) rfl ?_
              exact gg_w (by first | exact Nat.le_add_right _ _ | exact gw2 | exact gw3 | exact gwe rfl | exact gwf rfl | exact gwg rfl | exact gwh rfl | omega) (gg_f (gf_cons rfl (gf_cons rfl (gf_cons rfl (gf_cons rfl (gf_cons rfl gf_nil))))) (ih54 sc54 y54_4 z111 hIc54 hFc54 (in_w (-1) 31 i57 rfl) (in_w 0 32 i111 rfl) (m_up mm54 (t_add e111 i57 (in_c 1 rfl) rfl) (in_w 1 1 (in_c 1 rfl) rfl))))
            · skip
              have i88 := r_ne1 0 31 c88 j54_3 (in_c (-1) rfl) rfl
              refine g_aload_n 92 (gd rfl) rfl rfl ?_
              refine g_getA (q2 := 75) 95 (gd rfl) rfl rfl rfl rfl ?_
              refine g_iload 97 (gd rfl) rfl rfl ?_
              refine g_laload 98 (gd rfl) rfl (n := 32) rfl (in_ix i57 rfl) (fun z97 e97 => ?_)
              refine g_aload_n 99 (gd rfl) rfl rfl ?_
              refine g_getA (q2 := 75) 102 (gd rfl) rfl rfl rfl rfl ?_
              refine g_iload_n 103 (gd rfl) rfl rfl ?_
              refine g_laload 104 (gd rfl) rfl (n := 32) rfl (in_ix i88 rfl) (fun z103 e103 => ?_)
              refine g_lcmp 105 (gd rfl) rfl (fun z104 e104 => ?_)
              have i104 := lc_in e104
              refine g_if_ge 108 111 (gd rfl) rfl rfl (fun c105 => ?_) (fun c105 => ?_)
              · skip
                have i105 := z_ge 0 1 c105 i104 rfl
                have c105a := lc_ge e104 c105
                refine g_iinc 114 (gd rfl) rfl rfl (Nat.le_of_ble_eq_true rfl) (fun z111 e111 => ?_)
                have i111 := in_add 1 32 e111 i57 (in_c 1 rfl) rfl rfl
                refine g_goto 54 (gd rfl) rfl ?_
                exact gg_w (by first | exact Nat.le_add_right _ _ | exact gw2 | exact gw3 | exact gwe rfl | exact gwf rfl | exact gwg rfl | exact gwh rfl | omega) (gg_f (gf_cons rfl (gf_cons rfl (gf_cons rfl (gf_cons rfl (gf_cons rfl gf_nil))))) (ih54 sc54 y54_3 z111 hIc54 hFc54 (in_w (-1) 31 i88 rfl) (in_w 0 32 i111 rfl) (m_up mm54 (t_add e111 i57 (in_c 1 rfl) rfl) (in_w 1 1 (in_c 1 rfl) rfl))))
              · skip
                have i105 := z_lt (-1) (-1) c105 i104 rfl
                have c105a := lc_lt e104 c105
                have i105a := lr_lt1 (-9223372036854775808) 9223372036854775806 c105a (l_rng z97) (l_rng z103) rfl
                have i105b := lr_lt2 (-9223372036854775807) 9223372036854775807 c105a (l_rng z97) (l_rng z103) rfl
                refine g_iload 110 (gd rfl) rfl rfl ?_
                refine g_istore_n 111 (gd rfl) rfl (Nat.le_of_ble_eq_true rfl) ?_
                refine g_iinc 114 (gd rfl) rfl rfl (Nat.le_of_ble_eq_true rfl) (fun z111 e111 => ?_)
                have i111 := in_add 1 32 e111 i57 (in_c 1 rfl) rfl rfl
                refine g_goto 54 (gd rfl) rfl ?_
                exact gg_w (by first | exact Nat.le_add_right _ _ | exact gw2 | exact gw3 | exact gwe rfl | exact gwf rfl | exact gwg rfl | exact gwh rfl | omega) (gg_f (gf_cons rfl (gf_cons rfl (gf_cons rfl (gf_cons rfl (gf_cons rfl gf_nil))))) (ih54 sc54 y54_4 z111 hIc54 hFc54 (in_w (-1) 31 i57 rfl) (in_w 0 32 i111 rfl) (m_up mm54 (t_add e111 i57 (in_c 1 rfl) rfl) (in_w 1 1 (in_c 1 rfl) rfl))))
  have ct2 : ∀ (k2 : Nat) (sc2 : GS) (y2_3 : Int32), Inv sc2 → Fr fm_85_65 s sc2 → (In y2_3 0 32) → 32 - (y2_3).toInt < (k2 : Int) → GG Z (d - 1) 85 post (gx xp) (29702 + k2 * 900) 2 (fun j => xlook j [(0, .ref (A 65)), (1, .int x1), (2, .int x2), (3, .int y2_3)]) [] (WW Z A sc2 ++ ex) 0 0 := by
    intro k2
    induction k2 with
    | zero => intro sc2 y2_3 hIc2 hFc2 j2_3 mm2; exact m_no mm2 j2_3 rfl
    | succ k2 ih2 =>
      intro sc2 y2_3 hIc2 hFc2 j2_3 mm2
      refine gg_w (M := 29702 + k2 * 900 + 900) gws ?_
      refine g_iload_n 3 (gd rfl) rfl rfl ?_
      refine g_iload_n 4 (gd rfl) rfl rfl ?_
      refine g_cmp_ge 7 43 (gd rfl) rfl rfl (fun c4 => ?_) (fun c4 => ?_)
      · skip
        refine g_aload_n 44 (gd rfl) rfl rfl ?_
        refine g_iload_n 45 (gd rfl) rfl rfl ?_
        refine g_iload_n 46 (gd rfl) rfl rfl ?_
        refine g_callv (X := _) (As := [.int x1, .int x2]) (r := []) (b := A 65) (q := 65) 49 (gd rfl) rfl rfl rfl rfl rfl (ww_o rfl) (Nat.le_of_ble_eq_true rfl) (Nat.zero_le _) (Nat.zero_le _) (k_86_65 (by first | exact dq1 hd rfl | exact dq0 hd rfl | exact dq2 hd rfl | exact dq3 hd rfl | omega) hIc2 (in_w 0 32 h1 rfl) (in_w 1 1048576 h2 rfl)) (fun e u h => h) (fun v u h => ?_)
        obtain ⟨s46, hI46, hF46, rfl, rfl⟩ := h
        show GG _ _ _ _ _ _ _ _ [] _ _ _
        refine g_iconst (-1) 50 (gd rfl) rfl rfl ?_
        refine g_istore_n 51 (gd rfl) rfl (Nat.le_of_ble_eq_true rfl) ?_
        refine g_iconst 0 52 (gd rfl) rfl rfl ?_
        refine g_istore 54 (gd rfl) rfl (Nat.le_of_ble_eq_true rfl) ?_
        exact gg_w (by first | exact Nat.le_add_right _ _ | exact gw2 | exact gw3 | exact gwe rfl | exact gwf rfl | exact gwg rfl | exact gwh rfl | omega) (gg_f (gf_cons rfl (gf_cons rfl (gf_cons rfl (gf_cons rfl (gf_cons rfl gf_nil))))) (ct54 33 s46 (Int32.ofInt (-1)) (Int32.ofInt 0) hI46 (fr_tr rfl hFc2 hF46) (in_w (-1) 31 (in_c (-1) rfl) rfl) (in_w 0 32 (in_c 0 rfl) rfl) (m_in 33 (in_w 0 32 (in_c 0 rfl) rfl) rfl)))
      · skip
        have i4 := r_lt1 0 31 c4 j2_3 h1 rfl
        have i4a := r_lt2 1 32 c4 j2_3 h1 rfl
        refine g_aload_n 8 (gd rfl) rfl rfl ?_
        refine g_getA (q2 := 75) 11 (gd rfl) rfl rfl rfl rfl ?_
        refine g_iload_n 12 (gd rfl) rfl rfl ?_
        refine g_aload_n 13 (gd rfl) rfl rfl ?_
        refine g_getA (q2 := 74) 16 (gd rfl) rfl rfl rfl rfl ?_
        refine g_iload_n 17 (gd rfl) rfl rfl ?_
        refine g_iaload 18 (gd rfl) rfl (n := 32) rfl (in_ix i4 rfl) (fun z17 e17 => ?_)
        refine g_iload_n 19 (gd rfl) rfl rfl ?_
        refine g_cmp_lt 22 26 (gd rfl) rfl rfl (fun c19 => ?_) (fun c19 => ?_)
        · skip
          have i19 := r_lt1 (-2147483648) 65535 c19 (i_rng z17) h2 rfl
          refine g_ldc2_w 9223372036854775807 29 (gd rfl) rfl rfl ?_
          refine g_lastore 30 (gd rfl) rfl (n := 32) rfl (in_ix i4 rfl) ?_
          have hI29 := inv_sL (q := 75) (j := y2_3.toNatClampNeg) (x := (Int64.ofInt 9223372036854775807)) hIc2 rfl (l_rng (Int64.ofInt 9223372036854775807))
          refine g_aload_n 31 (gd rfl) rfl rfl ?_
          refine g_getA (q2 := 68) 34 (gd rfl) rfl rfl rfl rfl ?_
          refine g_iload_n 35 (gd rfl) rfl rfl ?_
          refine g_iconst (-1) 36 (gd rfl) rfl rfl ?_
          refine g_iastore 37 (gd rfl) rfl (n := 32) rfl (in_ix i4 rfl) ?_
          have hI36 := inv_sI (q := 68) (j := y2_3.toNatClampNeg) hI29 rfl (in_w (-1) 319 (in_c (-1) rfl) rfl)
          refine g_iinc 40 (gd rfl) rfl rfl (Nat.le_of_ble_eq_true rfl) (fun z37 e37 => ?_)
          have i37 := in_add 1 32 e37 i4 (in_c 1 rfl) rfl rfl
          refine g_goto 2 (gd rfl) rfl ?_
          exact gg_w (by first | exact Nat.le_add_right _ _ | exact gw2 | exact gw3 | exact gwe rfl | exact gwf rfl | exact gwg rfl | exact gwh rfl | omega) (gg_f (gf_cons rfl (gf_cons rfl (gf_cons rfl (gf_cons rfl gf_nil)))) (ih2 (sI (sL sc2 75 y2_3.toNatClampNeg (Int64.ofInt 9223372036854775807)) 68 y2_3.toNatClampNeg (Int32.ofInt (-1))) z37 hI36 (fr_sI rfl (fr_sL rfl hFc2)) (in_w 0 32 i37 rfl) (m_up mm2 (t_add e37 i4 (in_c 1 rfl) rfl) (in_w 1 1 (in_c 1 rfl) rfl))))
        · skip
          have i19 := r_le2 1 2147483647 c19 h2 (i_rng z17) rfl
          refine g_lconst 0 23 (gd rfl) rfl rfl ?_
          refine g_goto 29 (gd rfl) rfl ?_
          refine g_lastore 30 (gd rfl) rfl (n := 32) rfl (in_ix i4 rfl) ?_
          have hI29 := inv_sL (q := 75) (j := y2_3.toNatClampNeg) (x := (Int64.ofInt 0)) hIc2 rfl (l_rng (Int64.ofInt 0))
          refine g_aload_n 31 (gd rfl) rfl rfl ?_
          refine g_getA (q2 := 68) 34 (gd rfl) rfl rfl rfl rfl ?_
          refine g_iload_n 35 (gd rfl) rfl rfl ?_
          refine g_iconst (-1) 36 (gd rfl) rfl rfl ?_
          refine g_iastore 37 (gd rfl) rfl (n := 32) rfl (in_ix i4 rfl) ?_
          have hI36 := inv_sI (q := 68) (j := y2_3.toNatClampNeg) hI29 rfl (in_w (-1) 319 (in_c (-1) rfl) rfl)
          refine g_iinc 40 (gd rfl) rfl rfl (Nat.le_of_ble_eq_true rfl) (fun z37 e37 => ?_)
          have i37 := in_add 1 32 e37 i4 (in_c 1 rfl) rfl rfl
          refine g_goto 2 (gd rfl) rfl ?_
          exact gg_w (by first | exact Nat.le_add_right _ _ | exact gw2 | exact gw3 | exact gwe rfl | exact gwf rfl | exact gwg rfl | exact gwh rfl | omega) (gg_f (gf_cons rfl (gf_cons rfl (gf_cons rfl (gf_cons rfl gf_nil)))) (ih2 (sI (sL sc2 75 y2_3.toNatClampNeg (Int64.ofInt 0)) 68 y2_3.toNatClampNeg (Int32.ofInt (-1))) z37 hI36 (fr_sI rfl (fr_sL rfl hFc2)) (in_w 0 32 i37 rfl) (m_up mm2 (t_add e37 i4 (in_c 1 rfl) rfl) (in_w 1 1 (in_c 1 rfl) rfl))))
  refine g_enter2 (k := 85) (N := 60302) (by first | exact dq1 hd rfl | exact dq0 hd rfl | exact dq2 hd rfl | exact dq3 hd rfl | omega) rfl (Nat.le_of_ble_eq_true rfl) ?_
  refine g_iconst 0 1 (gd rfl) rfl rfl ?_
  refine g_istore_n 2 (gd rfl) rfl (Nat.le_of_ble_eq_true rfl) ?_
  exact gg_w (by first | exact Nat.le_of_ble_eq_true rfl | omega) (gg_f (gf_cons rfl (gf_cons rfl (gf_cons rfl (gf_cons rfl gf_nil)))) (ct2 33 s (Int32.ofInt 0) hI fr_rf (in_w 0 32 (in_c 0 rfl) rfl) (m_in 33 (in_w 0 32 (in_c 0 rfl) rfl) rfl)))

def fm_89_65_2 : FM := ([68, 69, 70, 71, 72, 73, 74], [75], [(65, 8), (65, 16), (65, 17)], [(65, 18)])
/-- GraphHouse$Flows.pair -/
theorem k_89_65_2 {Z : AmZ} {A : Nat → Nat} {s : GS} {ex : va_W} {d : Nat} {X : AmX}  (hd : 4 ≤ d) (hI : Inv s)  : GC Z d 89 [.ref (A 65), .ref (A 2)] (WW Z A s ++ ex) 0 0 (fun v u => ∃ t : GS, Inv t ∧ Fr fm_89_65_2 s t ∧ v = none ∧ u = WW Z A t ++ ex) X := by
  intro post xp hP hX
  obtain ⟨u_2_0, e_2_0⟩ : ∃ w, w = s.2.2.1 2 0 := ⟨_, rfl⟩
  have ro_2_0 := inv_F hI 0 4000 rfl e_2_0
  obtain ⟨u_2_1, e_2_1⟩ : ∃ w, w = s.2.2.1 2 1 := ⟨_, rfl⟩
  have ro_2_1 := inv_F hI 0 32 rfl e_2_1
  obtain ⟨u_2_3, e_2_3⟩ : ∃ w, w = s.2.2.1 2 3 := ⟨_, rfl⟩
  have ro_2_3 := inv_F hI 0 160 rfl e_2_3
  have ct179 : ∀ (k179 : Nat) (sc179 : GS) (y179_2 : Int32) (w179_65_17 : Int32), Inv sc179 → Fr fm_89_65_2 s sc179 → (In y179_2 0 32) → (w179_65_17 = sc179.2.2.1 65 17) → ((w179_65_17).toInt ≤ (y179_2).toInt) → 32 - (y179_2).toInt < (k179 : Int) → GG Z (d - 1) 89 post (gx xp) (1 + k179 * 900) 179 (fun j => xlook j [(0, .ref (A 65)), (1, .ref (A 2)), (2, .int y179_2)]) [] (WW Z A sc179 ++ ex) 0 0 := by
    intro k179
    induction k179 with
    | zero => intro sc179 y179_2 w179_65_17 hIc179 hFc179 j179_2 v179_65_17 n179_0 mm179; exact m_no mm179 j179_2 rfl
    | succ k179 ih179 =>
      intro sc179 y179_2 w179_65_17 hIc179 hFc179 j179_2 v179_65_17 n179_0 mm179
      refine gg_w (M := 1 + k179 * 900 + 900) gws ?_
      refine g_iload_n 180 (gd rfl) rfl rfl ?_
      refine g_bipush 32 182 (gd rfl) rfl rfl ?_
      refine g_cmp_ge 185 231 (gd rfl) rfl rfl (fun c182 => ?_) (fun c182 => ?_)
      · skip
        have i182 := r_le2 32 32 c182 (in_c 32 rfl) j179_2 rfl
        exact g_return (gd rfl) rfl (hP _ _ ⟨sc179, hIc179, hFc179, rfl, rfl⟩)
      · skip
        have i182 := r_lt1 0 31 c182 j179_2 (in_c 32 rfl) rfl
        refine g_aload_n 186 (gd rfl) rfl rfl ?_
        refine g_aload_n 187 (gd rfl) rfl rfl ?_
        refine g_getI 190 (gd rfl) rfl rfl rfl (fun z187 e187 => ?_)
        have q187 : u_2_1 = z187 := (fr_F e_2_1 hFc179 rfl).trans e187.symm
        subst q187
        refine g_iconst 1 191 (gd rfl) rfl rfl ?_
        refine g_callv (X := _) (As := [.int u_2_1, .int (Int32.ofInt 1)]) (r := []) (b := A 65) (q := 65) 194 (gd rfl) rfl rfl rfl rfl rfl (ww_o rfl) (Nat.le_of_ble_eq_true rfl) (Nat.zero_le _) (Nat.zero_le _) (k_85_65 (by first | exact dq1 hd rfl | exact dq0 hd rfl | exact dq2 hd rfl | exact dq3 hd rfl | omega) hIc179 (in_w 0 32 ro_2_1 rfl) (in_w 1 65536 (in_c 1 rfl) rfl)) (fun e u h => h) (fun v u h => ?_)
        obtain ⟨s191, hI191, hF191, z191, rfl, rfl, i191⟩ := h
        show GG _ _ _ _ _ _ _ _ [.int z191] _ _ _
        refine g_istore_n 195 (gd rfl) rfl (Nat.le_of_ble_eq_true rfl) ?_
        refine g_iload_n 196 (gd rfl) rfl rfl ?_
        refine g_iconst (-1) 197 (gd rfl) rfl rfl ?_
        refine g_cmp_ne 200 201 (gd rfl) rfl rfl (fun c197 => ?_) (fun c197 => ?_)
        · skip
          have i197 := r_ne1 0 31 c197 i191 (in_c (-1) rfl) rfl
          refine g_aload_n 202 (gd rfl) rfl rfl ?_
          refine g_dup 203 (gd rfl) rfl rfl ?_
          refine g_getL 206 (gd rfl) rfl rfl rfl (fun z203 e203 => ?_)
          refine g_aload_n 207 (gd rfl) rfl rfl ?_
          refine g_iload_n 208 (gd rfl) rfl rfl ?_
          refine g_callv (X := _) (As := [.int z191]) (r := [.long z203, .ref (A 65)]) (b := A 65) (q := 65) 211 (gd rfl) rfl rfl rfl rfl rfl (ww_o rfl) (Nat.le_of_ble_eq_true rfl) (Nat.zero_le _) (Nat.zero_le _) (k_88_65 (by first | exact dq1 hd rfl | exact dq0 hd rfl | exact dq2 hd rfl | exact dq3 hd rfl | omega) hI191 (in_w 0 31 i197 rfl)) (fun e u h => h) (fun v u h => ?_)
          obtain ⟨s208, hI208, hF208, z208, rfl, rfl⟩ := h
          show GG _ _ _ _ _ _ _ _ [.long z208, .long z203, .ref (A 65)] _ _ _
          refine g_ladd 212 (gd rfl) rfl (fun z211 e211 => ?_)
          refine g_putL 215 (gd rfl) rfl rfl rfl rfl ?_
          have hI212 := inv_sG (q := 65) (j := 18) (x := z211) hI208 rfl (l_rng z211)
          refine g_aload_n 216 (gd rfl) rfl rfl ?_
          refine g_dup 217 (gd rfl) rfl rfl ?_
          refine g_getI 220 (gd rfl) rfl rfl rfl (fun z217 e217 => ?_)
          have q217 : w179_65_17 = z217 := (sG_F (fr_F (fr_F (v179_65_17) hF191 rfl) hF208 rfl)).trans e217.symm
          subst q217
          refine g_iconst 1 221 (gd rfl) rfl rfl ?_
          refine g_iadd 222 (gd rfl) rfl (fun z221 e221 => ?_)
          have i221 := in_add 1 33 e221 (inv_F hIc179 0 32 rfl v179_65_17) (in_c 1 rfl) rfl rfl
          have i222 : In z221 0 32 := by have a0 := in_u ro_2_3; have a1 := in_u ro_2_1; have a2 := in_u ro_2_0; have a3 := in_u ((inv_F hIc179 0 32 rfl v179_65_17)); have a4 := in_u i182; have a5 := in_u i197; have a6 := in_u i221; have a7 := t_add e221 (inv_F hIc179 0 32 rfl v179_65_17) (in_c 1 rfl) rfl; have a8 := in_u ((in_c 1 rfl)); exact ⟨by omega, by omega⟩
          refine g_putI 225 (gd rfl) rfl rfl rfl rfl ?_
          have hI222 := inv_sF (q := 65) (j := 17) hI212 rfl (in_w 0 32 i222 rfl)
          refine g_iinc 228 (gd rfl) rfl rfl (Nat.le_of_ble_eq_true rfl) (fun z225 e225 => ?_)
          have i225 := in_add 1 32 e225 i182 (in_c 1 rfl) rfl rfl
          refine g_goto 179 (gd rfl) rfl ?_
          have v179 : z221 = (sF (sG s208 65 18 z211) 65 17 z221).2.2.1 65 17 := sF_get
          have n179 : (z221).toInt ≤ (z225).toInt := by have a0 := in_u ro_2_3; have a1 := in_u ro_2_1; have a2 := in_u ro_2_0; have a3 := in_u ((inv_F hIc179 0 32 rfl v179_65_17)); have a4 := in_u i182; have a5 := in_u i197; have a6 := in_u i225; have a7 := t_add e225 i182 (in_c 1 rfl) rfl; have a8 := in_u ((in_c 1 rfl)); have a9 := in_u i222; have a10 := t_add e221 (inv_F hIc179 0 32 rfl v179_65_17) (in_c 1 rfl) rfl; omega
          exact gg_w (by first | exact Nat.le_add_right _ _ | exact gw2 | exact gw3 | exact gwe rfl | exact gwf rfl | exact gwg rfl | exact gwh rfl | omega) (gg_f (gf_cons rfl (gf_cons rfl (gf_cons rfl gf_nil))) (ih179 (sF (sG s208 65 18 z211) 65 17 z221) z225 z221 hI222 (fr_sF rfl (fr_sG rfl (fr_tr rfl (fr_tr rfl hFc179 hF191) hF208))) (in_w 0 32 i225 rfl) v179 n179 (m_up mm179 (t_add e225 i182 (in_c 1 rfl) rfl) (in_w 1 1 (in_c 1 rfl) rfl))))
        · skip
          have i197 := r_eq1 (-1) (-1) c197 i191 (in_c (-1) rfl) rfl
          exact g_return (gd rfl) rfl (hP _ _ ⟨s191, hI191, (fr_tr rfl hFc179 hF191), rfl, rfl⟩)
  have ct72 : ∀ (k72 : Nat) (sc72 : GS) (y72_2 : Int32) (w72_65_17 : Int32), Inv sc72 → Fr fm_89_65_2 s sc72 → (In y72_2 0 160) → (w72_65_17 = sc72.2.2.1 65 17) → ((w72_65_17).toInt = 0) → 160 - (y72_2).toInt < (k72 : Int) → GG Z (d - 1) 89 post (gx xp) (29702 + k72 * 900) 72 (fun j => xlook j [(0, .ref (A 65)), (1, .ref (A 2)), (2, .int y72_2)]) [] (WW Z A sc72 ++ ex) 0 0 := by
    intro k72
    induction k72 with
    | zero => intro sc72 y72_2 w72_65_17 hIc72 hFc72 j72_2 v72_65_17 n72_0 mm72; exact m_no mm72 j72_2 rfl
    | succ k72 ih72 =>
      intro sc72 y72_2 w72_65_17 hIc72 hFc72 j72_2 v72_65_17 n72_0 mm72
      refine gg_w (M := 29702 + k72 * 900 + 900) gws ?_
      refine g_iload_n 73 (gd rfl) rfl rfl ?_
      refine g_aload_n 74 (gd rfl) rfl rfl ?_
      refine g_getI 77 (gd rfl) rfl rfl rfl (fun z74 e74 => ?_)
      have q74 : u_2_3 = z74 := (fr_F e_2_3 hFc72 rfl).trans e74.symm
      subst q74
      refine g_cmp_ge 80 177 (gd rfl) rfl rfl (fun c77 => ?_) (fun c77 => ?_)
      · skip
        refine g_iconst 0 178 (gd rfl) rfl rfl ?_
        refine g_istore_n 179 (gd rfl) rfl (Nat.le_of_ble_eq_true rfl) ?_
        have n179 : (w72_65_17).toInt ≤ ((Int32.ofInt 0)).toInt := by have a0 := in_u ro_2_3; have a1 := in_u ro_2_1; have a2 := in_u ro_2_0; have a3 := in_u ((inv_F hIc72 0 32 rfl v72_65_17)); have a4 := in_u j72_2; have a5 := in_u ((in_c 0 rfl)); omega
        exact gg_w (by first | exact Nat.le_add_right _ _ | exact gw2 | exact gw3 | exact gwe rfl | exact gwf rfl | exact gwg rfl | exact gwh rfl | omega) (gg_f (gf_cons rfl (gf_cons rfl (gf_cons rfl gf_nil))) (ct179 33 sc72 (Int32.ofInt 0) w72_65_17 hIc72 hFc72 (in_w 0 32 (in_c 0 rfl) rfl) v72_65_17 n179 (m_in 33 (in_w 0 32 (in_c 0 rfl) rfl) rfl)))
      · skip
        have i77 := r_lt1 0 159 c77 j72_2 ro_2_3 rfl
        have i77a := r_lt2 1 160 c77 j72_2 ro_2_3 rfl
        refine g_aload_n 81 (gd rfl) rfl rfl ?_
        refine g_iload_n 82 (gd rfl) rfl rfl ?_
        refine g_callv (X := _) (As := [.int y72_2]) (r := []) (b := A 2) (q := 2) 85 (gd rfl) rfl rfl rfl rfl rfl (ww_o rfl) (Nat.le_of_ble_eq_true rfl) (mc := 0) (ms := 0) (Nat.zero_le _) (Nat.zero_le _) (P := fun v u => _) ?_ (fun e u h => h) (fun v u h => h)
        intro po82 xx82 hp82 hx82
        refine g_enter2 (k := 97) (N := 300) (by first | exact dq1 hd rfl | exact dq0 hd rfl | exact dq2 hd rfl | exact dq3 hd rfl | omega) rfl (Nat.le_of_ble_eq_true rfl) ?_
        refine g_aload_n 1 (gd rfl) rfl rfl ?_
        refine g_getA (q2 := 4) 4 (gd rfl) rfl rfl rfl rfl ?_
        refine g_iload_n 5 (gd rfl) rfl rfl ?_
        refine g_iaload 6 (gd rfl) rfl (n := 160) rfl (in_ix i77 rfl) (fun z82x5 e82x5 => ?_)
        have i82x5 := inv_I hIc72 (n := 160) (t := 0) (-1) 31 rfl (in_ix i77 rfl) rfl e82x5
        refine g_iconst (-1) 7 (gd rfl) rfl rfl ?_
        refine g_cmp_eq 10 29 (gd rfl) rfl rfl (fun c82x7 => ?_) (fun c82x7 => ?_)
        · skip
          have i82x7 := r_eq1 (-1) (-1) c82x7 i82x5 (in_c (-1) rfl) rfl
          refine g_iconst 0 30 (gd rfl) rfl rfl ?_
          refine g_ireturn (gd rfl) rfl (nb01 (in_w 0 1 (in_c 0 rfl) rfl)) (hp82 _ _ ?_)
          show GG _ _ _ _ _ _ _ _ [.int (Int32.ofInt 0)] _ _ _
          refine g_if_eq 88 171 (gd rfl) rfl rfl (fun c85 => ?_) (fun c85 => ?_)
          · skip
            refine g_iinc 174 (gd rfl) rfl rfl (Nat.le_of_ble_eq_true rfl) (fun z171 e171 => ?_)
            have i171 := in_add 1 160 e171 i77 (in_c 1 rfl) rfl rfl
            refine g_goto 72 (gd rfl) rfl ?_
            have n72 : (w72_65_17).toInt = 0 := by first | exact n72_0 | (have a0 := in_u i77a; have a1 := in_u ro_2_1; have a2 := in_u ro_2_0; have a3 := in_u ((inv_F hIc72 0 32 rfl v72_65_17)); have a4 := in_u i77; have a5 := in_u i171; have a6 := t_add e171 i77 (in_c 1 rfl) rfl; have a7 := in_u ((in_c 1 rfl)); omega)
            exact gg_w (by first | exact Nat.le_add_right _ _ | exact gw2 | exact gw3 | exact gwe rfl | exact gwf rfl | exact gwg rfl | exact gwh rfl | omega) (gg_f (gf_cons rfl (gf_cons rfl (gf_cons rfl gf_nil))) (ih72 sc72 z171 w72_65_17 hIc72 hFc72 (in_w 0 160 i171 rfl) v72_65_17 n72 (m_up mm72 (t_add e171 i77 (in_c 1 rfl) rfl) (in_w 1 1 (in_c 1 rfl) rfl))))
          · skip
            exact zn_ne c85 (in_c 0 rfl) rfl
        · skip
          have i82x7 := r_ne1 0 31 c82x7 i82x5 (in_c (-1) rfl) rfl
          refine g_aload_n 11 (gd rfl) rfl rfl ?_
          refine g_getA (q2 := 4) 14 (gd rfl) rfl rfl rfl rfl ?_
          refine g_iload_n 15 (gd rfl) rfl rfl ?_
          refine g_iaload 16 (gd rfl) rfl (n := 160) rfl (in_ix i77 rfl) (fun z82x15 e82x15 => ?_)
          have q82x15 : z82x5 = z82x15 := (e82x5).trans e82x15.symm
          subst q82x15
          refine g_aload_n 17 (gd rfl) rfl rfl ?_
          refine g_getA (q2 := 5) 20 (gd rfl) rfl rfl rfl rfl ?_
          refine g_iload_n 21 (gd rfl) rfl rfl ?_
          refine g_iaload 22 (gd rfl) rfl (n := 160) rfl (in_ix i77 rfl) (fun z82x21 e82x21 => ?_)
          have i82x21 := inv_I hIc72 (n := 160) (t := 0) 0 31 rfl (in_ix i77 rfl) rfl e82x21
          refine g_cmp_eq 25 29 (gd rfl) rfl rfl (fun c82x22 => ?_) (fun c82x22 => ?_)
          · skip
            refine g_iconst 0 30 (gd rfl) rfl rfl ?_
            refine g_ireturn (gd rfl) rfl (nb01 (in_w 0 1 (in_c 0 rfl) rfl)) (hp82 _ _ ?_)
            show GG _ _ _ _ _ _ _ _ [.int (Int32.ofInt 0)] _ _ _
            refine g_if_eq 88 171 (gd rfl) rfl rfl (fun c85 => ?_) (fun c85 => ?_)
            · skip
              refine g_iinc 174 (gd rfl) rfl rfl (Nat.le_of_ble_eq_true rfl) (fun z171 e171 => ?_)
              have i171 := in_add 1 160 e171 i77 (in_c 1 rfl) rfl rfl
              refine g_goto 72 (gd rfl) rfl ?_
              have n72 : (w72_65_17).toInt = 0 := by first | exact n72_0 | (have a0 := in_u i77a; have a1 := in_u ro_2_1; have a2 := in_u ro_2_0; have a3 := in_u ((inv_F hIc72 0 32 rfl v72_65_17)); have a4 := in_u i77; have a5 := in_u i171; have a6 := t_add e171 i77 (in_c 1 rfl) rfl; have a7 := in_u ((in_c 1 rfl)); omega)
              exact gg_w (by first | exact Nat.le_add_right _ _ | exact gw2 | exact gw3 | exact gwe rfl | exact gwf rfl | exact gwg rfl | exact gwh rfl | omega) (gg_f (gf_cons rfl (gf_cons rfl (gf_cons rfl gf_nil))) (ih72 sc72 z171 w72_65_17 hIc72 hFc72 (in_w 0 160 i171 rfl) v72_65_17 n72 (m_up mm72 (t_add e171 i77 (in_c 1 rfl) rfl) (in_w 1 1 (in_c 1 rfl) rfl))))
            · skip
              exact zn_ne c85 (in_c 0 rfl) rfl
          · skip
            refine g_iconst 1 26 (gd rfl) rfl rfl ?_
            refine g_goto 30 (gd rfl) rfl ?_
            refine g_ireturn (gd rfl) rfl (nb01 (in_w 0 1 (in_c 1 rfl) rfl)) (hp82 _ _ ?_)
            show GG _ _ _ _ _ _ _ _ [.int (Int32.ofInt 1)] _ _ _
            refine g_if_eq 88 171 (gd rfl) rfl rfl (fun c85 => ?_) (fun c85 => ?_)
            · skip
              exact zn_eq c85 (in_c 1 rfl) rfl
            · skip
              refine g_aload_n 89 (gd rfl) rfl rfl ?_
              refine g_aload_n 90 (gd rfl) rfl rfl ?_
              refine g_getA (q2 := 4) 93 (gd rfl) rfl rfl rfl rfl ?_
              refine g_iload_n 94 (gd rfl) rfl rfl ?_
              refine g_iaload 95 (gd rfl) rfl (n := 160) rfl (in_ix i77 rfl) (fun z94 e94 => ?_)
              have q94 : z82x5 = z94 := (e82x5).trans e94.symm
              subst q94
              refine g_calls (As := [.ref (A 2), .int z82x5]) (r := []) 98 (gd rfl) rfl rfl rfl rfl rfl (Nat.le_of_ble_eq_true rfl) (mc := 0) (ms := 0) (Nat.zero_le _) (Nat.zero_le _) (P := fun v u => _) ?_ (fun v u h => h)
              intro po95 xx95 hp95 hx95
              refine g_enter2 (k := 90) (N := 300) (by first | exact dq1 hd rfl | exact dq0 hd rfl | exact dq2 hd rfl | exact dq3 hd rfl | omega) rfl (Nat.le_of_ble_eq_true rfl) ?_
              refine g_aload_n 1 (gd rfl) rfl rfl ?_
              refine g_getA (q2 := 3) 4 (gd rfl) rfl rfl rfl rfl ?_
              refine g_iload_n 5 (gd rfl) rfl rfl ?_
              refine g_iaload 6 (gd rfl) rfl (n := 32) rfl (in_ix i82x7 rfl) (fun z95x5 e95x5 => ?_)
              have i95x5 := inv_I hIc72 (n := 32) (t := 0) 0 25 rfl (in_ix i82x7 rfl) rfl e95x5
              refine g_bipush 13 8 (gd rfl) rfl rfl ?_
              refine g_cmp_ge 11 15 (gd rfl) rfl rfl (fun c95x8 => ?_) (fun c95x8 => ?_)
              · skip
                have i95x8 := r_le2 13 25 c95x8 (in_c 13 rfl) i95x5 rfl
                refine g_iconst 0 16 (gd rfl) rfl rfl ?_
                refine g_ireturn (gd rfl) rfl (nb01 (in_w 0 1 (in_c 0 rfl) rfl)) (hp95 _ _ ?_)
                show GG _ _ _ _ _ _ _ _ [.int (Int32.ofInt 0)] _ _ _
                refine g_aload_n 99 (gd rfl) rfl rfl ?_
                refine g_aload_n 100 (gd rfl) rfl rfl ?_
                refine g_getA (q2 := 5) 103 (gd rfl) rfl rfl rfl rfl ?_
                refine g_iload_n 104 (gd rfl) rfl rfl ?_
                refine g_iaload 105 (gd rfl) rfl (n := 160) rfl (in_ix i77 rfl) (fun z104 e104 => ?_)
                have q104 : z82x21 = z104 := (e82x21).trans e104.symm
                subst q104
                refine g_calls (As := [.ref (A 2), .int z82x21]) (r := [.int (Int32.ofInt 0)]) 108 (gd rfl) rfl rfl rfl rfl rfl (Nat.le_of_ble_eq_true rfl) (mc := 0) (ms := 0) (Nat.zero_le _) (Nat.zero_le _) (P := fun v u => _) ?_ (fun v u h => h)
                intro po105 xx105 hp105 hx105
                refine g_enter2 (k := 90) (N := 300) (by first | exact dq1 hd rfl | exact dq0 hd rfl | exact dq2 hd rfl | exact dq3 hd rfl | omega) rfl (Nat.le_of_ble_eq_true rfl) ?_
                refine g_aload_n 1 (gd rfl) rfl rfl ?_
                refine g_getA (q2 := 3) 4 (gd rfl) rfl rfl rfl rfl ?_
                refine g_iload_n 5 (gd rfl) rfl rfl ?_
                refine g_iaload 6 (gd rfl) rfl (n := 32) rfl (in_ix i82x21 rfl) (fun z105x5 e105x5 => ?_)
                have i105x5 := inv_I hIc72 (n := 32) (t := 0) 0 25 rfl (in_ix i82x21 rfl) rfl e105x5
                refine g_bipush 13 8 (gd rfl) rfl rfl ?_
                refine g_cmp_ge 11 15 (gd rfl) rfl rfl (fun c105x8 => ?_) (fun c105x8 => ?_)
                · skip
                  have i105x8 := r_le2 13 25 c105x8 (in_c 13 rfl) i105x5 rfl
                  refine g_iconst 0 16 (gd rfl) rfl rfl ?_
                  refine g_ireturn (gd rfl) rfl (nb01 (in_w 0 1 (in_c 0 rfl) rfl)) (hp105 _ _ ?_)
                  show GG _ _ _ _ _ _ _ _ [.int (Int32.ofInt 0), .int (Int32.ofInt 0)] _ _ _
                  refine g_cmp_eq 111 171 (gd rfl) rfl rfl (fun c108 => ?_) (fun c108 => ?_)
                  · skip
                    refine g_iinc 174 (gd rfl) rfl rfl (Nat.le_of_ble_eq_true rfl) (fun z171 e171 => ?_)
                    have i171 := in_add 1 160 e171 i77 (in_c 1 rfl) rfl rfl
                    refine g_goto 72 (gd rfl) rfl ?_
                    have n72 : (w72_65_17).toInt = 0 := by first | exact n72_0 | (have a0 := in_u i77a; have a1 := in_u ro_2_1; have a2 := in_u ro_2_0; have a3 := in_u ((inv_F hIc72 0 32 rfl v72_65_17)); have a4 := in_u i77; have a5 := in_u i171; have a6 := t_add e171 i77 (in_c 1 rfl) rfl; have a7 := in_u ((in_c 1 rfl)); omega)
                    exact gg_w (by first | exact Nat.le_add_right _ _ | exact gw2 | exact gw3 | exact gwe rfl | exact gwf rfl | exact gwg rfl | exact gwh rfl | omega) (gg_f (gf_cons rfl (gf_cons rfl (gf_cons rfl gf_nil))) (ih72 sc72 z171 w72_65_17 hIc72 hFc72 (in_w 0 160 i171 rfl) v72_65_17 n72 (m_up mm72 (t_add e171 i77 (in_c 1 rfl) rfl) (in_w 1 1 (in_c 1 rfl) rfl))))
                  · skip
                    exact n_ne c108 (in_c 0 rfl) (in_c 0 rfl) rfl
                · skip
                  have i105x8 := r_lt1 0 12 c105x8 i105x5 (in_c 13 rfl) rfl
                  refine g_iconst 1 12 (gd rfl) rfl rfl ?_
                  refine g_goto 16 (gd rfl) rfl ?_
                  refine g_ireturn (gd rfl) rfl (nb01 (in_w 0 1 (in_c 1 rfl) rfl)) (hp105 _ _ ?_)
                  show GG _ _ _ _ _ _ _ _ [.int (Int32.ofInt 1), .int (Int32.ofInt 0)] _ _ _
                  refine g_cmp_eq 111 171 (gd rfl) rfl rfl (fun c108 => ?_) (fun c108 => ?_)
                  · skip
                    exact n_eq c108 (in_c 0 rfl) (in_c 1 rfl) rfl
                  · skip
                    refine g_aload_n 112 (gd rfl) rfl rfl ?_
                    refine g_aload_n 113 (gd rfl) rfl rfl ?_
                    refine g_getA (q2 := 4) 116 (gd rfl) rfl rfl rfl rfl ?_
                    refine g_iload_n 117 (gd rfl) rfl rfl ?_
                    refine g_iaload 118 (gd rfl) rfl (n := 160) rfl (in_ix i77 rfl) (fun z117 e117 => ?_)
                    have q117 : z82x5 = z117 := (e82x5).trans e117.symm
                    subst q117
                    refine g_calls (As := [.ref (A 2), .int z82x5]) (r := []) 121 (gd rfl) rfl rfl rfl rfl rfl (Nat.le_of_ble_eq_true rfl) (mc := 0) (ms := 0) (Nat.zero_le _) (Nat.zero_le _) (P := fun v u => _) ?_ (fun v u h => h)
                    intro po118 xx118 hp118 hx118
                    refine g_enter2 (k := 90) (N := 300) (by first | exact dq1 hd rfl | exact dq0 hd rfl | exact dq2 hd rfl | exact dq3 hd rfl | omega) rfl (Nat.le_of_ble_eq_true rfl) ?_
                    refine g_aload_n 1 (gd rfl) rfl rfl ?_
                    refine g_getA (q2 := 3) 4 (gd rfl) rfl rfl rfl rfl ?_
                    refine g_iload_n 5 (gd rfl) rfl rfl ?_
                    refine g_iaload 6 (gd rfl) rfl (n := 32) rfl (in_ix i82x7 rfl) (fun z118x5 e118x5 => ?_)
                    have q118x5 : z95x5 = z118x5 := (e95x5).trans e118x5.symm
                    subst q118x5
                    refine g_bipush 13 8 (gd rfl) rfl rfl ?_
                    refine g_cmp_ge 11 15 (gd rfl) rfl rfl (fun c118x8 => ?_) (fun c118x8 => ?_)
                    · skip
                      refine g_iconst 0 16 (gd rfl) rfl rfl ?_
                      refine g_ireturn (gd rfl) rfl (nb01 (in_w 0 1 (in_c 0 rfl) rfl)) (hp118 _ _ ?_)
                      show GG _ _ _ _ _ _ _ _ [.int (Int32.ofInt 0)] _ _ _
                      refine g_istore_n 122 (gd rfl) rfl (Nat.le_of_ble_eq_true rfl) ?_
                      refine g_aload_n 123 (gd rfl) rfl rfl ?_
                      refine g_iload_n 124 (gd rfl) rfl rfl ?_
                      refine g_if_eq 127 136 (gd rfl) rfl rfl (fun c124 => ?_) (fun c124 => ?_)
                      · skip
                        refine g_aload_n 137 (gd rfl) rfl rfl ?_
                        refine g_getA (q2 := 5) 140 (gd rfl) rfl rfl rfl rfl ?_
                        refine g_iload_n 141 (gd rfl) rfl rfl ?_
                        refine g_iaload 142 (gd rfl) rfl (n := 160) rfl (in_ix i77 rfl) (fun z141 e141 => ?_)
                        have q141 : z82x21 = z141 := (e82x21).trans e141.symm
                        subst q141
                        refine g_iload_n 143 (gd rfl) rfl rfl ?_
                        refine g_if_eq 146 155 (gd rfl) rfl rfl (fun c143 => ?_) (fun c143 => ?_)
                        · skip
                          refine g_aload_n 156 (gd rfl) rfl rfl ?_
                          refine g_getA (q2 := 4) 159 (gd rfl) rfl rfl rfl rfl ?_
                          refine g_iload_n 160 (gd rfl) rfl rfl ?_
                          refine g_iaload 161 (gd rfl) rfl (n := 160) rfl (in_ix i77 rfl) (fun z160 e160 => ?_)
                          have q160 : z82x5 = z160 := (e82x5).trans e160.symm
                          subst q160
                          refine g_aload_n 162 (gd rfl) rfl rfl ?_
                          refine g_getA (q2 := 6) 165 (gd rfl) rfl rfl rfl rfl ?_
                          refine g_iload_n 166 (gd rfl) rfl rfl ?_
                          refine g_iaload 167 (gd rfl) rfl (n := 160) rfl (in_ix i77 rfl) (fun z166 e166 => ?_)
                          have i166 := inv_I hIc72 (n := 160) (t := 0) (-1000000) 1000000 rfl (in_ix i77 rfl) rfl e166
                          refine g_iconst 1 168 (gd rfl) rfl rfl ?_
                          refine g_callv (X := _) (As := [.int z82x21, .int z82x5, .int z166, .int (Int32.ofInt 1)]) (r := []) (b := A 65) (q := 65) 171 (gd rfl) rfl rfl rfl rfl rfl (ww_o rfl) (Nat.le_of_ble_eq_true rfl) (Nat.zero_le _) (Nat.zero_le _) (k_84_65 (by first | exact dq1 hd rfl | exact dq0 hd rfl | exact dq2 hd rfl | exact dq3 hd rfl | omega) hIc72 (in_w 0 31 i82x21 rfl) (in_w 0 31 i82x7 rfl) (in_w (-1000000) 1000000 i166 rfl) (in_w 0 1000000 (in_c 1 rfl) rfl)) (fun e u h => h) (fun v u h => ?_)
                          obtain ⟨s168, hI168, hF168, rfl, rfl⟩ := h
                          show GG _ _ _ _ _ _ _ _ [] _ _ _
                          refine g_iinc 174 (gd rfl) rfl rfl (Nat.le_of_ble_eq_true rfl) (fun z171 e171 => ?_)
                          have i171 := in_add 1 160 e171 i77 (in_c 1 rfl) rfl rfl
                          refine g_goto 72 (gd rfl) rfl ?_
                          have v72 : w72_65_17 = s168.2.2.1 65 17 := fr_F (v72_65_17) hF168 rfl
                          have n72 : (w72_65_17).toInt = 0 := by first | exact n72_0 | (have a0 := in_u i77a; have a1 := in_u ro_2_1; have a2 := in_u ro_2_0; have a3 := in_u ((inv_F hIc72 0 32 rfl v72_65_17)); have a4 := in_u i77; have a5 := in_u ((in_c 0 rfl)); have a6 := in_u i171; have a7 := t_add e171 i77 (in_c 1 rfl) rfl; have a8 := in_u ((in_c 1 rfl)); omega)
                          exact gg_w (by first | exact Nat.le_add_right _ _ | exact gw2 | exact gw3 | exact gwe rfl | exact gwf rfl | exact gwg rfl | exact gwh rfl | omega) (gg_f (gf_cons rfl (gf_cons rfl (gf_cons rfl gf_nil))) (ih72 s168 z171 w72_65_17 hI168 (fr_tr rfl hFc72 hF168) (in_w 0 160 i171 rfl) v72 n72 (m_up mm72 (t_add e171 i77 (in_c 1 rfl) rfl) (in_w 1 1 (in_c 1 rfl) rfl))))
                        · skip
                          exact zn_ne c143 (in_c 0 rfl) rfl
                      · skip
                        exact zn_ne c124 (in_c 0 rfl) rfl
                    · skip
                      exact n_lt c118x8 i95x8 (in_c 13 rfl) rfl
              · skip
                have i95x8 := r_lt1 0 12 c95x8 i95x5 (in_c 13 rfl) rfl
                refine g_iconst 1 12 (gd rfl) rfl rfl ?_
                refine g_goto 16 (gd rfl) rfl ?_
                refine g_ireturn (gd rfl) rfl (nb01 (in_w 0 1 (in_c 1 rfl) rfl)) (hp95 _ _ ?_)
                show GG _ _ _ _ _ _ _ _ [.int (Int32.ofInt 1)] _ _ _
                refine g_aload_n 99 (gd rfl) rfl rfl ?_
                refine g_aload_n 100 (gd rfl) rfl rfl ?_
                refine g_getA (q2 := 5) 103 (gd rfl) rfl rfl rfl rfl ?_
                refine g_iload_n 104 (gd rfl) rfl rfl ?_
                refine g_iaload 105 (gd rfl) rfl (n := 160) rfl (in_ix i77 rfl) (fun z104 e104 => ?_)
                have q104 : z82x21 = z104 := (e82x21).trans e104.symm
                subst q104
                refine g_calls (As := [.ref (A 2), .int z82x21]) (r := [.int (Int32.ofInt 1)]) 108 (gd rfl) rfl rfl rfl rfl rfl (Nat.le_of_ble_eq_true rfl) (mc := 0) (ms := 0) (Nat.zero_le _) (Nat.zero_le _) (P := fun v u => _) ?_ (fun v u h => h)
                intro po105 xx105 hp105 hx105
                refine g_enter2 (k := 90) (N := 300) (by first | exact dq1 hd rfl | exact dq0 hd rfl | exact dq2 hd rfl | exact dq3 hd rfl | omega) rfl (Nat.le_of_ble_eq_true rfl) ?_
                refine g_aload_n 1 (gd rfl) rfl rfl ?_
                refine g_getA (q2 := 3) 4 (gd rfl) rfl rfl rfl rfl ?_
                refine g_iload_n 5 (gd rfl) rfl rfl ?_
                refine g_iaload 6 (gd rfl) rfl (n := 32) rfl (in_ix i82x21 rfl) (fun z105x5 e105x5 => ?_)
                have i105x5 := inv_I hIc72 (n := 32) (t := 0) 0 25 rfl (in_ix i82x21 rfl) rfl e105x5
                refine g_bipush 13 8 (gd rfl) rfl rfl ?_
                refine g_cmp_ge 11 15 (gd rfl) rfl rfl (fun c105x8 => ?_) (fun c105x8 => ?_)
                · skip
                  have i105x8 := r_le2 13 25 c105x8 (in_c 13 rfl) i105x5 rfl
                  refine g_iconst 0 16 (gd rfl) rfl rfl ?_
                  refine g_ireturn (gd rfl) rfl (nb01 (in_w 0 1 (in_c 0 rfl) rfl)) (hp105 _ _ ?_)
                  show GG _ _ _ _ _ _ _ _ [.int (Int32.ofInt 0), .int (Int32.ofInt 1)] _ _ _
                  refine g_cmp_eq 111 171 (gd rfl) rfl rfl (fun c108 => ?_) (fun c108 => ?_)
                  · skip
                    exact n_eq c108 (in_c 1 rfl) (in_c 0 rfl) rfl
                  · skip
                    refine g_aload_n 112 (gd rfl) rfl rfl ?_
                    refine g_aload_n 113 (gd rfl) rfl rfl ?_
                    refine g_getA (q2 := 4) 116 (gd rfl) rfl rfl rfl rfl ?_
                    refine g_iload_n 117 (gd rfl) rfl rfl ?_
                    refine g_iaload 118 (gd rfl) rfl (n := 160) rfl (in_ix i77 rfl) (fun z117 e117 => ?_)
                    have q117 : z82x5 = z117 := (e82x5).trans e117.symm
                    subst q117
                    refine g_calls (As := [.ref (A 2), .int z82x5]) (r := []) 121 (gd rfl) rfl rfl rfl rfl rfl (Nat.le_of_ble_eq_true rfl) (mc := 0) (ms := 0) (Nat.zero_le _) (Nat.zero_le _) (P := fun v u => _) ?_ (fun v u h => h)
                    intro po118 xx118 hp118 hx118
                    refine g_enter2 (k := 90) (N := 300) (by first | exact dq1 hd rfl | exact dq0 hd rfl | exact dq2 hd rfl | exact dq3 hd rfl | omega) rfl (Nat.le_of_ble_eq_true rfl) ?_
                    refine g_aload_n 1 (gd rfl) rfl rfl ?_
                    refine g_getA (q2 := 3) 4 (gd rfl) rfl rfl rfl rfl ?_
                    refine g_iload_n 5 (gd rfl) rfl rfl ?_
                    refine g_iaload 6 (gd rfl) rfl (n := 32) rfl (in_ix i82x7 rfl) (fun z118x5 e118x5 => ?_)
                    have q118x5 : z95x5 = z118x5 := (e95x5).trans e118x5.symm
                    subst q118x5
                    refine g_bipush 13 8 (gd rfl) rfl rfl ?_
                    refine g_cmp_ge 11 15 (gd rfl) rfl rfl (fun c118x8 => ?_) (fun c118x8 => ?_)
                    · skip
                      exact n_le c118x8 (in_c 13 rfl) i95x8 rfl
                    · skip
                      refine g_iconst 1 12 (gd rfl) rfl rfl ?_
                      refine g_goto 16 (gd rfl) rfl ?_
                      refine g_ireturn (gd rfl) rfl (nb01 (in_w 0 1 (in_c 1 rfl) rfl)) (hp118 _ _ ?_)
                      show GG _ _ _ _ _ _ _ _ [.int (Int32.ofInt 1)] _ _ _
                      refine g_istore_n 122 (gd rfl) rfl (Nat.le_of_ble_eq_true rfl) ?_
                      refine g_aload_n 123 (gd rfl) rfl rfl ?_
                      refine g_iload_n 124 (gd rfl) rfl rfl ?_
                      refine g_if_eq 127 136 (gd rfl) rfl rfl (fun c124 => ?_) (fun c124 => ?_)
                      · skip
                        exact zn_eq c124 (in_c 1 rfl) rfl
                      · skip
                        refine g_aload_n 128 (gd rfl) rfl rfl ?_
                        refine g_getA (q2 := 4) 131 (gd rfl) rfl rfl rfl rfl ?_
                        refine g_iload_n 132 (gd rfl) rfl rfl ?_
                        refine g_iaload 133 (gd rfl) rfl (n := 160) rfl (in_ix i77 rfl) (fun z132 e132 => ?_)
                        have q132 : z82x5 = z132 := (e82x5).trans e132.symm
                        subst q132
                        refine g_goto 142 (gd rfl) rfl ?_
                        refine g_iload_n 143 (gd rfl) rfl rfl ?_
                        refine g_if_eq 146 155 (gd rfl) rfl rfl (fun c143 => ?_) (fun c143 => ?_)
                        · skip
                          exact zn_eq c143 (in_c 1 rfl) rfl
                        · skip
                          refine g_aload_n 147 (gd rfl) rfl rfl ?_
                          refine g_getA (q2 := 5) 150 (gd rfl) rfl rfl rfl rfl ?_
                          refine g_iload_n 151 (gd rfl) rfl rfl ?_
                          refine g_iaload 152 (gd rfl) rfl (n := 160) rfl (in_ix i77 rfl) (fun z151 e151 => ?_)
                          have q151 : z82x21 = z151 := (e82x21).trans e151.symm
                          subst q151
                          refine g_goto 161 (gd rfl) rfl ?_
                          refine g_aload_n 162 (gd rfl) rfl rfl ?_
                          refine g_getA (q2 := 6) 165 (gd rfl) rfl rfl rfl rfl ?_
                          refine g_iload_n 166 (gd rfl) rfl rfl ?_
                          refine g_iaload 167 (gd rfl) rfl (n := 160) rfl (in_ix i77 rfl) (fun z166 e166 => ?_)
                          have i166 := inv_I hIc72 (n := 160) (t := 0) (-1000000) 1000000 rfl (in_ix i77 rfl) rfl e166
                          refine g_iconst 1 168 (gd rfl) rfl rfl ?_
                          refine g_callv (X := _) (As := [.int z82x5, .int z82x21, .int z166, .int (Int32.ofInt 1)]) (r := []) (b := A 65) (q := 65) 171 (gd rfl) rfl rfl rfl rfl rfl (ww_o rfl) (Nat.le_of_ble_eq_true rfl) (Nat.zero_le _) (Nat.zero_le _) (k_84_65 (by first | exact dq1 hd rfl | exact dq0 hd rfl | exact dq2 hd rfl | exact dq3 hd rfl | omega) hIc72 (in_w 0 31 i82x7 rfl) (in_w 0 31 i82x21 rfl) (in_w (-1000000) 1000000 i166 rfl) (in_w 0 1000000 (in_c 1 rfl) rfl)) (fun e u h => h) (fun v u h => ?_)
                          obtain ⟨s168, hI168, hF168, rfl, rfl⟩ := h
                          show GG _ _ _ _ _ _ _ _ [] _ _ _
                          refine g_iinc 174 (gd rfl) rfl rfl (Nat.le_of_ble_eq_true rfl) (fun z171 e171 => ?_)
                          have i171 := in_add 1 160 e171 i77 (in_c 1 rfl) rfl rfl
                          refine g_goto 72 (gd rfl) rfl ?_
                          have v72 : w72_65_17 = s168.2.2.1 65 17 := fr_F (v72_65_17) hF168 rfl
                          have n72 : (w72_65_17).toInt = 0 := by first | exact n72_0 | (have a0 := in_u i77a; have a1 := in_u ro_2_1; have a2 := in_u ro_2_0; have a3 := in_u ((inv_F hIc72 0 32 rfl v72_65_17)); have a4 := in_u i77; have a5 := in_u ((in_c 1 rfl)); have a6 := in_u i171; have a7 := t_add e171 i77 (in_c 1 rfl) rfl; omega)
                          exact gg_w (by first | exact Nat.le_add_right _ _ | exact gw2 | exact gw3 | exact gwe rfl | exact gwf rfl | exact gwg rfl | exact gwh rfl | omega) (gg_f (gf_cons rfl (gf_cons rfl (gf_cons rfl gf_nil))) (ih72 s168 z171 w72_65_17 hI168 (fr_tr rfl hFc72 hF168) (in_w 0 160 i171 rfl) v72 n72 (m_up mm72 (t_add e171 i77 (in_c 1 rfl) rfl) (in_w 1 1 (in_c 1 rfl) rfl))))
                · skip
                  have i105x8 := r_lt1 0 12 c105x8 i105x5 (in_c 13 rfl) rfl
                  refine g_iconst 1 12 (gd rfl) rfl rfl ?_
                  refine g_goto 16 (gd rfl) rfl ?_
                  refine g_ireturn (gd rfl) rfl (nb01 (in_w 0 1 (in_c 1 rfl) rfl)) (hp105 _ _ ?_)
                  show GG _ _ _ _ _ _ _ _ [.int (Int32.ofInt 1), .int (Int32.ofInt 1)] _ _ _
                  refine g_cmp_eq 111 171 (gd rfl) rfl rfl (fun c108 => ?_) (fun c108 => ?_)
                  · skip
                    refine g_iinc 174 (gd rfl) rfl rfl (Nat.le_of_ble_eq_true rfl) (fun z171 e171 => ?_)
                    have i171 := in_add 1 160 e171 i77 (in_c 1 rfl) rfl rfl
                    refine g_goto 72 (gd rfl) rfl ?_
                    have n72 : (w72_65_17).toInt = 0 := by first | exact n72_0 | (have a0 := in_u i77a; have a1 := in_u ro_2_1; have a2 := in_u ro_2_0; have a3 := in_u ((inv_F hIc72 0 32 rfl v72_65_17)); have a4 := in_u i77; have a5 := in_u i171; have a6 := t_add e171 i77 (in_c 1 rfl) rfl; have a7 := in_u ((in_c 1 rfl)); omega)
                    exact gg_w (by first | exact Nat.le_add_right _ _ | exact gw2 | exact gw3 | exact gwe rfl | exact gwf rfl | exact gwg rfl | exact gwh rfl | omega) (gg_f (gf_cons rfl (gf_cons rfl (gf_cons rfl gf_nil))) (ih72 sc72 z171 w72_65_17 hIc72 hFc72 (in_w 0 160 i171 rfl) v72_65_17 n72 (m_up mm72 (t_add e171 i77 (in_c 1 rfl) rfl) (in_w 1 1 (in_c 1 rfl) rfl))))
                  · skip
                    exact n_ne c108 (in_c 1 rfl) (in_c 1 rfl) rfl
  have ct37 : ∀ (k37 : Nat) (sc37 : GS) (y37_2 : Int32) (w37_65_17 : Int32), Inv sc37 → Fr fm_89_65_2 s sc37 → (In y37_2 0 32) → (w37_65_17 = sc37.2.2.1 65 17) → ((w37_65_17).toInt = 0) → 32 - (y37_2).toInt < (k37 : Int) → GG Z (d - 1) 89 post (gx xp) (174603 + k37 * 900) 37 (fun j => xlook j [(0, .ref (A 65)), (1, .ref (A 2)), (2, .int y37_2)]) [] (WW Z A sc37 ++ ex) 0 0 := by
    intro k37
    induction k37 with
    | zero => intro sc37 y37_2 w37_65_17 hIc37 hFc37 j37_2 v37_65_17 n37_0 mm37; exact m_no mm37 j37_2 rfl
    | succ k37 ih37 =>
      intro sc37 y37_2 w37_65_17 hIc37 hFc37 j37_2 v37_65_17 n37_0 mm37
      refine gg_w (M := 174603 + k37 * 900 + 900) gws ?_
      refine g_iload_n 38 (gd rfl) rfl rfl ?_
      refine g_aload_n 39 (gd rfl) rfl rfl ?_
      refine g_getI 42 (gd rfl) rfl rfl rfl (fun z39 e39 => ?_)
      have q39 : u_2_1 = z39 := (fr_F e_2_1 hFc37 rfl).trans e39.symm
      subst q39
      refine g_cmp_ge 45 70 (gd rfl) rfl rfl (fun c42 => ?_) (fun c42 => ?_)
      · skip
        refine g_iconst 0 71 (gd rfl) rfl rfl ?_
        refine g_istore_n 72 (gd rfl) rfl (Nat.le_of_ble_eq_true rfl) ?_
        have n72 : (w37_65_17).toInt = 0 := by first | exact n37_0 | (have a0 := in_u ro_2_3; have a1 := in_u ro_2_1; have a2 := in_u ro_2_0; have a3 := in_u ((inv_F hIc37 0 32 rfl v37_65_17)); have a4 := in_u j37_2; have a5 := in_u ((in_c 0 rfl)); omega)
        exact gg_w (by first | exact Nat.le_add_right _ _ | exact gw2 | exact gw3 | exact gwe rfl | exact gwf rfl | exact gwg rfl | exact gwh rfl | omega) (gg_f (gf_cons rfl (gf_cons rfl (gf_cons rfl gf_nil))) (ct72 161 sc37 (Int32.ofInt 0) w37_65_17 hIc37 hFc37 (in_w 0 160 (in_c 0 rfl) rfl) v37_65_17 n72 (m_in 161 (in_w 0 160 (in_c 0 rfl) rfl) rfl)))
      · skip
        have i42 := r_lt1 0 31 c42 j37_2 ro_2_1 rfl
        have i42a := r_lt2 1 32 c42 j37_2 ro_2_1 rfl
        refine g_aload_n 46 (gd rfl) rfl rfl ?_
        refine g_getA (q2 := 74) 49 (gd rfl) rfl rfl rfl rfl ?_
        refine g_iload_n 50 (gd rfl) rfl rfl ?_
        refine g_aload_n 51 (gd rfl) rfl rfl ?_
        refine g_iload_n 52 (gd rfl) rfl rfl ?_
        refine g_calls (As := [.ref (A 2), .int y37_2]) (r := [.int y37_2, .ref (A 74)]) 55 (gd rfl) rfl rfl rfl rfl rfl (Nat.le_of_ble_eq_true rfl) (mc := 0) (ms := 0) (Nat.zero_le _) (Nat.zero_le _) (P := fun v u => _) ?_ (fun v u h => h)
        intro po52 xx52 hp52 hx52
        refine g_enter2 (k := 90) (N := 300) (by first | exact dq1 hd rfl | exact dq0 hd rfl | exact dq2 hd rfl | exact dq3 hd rfl | omega) rfl (Nat.le_of_ble_eq_true rfl) ?_
        refine g_aload_n 1 (gd rfl) rfl rfl ?_
        refine g_getA (q2 := 3) 4 (gd rfl) rfl rfl rfl rfl ?_
        refine g_iload_n 5 (gd rfl) rfl rfl ?_
        refine g_iaload 6 (gd rfl) rfl (n := 32) rfl (in_ix i42 rfl) (fun z52x5 e52x5 => ?_)
        have i52x5 := inv_I hIc37 (n := 32) (t := 0) 0 25 rfl (in_ix i42 rfl) rfl e52x5
        refine g_bipush 13 8 (gd rfl) rfl rfl ?_
        refine g_cmp_ge 11 15 (gd rfl) rfl rfl (fun c52x8 => ?_) (fun c52x8 => ?_)
        · skip
          have i52x8 := r_le2 13 25 c52x8 (in_c 13 rfl) i52x5 rfl
          refine g_iconst 0 16 (gd rfl) rfl rfl ?_
          refine g_ireturn (gd rfl) rfl (nb01 (in_w 0 1 (in_c 0 rfl) rfl)) (hp52 _ _ ?_)
          show GG _ _ _ _ _ _ _ _ [.int (Int32.ofInt 0), .int y37_2, .ref (A 74)] _ _ _
          refine g_if_eq 58 62 (gd rfl) rfl rfl (fun c55 => ?_) (fun c55 => ?_)
          · skip
            refine g_iconst (-1) 63 (gd rfl) rfl rfl ?_
            refine g_iastore 64 (gd rfl) rfl (n := 32) rfl (in_ix i42 rfl) ?_
            have hI63 := inv_sI (q := 74) (j := y37_2.toNatClampNeg) hIc37 rfl (in_w (-2147483648) 2147483647 (in_c (-1) rfl) rfl)
            refine g_iinc 67 (gd rfl) rfl rfl (Nat.le_of_ble_eq_true rfl) (fun z64 e64 => ?_)
            have i64 := in_add 1 32 e64 i42 (in_c 1 rfl) rfl rfl
            refine g_goto 37 (gd rfl) rfl ?_
            have v37 : w37_65_17 = (sI sc37 74 y37_2.toNatClampNeg (Int32.ofInt (-1))).2.2.1 65 17 := sI_F (v37_65_17)
            have n37 : (w37_65_17).toInt = 0 := by first | exact n37_0 | (have a0 := in_u ro_2_3; have a1 := in_u i42a; have a2 := in_u ro_2_0; have a3 := in_u ((inv_F hIc37 0 32 rfl v37_65_17)); have a4 := in_u i42; have a5 := in_u i64; have a6 := t_add e64 i42 (in_c 1 rfl) rfl; have a7 := in_u ((in_c 1 rfl)); omega)
            exact gg_w (by first | exact Nat.le_add_right _ _ | exact gw2 | exact gw3 | exact gwe rfl | exact gwf rfl | exact gwg rfl | exact gwh rfl | omega) (gg_f (gf_cons rfl (gf_cons rfl (gf_cons rfl gf_nil))) (ih37 (sI sc37 74 y37_2.toNatClampNeg (Int32.ofInt (-1))) z64 w37_65_17 hI63 (fr_sI rfl hFc37) (in_w 0 32 i64 rfl) v37 n37 (m_up mm37 (t_add e64 i42 (in_c 1 rfl) rfl) (in_w 1 1 (in_c 1 rfl) rfl))))
          · skip
            exact zn_ne c55 (in_c 0 rfl) rfl
        · skip
          have i52x8 := r_lt1 0 12 c52x8 i52x5 (in_c 13 rfl) rfl
          refine g_iconst 1 12 (gd rfl) rfl rfl ?_
          refine g_goto 16 (gd rfl) rfl ?_
          refine g_ireturn (gd rfl) rfl (nb01 (in_w 0 1 (in_c 1 rfl) rfl)) (hp52 _ _ ?_)
          show GG _ _ _ _ _ _ _ _ [.int (Int32.ofInt 1), .int y37_2, .ref (A 74)] _ _ _
          refine g_if_eq 58 62 (gd rfl) rfl rfl (fun c55 => ?_) (fun c55 => ?_)
          · skip
            exact zn_eq c55 (in_c 1 rfl) rfl
          · skip
            refine g_iconst 1 59 (gd rfl) rfl rfl ?_
            refine g_goto 63 (gd rfl) rfl ?_
            refine g_iastore 64 (gd rfl) rfl (n := 32) rfl (in_ix i42 rfl) ?_
            have hI63 := inv_sI (q := 74) (j := y37_2.toNatClampNeg) hIc37 rfl (in_w (-2147483648) 2147483647 (in_c 1 rfl) rfl)
            refine g_iinc 67 (gd rfl) rfl rfl (Nat.le_of_ble_eq_true rfl) (fun z64 e64 => ?_)
            have i64 := in_add 1 32 e64 i42 (in_c 1 rfl) rfl rfl
            refine g_goto 37 (gd rfl) rfl ?_
            have v37 : w37_65_17 = (sI sc37 74 y37_2.toNatClampNeg (Int32.ofInt 1)).2.2.1 65 17 := sI_F (v37_65_17)
            have n37 : (w37_65_17).toInt = 0 := by first | exact n37_0 | (have a0 := in_u ro_2_3; have a1 := in_u i42a; have a2 := in_u ro_2_0; have a3 := in_u ((inv_F hIc37 0 32 rfl v37_65_17)); have a4 := in_u i42; have a5 := in_u i64; have a6 := t_add e64 i42 (in_c 1 rfl) rfl; have a7 := in_u ((in_c 1 rfl)); omega)
            exact gg_w (by first | exact Nat.le_add_right _ _ | exact gw2 | exact gw3 | exact gwe rfl | exact gwf rfl | exact gwg rfl | exact gwh rfl | omega) (gg_f (gf_cons rfl (gf_cons rfl (gf_cons rfl gf_nil))) (ih37 (sI sc37 74 y37_2.toNatClampNeg (Int32.ofInt 1)) z64 w37_65_17 hI63 (fr_sI rfl hFc37) (in_w 0 32 i64 rfl) v37 n37 (m_up mm37 (t_add e64 i42 (in_c 1 rfl) rfl) (in_w 1 1 (in_c 1 rfl) rfl))))
  refine g_enter2 (k := 89) (N := 205203) (by first | exact dq1 hd rfl | exact dq0 hd rfl | exact dq2 hd rfl | exact dq3 hd rfl | omega) rfl (Nat.le_of_ble_eq_true rfl) ?_
  refine g_aload_n 1 (gd rfl) rfl rfl ?_
  refine g_getI 4 (gd rfl) rfl rfl rfl (fun z1 e1 => ?_)
  have i1 := inv_F hI (-1) 4000 rfl e1
  refine g_aload_n 5 (gd rfl) rfl rfl ?_
  refine g_getI 8 (gd rfl) rfl rfl rfl (fun z5 e5 => ?_)
  have q5 : u_2_0 = z5 := (e_2_0).trans e5.symm
  subst q5
  refine g_cmp_ne 11 12 (gd rfl) rfl rfl (fun c8 => ?_) (fun c8 => ?_)
  · skip
    refine g_aload_n 13 (gd rfl) rfl rfl ?_
    refine g_aload_n 14 (gd rfl) rfl rfl ?_
    refine g_getI 17 (gd rfl) rfl rfl rfl (fun z14 e14 => ?_)
    have q14 : u_2_0 = z14 := (e_2_0).trans e14.symm
    subst q14
    refine g_putI 20 (gd rfl) rfl rfl rfl rfl ?_
    have hI17 := inv_sF (q := 65) (j := 16) hI rfl (in_w (-1) 4000 ro_2_0 rfl)
    refine g_aload_n 21 (gd rfl) rfl rfl ?_
    refine g_iconst 0 22 (gd rfl) rfl rfl ?_
    refine g_putI 25 (gd rfl) rfl rfl rfl rfl ?_
    have hI22 := inv_sF (q := 65) (j := 17) hI17 rfl (in_w 0 32 (in_c 0 rfl) rfl)
    refine g_aload_n 26 (gd rfl) rfl rfl ?_
    refine g_lconst 0 27 (gd rfl) rfl rfl ?_
    refine g_putL 30 (gd rfl) rfl rfl rfl rfl ?_
    have hI27 := inv_sG (q := 65) (j := 18) (x := (Int64.ofInt 0)) hI22 rfl (l_rng (Int64.ofInt 0))
    refine g_aload_n 31 (gd rfl) rfl rfl ?_
    refine g_iconst 0 32 (gd rfl) rfl rfl ?_
    refine g_putI 35 (gd rfl) rfl rfl rfl rfl ?_
    have hI32 := inv_sF (q := 65) (j := 8) hI27 rfl (in_w 0 160 (in_c 0 rfl) rfl)
    refine g_iconst 0 36 (gd rfl) rfl rfl ?_
    refine g_istore_n 37 (gd rfl) rfl (Nat.le_of_ble_eq_true rfl) ?_
    have v37 : (Int32.ofInt 0) = (sF (sG (sF (sF s 65 16 u_2_0) 65 17 (Int32.ofInt 0)) 65 18 (Int64.ofInt 0)) 65 8 (Int32.ofInt 0)).2.2.1 65 17 := sF_ne rfl (sG_F (sF_get))
    have n37 : ((Int32.ofInt 0)).toInt = 0 := by have a0 := in_u ro_2_3; have a1 := in_u ro_2_1; have a2 := in_u ro_2_0; have a3 := in_u ((in_c 0 rfl)); omega
    exact gg_w (by first | exact Nat.le_of_ble_eq_true rfl | omega) (gg_f (gf_cons rfl (gf_cons rfl (gf_cons rfl gf_nil))) (ct37 33 (sF (sG (sF (sF s 65 16 u_2_0) 65 17 (Int32.ofInt 0)) 65 18 (Int64.ofInt 0)) 65 8 (Int32.ofInt 0)) (Int32.ofInt 0) (Int32.ofInt 0) hI32 (fr_sF rfl (fr_sG rfl (fr_sF rfl (fr_sF rfl fr_rf)))) (in_w 0 32 (in_c 0 rfl) rfl) v37 n37 (m_in 33 (in_w 0 32 (in_c 0 rfl) rfl) rfl)))
  · skip
    have i8 := r_eq1 0 4000 c8 i1 ro_2_0 rfl
    exact g_return (gd rfl) rfl (hP _ _ ⟨s, hI, fr_rf, rfl, rfl⟩)

def fm_89_65_32 : FM := ([68, 69, 70, 71, 72, 73, 74], [75], [(65, 8), (65, 16), (65, 17)], [(65, 18)])
/-- GraphHouse$Flows.pair -/
theorem k_89_65_32 {Z : AmZ} {A : Nat → Nat} {s : GS} {ex : va_W} {d : Nat} {X : AmX}  (hd : 4 ≤ d) (hI : Inv s)  : GC Z d 89 [.ref (A 65), .ref (A 32)] (WW Z A s ++ ex) 0 0 (fun v u => ∃ t : GS, Inv t ∧ Fr fm_89_65_32 s t ∧ v = none ∧ u = WW Z A t ++ ex) X := by
  intro post xp hP hX
  obtain ⟨u_32_0, e_32_0⟩ : ∃ w, w = s.2.2.1 32 0 := ⟨_, rfl⟩
  have ro_32_0 := inv_F hI 0 4000 rfl e_32_0
  obtain ⟨u_32_1, e_32_1⟩ : ∃ w, w = s.2.2.1 32 1 := ⟨_, rfl⟩
  have ro_32_1 := inv_F hI 0 32 rfl e_32_1
  obtain ⟨u_32_3, e_32_3⟩ : ∃ w, w = s.2.2.1 32 3 := ⟨_, rfl⟩
  have ro_32_3 := inv_F hI 0 160 rfl e_32_3
  have ct179 : ∀ (k179 : Nat) (sc179 : GS) (y179_2 : Int32) (w179_65_17 : Int32), Inv sc179 → Fr fm_89_65_32 s sc179 → (In y179_2 0 32) → (w179_65_17 = sc179.2.2.1 65 17) → ((w179_65_17).toInt ≤ (y179_2).toInt) → 32 - (y179_2).toInt < (k179 : Int) → GG Z (d - 1) 89 post (gx xp) (1 + k179 * 900) 179 (fun j => xlook j [(0, .ref (A 65)), (1, .ref (A 32)), (2, .int y179_2)]) [] (WW Z A sc179 ++ ex) 0 0 := by
    intro k179
    induction k179 with
    | zero => intro sc179 y179_2 w179_65_17 hIc179 hFc179 j179_2 v179_65_17 n179_0 mm179; exact m_no mm179 j179_2 rfl
    | succ k179 ih179 =>
      intro sc179 y179_2 w179_65_17 hIc179 hFc179 j179_2 v179_65_17 n179_0 mm179
      refine gg_w (M := 1 + k179 * 900 + 900) gws ?_
      refine g_iload_n 180 (gd rfl) rfl rfl ?_
      refine g_bipush 32 182 (gd rfl) rfl rfl ?_
      refine g_cmp_ge 185 231 (gd rfl) rfl rfl (fun c182 => ?_) (fun c182 => ?_)
      · skip
        have i182 := r_le2 32 32 c182 (in_c 32 rfl) j179_2 rfl
        exact g_return (gd rfl) rfl (hP _ _ ⟨sc179, hIc179, hFc179, rfl, rfl⟩)
      · skip
        have i182 := r_lt1 0 31 c182 j179_2 (in_c 32 rfl) rfl
        refine g_aload_n 186 (gd rfl) rfl rfl ?_
        refine g_aload_n 187 (gd rfl) rfl rfl ?_
        refine g_getI 190 (gd rfl) rfl rfl rfl (fun z187 e187 => ?_)
        have q187 : u_32_1 = z187 := (fr_F e_32_1 hFc179 rfl).trans e187.symm
        subst q187
        refine g_iconst 1 191 (gd rfl) rfl rfl ?_
        refine g_callv (X := _) (As := [.int u_32_1, .int (Int32.ofInt 1)]) (r := []) (b := A 65) (q := 65) 194 (gd rfl) rfl rfl rfl rfl rfl (ww_o rfl) (Nat.le_of_ble_eq_true rfl) (Nat.zero_le _) (Nat.zero_le _) (k_85_65 (by first | exact dq1 hd rfl | exact dq0 hd rfl | exact dq2 hd rfl | exact dq3 hd rfl | omega) hIc179 (in_w 0 32 ro_32_1 rfl) (in_w 1 65536 (in_c 1 rfl) rfl)) (fun e u h => h) (fun v u h => ?_)
        obtain ⟨s191, hI191, hF191, z191, rfl, rfl, i191⟩ := h
        show GG _ _ _ _ _ _ _ _ [.int z191] _ _ _
        refine g_istore_n 195 (gd rfl) rfl (Nat.le_of_ble_eq_true rfl) ?_
        refine g_iload_n 196 (gd rfl) rfl rfl ?_
        refine g_iconst (-1) 197 (gd rfl) rfl rfl ?_
        refine g_cmp_ne 200 201 (gd rfl) rfl rfl (fun c197 => ?_) (fun c197 => ?_)
        · skip
          have i197 := r_ne1 0 31 c197 i191 (in_c (-1) rfl) rfl
          refine g_aload_n 202 (gd rfl) rfl rfl ?_
          refine g_dup 203 (gd rfl) rfl rfl ?_
          refine g_getL 206 (gd rfl) rfl rfl rfl (fun z203 e203 => ?_)
          refine g_aload_n 207 (gd rfl) rfl rfl ?_
          refine g_iload_n 208 (gd rfl) rfl rfl ?_
          refine g_callv (X := _) (As := [.int z191]) (r := [.long z203, .ref (A 65)]) (b := A 65) (q := 65) 211 (gd rfl) rfl rfl rfl rfl rfl (ww_o rfl) (Nat.le_of_ble_eq_true rfl) (Nat.zero_le _) (Nat.zero_le _) (k_88_65 (by first | exact dq1 hd rfl | exact dq0 hd rfl | exact dq2 hd rfl | exact dq3 hd rfl | omega) hI191 (in_w 0 31 i197 rfl)) (fun e u h => h) (fun v u h => ?_)
          obtain ⟨s208, hI208, hF208, z208, rfl, rfl⟩ := h
          show GG _ _ _ _ _ _ _ _ [.long z208, .long z203, .ref (A 65)] _ _ _
          refine g_ladd 212 (gd rfl) rfl (fun z211 e211 => ?_)
          refine g_putL 215 (gd rfl) rfl rfl rfl rfl ?_
          have hI212 := inv_sG (q := 65) (j := 18) (x := z211) hI208 rfl (l_rng z211)
          refine g_aload_n 216 (gd rfl) rfl rfl ?_
          refine g_dup 217 (gd rfl) rfl rfl ?_
          refine g_getI 220 (gd rfl) rfl rfl rfl (fun z217 e217 => ?_)
          have q217 : w179_65_17 = z217 := (sG_F (fr_F (fr_F (v179_65_17) hF191 rfl) hF208 rfl)).trans e217.symm
          subst q217
          refine g_iconst 1 221 (gd rfl) rfl rfl ?_
          refine g_iadd 222 (gd rfl) rfl (fun z221 e221 => ?_)
          have i221 := in_add 1 33 e221 (inv_F hIc179 0 32 rfl v179_65_17) (in_c 1 rfl) rfl rfl
          have i222 : In z221 0 32 := by have a0 := in_u ro_32_3; have a1 := in_u ro_32_1; have a2 := in_u ro_32_0; have a3 := in_u ((inv_F hIc179 0 32 rfl v179_65_17)); have a4 := in_u i182; have a5 := in_u i197; have a6 := in_u i221; have a7 := t_add e221 (inv_F hIc179 0 32 rfl v179_65_17) (in_c 1 rfl) rfl; have a8 := in_u ((in_c 1 rfl)); exact ⟨by omega, by omega⟩
          refine g_putI 225 (gd rfl) rfl rfl rfl rfl ?_
          have hI222 := inv_sF (q := 65) (j := 17) hI212 rfl (in_w 0 32 i222 rfl)
          refine g_iinc 228 (gd rfl) rfl rfl (Nat.le_of_ble_eq_true rfl) (fun z225 e225 => ?_)
          have i225 := in_add 1 32 e225 i182 (in_c 1 rfl) rfl rfl
          refine g_goto 179 (gd rfl) rfl ?_
          have v179 : z221 = (sF (sG s208 65 18 z211) 65 17 z221).2.2.1 65 17 := sF_get
          have n179 : (z221).toInt ≤ (z225).toInt := by have a0 := in_u ro_32_3; have a1 := in_u ro_32_1; have a2 := in_u ro_32_0; have a3 := in_u ((inv_F hIc179 0 32 rfl v179_65_17)); have a4 := in_u i182; have a5 := in_u i197; have a6 := in_u i225; have a7 := t_add e225 i182 (in_c 1 rfl) rfl; have a8 := in_u ((in_c 1 rfl)); have a9 := in_u i222; have a10 := t_add e221 (inv_F hIc179 0 32 rfl v179_65_17) (in_c 1 rfl) rfl; omega
          exact gg_w (by first | exact Nat.le_add_right _ _ | exact gw2 | exact gw3 | exact gwe rfl | exact gwf rfl | exact gwg rfl | exact gwh rfl | omega) (gg_f (gf_cons rfl (gf_cons rfl (gf_cons rfl gf_nil))) (ih179 (sF (sG s208 65 18 z211) 65 17 z221) z225 z221 hI222 (fr_sF rfl (fr_sG rfl (fr_tr rfl (fr_tr rfl hFc179 hF191) hF208))) (in_w 0 32 i225 rfl) v179 n179 (m_up mm179 (t_add e225 i182 (in_c 1 rfl) rfl) (in_w 1 1 (in_c 1 rfl) rfl))))
        · skip
          have i197 := r_eq1 (-1) (-1) c197 i191 (in_c (-1) rfl) rfl
          exact g_return (gd rfl) rfl (hP _ _ ⟨s191, hI191, (fr_tr rfl hFc179 hF191), rfl, rfl⟩)
  have ct72 : ∀ (k72 : Nat) (sc72 : GS) (y72_2 : Int32) (w72_65_17 : Int32), Inv sc72 → Fr fm_89_65_32 s sc72 → (In y72_2 0 160) → (w72_65_17 = sc72.2.2.1 65 17) → ((w72_65_17).toInt = 0) → 160 - (y72_2).toInt < (k72 : Int) → GG Z (d - 1) 89 post (gx xp) (29702 + k72 * 900) 72 (fun j => xlook j [(0, .ref (A 65)), (1, .ref (A 32)), (2, .int y72_2)]) [] (WW Z A sc72 ++ ex) 0 0 := by
    intro k72
    induction k72 with
    | zero => intro sc72 y72_2 w72_65_17 hIc72 hFc72 j72_2 v72_65_17 n72_0 mm72; exact m_no mm72 j72_2 rfl
    | succ k72 ih72 =>
      intro sc72 y72_2 w72_65_17 hIc72 hFc72 j72_2 v72_65_17 n72_0 mm72
      refine gg_w (M := 29702 + k72 * 900 + 900) gws ?_
      refine g_iload_n 73 (gd rfl) rfl rfl ?_
      refine g_aload_n 74 (gd rfl) rfl rfl ?_
      refine g_getI 77 (gd rfl) rfl rfl rfl (fun z74 e74 => ?_)
      have q74 : u_32_3 = z74 := (fr_F e_32_3 hFc72 rfl).trans e74.symm
      subst q74
      refine g_cmp_ge 80 177 (gd rfl) rfl rfl (fun c77 => ?_) (fun c77 => ?_)
      · skip
        refine g_iconst 0 178 (gd rfl) rfl rfl ?_
        refine g_istore_n 179 (gd rfl) rfl (Nat.le_of_ble_eq_true rfl) ?_
        have n179 : (w72_65_17).toInt ≤ ((Int32.ofInt 0)).toInt := by have a0 := in_u ro_32_3; have a1 := in_u ro_32_1; have a2 := in_u ro_32_0; have a3 := in_u ((inv_F hIc72 0 32 rfl v72_65_17)); have a4 := in_u j72_2; have a5 := in_u ((in_c 0 rfl)); omega
        exact gg_w (by first | exact Nat.le_add_right _ _ | exact gw2 | exact gw3 | exact gwe rfl | exact gwf rfl | exact gwg rfl | exact gwh rfl | omega) (gg_f (gf_cons rfl (gf_cons rfl (gf_cons rfl gf_nil))) (ct179 33 sc72 (Int32.ofInt 0) w72_65_17 hIc72 hFc72 (in_w 0 32 (in_c 0 rfl) rfl) v72_65_17 n179 (m_in 33 (in_w 0 32 (in_c 0 rfl) rfl) rfl)))
      · skip
        have i77 := r_lt1 0 159 c77 j72_2 ro_32_3 rfl
        have i77a := r_lt2 1 160 c77 j72_2 ro_32_3 rfl
        refine g_aload_n 81 (gd rfl) rfl rfl ?_
        refine g_iload_n 82 (gd rfl) rfl rfl ?_
        refine g_callv (X := _) (As := [.int y72_2]) (r := []) (b := A 32) (q := 32) 85 (gd rfl) rfl rfl rfl rfl rfl (ww_o rfl) (Nat.le_of_ble_eq_true rfl) (mc := 0) (ms := 0) (Nat.zero_le _) (Nat.zero_le _) (P := fun v u => _) ?_ (fun e u h => h) (fun v u h => h)
        intro po82 xx82 hp82 hx82
        refine g_enter2 (k := 97) (N := 300) (by first | exact dq1 hd rfl | exact dq0 hd rfl | exact dq2 hd rfl | exact dq3 hd rfl | omega) rfl (Nat.le_of_ble_eq_true rfl) ?_
        refine g_aload_n 1 (gd rfl) rfl rfl ?_
        refine g_getA (q2 := 34) 4 (gd rfl) rfl rfl rfl rfl ?_
        refine g_iload_n 5 (gd rfl) rfl rfl ?_
        refine g_iaload 6 (gd rfl) rfl (n := 160) rfl (in_ix i77 rfl) (fun z82x5 e82x5 => ?_)
        have i82x5 := inv_I hIc72 (n := 160) (t := 0) (-1) 31 rfl (in_ix i77 rfl) rfl e82x5
        refine g_iconst (-1) 7 (gd rfl) rfl rfl ?_
        refine g_cmp_eq 10 29 (gd rfl) rfl rfl (fun c82x7 => ?_) (fun c82x7 => ?_)
        · skip
          have i82x7 := r_eq1 (-1) (-1) c82x7 i82x5 (in_c (-1) rfl) rfl
          refine g_iconst 0 30 (gd rfl) rfl rfl ?_
          refine g_ireturn (gd rfl) rfl (nb01 (in_w 0 1 (in_c 0 rfl) rfl)) (hp82 _ _ ?_)
          show GG _ _ _ _ _ _ _ _ [.int (Int32.ofInt 0)] _ _ _
          refine g_if_eq 88 171 (gd rfl) rfl rfl (fun c85 => ?_) (fun c85 => ?_)
          · skip
            refine g_iinc 174 (gd rfl) rfl rfl (Nat.le_of_ble_eq_true rfl) (fun z171 e171 => ?_)
            have i171 := in_add 1 160 e171 i77 (in_c 1 rfl) rfl rfl
            refine g_goto 72 (gd rfl) rfl ?_
            have n72 : (w72_65_17).toInt = 0 := by first | exact n72_0 | (have a0 := in_u i77a; have a1 := in_u ro_32_1; have a2 := in_u ro_32_0; have a3 := in_u ((inv_F hIc72 0 32 rfl v72_65_17)); have a4 := in_u i77; have a5 := in_u i171; have a6 := t_add e171 i77 (in_c 1 rfl) rfl; have a7 := in_u ((in_c 1 rfl)); omega)
            exact gg_w (by first | exact Nat.le_add_right _ _ | exact gw2 | exact gw3 | exact gwe rfl | exact gwf rfl | exact gwg rfl | exact gwh rfl | omega) (gg_f (gf_cons rfl (gf_cons rfl (gf_cons rfl gf_nil))) (ih72 sc72 z171 w72_65_17 hIc72 hFc72 (in_w 0 160 i171 rfl) v72_65_17 n72 (m_up mm72 (t_add e171 i77 (in_c 1 rfl) rfl) (in_w 1 1 (in_c 1 rfl) rfl))))
          · skip
            exact zn_ne c85 (in_c 0 rfl) rfl
        · skip
          have i82x7 := r_ne1 0 31 c82x7 i82x5 (in_c (-1) rfl) rfl
          refine g_aload_n 11 (gd rfl) rfl rfl ?_
          refine g_getA (q2 := 34) 14 (gd rfl) rfl rfl rfl rfl ?_
          refine g_iload_n 15 (gd rfl) rfl rfl ?_
          refine g_iaload 16 (gd rfl) rfl (n := 160) rfl (in_ix i77 rfl) (fun z82x15 e82x15 => ?_)
          have q82x15 : z82x5 = z82x15 := (e82x5).trans e82x15.symm
          subst q82x15
          refine g_aload_n 17 (gd rfl) rfl rfl ?_
          refine g_getA (q2 := 35) 20 (gd rfl) rfl rfl rfl rfl ?_
          refine g_iload_n 21 (gd rfl) rfl rfl ?_
          refine g_iaload 22 (gd rfl) rfl (n := 160) rfl (in_ix i77 rfl) (fun z82x21 e82x21 => ?_)
          have i82x21 := inv_I hIc72 (n := 160) (t := 0) 0 31 rfl (in_ix i77 rfl) rfl e82x21
          refine g_cmp_eq 25 29 (gd rfl) rfl rfl (fun c82x22 => ?_) (fun c82x22 => ?_)
          · skip
            refine g_iconst 0 30 (gd rfl) rfl rfl ?_
            refine g_ireturn (gd rfl) rfl (nb01 (in_w 0 1 (in_c 0 rfl) rfl)) (hp82 _ _ ?_)
            show GG _ _ _ _ _ _ _ _ [.int (Int32.ofInt 0)] _ _ _
            refine g_if_eq 88 171 (gd rfl) rfl rfl (fun c85 => ?_) (fun c85 => ?_)
            · skip
              refine g_iinc 174 (gd rfl) rfl rfl (Nat.le_of_ble_eq_true rfl) (fun z171 e171 => ?_)
              have i171 := in_add 1 160 e171 i77 (in_c 1 rfl) rfl rfl
              refine g_goto 72 (gd rfl) rfl ?_
              have n72 : (w72_65_17).toInt = 0 := by first | exact n72_0 | (have a0 := in_u i77a; have a1 := in_u ro_32_1; have a2 := in_u ro_32_0; have a3 := in_u ((inv_F hIc72 0 32 rfl v72_65_17)); have a4 := in_u i77; have a5 := in_u i171; have a6 := t_add e171 i77 (in_c 1 rfl) rfl; have a7 := in_u ((in_c 1 rfl)); omega)
              exact gg_w (by first | exact Nat.le_add_right _ _ | exact gw2 | exact gw3 | exact gwe rfl | exact gwf rfl | exact gwg rfl | exact gwh rfl | omega) (gg_f (gf_cons rfl (gf_cons rfl (gf_cons rfl gf_nil))) (ih72 sc72 z171 w72_65_17 hIc72 hFc72 (in_w 0 160 i171 rfl) v72_65_17 n72 (m_up mm72 (t_add e171 i77 (in_c 1 rfl) rfl) (in_w 1 1 (in_c 1 rfl) rfl))))
            · skip
              exact zn_ne c85 (in_c 0 rfl) rfl
          · skip
            refine g_iconst 1 26 (gd rfl) rfl rfl ?_
            refine g_goto 30 (gd rfl) rfl ?_
            refine g_ireturn (gd rfl) rfl (nb01 (in_w 0 1 (in_c 1 rfl) rfl)) (hp82 _ _ ?_)
            show GG _ _ _ _ _ _ _ _ [.int (Int32.ofInt 1)] _ _ _
            refine g_if_eq 88 171 (gd rfl) rfl rfl (fun c85 => ?_) (fun c85 => ?_)
            · skip
              exact zn_eq c85 (in_c 1 rfl) rfl
            · skip
              refine g_aload_n 89 (gd rfl) rfl rfl ?_
              refine g_aload_n 90 (gd rfl) rfl rfl ?_
              refine g_getA (q2 := 34) 93 (gd rfl) rfl rfl rfl rfl ?_
              refine g_iload_n 94 (gd rfl) rfl rfl ?_
              refine g_iaload 95 (gd rfl) rfl (n := 160) rfl (in_ix i77 rfl) (fun z94 e94 => ?_)
              have q94 : z82x5 = z94 := (e82x5).trans e94.symm
              subst q94
              refine g_calls (As := [.ref (A 32), .int z82x5]) (r := []) 98 (gd rfl) rfl rfl rfl rfl rfl (Nat.le_of_ble_eq_true rfl) (mc := 0) (ms := 0) (Nat.zero_le _) (Nat.zero_le _) (P := fun v u => _) ?_ (fun v u h => h)
              intro po95 xx95 hp95 hx95
              refine g_enter2 (k := 90) (N := 300) (by first | exact dq1 hd rfl | exact dq0 hd rfl | exact dq2 hd rfl | exact dq3 hd rfl | omega) rfl (Nat.le_of_ble_eq_true rfl) ?_
              refine g_aload_n 1 (gd rfl) rfl rfl ?_
              refine g_getA (q2 := 33) 4 (gd rfl) rfl rfl rfl rfl ?_
              refine g_iload_n 5 (gd rfl) rfl rfl ?_
              refine g_iaload 6 (gd rfl) rfl (n := 32) rfl (in_ix i82x7 rfl) (fun z95x5 e95x5 => ?_)
              have i95x5 := inv_I hIc72 (n := 32) (t := 0) 0 25 rfl (in_ix i82x7 rfl) rfl e95x5
              refine g_bipush 13 8 (gd rfl) rfl rfl ?_
              refine g_cmp_ge 11 15 (gd rfl) rfl rfl (fun c95x8 => ?_) (fun c95x8 => ?_)
              · skip
                have i95x8 := r_le2 13 25 c95x8 (in_c 13 rfl) i95x5 rfl
                refine g_iconst 0 16 (gd rfl) rfl rfl ?_
                refine g_ireturn (gd rfl) rfl (nb01 (in_w 0 1 (in_c 0 rfl) rfl)) (hp95 _ _ ?_)
                show GG _ _ _ _ _ _ _ _ [.int (Int32.ofInt 0)] _ _ _
                refine g_aload_n 99 (gd rfl) rfl rfl ?_
                refine g_aload_n 100 (gd rfl) rfl rfl ?_
                refine g_getA (q2 := 35) 103 (gd rfl) rfl rfl rfl rfl ?_
                refine g_iload_n 104 (gd rfl) rfl rfl ?_
                refine g_iaload 105 (gd rfl) rfl (n := 160) rfl (in_ix i77 rfl) (fun z104 e104 => ?_)
                have q104 : z82x21 = z104 := (e82x21).trans e104.symm
                subst q104
                refine g_calls (As := [.ref (A 32), .int z82x21]) (r := [.int (Int32.ofInt 0)]) 108 (gd rfl) rfl rfl rfl rfl rfl (Nat.le_of_ble_eq_true rfl) (mc := 0) (ms := 0) (Nat.zero_le _) (Nat.zero_le _) (P := fun v u => _) ?_ (fun v u h => h)
                intro po105 xx105 hp105 hx105
                refine g_enter2 (k := 90) (N := 300) (by first | exact dq1 hd rfl | exact dq0 hd rfl | exact dq2 hd rfl | exact dq3 hd rfl | omega) rfl (Nat.le_of_ble_eq_true rfl) ?_
                refine g_aload_n 1 (gd rfl) rfl rfl ?_
                refine g_getA (q2 := 33) 4 (gd rfl) rfl rfl rfl rfl ?_
                refine g_iload_n 5 (gd rfl) rfl rfl ?_
                refine g_iaload 6 (gd rfl) rfl (n := 32) rfl (in_ix i82x21 rfl) (fun z105x5 e105x5 => ?_)
                have i105x5 := inv_I hIc72 (n := 32) (t := 0) 0 25 rfl (in_ix i82x21 rfl) rfl e105x5
                refine g_bipush 13 8 (gd rfl) rfl rfl ?_
                refine g_cmp_ge 11 15 (gd rfl) rfl rfl (fun c105x8 => ?_) (fun c105x8 => ?_)
                · skip
                  have i105x8 := r_le2 13 25 c105x8 (in_c 13 rfl) i105x5 rfl
                  refine g_iconst 0 16 (gd rfl) rfl rfl ?_
                  refine g_ireturn (gd rfl) rfl (nb01 (in_w 0 1 (in_c 0 rfl) rfl)) (hp105 _ _ ?_)
                  show GG _ _ _ _ _ _ _ _ [.int (Int32.ofInt 0), .int (Int32.ofInt 0)] _ _ _
                  refine g_cmp_eq 111 171 (gd rfl) rfl rfl (fun c108 => ?_) (fun c108 => ?_)
                  · skip
                    refine g_iinc 174 (gd rfl) rfl rfl (Nat.le_of_ble_eq_true rfl) (fun z171 e171 => ?_)
                    have i171 := in_add 1 160 e171 i77 (in_c 1 rfl) rfl rfl
                    refine g_goto 72 (gd rfl) rfl ?_
                    have n72 : (w72_65_17).toInt = 0 := by first | exact n72_0 | (have a0 := in_u i77a; have a1 := in_u ro_32_1; have a2 := in_u ro_32_0; have a3 := in_u ((inv_F hIc72 0 32 rfl v72_65_17)); have a4 := in_u i77; have a5 := in_u i171; have a6 := t_add e171 i77 (in_c 1 rfl) rfl; have a7 := in_u ((in_c 1 rfl)); omega)
                    exact gg_w (by first | exact Nat.le_add_right _ _ | exact gw2 | exact gw3 | exact gwe rfl | exact gwf rfl | exact gwg rfl | exact gwh rfl | omega) (gg_f (gf_cons rfl (gf_cons rfl (gf_cons rfl gf_nil))) (ih72 sc72 z171 w72_65_17 hIc72 hFc72 (in_w 0 160 i171 rfl) v72_65_17 n72 (m_up mm72 (t_add e171 i77 (in_c 1 rfl) rfl) (in_w 1 1 (in_c 1 rfl) rfl))))
                  · skip
                    exact n_ne c108 (in_c 0 rfl) (in_c 0 rfl) rfl
                · skip
                  have i105x8 := r_lt1 0 12 c105x8 i105x5 (in_c 13 rfl) rfl
                  refine g_iconst 1 12 (gd rfl) rfl rfl ?_
                  refine g_goto 16 (gd rfl) rfl ?_
                  refine g_ireturn (gd rfl) rfl (nb01 (in_w 0 1 (in_c 1 rfl) rfl)) (hp105 _ _ ?_)
                  show GG _ _ _ _ _ _ _ _ [.int (Int32.ofInt 1), .int (Int32.ofInt 0)] _ _ _
                  refine g_cmp_eq 111 171 (gd rfl) rfl rfl (fun c108 => ?_) (fun c108 => ?_)
                  · skip
                    exact n_eq c108 (in_c 0 rfl) (in_c 1 rfl) rfl
                  · skip
                    refine g_aload_n 112 (gd rfl) rfl rfl ?_
                    refine g_aload_n 113 (gd rfl) rfl rfl ?_
                    refine g_getA (q2 := 34) 116 (gd rfl) rfl rfl rfl rfl ?_
                    refine g_iload_n 117 (gd rfl) rfl rfl ?_
                    refine g_iaload 118 (gd rfl) rfl (n := 160) rfl (in_ix i77 rfl) (fun z117 e117 => ?_)
                    have q117 : z82x5 = z117 := (e82x5).trans e117.symm
                    subst q117
                    refine g_calls (As := [.ref (A 32), .int z82x5]) (r := []) 121 (gd rfl) rfl rfl rfl rfl rfl (Nat.le_of_ble_eq_true rfl) (mc := 0) (ms := 0) (Nat.zero_le _) (Nat.zero_le _) (P := fun v u => _) ?_ (fun v u h => h)
                    intro po118 xx118 hp118 hx118
                    refine g_enter2 (k := 90) (N := 300) (by first | exact dq1 hd rfl | exact dq0 hd rfl | exact dq2 hd rfl | exact dq3 hd rfl | omega) rfl (Nat.le_of_ble_eq_true rfl) ?_
                    refine g_aload_n 1 (gd rfl) rfl rfl ?_
                    refine g_getA (q2 := 33) 4 (gd rfl) rfl rfl rfl rfl ?_
                    refine g_iload_n 5 (gd rfl) rfl rfl ?_
                    refine g_iaload 6 (gd rfl) rfl (n := 32) rfl (in_ix i82x7 rfl) (fun z118x5 e118x5 => ?_)
                    have q118x5 : z95x5 = z118x5 := (e95x5).trans e118x5.symm
                    subst q118x5
                    refine g_bipush 13 8 (gd rfl) rfl rfl ?_
                    refine g_cmp_ge 11 15 (gd rfl) rfl rfl (fun c118x8 => ?_) (fun c118x8 => ?_)
                    · skip
                      refine g_iconst 0 16 (gd rfl) rfl rfl ?_
                      refine g_ireturn (gd rfl) rfl (nb01 (in_w 0 1 (in_c 0 rfl) rfl)) (hp118 _ _ ?_)
                      show GG _ _ _ _ _ _ _ _ [.int (Int32.ofInt 0)] _ _ _
                      refine g_istore_n 122 (gd rfl) rfl (Nat.le_of_ble_eq_true rfl) ?_
                      refine g_aload_n 123 (gd rfl) rfl rfl ?_
                      refine g_iload_n 124 (gd rfl) rfl rfl ?_
                      refine g_if_eq 127 136 (gd rfl) rfl rfl (fun c124 => ?_) (fun c124 => ?_)
                      · skip
                        refine g_aload_n 137 (gd rfl) rfl rfl ?_
                        refine g_getA (q2 := 35) 140 (gd rfl) rfl rfl rfl rfl ?_
                        refine g_iload_n 141 (gd rfl) rfl rfl ?_
                        refine g_iaload 142 (gd rfl) rfl (n := 160) rfl (in_ix i77 rfl) (fun z141 e141 => ?_)
                        have q141 : z82x21 = z141 := (e82x21).trans e141.symm
                        subst q141
                        refine g_iload_n 143 (gd rfl) rfl rfl ?_
                        refine g_if_eq 146 155 (gd rfl) rfl rfl (fun c143 => ?_) (fun c143 => ?_)
                        · skip
                          refine g_aload_n 156 (gd rfl) rfl rfl ?_
                          refine g_getA (q2 := 34) 159 (gd rfl) rfl rfl rfl rfl ?_
                          refine g_iload_n 160 (gd rfl) rfl rfl ?_
                          refine g_iaload 161 (gd rfl) rfl (n := 160) rfl (in_ix i77 rfl) (fun z160 e160 => ?_)
                          have q160 : z82x5 = z160 := (e82x5).trans e160.symm
                          subst q160
                          refine g_aload_n 162 (gd rfl) rfl rfl ?_
                          refine g_getA (q2 := 36) 165 (gd rfl) rfl rfl rfl rfl ?_
                          refine g_iload_n 166 (gd rfl) rfl rfl ?_
                          refine g_iaload 167 (gd rfl) rfl (n := 160) rfl (in_ix i77 rfl) (fun z166 e166 => ?_)
                          have i166 := inv_I hIc72 (n := 160) (t := 0) (-1000000) 1000000 rfl (in_ix i77 rfl) rfl e166
                          refine g_iconst 1 168 (gd rfl) rfl rfl ?_
                          refine g_callv (X := _) (As := [.int z82x21, .int z82x5, .int z166, .int (Int32.ofInt 1)]) (r := []) (b := A 65) (q := 65) 171 (gd rfl) rfl rfl rfl rfl rfl (ww_o rfl) (Nat.le_of_ble_eq_true rfl) (Nat.zero_le _) (Nat.zero_le _) (k_84_65 (by first | exact dq1 hd rfl | exact dq0 hd rfl | exact dq2 hd rfl | exact dq3 hd rfl | omega) hIc72 (in_w 0 31 i82x21 rfl) (in_w 0 31 i82x7 rfl) (in_w (-1000000) 1000000 i166 rfl) (in_w 0 1000000 (in_c 1 rfl) rfl)) (fun e u h => h) (fun v u h => ?_)
                          obtain ⟨s168, hI168, hF168, rfl, rfl⟩ := h
                          show GG _ _ _ _ _ _ _ _ [] _ _ _
                          refine g_iinc 174 (gd rfl) rfl rfl (Nat.le_of_ble_eq_true rfl) (fun z171 e171 => ?_)
                          have i171 := in_add 1 160 e171 i77 (in_c 1 rfl) rfl rfl
                          refine g_goto 72 (gd rfl) rfl ?_
                          have v72 : w72_65_17 = s168.2.2.1 65 17 := fr_F (v72_65_17) hF168 rfl
                          have n72 : (w72_65_17).toInt = 0 := by first | exact n72_0 | (have a0 := in_u i77a; have a1 := in_u ro_32_1; have a2 := in_u ro_32_0; have a3 := in_u ((inv_F hIc72 0 32 rfl v72_65_17)); have a4 := in_u i77; have a5 := in_u ((in_c 0 rfl)); have a6 := in_u i171; have a7 := t_add e171 i77 (in_c 1 rfl) rfl; have a8 := in_u ((in_c 1 rfl)); omega)
                          exact gg_w (by first | exact Nat.le_add_right _ _ | exact gw2 | exact gw3 | exact gwe rfl | exact gwf rfl | exact gwg rfl | exact gwh rfl | omega) (gg_f (gf_cons rfl (gf_cons rfl (gf_cons rfl gf_nil))) (ih72 s168 z171 w72_65_17 hI168 (fr_tr rfl hFc72 hF168) (in_w 0 160 i171 rfl) v72 n72 (m_up mm72 (t_add e171 i77 (in_c 1 rfl) rfl) (in_w 1 1 (in_c 1 rfl) rfl))))
                        · skip
                          exact zn_ne c143 (in_c 0 rfl) rfl
                      · skip
                        exact zn_ne c124 (in_c 0 rfl) rfl
                    · skip
                      exact n_lt c118x8 i95x8 (in_c 13 rfl) rfl
              · skip
                have i95x8 := r_lt1 0 12 c95x8 i95x5 (in_c 13 rfl) rfl
                refine g_iconst 1 12 (gd rfl) rfl rfl ?_
                refine g_goto 16 (gd rfl) rfl ?_
                refine g_ireturn (gd rfl) rfl (nb01 (in_w 0 1 (in_c 1 rfl) rfl)) (hp95 _ _ ?_)
                show GG _ _ _ _ _ _ _ _ [.int (Int32.ofInt 1)] _ _ _
                refine g_aload_n 99 (gd rfl) rfl rfl ?_
                refine g_aload_n 100 (gd rfl) rfl rfl ?_
                refine g_getA (q2 := 35) 103 (gd rfl) rfl rfl rfl rfl ?_
                refine g_iload_n 104 (gd rfl) rfl rfl ?_
                refine g_iaload 105 (gd rfl) rfl (n := 160) rfl (in_ix i77 rfl) (fun z104 e104 => ?_)
                have q104 : z82x21 = z104 := (e82x21).trans e104.symm
                subst q104
                refine g_calls (As := [.ref (A 32), .int z82x21]) (r := [.int (Int32.ofInt 1)]) 108 (gd rfl) rfl rfl rfl rfl rfl (Nat.le_of_ble_eq_true rfl) (mc := 0) (ms := 0) (Nat.zero_le _) (Nat.zero_le _) (P := fun v u => _) ?_ (fun v u h => h)
                intro po105 xx105 hp105 hx105
                refine g_enter2 (k := 90) (N := 300) (by first | exact dq1 hd rfl | exact dq0 hd rfl | exact dq2 hd rfl | exact dq3 hd rfl | omega) rfl (Nat.le_of_ble_eq_true rfl) ?_
                refine g_aload_n 1 (gd rfl) rfl rfl ?_
                refine g_getA (q2 := 33) 4 (gd rfl) rfl rfl rfl rfl ?_
                refine g_iload_n 5 (gd rfl) rfl rfl ?_
                refine g_iaload 6 (gd rfl) rfl (n := 32) rfl (in_ix i82x21 rfl) (fun z105x5 e105x5 => ?_)
                have i105x5 := inv_I hIc72 (n := 32) (t := 0) 0 25 rfl (in_ix i82x21 rfl) rfl e105x5
                refine g_bipush 13 8 (gd rfl) rfl rfl ?_
                refine g_cmp_ge 11 15 (gd rfl) rfl rfl (fun c105x8 => ?_) (fun c105x8 => ?_)
                · skip
                  have i105x8 := r_le2 13 25 c105x8 (in_c 13 rfl) i105x5 rfl
                  refine g_iconst 0 16 (gd rfl) rfl rfl ?_
                  refine g_ireturn (gd rfl) rfl (nb01 (in_w 0 1 (in_c 0 rfl) rfl)) (hp105 _ _ ?_)
                  show GG _ _ _ _ _ _ _ _ [.int (Int32.ofInt 0), .int (Int32.ofInt 1)] _ _ _
                  refine g_cmp_eq 111 171 (gd rfl) rfl rfl (fun c108 => ?_) (fun c108 => ?_)
                  · skip
                    exact n_eq c108 (in_c 1 rfl) (in_c 0 rfl) rfl
                  · skip
                    refine g_aload_n 112 (gd rfl) rfl rfl ?_
                    refine g_aload_n 113 (gd rfl) rfl rfl ?_
                    refine g_getA (q2 := 34) 116 (gd rfl) rfl rfl rfl rfl ?_
                    refine g_iload_n 117 (gd rfl) rfl rfl ?_
                    refine g_iaload 118 (gd rfl) rfl (n := 160) rfl (in_ix i77 rfl) (fun z117 e117 => ?_)
                    have q117 : z82x5 = z117 := (e82x5).trans e117.symm
                    subst q117
                    refine g_calls (As := [.ref (A 32), .int z82x5]) (r := []) 121 (gd rfl) rfl rfl rfl rfl rfl (Nat.le_of_ble_eq_true rfl) (mc := 0) (ms := 0) (Nat.zero_le _) (Nat.zero_le _) (P := fun v u => _) ?_ (fun v u h => h)
                    intro po118 xx118 hp118 hx118
                    refine g_enter2 (k := 90) (N := 300) (by first | exact dq1 hd rfl | exact dq0 hd rfl | exact dq2 hd rfl | exact dq3 hd rfl | omega) rfl (Nat.le_of_ble_eq_true rfl) ?_
                    refine g_aload_n 1 (gd rfl) rfl rfl ?_
                    refine g_getA (q2 := 33) 4 (gd rfl) rfl rfl rfl rfl ?_
                    refine g_iload_n 5 (gd rfl) rfl rfl ?_
                    refine g_iaload 6 (gd rfl) rfl (n := 32) rfl (in_ix i82x7 rfl) (fun z118x5 e118x5 => ?_)
                    have q118x5 : z95x5 = z118x5 := (e95x5).trans e118x5.symm
                    subst q118x5
                    refine g_bipush 13 8 (gd rfl) rfl rfl ?_
                    refine g_cmp_ge 11 15 (gd rfl) rfl rfl (fun c118x8 => ?_) (fun c118x8 => ?_)
                    · skip
                      exact n_le c118x8 (in_c 13 rfl) i95x8 rfl
                    · skip
                      refine g_iconst 1 12 (gd rfl) rfl rfl ?_
                      refine g_goto 16 (gd rfl) rfl ?_
                      refine g_ireturn (gd rfl) rfl (nb01 (in_w 0 1 (in_c 1 rfl) rfl)) (hp118 _ _ ?_)
                      show GG _ _ _ _ _ _ _ _ [.int (Int32.ofInt 1)] _ _ _
                      refine g_istore_n 122 (gd rfl) rfl (Nat.le_of_ble_eq_true rfl) ?_
                      refine g_aload_n 123 (gd rfl) rfl rfl ?_
                      refine g_iload_n 124 (gd rfl) rfl rfl ?_
                      refine g_if_eq 127 136 (gd rfl) rfl rfl (fun c124 => ?_) (fun c124 => ?_)
                      · skip
                        exact zn_eq c124 (in_c 1 rfl) rfl
                      · skip
                        refine g_aload_n 128 (gd rfl) rfl rfl ?_
                        refine g_getA (q2 := 34) 131 (gd rfl) rfl rfl rfl rfl ?_
                        refine g_iload_n 132 (gd rfl) rfl rfl ?_
                        refine g_iaload 133 (gd rfl) rfl (n := 160) rfl (in_ix i77 rfl) (fun z132 e132 => ?_)
                        have q132 : z82x5 = z132 := (e82x5).trans e132.symm
                        subst q132
                        refine g_goto 142 (gd rfl) rfl ?_
                        refine g_iload_n 143 (gd rfl) rfl rfl ?_
                        refine g_if_eq 146 155 (gd rfl) rfl rfl (fun c143 => ?_) (fun c143 => ?_)
                        · skip
                          exact zn_eq c143 (in_c 1 rfl) rfl
                        · skip
                          refine g_aload_n 147 (gd rfl) rfl rfl ?_
                          refine g_getA (q2 := 35) 150 (gd rfl) rfl rfl rfl rfl ?_
                          refine g_iload_n 151 (gd rfl) rfl rfl ?_
                          refine g_iaload 152 (gd rfl) rfl (n := 160) rfl (in_ix i77 rfl) (fun z151 e151 => ?_)
                          have q151 : z82x21 = z151 := (e82x21).trans e151.symm
                          subst q151
                          refine g_goto 161 (gd rfl) rfl ?_
                          refine g_aload_n 162 (gd rfl) rfl rfl ?_
                          refine g_getA (q2 := 36) 165 (gd rfl) rfl rfl rfl rfl ?_
                          refine g_iload_n 166 (gd rfl) rfl rfl ?_
                          refine g_iaload 167 (gd rfl) rfl (n := 160) rfl (in_ix i77 rfl) (fun z166 e166 => ?_)
                          have i166 := inv_I hIc72 (n := 160) (t := 0) (-1000000) 1000000 rfl (in_ix i77 rfl) rfl e166
                          refine g_iconst 1 168 (gd rfl) rfl rfl ?_
                          refine g_callv (X := _) (As := [.int z82x5, .int z82x21, .int z166, .int (Int32.ofInt 1)]) (r := []) (b := A 65) (q := 65) 171 (gd rfl) rfl rfl rfl rfl rfl (ww_o rfl) (Nat.le_of_ble_eq_true rfl) (Nat.zero_le _) (Nat.zero_le _) (k_84_65 (by first | exact dq1 hd rfl | exact dq0 hd rfl | exact dq2 hd rfl | exact dq3 hd rfl | omega) hIc72 (in_w 0 31 i82x7 rfl) (in_w 0 31 i82x21 rfl) (in_w (-1000000) 1000000 i166 rfl) (in_w 0 1000000 (in_c 1 rfl) rfl)) (fun e u h => h) (fun v u h => ?_)
                          obtain ⟨s168, hI168, hF168, rfl, rfl⟩ := h
                          show GG _ _ _ _ _ _ _ _ [] _ _ _
                          refine g_iinc 174 (gd rfl) rfl rfl (Nat.le_of_ble_eq_true rfl) (fun z171 e171 => ?_)
                          have i171 := in_add 1 160 e171 i77 (in_c 1 rfl) rfl rfl
                          refine g_goto 72 (gd rfl) rfl ?_
                          have v72 : w72_65_17 = s168.2.2.1 65 17 := fr_F (v72_65_17) hF168 rfl
                          have n72 : (w72_65_17).toInt = 0 := by first | exact n72_0 | (have a0 := in_u i77a; have a1 := in_u ro_32_1; have a2 := in_u ro_32_0; have a3 := in_u ((inv_F hIc72 0 32 rfl v72_65_17)); have a4 := in_u i77; have a5 := in_u ((in_c 1 rfl)); have a6 := in_u i171; have a7 := t_add e171 i77 (in_c 1 rfl) rfl; omega)
                          exact gg_w (by first | exact Nat.le_add_right _ _ | exact gw2 | exact gw3 | exact gwe rfl | exact gwf rfl | exact gwg rfl | exact gwh rfl | omega) (gg_f (gf_cons rfl (gf_cons rfl (gf_cons rfl gf_nil))) (ih72 s168 z171 w72_65_17 hI168 (fr_tr rfl hFc72 hF168) (in_w 0 160 i171 rfl) v72 n72 (m_up mm72 (t_add e171 i77 (in_c 1 rfl) rfl) (in_w 1 1 (in_c 1 rfl) rfl))))
                · skip
                  have i105x8 := r_lt1 0 12 c105x8 i105x5 (in_c 13 rfl) rfl
                  refine g_iconst 1 12 (gd rfl) rfl rfl ?_
                  refine g_goto 16 (gd rfl) rfl ?_
                  refine g_ireturn (gd rfl) rfl (nb01 (in_w 0 1 (in_c 1 rfl) rfl)) (hp105 _ _ ?_)
                  show GG _ _ _ _ _ _ _ _ [.int (Int32.ofInt 1), .int (Int32.ofInt 1)] _ _ _
                  refine g_cmp_eq 111 171 (gd rfl) rfl rfl (fun c108 => ?_) (fun c108 => ?_)
                  · skip
                    refine g_iinc 174 (gd rfl) rfl rfl (Nat.le_of_ble_eq_true rfl) (fun z171 e171 => ?_)
                    have i171 := in_add 1 160 e171 i77 (in_c 1 rfl) rfl rfl
                    refine g_goto 72 (gd rfl) rfl ?_
                    have n72 : (w72_65_17).toInt = 0 := by first | exact n72_0 | (have a0 := in_u i77a; have a1 := in_u ro_32_1; have a2 := in_u ro_32_0; have a3 := in_u ((inv_F hIc72 0 32 rfl v72_65_17)); have a4 := in_u i77; have a5 := in_u i171; have a6 := t_add e171 i77 (in_c 1 rfl) rfl; have a7 := in_u ((in_c 1 rfl)); omega)
                    exact gg_w (by first | exact Nat.le_add_right _ _ | exact gw2 | exact gw3 | exact gwe rfl | exact gwf rfl | exact gwg rfl | exact gwh rfl | omega) (gg_f (gf_cons rfl (gf_cons rfl (gf_cons rfl gf_nil))) (ih72 sc72 z171 w72_65_17 hIc72 hFc72 (in_w 0 160 i171 rfl) v72_65_17 n72 (m_up mm72 (t_add e171 i77 (in_c 1 rfl) rfl) (in_w 1 1 (in_c 1 rfl) rfl))))
                  · skip
                    exact n_ne c108 (in_c 1 rfl) (in_c 1 rfl) rfl
  have ct37 : ∀ (k37 : Nat) (sc37 : GS) (y37_2 : Int32) (w37_65_17 : Int32), Inv sc37 → Fr fm_89_65_32 s sc37 → (In y37_2 0 32) → (w37_65_17 = sc37.2.2.1 65 17) → ((w37_65_17).toInt = 0) → 32 - (y37_2).toInt < (k37 : Int) → GG Z (d - 1) 89 post (gx xp) (174603 + k37 * 900) 37 (fun j => xlook j [(0, .ref (A 65)), (1, .ref (A 32)), (2, .int y37_2)]) [] (WW Z A sc37 ++ ex) 0 0 := by
    intro k37
    induction k37 with
    | zero => intro sc37 y37_2 w37_65_17 hIc37 hFc37 j37_2 v37_65_17 n37_0 mm37; exact m_no mm37 j37_2 rfl
    | succ k37 ih37 =>
      intro sc37 y37_2 w37_65_17 hIc37 hFc37 j37_2 v37_65_17 n37_0 mm37
      refine gg_w (M := 174603 + k37 * 900 + 900) gws ?_
      refine g_iload_n 38 (gd rfl) rfl rfl ?_
      refine g_aload_n 39 (gd rfl) rfl rfl ?_
      refine g_getI 42 (gd rfl) rfl rfl rfl (fun z39 e39 => ?_)
      have q39 : u_32_1 = z39 := (fr_F e_32_1 hFc37 rfl).trans e39.symm
      subst q39
      refine g_cmp_ge 45 70 (gd rfl) rfl rfl (fun c42 => ?_) (fun c42 => ?_)
      · skip
        refine g_iconst 0 71 (gd rfl) rfl rfl ?_
        refine g_istore_n 72 (gd rfl) rfl (Nat.le_of_ble_eq_true rfl) ?_
        have n72 : (w37_65_17).toInt = 0 := by first | exact n37_0 | (have a0 := in_u ro_32_3; have a1 := in_u ro_32_1; have a2 := in_u ro_32_0; have a3 := in_u ((inv_F hIc37 0 32 rfl v37_65_17)); have a4 := in_u j37_2; have a5 := in_u ((in_c 0 rfl)); omega)
        exact gg_w (by first | exact Nat.le_add_right _ _ | exact gw2 | exact gw3 | exact gwe rfl | exact gwf rfl | exact gwg rfl | exact gwh rfl | omega) (gg_f (gf_cons rfl (gf_cons rfl (gf_cons rfl gf_nil))) (ct72 161 sc37 (Int32.ofInt 0) w37_65_17 hIc37 hFc37 (in_w 0 160 (in_c 0 rfl) rfl) v37_65_17 n72 (m_in 161 (in_w 0 160 (in_c 0 rfl) rfl) rfl)))
      · skip
        have i42 := r_lt1 0 31 c42 j37_2 ro_32_1 rfl
        have i42a := r_lt2 1 32 c42 j37_2 ro_32_1 rfl
        refine g_aload_n 46 (gd rfl) rfl rfl ?_
        refine g_getA (q2 := 74) 49 (gd rfl) rfl rfl rfl rfl ?_
        refine g_iload_n 50 (gd rfl) rfl rfl ?_
        refine g_aload_n 51 (gd rfl) rfl rfl ?_
        refine g_iload_n 52 (gd rfl) rfl rfl ?_
        refine g_calls (As := [.ref (A 32), .int y37_2]) (r := [.int y37_2, .ref (A 74)]) 55 (gd rfl) rfl rfl rfl rfl rfl (Nat.le_of_ble_eq_true rfl) (mc := 0) (ms := 0) (Nat.zero_le _) (Nat.zero_le _) (P := fun v u => _) ?_ (fun v u h => h)
        intro po52 xx52 hp52 hx52
        refine g_enter2 (k := 90) (N := 300) (by first | exact dq1 hd rfl | exact dq0 hd rfl | exact dq2 hd rfl | exact dq3 hd rfl | omega) rfl (Nat.le_of_ble_eq_true rfl) ?_
        refine g_aload_n 1 (gd rfl) rfl rfl ?_
        refine g_getA (q2 := 33) 4 (gd rfl) rfl rfl rfl rfl ?_
        refine g_iload_n 5 (gd rfl) rfl rfl ?_
        refine g_iaload 6 (gd rfl) rfl (n := 32) rfl (in_ix i42 rfl) (fun z52x5 e52x5 => ?_)
        have i52x5 := inv_I hIc37 (n := 32) (t := 0) 0 25 rfl (in_ix i42 rfl) rfl e52x5
        refine g_bipush 13 8 (gd rfl) rfl rfl ?_
        refine g_cmp_ge 11 15 (gd rfl) rfl rfl (fun c52x8 => ?_) (fun c52x8 => ?_)
        · skip
          have i52x8 := r_le2 13 25 c52x8 (in_c 13 rfl) i52x5 rfl
          refine g_iconst 0 16 (gd rfl) rfl rfl ?_
          refine g_ireturn (gd rfl) rfl (nb01 (in_w 0 1 (in_c 0 rfl) rfl)) (hp52 _ _ ?_)
          show GG _ _ _ _ _ _ _ _ [.int (Int32.ofInt 0), .int y37_2, .ref (A 74)] _ _ _
          refine g_if_eq 58 62 (gd rfl) rfl rfl (fun c55 => ?_) (fun c55 => ?_)
          · skip
            refine g_iconst (-1) 63 (gd rfl) rfl rfl ?_
            refine g_iastore 64 (gd rfl) rfl (n := 32) rfl (in_ix i42 rfl) ?_
            have hI63 := inv_sI (q := 74) (j := y37_2.toNatClampNeg) hIc37 rfl (in_w (-2147483648) 2147483647 (in_c (-1) rfl) rfl)
            refine g_iinc 67 (gd rfl) rfl rfl (Nat.le_of_ble_eq_true rfl) (fun z64 e64 => ?_)
            have i64 := in_add 1 32 e64 i42 (in_c 1 rfl) rfl rfl
            refine g_goto 37 (gd rfl) rfl ?_
            have v37 : w37_65_17 = (sI sc37 74 y37_2.toNatClampNeg (Int32.ofInt (-1))).2.2.1 65 17 := sI_F (v37_65_17)
            have n37 : (w37_65_17).toInt = 0 := by first | exact n37_0 | (have a0 := in_u ro_32_3; have a1 := in_u i42a; have a2 := in_u ro_32_0; have a3 := in_u ((inv_F hIc37 0 32 rfl v37_65_17)); have a4 := in_u i42; have a5 := in_u i64; have a6 := t_add e64 i42 (in_c 1 rfl) rfl; have a7 := in_u ((in_c 1 rfl)); omega)
            exact gg_w (by first | exact Nat.le_add_right _ _ | exact gw2 | exact gw3 | exact gwe rfl | exact gwf rfl | exact gwg rfl | exact gwh rfl | omega) (gg_f (gf_cons rfl (gf_cons rfl (gf_cons rfl gf_nil))) (ih37 (sI sc37 74 y37_2.toNatClampNeg (Int32.ofInt (-1))) z64 w37_65_17 hI63 (fr_sI rfl hFc37) (in_w 0 32 i64 rfl) v37 n37 (m_up mm37 (t_add e64 i42 (in_c 1 rfl) rfl) (in_w 1 1 (in_c 1 rfl) rfl))))
          · skip
            exact zn_ne c55 (in_c 0 rfl) rfl
        · skip
          have i52x8 := r_lt1 0 12 c52x8 i52x5 (in_c 13 rfl) rfl
          refine g_iconst 1 12 (gd rfl) rfl rfl ?_
          refine g_goto 16 (gd rfl) rfl ?_
          refine g_ireturn (gd rfl) rfl (nb01 (in_w 0 1 (in_c 1 rfl) rfl)) (hp52 _ _ ?_)
          show GG _ _ _ _ _ _ _ _ [.int (Int32.ofInt 1), .int y37_2, .ref (A 74)] _ _ _
          refine g_if_eq 58 62 (gd rfl) rfl rfl (fun c55 => ?_) (fun c55 => ?_)
          · skip
            exact zn_eq c55 (in_c 1 rfl) rfl
          · skip
            refine g_iconst 1 59 (gd rfl) rfl rfl ?_
            refine g_goto 63 (gd rfl) rfl ?_
            refine g_iastore 64 (gd rfl) rfl (n := 32) rfl (in_ix i42 rfl) ?_
            have hI63 := inv_sI (q := 74) (j := y37_2.toNatClampNeg) hIc37 rfl (in_w (-2147483648) 2147483647 (in_c 1 rfl) rfl)
            refine g_iinc 67 (gd rfl) rfl rfl (Nat.le_of_ble_eq_true rfl) (fun z64 e64 => ?_)
            have i64 := in_add 1 32 e64 i42 (in_c 1 rfl) rfl rfl
            refine g_goto 37 (gd rfl) rfl ?_
            have v37 : w37_65_17 = (sI sc37 74 y37_2.toNatClampNeg (Int32.ofInt 1)).2.2.1 65 17 := sI_F (v37_65_17)
            have n37 : (w37_65_17).toInt = 0 := by first | exact n37_0 | (have a0 := in_u ro_32_3; have a1 := in_u i42a; have a2 := in_u ro_32_0; have a3 := in_u ((inv_F hIc37 0 32 rfl v37_65_17)); have a4 := in_u i42; have a5 := in_u i64; have a6 := t_add e64 i42 (in_c 1 rfl) rfl; have a7 := in_u ((in_c 1 rfl)); omega)
            exact gg_w (by first | exact Nat.le_add_right _ _ | exact gw2 | exact gw3 | exact gwe rfl | exact gwf rfl | exact gwg rfl | exact gwh rfl | omega) (gg_f (gf_cons rfl (gf_cons rfl (gf_cons rfl gf_nil))) (ih37 (sI sc37 74 y37_2.toNatClampNeg (Int32.ofInt 1)) z64 w37_65_17 hI63 (fr_sI rfl hFc37) (in_w 0 32 i64 rfl) v37 n37 (m_up mm37 (t_add e64 i42 (in_c 1 rfl) rfl) (in_w 1 1 (in_c 1 rfl) rfl))))
  refine g_enter2 (k := 89) (N := 205203) (by first | exact dq1 hd rfl | exact dq0 hd rfl | exact dq2 hd rfl | exact dq3 hd rfl | omega) rfl (Nat.le_of_ble_eq_true rfl) ?_
  refine g_aload_n 1 (gd rfl) rfl rfl ?_
  refine g_getI 4 (gd rfl) rfl rfl rfl (fun z1 e1 => ?_)
  have i1 := inv_F hI (-1) 4000 rfl e1
  refine g_aload_n 5 (gd rfl) rfl rfl ?_
  refine g_getI 8 (gd rfl) rfl rfl rfl (fun z5 e5 => ?_)
  have q5 : u_32_0 = z5 := (e_32_0).trans e5.symm
  subst q5
  refine g_cmp_ne 11 12 (gd rfl) rfl rfl (fun c8 => ?_) (fun c8 => ?_)
  · skip
    refine g_aload_n 13 (gd rfl) rfl rfl ?_
    refine g_aload_n 14 (gd rfl) rfl rfl ?_
    refine g_getI 17 (gd rfl) rfl rfl rfl (fun z14 e14 => ?_)
    have q14 : u_32_0 = z14 := (e_32_0).trans e14.symm
    subst q14
    refine g_putI 20 (gd rfl) rfl rfl rfl rfl ?_
    have hI17 := inv_sF (q := 65) (j := 16) hI rfl (in_w (-1) 4000 ro_32_0 rfl)
    refine g_aload_n 21 (gd rfl) rfl rfl ?_
    refine g_iconst 0 22 (gd rfl) rfl rfl ?_
    refine g_putI 25 (gd rfl) rfl rfl rfl rfl ?_
    have hI22 := inv_sF (q := 65) (j := 17) hI17 rfl (in_w 0 32 (in_c 0 rfl) rfl)
    refine g_aload_n 26 (gd rfl) rfl rfl ?_
    refine g_lconst 0 27 (gd rfl) rfl rfl ?_
    refine g_putL 30 (gd rfl) rfl rfl rfl rfl ?_
    have hI27 := inv_sG (q := 65) (j := 18) (x := (Int64.ofInt 0)) hI22 rfl (l_rng (Int64.ofInt 0))
    refine g_aload_n 31 (gd rfl) rfl rfl ?_
    refine g_iconst 0 32 (gd rfl) rfl rfl ?_
    refine g_putI 35 (gd rfl) rfl rfl rfl rfl ?_
    have hI32 := inv_sF (q := 65) (j := 8) hI27 rfl (in_w 0 160 (in_c 0 rfl) rfl)
    refine g_iconst 0 36 (gd rfl) rfl rfl ?_
    refine g_istore_n 37 (gd rfl) rfl (Nat.le_of_ble_eq_true rfl) ?_
    have v37 : (Int32.ofInt 0) = (sF (sG (sF (sF s 65 16 u_32_0) 65 17 (Int32.ofInt 0)) 65 18 (Int64.ofInt 0)) 65 8 (Int32.ofInt 0)).2.2.1 65 17 := sF_ne rfl (sG_F (sF_get))
    have n37 : ((Int32.ofInt 0)).toInt = 0 := by have a0 := in_u ro_32_3; have a1 := in_u ro_32_1; have a2 := in_u ro_32_0; have a3 := in_u ((in_c 0 rfl)); omega
    exact gg_w (by first | exact Nat.le_of_ble_eq_true rfl | omega) (gg_f (gf_cons rfl (gf_cons rfl (gf_cons rfl gf_nil))) (ct37 33 (sF (sG (sF (sF s 65 16 u_32_0) 65 17 (Int32.ofInt 0)) 65 18 (Int64.ofInt 0)) 65 8 (Int32.ofInt 0)) (Int32.ofInt 0) (Int32.ofInt 0) hI32 (fr_sF rfl (fr_sG rfl (fr_sF rfl (fr_sF rfl fr_rf)))) (in_w 0 32 (in_c 0 rfl) rfl) v37 n37 (m_in 33 (in_w 0 32 (in_c 0 rfl) rfl) rfl)))
  · skip
    have i8 := r_eq1 0 4000 c8 i1 ro_32_0 rfl
    exact g_return (gd rfl) rfl (hP _ _ ⟨s, hI, fr_rf, rfl, rfl⟩)

def fm_113_86_2 : FM := ([9, 10, 11, 12, 13, 14, 15, 89, 90, 91, 92, 93], [], [(2, 4), (86, 4), (86, 5)], [])
def fm_113_86_32 : FM := ([39, 40, 41, 42, 43, 44, 45, 89, 90, 91, 92, 93], [], [(32, 4), (86, 4), (86, 5)], [])
def fm_163_94_2 : FM := ([9, 10, 11, 12, 13, 14, 15], [99, 100, 101], [(2, 4)], [])
/-- GraphHouse$Question.leastFit -/
theorem k_163_94_2 {Z : AmZ} {A : Nat → Nat} {s : GS} {ex : va_W} {d : Nat} {X : AmX} {x2 : Int32} {x3 : Int32} (hd : 6 ≤ d) (hI : Inv s) (h2 : In x2 0 31) (h3 : In x3 0 31) : GC Z d 163 [.ref (A 94), .ref (A 2), .int x2, .int x3] (WW Z A s ++ ex) 0 0 (fun v u => ∃ t : GS, Inv t ∧ Fr fm_163_94_2 s t ∧ ∃ z : Int32, v = some (.int z) ∧ u = WW Z A t ++ ex ∧ In z (-1) 1952) X := by
  intro post xp hP hX
  have ct43 : ∀ (k43 : Nat) (sc43 : GS) (y43_4 : Int32), Inv sc43 → Fr fm_163_94_2 s sc43 → (In y43_4 0 2001) → 2001 - (y43_4).toInt < (k43 : Int) → GG Z (d - 1) 163 post (gx xp) (1 + k43 * 900) 43 (fun j => xlook j [(0, .ref (A 94)), (1, .ref (A 2)), (2, .int x2), (3, .int x3), (4, .int y43_4)]) [] (WW Z A sc43 ++ ex) 0 0 := by
    intro k43
    induction k43 with
    | zero => intro sc43 y43_4 hIc43 hFc43 j43_4 mm43; exact m_no mm43 j43_4 rfl
    | succ k43 ih43 =>
      intro sc43 y43_4 hIc43 hFc43 j43_4 mm43
      refine gg_w (M := 1 + k43 * 900 + 900) gws ?_
      refine g_iload 45 (gd rfl) rfl rfl ?_
      refine g_sipush 1952 48 (gd rfl) rfl rfl ?_
      refine g_cmp_gt 51 86 (gd rfl) rfl rfl (fun c48 => ?_) (fun c48 => ?_)
      · skip
        have i48 := r_lt2 1953 2001 c48 (in_c 1952 rfl) j43_4 rfl
        refine g_iconst (-1) 87 (gd rfl) rfl rfl ?_
        exact g_ireturn (gd rfl) rfl rfl (hP _ _ ⟨sc43, hIc43, hFc43, (Int32.ofInt (-1)), rfl, rfl, in_w (-1) 1952 (in_c (-1) rfl) rfl⟩)
      · skip
        have i48 := r_le1 0 1952 c48 j43_4 (in_c 1952 rfl) rfl
        refine g_aload_n 52 (gd rfl) rfl rfl ?_
        refine g_getA (q2 := 101) 55 (gd rfl) rfl rfl rfl rfl ?_
        refine g_iload_n 56 (gd rfl) rfl rfl ?_
        refine g_laload 57 (gd rfl) rfl (n := 32) rfl (in_ix h3 rfl) (fun z56 e56 => ?_)
        have i56 := inv_L hIc43 (n := 32) 0 2305843009213693951 rfl (in_ix h3 rfl) rfl e56
        refine g_aload_n 58 (gd rfl) rfl rfl ?_
        refine g_getL 61 (gd rfl) rfl rfl rfl (fun z58 e58 => ?_)
        have i58 := inv_G hIc43 0 2305843009213693951 rfl e58
        refine g_land 62 (gd rfl) rfl (fun z61 e61 => ?_)
        have i61 := inl_and2 e61 i58 rfl
        refine g_lconst 0 63 (gd rfl) rfl rfl ?_
        refine g_lcmp 64 (gd rfl) rfl (fun z63 e63 => ?_)
        have i63 := lc_in e63
        refine g_if_eq 67 70 (gd rfl) rfl rfl (fun c64 => ?_) (fun c64 => ?_)
        · skip
          have i64 := z_eq 0 0 c64 i63 rfl
          have c64a := lc_eq e63 c64
          have i64a := lr_eq1 0 0 c64a i61 (l_c 0 rfl) rfl
          refine g_aload_n 71 (gd rfl) rfl rfl ?_
          refine g_aload_n 72 (gd rfl) rfl rfl ?_
          refine g_callv (X := _) (As := [.ref (A 2)]) (r := []) (b := A 94) (q := 94) 75 (gd rfl) rfl rfl rfl rfl rfl (ww_o rfl) (Nat.le_of_ble_eq_true rfl) (Nat.zero_le _) (Nat.zero_le _) (k_164_94_2 (by first | exact dq1 hd rfl | exact dq0 hd rfl | exact dq2 hd rfl | exact dq3 hd rfl | omega) hIc43 ) (fun e u h => h) (fun v u h => ?_)
          obtain ⟨s72, hI72, hF72, z72, rfl, rfl, i72⟩ := h
          show GG _ _ _ _ _ _ _ _ [.int z72] _ _ _
          refine g_if_ne 78 80 (gd rfl) rfl rfl (fun c75 => ?_) (fun c75 => ?_)
          · skip
            have i75 := z_ne 1 1 c75 i72 rfl
            refine g_iinc 83 (gd rfl) rfl rfl (Nat.le_of_ble_eq_true rfl) (fun z80 e80 => ?_)
            have i80 := in_add 1 1953 e80 i48 (in_c 1 rfl) rfl rfl
            refine g_goto 43 (gd rfl) rfl ?_
            exact gg_w (by first | exact Nat.le_add_right _ _ | exact gw2 | exact gw3 | exact gwe rfl | exact gwf rfl | exact gwg rfl | exact gwh rfl | omega) (gg_f (gf_cons rfl (gf_cons rfl (gf_cons rfl (gf_cons rfl (gf_cons rfl gf_nil))))) (ih43 s72 z80 hI72 (fr_tr rfl hFc43 hF72) (in_w 0 2001 i80 rfl) (m_up mm43 (t_add e80 i48 (in_c 1 rfl) rfl) (in_w 1 1 (in_c 1 rfl) rfl))))
          · skip
            have i75 := z_eq 0 0 c75 i72 rfl
            refine g_iconst (-1) 79 (gd rfl) rfl rfl ?_
            exact g_ireturn (gd rfl) rfl rfl (hP _ _ ⟨s72, hI72, (fr_tr rfl hFc43 hF72), (Int32.ofInt (-1)), rfl, rfl, in_w (-1) 1952 (in_c (-1) rfl) rfl⟩)
        · skip
          have c64a := lc_ne e63 c64
          have i64 := lr_ne1 1 2305843009213693951 c64a i61 (l_c 0 rfl) rfl
          refine g_iload 69 (gd rfl) rfl rfl ?_
          exact g_ireturn (gd rfl) rfl rfl (hP _ _ ⟨sc43, hIc43, hFc43, y43_4, rfl, rfl, in_w (-1) 1952 i48 rfl⟩)
  refine g_enter2 (k := 163) (N := 1802701) (by first | exact dq1 hd rfl | exact dq0 hd rfl | exact dq2 hd rfl | exact dq3 hd rfl | omega) rfl (Nat.le_of_ble_eq_true rfl) ?_
  refine g_aload_n 1 (gd rfl) rfl rfl ?_
  refine g_callv (X := _) (As := []) (r := []) (b := A 2) (q := 2) 4 (gd rfl) rfl rfl rfl rfl rfl (ww_o rfl) (Nat.le_of_ble_eq_true rfl) (Nat.zero_le _) (Nat.zero_le _) (k_106_2 (by first | exact dq1 hd rfl | exact dq0 hd rfl | exact dq2 hd rfl | exact dq3 hd rfl | omega) hI ) (fun e u h => h) (fun v u h => ?_)
  obtain ⟨s1, hI1, hF1, n1, rfl, rfl⟩ := h
  obtain ⟨z1a, e1⟩ : ∃ w, w = s1.2.2.1 2 4 := ⟨_, rfl⟩
  have i1a := inv_F hI1 (-1) 4000 rfl e1
  obtain ⟨z1b, e1a⟩ : ∃ w, w = s1.2.2.1 2 0 := ⟨_, rfl⟩
  have i1b := inv_F hI1 0 4000 rfl e1a
  rw [← (show z1a = s1.2.2.1 2 4 from e1)] at n1
  rw [← (show z1b = s1.2.2.1 2 0 from e1a)] at n1
  show GG _ _ _ _ _ _ _ _ [] _ _ _
  refine g_aload_n 5 (gd rfl) rfl rfl ?_
  refine g_getA (q2 := 99) 8 (gd rfl) rfl rfl rfl rfl ?_
  refine g_lconst 0 9 (gd rfl) rfl rfl ?_
  refine g_calls (As := [.ref (A 99), .long (Int64.ofInt 0)]) (r := []) 12 (gd rfl) rfl rfl rfl rfl rfl (Nat.le_of_ble_eq_true rfl) (Nat.zero_le _) (Nat.zero_le _) (k_fillL 99 (by first | exact dq1 hd rfl | exact dq0 hd rfl | exact dq2 hd rfl | exact dq3 hd rfl | omega) hI1 (n := 32) rfl rfl rfl (lw 0 2305843009213693951 (l_c 0 rfl) rfl)) (fun v u h => ?_)
  obtain ⟨s9, hI9, hF9, rfl, rfl, fl9⟩ := h
  show GG _ _ _ _ _ _ _ _ [] _ _ _
  refine g_aload_n 13 (gd rfl) rfl rfl ?_
  refine g_getA (q2 := 101) 16 (gd rfl) rfl rfl rfl rfl ?_
  refine g_lconst 0 17 (gd rfl) rfl rfl ?_
  refine g_calls (As := [.ref (A 101), .long (Int64.ofInt 0)]) (r := []) 20 (gd rfl) rfl rfl rfl rfl rfl (Nat.le_of_ble_eq_true rfl) (Nat.zero_le _) (Nat.zero_le _) (k_fillL 101 (by first | exact dq1 hd rfl | exact dq0 hd rfl | exact dq2 hd rfl | exact dq3 hd rfl | omega) hI9 (n := 32) rfl rfl rfl (lw 0 2305843009213693951 (l_c 0 rfl) rfl)) (fun v u h => ?_)
  obtain ⟨s17, hI17, hF17, rfl, rfl, fl17⟩ := h
  show GG _ _ _ _ _ _ _ _ [] _ _ _
  refine g_aload_n 21 (gd rfl) rfl rfl ?_
  refine g_getA (q2 := 99) 24 (gd rfl) rfl rfl rfl rfl ?_
  refine g_iload_n 25 (gd rfl) rfl rfl ?_
  refine g_aload_n 26 (gd rfl) rfl rfl ?_
  refine g_getL 29 (gd rfl) rfl rfl rfl (fun z26 e26 => ?_)
  have i26 := inv_G hI17 0 2305843009213693951 rfl e26
  refine g_lastore 30 (gd rfl) rfl (n := 32) rfl (in_ix h2 rfl) ?_
  have hI29 := inv_sL (q := 99) (j := x2.toNatClampNeg) (x := z26) hI17 rfl (lw 0 2305843009213693951 i26 rfl)
  refine g_aload_n 31 (gd rfl) rfl rfl ?_
  refine g_getA (q2 := 101) 34 (gd rfl) rfl rfl rfl rfl ?_
  refine g_iload_n 35 (gd rfl) rfl rfl ?_
  refine g_aload_n 36 (gd rfl) rfl rfl ?_
  refine g_getL 39 (gd rfl) rfl rfl rfl (fun z36 e36 => ?_)
  have i36 := inv_G hI29 0 2305843009213693951 rfl e36
  refine g_lastore 40 (gd rfl) rfl (n := 32) rfl (in_ix h2 rfl) ?_
  have hI39 := inv_sL (q := 101) (j := x2.toNatClampNeg) (x := z36) hI29 rfl (lw 0 2305843009213693951 i36 rfl)
  refine g_iconst 0 41 (gd rfl) rfl rfl ?_
  refine g_istore 43 (gd rfl) rfl (Nat.le_of_ble_eq_true rfl) ?_
  exact gg_w (by first | exact Nat.le_of_ble_eq_true rfl | omega) (gg_f (gf_cons rfl (gf_cons rfl (gf_cons rfl (gf_cons rfl (gf_cons rfl gf_nil))))) (ct43 2002 (sL (sL s17 99 x2.toNatClampNeg z26) 101 x2.toNatClampNeg z36) (Int32.ofInt 0) hI39 (fr_sL rfl (fr_sL rfl (fr_tr rfl (fr_tr rfl (fr_tr rfl fr_rf hF1) hF9) hF17))) (in_w 0 2001 (in_c 0 rfl) rfl) (m_in 2002 (in_w 0 2001 (in_c 0 rfl) rfl) rfl)))

def fm_163_94_32 : FM := ([39, 40, 41, 42, 43, 44, 45], [99, 100, 101], [(32, 4)], [])
/-- GraphHouse$Question.leastFit -/
theorem k_163_94_32 {Z : AmZ} {A : Nat → Nat} {s : GS} {ex : va_W} {d : Nat} {X : AmX} {x2 : Int32} {x3 : Int32} (hd : 6 ≤ d) (hI : Inv s) (h2 : In x2 0 31) (h3 : In x3 0 31) : GC Z d 163 [.ref (A 94), .ref (A 32), .int x2, .int x3] (WW Z A s ++ ex) 0 0 (fun v u => ∃ t : GS, Inv t ∧ Fr fm_163_94_32 s t ∧ ∃ z : Int32, v = some (.int z) ∧ u = WW Z A t ++ ex ∧ In z (-1) 1952) X := by
  intro post xp hP hX
  have ct43 : ∀ (k43 : Nat) (sc43 : GS) (y43_4 : Int32), Inv sc43 → Fr fm_163_94_32 s sc43 → (In y43_4 0 2001) → 2001 - (y43_4).toInt < (k43 : Int) → GG Z (d - 1) 163 post (gx xp) (1 + k43 * 900) 43 (fun j => xlook j [(0, .ref (A 94)), (1, .ref (A 32)), (2, .int x2), (3, .int x3), (4, .int y43_4)]) [] (WW Z A sc43 ++ ex) 0 0 := by
    intro k43
    induction k43 with
    | zero => intro sc43 y43_4 hIc43 hFc43 j43_4 mm43; exact m_no mm43 j43_4 rfl
    | succ k43 ih43 =>
      intro sc43 y43_4 hIc43 hFc43 j43_4 mm43
      refine gg_w (M := 1 + k43 * 900 + 900) gws ?_
      refine g_iload 45 (gd rfl) rfl rfl ?_
      refine g_sipush 1952 48 (gd rfl) rfl rfl ?_
      refine g_cmp_gt 51 86 (gd rfl) rfl rfl (fun c48 => ?_) (fun c48 => ?_)
      · skip
        have i48 := r_lt2 1953 2001 c48 (in_c 1952 rfl) j43_4 rfl
        refine g_iconst (-1) 87 (gd rfl) rfl rfl ?_
        exact g_ireturn (gd rfl) rfl rfl (hP _ _ ⟨sc43, hIc43, hFc43, (Int32.ofInt (-1)), rfl, rfl, in_w (-1) 1952 (in_c (-1) rfl) rfl⟩)
      · skip
        have i48 := r_le1 0 1952 c48 j43_4 (in_c 1952 rfl) rfl
        refine g_aload_n 52 (gd rfl) rfl rfl ?_
        refine g_getA (q2 := 101) 55 (gd rfl) rfl rfl rfl rfl ?_
        refine g_iload_n 56 (gd rfl) rfl rfl ?_
        refine g_laload 57 (gd rfl) rfl (n := 32) rfl (in_ix h3 rfl) (fun z56 e56 => ?_)
        have i56 := inv_L hIc43 (n := 32) 0 2305843009213693951 rfl (in_ix h3 rfl) rfl e56
        refine g_aload_n 58 (gd rfl) rfl rfl ?_
        refine g_getL 61 (gd rfl) rfl rfl rfl (fun z58 e58 => ?_)
        have i58 := inv_G hIc43 0 2305843009213693951 rfl e58
        refine g_land 62 (gd rfl) rfl (fun z61 e61 => ?_)
        have i61 := inl_and2 e61 i58 rfl
        refine g_lconst 0 63 (gd rfl) rfl rfl ?_
        refine g_lcmp 64 (gd rfl) rfl (fun z63 e63 => ?_)
        have i63 := lc_in e63
        refine g_if_eq 67 70 (gd rfl) rfl rfl (fun c64 => ?_) (fun c64 => ?_)
        · skip
          have i64 := z_eq 0 0 c64 i63 rfl
          have c64a := lc_eq e63 c64
          have i64a := lr_eq1 0 0 c64a i61 (l_c 0 rfl) rfl
          refine g_aload_n 71 (gd rfl) rfl rfl ?_
          refine g_aload_n 72 (gd rfl) rfl rfl ?_
          refine g_callv (X := _) (As := [.ref (A 32)]) (r := []) (b := A 94) (q := 94) 75 (gd rfl) rfl rfl rfl rfl rfl (ww_o rfl) (Nat.le_of_ble_eq_true rfl) (Nat.zero_le _) (Nat.zero_le _) (k_164_94_32 (by first | exact dq1 hd rfl | exact dq0 hd rfl | exact dq2 hd rfl | exact dq3 hd rfl | omega) hIc43 ) (fun e u h => h) (fun v u h => ?_)
          obtain ⟨s72, hI72, hF72, z72, rfl, rfl, i72⟩ := h
          show GG _ _ _ _ _ _ _ _ [.int z72] _ _ _
          refine g_if_ne 78 80 (gd rfl) rfl rfl (fun c75 => ?_) (fun c75 => ?_)
          · skip
            have i75 := z_ne 1 1 c75 i72 rfl
            refine g_iinc 83 (gd rfl) rfl rfl (Nat.le_of_ble_eq_true rfl) (fun z80 e80 => ?_)
            have i80 := in_add 1 1953 e80 i48 (in_c 1 rfl) rfl rfl
            refine g_goto 43 (gd rfl) rfl ?_
            exact gg_w (by first | exact Nat.le_add_right _ _ | exact gw2 | exact gw3 | exact gwe rfl | exact gwf rfl | exact gwg rfl | exact gwh rfl | omega) (gg_f (gf_cons rfl (gf_cons rfl (gf_cons rfl (gf_cons rfl (gf_cons rfl gf_nil))))) (ih43 s72 z80 hI72 (fr_tr rfl hFc43 hF72) (in_w 0 2001 i80 rfl) (m_up mm43 (t_add e80 i48 (in_c 1 rfl) rfl) (in_w 1 1 (in_c 1 rfl) rfl))))
          · skip
            have i75 := z_eq 0 0 c75 i72 rfl
            refine g_iconst (-1) 79 (gd rfl) rfl rfl ?_
            exact g_ireturn (gd rfl) rfl rfl (hP _ _ ⟨s72, hI72, (fr_tr rfl hFc43 hF72), (Int32.ofInt (-1)), rfl, rfl, in_w (-1) 1952 (in_c (-1) rfl) rfl⟩)
        · skip
          have c64a := lc_ne e63 c64
          have i64 := lr_ne1 1 2305843009213693951 c64a i61 (l_c 0 rfl) rfl
          refine g_iload 69 (gd rfl) rfl rfl ?_
          exact g_ireturn (gd rfl) rfl rfl (hP _ _ ⟨sc43, hIc43, hFc43, y43_4, rfl, rfl, in_w (-1) 1952 i48 rfl⟩)
  refine g_enter2 (k := 163) (N := 1802701) (by first | exact dq1 hd rfl | exact dq0 hd rfl | exact dq2 hd rfl | exact dq3 hd rfl | omega) rfl (Nat.le_of_ble_eq_true rfl) ?_
  refine g_aload_n 1 (gd rfl) rfl rfl ?_
  refine g_callv (X := _) (As := []) (r := []) (b := A 32) (q := 32) 4 (gd rfl) rfl rfl rfl rfl rfl (ww_o rfl) (Nat.le_of_ble_eq_true rfl) (Nat.zero_le _) (Nat.zero_le _) (k_106_32 (by first | exact dq1 hd rfl | exact dq0 hd rfl | exact dq2 hd rfl | exact dq3 hd rfl | omega) hI ) (fun e u h => h) (fun v u h => ?_)
  obtain ⟨s1, hI1, hF1, n1, rfl, rfl⟩ := h
  obtain ⟨z1a, e1⟩ : ∃ w, w = s1.2.2.1 32 4 := ⟨_, rfl⟩
  have i1a := inv_F hI1 (-1) 4000 rfl e1
  obtain ⟨z1b, e1a⟩ : ∃ w, w = s1.2.2.1 32 0 := ⟨_, rfl⟩
  have i1b := inv_F hI1 0 4000 rfl e1a
  rw [← (show z1a = s1.2.2.1 32 4 from e1)] at n1
  rw [← (show z1b = s1.2.2.1 32 0 from e1a)] at n1
  show GG _ _ _ _ _ _ _ _ [] _ _ _
  refine g_aload_n 5 (gd rfl) rfl rfl ?_
  refine g_getA (q2 := 99) 8 (gd rfl) rfl rfl rfl rfl ?_
  refine g_lconst 0 9 (gd rfl) rfl rfl ?_
  refine g_calls (As := [.ref (A 99), .long (Int64.ofInt 0)]) (r := []) 12 (gd rfl) rfl rfl rfl rfl rfl (Nat.le_of_ble_eq_true rfl) (Nat.zero_le _) (Nat.zero_le _) (k_fillL 99 (by first | exact dq1 hd rfl | exact dq0 hd rfl | exact dq2 hd rfl | exact dq3 hd rfl | omega) hI1 (n := 32) rfl rfl rfl (lw 0 2305843009213693951 (l_c 0 rfl) rfl)) (fun v u h => ?_)
  obtain ⟨s9, hI9, hF9, rfl, rfl, fl9⟩ := h
  show GG _ _ _ _ _ _ _ _ [] _ _ _
  refine g_aload_n 13 (gd rfl) rfl rfl ?_
  refine g_getA (q2 := 101) 16 (gd rfl) rfl rfl rfl rfl ?_
  refine g_lconst 0 17 (gd rfl) rfl rfl ?_
  refine g_calls (As := [.ref (A 101), .long (Int64.ofInt 0)]) (r := []) 20 (gd rfl) rfl rfl rfl rfl rfl (Nat.le_of_ble_eq_true rfl) (Nat.zero_le _) (Nat.zero_le _) (k_fillL 101 (by first | exact dq1 hd rfl | exact dq0 hd rfl | exact dq2 hd rfl | exact dq3 hd rfl | omega) hI9 (n := 32) rfl rfl rfl (lw 0 2305843009213693951 (l_c 0 rfl) rfl)) (fun v u h => ?_)
  obtain ⟨s17, hI17, hF17, rfl, rfl, fl17⟩ := h
  show GG _ _ _ _ _ _ _ _ [] _ _ _
  refine g_aload_n 21 (gd rfl) rfl rfl ?_
  refine g_getA (q2 := 99) 24 (gd rfl) rfl rfl rfl rfl ?_
  refine g_iload_n 25 (gd rfl) rfl rfl ?_
  refine g_aload_n 26 (gd rfl) rfl rfl ?_
  refine g_getL 29 (gd rfl) rfl rfl rfl (fun z26 e26 => ?_)
  have i26 := inv_G hI17 0 2305843009213693951 rfl e26
  refine g_lastore 30 (gd rfl) rfl (n := 32) rfl (in_ix h2 rfl) ?_
  have hI29 := inv_sL (q := 99) (j := x2.toNatClampNeg) (x := z26) hI17 rfl (lw 0 2305843009213693951 i26 rfl)
  refine g_aload_n 31 (gd rfl) rfl rfl ?_
  refine g_getA (q2 := 101) 34 (gd rfl) rfl rfl rfl rfl ?_
  refine g_iload_n 35 (gd rfl) rfl rfl ?_
  refine g_aload_n 36 (gd rfl) rfl rfl ?_
  refine g_getL 39 (gd rfl) rfl rfl rfl (fun z36 e36 => ?_)
  have i36 := inv_G hI29 0 2305843009213693951 rfl e36
  refine g_lastore 40 (gd rfl) rfl (n := 32) rfl (in_ix h2 rfl) ?_
  have hI39 := inv_sL (q := 101) (j := x2.toNatClampNeg) (x := z36) hI29 rfl (lw 0 2305843009213693951 i36 rfl)
  refine g_iconst 0 41 (gd rfl) rfl rfl ?_
  refine g_istore 43 (gd rfl) rfl (Nat.le_of_ble_eq_true rfl) ?_
  exact gg_w (by first | exact Nat.le_of_ble_eq_true rfl | omega) (gg_f (gf_cons rfl (gf_cons rfl (gf_cons rfl (gf_cons rfl (gf_cons rfl gf_nil))))) (ct43 2002 (sL (sL s17 99 x2.toNatClampNeg z26) 101 x2.toNatClampNeg z36) (Int32.ofInt 0) hI39 (fr_sL rfl (fr_sL rfl (fr_tr rfl (fr_tr rfl (fr_tr rfl fr_rf hF1) hF9) hF17))) (in_w 0 2001 (in_c 0 rfl) rfl) (m_in 2002 (in_w 0 2001 (in_c 0 rfl) rfl) rfl)))

def fm_189_76_2 : FM := ([], [85], [], [])
/-- GraphHouse$Trees.countTrees -/
theorem k_189_76_2 {Z : AmZ} {A : Nat → Nat} {s : GS} {ex : va_W} {d : Nat} {X : AmX}  (hd : 3 ≤ d) (hI : Inv s)  : GC Z d 189 [.ref (A 76), .ref (A 2)] (WW Z A s ++ ex) 0 0 (fun v u => ∃ t : GS, Inv t ∧ Fr fm_189_76_2 s t ∧ ∃ z : Int32, v = some (.int z) ∧ u = WW Z A t ++ ex ∧ In z (-2147483648) 2147483647) X := by
  intro post xp hP hX
  obtain ⟨u_2_1, e_2_1⟩ : ∃ w, w = s.2.2.1 2 1 := ⟨_, rfl⟩
  have ro_2_1 := inv_F hI 0 32 rfl e_2_1
  obtain ⟨u_2_3, e_2_3⟩ : ∃ w, w = s.2.2.1 2 3 := ⟨_, rfl⟩
  have ro_2_3 := inv_F hI 0 160 rfl e_2_3
  have ct179 : ∀ (k179 : Nat) (sc179 : GS) (y179_2 : Int32) (y179_3 : Int64) (y179_5 : Int32), Inv sc179 → Fr fm_189_76_2 s sc179 → (In y179_2 (-1) 31) → (In y179_5 0 31) → 31 - (y179_5).toInt < (k179 : Int) → GG Z (d - 1) 189 post (gx xp) (1 + k179 * 900) 179 (fun j => xlook j [(0, .ref (A 76)), (1, .ref (A 2)), (2, .int y179_2), (3, .long y179_3), (5, .int y179_5)]) [] (WW Z A sc179 ++ ex) 0 0 := by
    intro k179
    induction k179 with
    | zero => intro sc179 y179_2 y179_3 y179_5 hIc179 hFc179 j179_2 j179_5 mm179; exact m_no mm179 j179_5 rfl
    | succ k179 ih179 =>
      intro sc179 y179_2 y179_3 y179_5 hIc179 hFc179 j179_2 j179_5 mm179
      refine gg_w (M := 1 + k179 * 900 + 900) gws ?_
      refine g_iload 181 (gd rfl) rfl rfl ?_
      refine g_iload_n 182 (gd rfl) rfl rfl ?_
      refine g_cmp_ge 185 211 (gd rfl) rfl rfl (fun c182 => ?_) (fun c182 => ?_)
      · skip
        refine g_lload_n 212 (gd rfl) rfl rfl ?_
        refine g_l2i 213 (gd rfl) rfl (fun z212 e212 => ?_)
        exact g_ireturn (gd rfl) rfl rfl (hP _ _ ⟨sc179, hIc179, hFc179, z212, rfl, rfl, in_w (-2147483648) 2147483647 (i_rng z212) rfl⟩)
      · skip
        have i182 := r_lt1 0 30 c182 j179_5 j179_2 rfl
        have i182a := r_lt2 1 31 c182 j179_5 j179_2 rfl
        refine g_lload_n 186 (gd rfl) rfl rfl ?_
        refine g_lconst 0 187 (gd rfl) rfl rfl ?_
        refine g_lcmp 188 (gd rfl) rfl (fun z187 e187 => ?_)
        have i187 := lc_in e187
        refine g_if_eq 191 211 (gd rfl) rfl rfl (fun c188 => ?_) (fun c188 => ?_)
        · skip
          have i188 := z_eq 0 0 c188 i187 rfl
          have c188a := lc_eq e187 c188
          have i188a := lr_eq1 0 0 c188a (l_rng y179_3) (l_c 0 rfl) rfl
          refine g_lload_n 212 (gd rfl) rfl rfl ?_
          refine g_l2i 213 (gd rfl) rfl (fun z212 e212 => ?_)
          exact g_ireturn (gd rfl) rfl rfl (hP _ _ ⟨sc179, hIc179, hFc179, z212, rfl, rfl, in_w (-2147483648) 2147483647 (i_rng z212) rfl⟩)
        · skip
          have c188a := lc_ne e187 c188
          refine g_lload_n 192 (gd rfl) rfl rfl ?_
          refine g_aload_n 193 (gd rfl) rfl rfl ?_
          refine g_iload 195 (gd rfl) rfl rfl ?_
          refine g_iload_n 196 (gd rfl) rfl rfl ?_
          refine g_callv (X := _) (As := [.int y179_5, .int y179_2]) (r := [.long y179_3]) (b := A 76) (q := 76) 199 (gd rfl) rfl rfl rfl rfl rfl (ww_o rfl) (Nat.le_of_ble_eq_true rfl) (Nat.zero_le _) (Nat.zero_le _) (k_190_76 (by first | exact dq1 hd rfl | exact dq0 hd rfl | exact dq2 hd rfl | exact dq3 hd rfl | omega) hIc179 (in_w 0 30 i182 rfl) (in_w 1 31 i182a rfl)) (fun e u h => h) (fun v u h => ?_)
          obtain ⟨s196, hI196, hF196, z196, rfl, rfl⟩ := h
          show GG _ _ _ _ _ _ _ _ [.long z196, .long y179_3] _ _ _
          refine g_lmul 200 (gd rfl) rfl (fun z199 e199 => ?_)
          refine g_ldc2_w 1000000007 203 (gd rfl) rfl rfl ?_
          refine g_lrem 204 (gd rfl) rfl (by decide) (fun z203 e203 => ?_)
          have i203 := l_rem (-1000000006) 1000000006 e203 rfl
          refine g_lstore_n 205 (gd rfl) rfl (Nat.le_of_ble_eq_true rfl) ?_
          refine g_iinc 208 (gd rfl) rfl rfl (Nat.le_of_ble_eq_true rfl) (fun z205 e205 => ?_)
          have i205 := in_add 1 31 e205 i182 (in_c 1 rfl) rfl rfl
          refine g_goto 179 (gd rfl) rfl ?_
          exact gg_w (by first | exact Nat.le_add_right _ _ | exact gw2 | exact gw3 | exact gwe rfl | exact gwf rfl | exact gwg rfl | exact gwh rfl | omega) (gg_f (gf_cons rfl (gf_cons rfl (gf_cons rfl (gf_cons rfl (gf_cons rfl gf_nil))))) (ih179 s196 y179_2 z203 z205 hI196 (fr_tr rfl hFc179 hF196) (in_w (-1) 31 i182a rfl) (in_w 0 31 i205 rfl) (m_up mm179 (t_add e205 i182 (in_c 1 rfl) rfl) (in_w 1 1 (in_c 1 rfl) rfl))))
  have ct134 : ∀ (k134 : Nat) (sc134 : GS) (y134_2 : Int32), Inv sc134 → Fr fm_189_76_2 s sc134 → (In y134_2 0 2001) → 2001 - (y134_2).toInt < (k134 : Int) → GG Z (d - 1) 189 post (gx xp) (28802 + k134 * 900) 134 (fun j => xlook j [(0, .ref (A 76)), (1, .ref (A 2)), (2, .int y134_2)]) [] (WW Z A sc134 ++ ex) 0 0 := by
    intro k134
    induction k134 with
    | zero => intro sc134 y134_2 hIc134 hFc134 j134_2 mm134; exact m_no mm134 j134_2 rfl
    | succ k134 ih134 =>
      intro sc134 y134_2 hIc134 hFc134 j134_2 mm134
      refine gg_w (M := 28802 + k134 * 900 + 900) gws ?_
      refine g_iload_n 135 (gd rfl) rfl rfl ?_
      refine g_aload_n 136 (gd rfl) rfl rfl ?_
      refine g_getA (q2 := 85) 139 (gd rfl) rfl rfl rfl rfl ?_
      refine g_alen (n := 1024) (t := 1) 1024 140 (gd rfl) rfl rfl (Nat.le_of_ble_eq_true rfl) rfl ?_
      refine g_cmp_ge 143 167 (gd rfl) rfl rfl (fun c140 => ?_) (fun c140 => ?_)
      · skip
        have i140 := r_le2 1024 2001 c140 (in_c 1024 rfl) j134_2 rfl
        refine g_aload_n 168 (gd rfl) rfl rfl ?_
        refine g_getI 171 (gd rfl) rfl rfl rfl (fun z168 e168 => ?_)
        have q168 : u_2_1 = z168 := (fr_F e_2_1 hFc134 rfl).trans e168.symm
        subst q168
        refine g_iconst 1 172 (gd rfl) rfl rfl ?_
        refine g_isub 173 (gd rfl) rfl (fun z172 e172 => ?_)
        have i172 := in_sub (-1) 31 e172 ro_2_1 (in_c 1 rfl) rfl rfl
        refine g_istore_n 174 (gd rfl) rfl (Nat.le_of_ble_eq_true rfl) ?_
        refine g_lconst 1 175 (gd rfl) rfl rfl ?_
        refine g_lstore_n 176 (gd rfl) rfl (Nat.le_of_ble_eq_true rfl) ?_
        refine g_iconst 0 177 (gd rfl) rfl rfl ?_
        refine g_istore 179 (gd rfl) rfl (Nat.le_of_ble_eq_true rfl) ?_
        exact gg_w (by first | exact Nat.le_add_right _ _ | exact gw2 | exact gw3 | exact gwe rfl | exact gwf rfl | exact gwg rfl | exact gwh rfl | omega) (gg_f (gf_cons rfl (gf_cons rfl (gf_cons rfl (gf_cons rfl (gf_cons rfl gf_nil))))) (ct179 32 sc134 z172 (Int64.ofInt 1) (Int32.ofInt 0) hIc134 hFc134 (in_w (-1) 31 i172 rfl) (in_w 0 31 (in_c 0 rfl) rfl) (m_in 32 (in_w 0 31 (in_c 0 rfl) rfl) rfl)))
      · skip
        have i140 := r_lt1 0 1023 c140 j134_2 (in_c 1024 rfl) rfl
        refine g_aload_n 144 (gd rfl) rfl rfl ?_
        refine g_getA (q2 := 85) 147 (gd rfl) rfl rfl rfl rfl ?_
        refine g_iload_n 148 (gd rfl) rfl rfl ?_
        refine g_aload_n 149 (gd rfl) rfl rfl ?_
        refine g_getA (q2 := 85) 152 (gd rfl) rfl rfl rfl rfl ?_
        refine g_iload_n 153 (gd rfl) rfl rfl ?_
        refine g_laload 154 (gd rfl) rfl (n := 1024) rfl (in_ix i140 rfl) (fun z153 e153 => ?_)
        refine g_ldc2_w 1000000007 157 (gd rfl) rfl rfl ?_
        refine g_calls (As := [.long z153, .long (Int64.ofInt 1000000007)]) (r := [.int y134_2, .ref (A 85)]) 160 (gd rfl) rfl rfl rfl rfl rfl (Nat.le_of_ble_eq_true rfl) (mc := 0) (ms := 0) (Nat.zero_le _) (Nat.zero_le _) (P := fun v u => _) ?_ (fun v u h => h)
        intro po157 xx157 hp157 hx157
        refine g_enter2 (k := 419) (N := 300) (by first | exact dq1 hd rfl | exact dq0 hd rfl | exact dq2 hd rfl | exact dq3 hd rfl | omega) rfl (Nat.le_of_ble_eq_true rfl) ?_
        refine g_lload_n 1 (gd rfl) rfl rfl ?_
        refine g_lload_n 2 (gd rfl) rfl rfl ?_
        refine g_lrem 3 (gd rfl) rfl (by decide) (fun z157x2 e157x2 => ?_)
        have i157x2 := l_rem (-1000000006) 1000000006 e157x2 rfl
        refine g_lstore 5 (gd rfl) rfl (Nat.le_of_ble_eq_true rfl) ?_
        refine g_lload_n 6 (gd rfl) rfl rfl ?_
        refine g_lload_n 7 (gd rfl) rfl rfl ?_
        refine g_lxor 8 (gd rfl) rfl (fun z157x7 e157x7 => ?_)
        refine g_lconst 0 9 (gd rfl) rfl rfl ?_
        refine g_lcmp 10 (gd rfl) rfl (fun z157x9 e157x9 => ?_)
        have i157x9 := lc_in e157x9
        refine g_if_ge 13 25 (gd rfl) rfl rfl (fun c157x10 => ?_) (fun c157x10 => ?_)
        · skip
          have i157x10 := z_ge 0 1 c157x10 i157x9 rfl
          have c157x10a := lc_ge e157x9 c157x10
          have i157x10a := lr_le2 0 9223372036854775807 c157x10a (l_c 0 rfl) (l_rng z157x7) rfl
          refine g_lload 27 (gd rfl) rfl rfl ?_
          refine g_lreturn (gd rfl) rfl (hp157 _ _ ?_)
          show GG _ _ _ _ _ _ _ _ [.long z157x2, .int y134_2, .ref (A 85)] _ _ _
          refine g_lastore 161 (gd rfl) rfl (n := 1024) rfl (in_ix i140 rfl) ?_
          have hI160 := inv_sL (q := 85) (j := y134_2.toNatClampNeg) (x := z157x2) hIc134 rfl (l_rng z157x2)
          refine g_iinc 164 (gd rfl) rfl rfl (Nat.le_of_ble_eq_true rfl) (fun z161 e161 => ?_)
          have i161 := in_add 1 1024 e161 i140 (in_c 1 rfl) rfl rfl
          refine g_goto 134 (gd rfl) rfl ?_
          exact gg_w (by first | exact Nat.le_add_right _ _ | exact gw2 | exact gw3 | exact gwe rfl | exact gwf rfl | exact gwg rfl | exact gwh rfl | omega) (gg_f (gf_cons rfl (gf_cons rfl (gf_cons rfl gf_nil))) (ih134 (sL sc134 85 y134_2.toNatClampNeg z157x2) z161 hI160 (fr_sL rfl hFc134) (in_w 0 2001 i161 rfl) (m_up mm134 (t_add e161 i140 (in_c 1 rfl) rfl) (in_w 1 1 (in_c 1 rfl) rfl))))
        · skip
          have i157x10 := z_lt (-1) (-1) c157x10 i157x9 rfl
          have c157x10a := lc_lt e157x9 c157x10
          have i157x10a := lr_lt1 (-9223372036854775808) (-1) c157x10a (l_rng z157x7) (l_c 0 rfl) rfl
          refine g_lload 15 (gd rfl) rfl rfl ?_
          refine g_lconst 0 16 (gd rfl) rfl rfl ?_
          refine g_lcmp 17 (gd rfl) rfl (fun z157x16 e157x16 => ?_)
          have i157x16 := lc_in e157x16
          refine g_if_eq 20 25 (gd rfl) rfl rfl (fun c157x17 => ?_) (fun c157x17 => ?_)
          · skip
            have i157x17 := z_eq 0 0 c157x17 i157x16 rfl
            have c157x17a := lc_eq e157x16 c157x17
            have i157x17a := lr_eq1 0 0 c157x17a i157x2 (l_c 0 rfl) rfl
            refine g_lload 27 (gd rfl) rfl rfl ?_
            refine g_lreturn (gd rfl) rfl (hp157 _ _ ?_)
            show GG _ _ _ _ _ _ _ _ [.long z157x2, .int y134_2, .ref (A 85)] _ _ _
            refine g_lastore 161 (gd rfl) rfl (n := 1024) rfl (in_ix i140 rfl) ?_
            have hI160 := inv_sL (q := 85) (j := y134_2.toNatClampNeg) (x := z157x2) hIc134 rfl (l_rng z157x2)
            refine g_iinc 164 (gd rfl) rfl rfl (Nat.le_of_ble_eq_true rfl) (fun z161 e161 => ?_)
            have i161 := in_add 1 1024 e161 i140 (in_c 1 rfl) rfl rfl
            refine g_goto 134 (gd rfl) rfl ?_
            exact gg_w (by first | exact Nat.le_add_right _ _ | exact gw2 | exact gw3 | exact gwe rfl | exact gwf rfl | exact gwg rfl | exact gwh rfl | omega) (gg_f (gf_cons rfl (gf_cons rfl (gf_cons rfl gf_nil))) (ih134 (sL sc134 85 y134_2.toNatClampNeg z157x2) z161 hI160 (fr_sL rfl hFc134) (in_w 0 2001 i161 rfl) (m_up mm134 (t_add e161 i140 (in_c 1 rfl) rfl) (in_w 1 1 (in_c 1 rfl) rfl))))
          · skip
            have c157x17a := lc_ne e157x16 c157x17
            refine g_lload 22 (gd rfl) rfl rfl ?_
            refine g_lload_n 23 (gd rfl) rfl rfl ?_
            refine g_ladd 24 (gd rfl) rfl (fun z157x23 e157x23 => ?_)
            have i157x23 := l_add 1 2000000013 e157x23 i157x2 (l_c 1000000007 rfl) rfl
            refine g_lreturn (gd rfl) rfl (hp157 _ _ ?_)
            show GG _ _ _ _ _ _ _ _ [.long z157x23, .int y134_2, .ref (A 85)] _ _ _
            refine g_lastore 161 (gd rfl) rfl (n := 1024) rfl (in_ix i140 rfl) ?_
            have hI160 := inv_sL (q := 85) (j := y134_2.toNatClampNeg) (x := z157x23) hIc134 rfl (l_rng z157x23)
            refine g_iinc 164 (gd rfl) rfl rfl (Nat.le_of_ble_eq_true rfl) (fun z161 e161 => ?_)
            have i161 := in_add 1 1024 e161 i140 (in_c 1 rfl) rfl rfl
            refine g_goto 134 (gd rfl) rfl ?_
            exact gg_w (by first | exact Nat.le_add_right _ _ | exact gw2 | exact gw3 | exact gwe rfl | exact gwf rfl | exact gwg rfl | exact gwh rfl | omega) (gg_f (gf_cons rfl (gf_cons rfl (gf_cons rfl gf_nil))) (ih134 (sL sc134 85 y134_2.toNatClampNeg z157x23) z161 hI160 (fr_sL rfl hFc134) (in_w 0 2001 i161 rfl) (m_up mm134 (t_add e161 i140 (in_c 1 rfl) rfl) (in_w 1 1 (in_c 1 rfl) rfl))))
  have ct10 : ∀ (k10 : Nat) (sc10 : GS) (y10_2 : Int32), Inv sc10 → Fr fm_189_76_2 s sc10 → (In y10_2 0 160) → 160 - (y10_2).toInt < (k10 : Int) → GG Z (d - 1) 189 post (gx xp) (1830603 + k10 * 900) 10 (fun j => xlook j [(0, .ref (A 76)), (1, .ref (A 2)), (2, .int y10_2)]) [] (WW Z A sc10 ++ ex) 0 0 := by
    intro k10
    induction k10 with
    | zero => intro sc10 y10_2 hIc10 hFc10 j10_2 mm10; exact m_no mm10 j10_2 rfl
    | succ k10 ih10 =>
      intro sc10 y10_2 hIc10 hFc10 j10_2 mm10
      refine gg_w (M := 1830603 + k10 * 900 + 900) gws ?_
      refine g_iload_n 11 (gd rfl) rfl rfl ?_
      refine g_aload_n 12 (gd rfl) rfl rfl ?_
      refine g_getI 15 (gd rfl) rfl rfl rfl (fun z12 e12 => ?_)
      have q12 : u_2_3 = z12 := (fr_F e_2_3 hFc10 rfl).trans e12.symm
      subst q12
      refine g_cmp_ge 18 132 (gd rfl) rfl rfl (fun c15 => ?_) (fun c15 => ?_)
      · skip
        refine g_iconst 0 133 (gd rfl) rfl rfl ?_
        refine g_istore_n 134 (gd rfl) rfl (Nat.le_of_ble_eq_true rfl) ?_
        exact gg_w (by first | exact Nat.le_add_right _ _ | exact gw2 | exact gw3 | exact gwe rfl | exact gwf rfl | exact gwg rfl | exact gwh rfl | omega) (gg_f (gf_cons rfl (gf_cons rfl (gf_cons rfl gf_nil))) (ct134 2002 sc10 (Int32.ofInt 0) hIc10 hFc10 (in_w 0 2001 (in_c 0 rfl) rfl) (m_in 2002 (in_w 0 2001 (in_c 0 rfl) rfl) rfl)))
      · skip
        have i15 := r_lt1 0 159 c15 j10_2 ro_2_3 rfl
        have i15a := r_lt2 1 160 c15 j10_2 ro_2_3 rfl
        refine g_aload_n 19 (gd rfl) rfl rfl ?_
        refine g_iload_n 20 (gd rfl) rfl rfl ?_
        refine g_callv (X := _) (As := [.int y10_2]) (r := []) (b := A 2) (q := 2) 23 (gd rfl) rfl rfl rfl rfl rfl (ww_o rfl) (Nat.le_of_ble_eq_true rfl) (mc := 0) (ms := 0) (Nat.zero_le _) (Nat.zero_le _) (P := fun v u => _) ?_ (fun e u h => h) (fun v u h => h)
        intro po20 xx20 hp20 hx20
        refine g_enter2 (k := 97) (N := 300) (by first | exact dq1 hd rfl | exact dq0 hd rfl | exact dq2 hd rfl | exact dq3 hd rfl | omega) rfl (Nat.le_of_ble_eq_true rfl) ?_
        refine g_aload_n 1 (gd rfl) rfl rfl ?_
        refine g_getA (q2 := 4) 4 (gd rfl) rfl rfl rfl rfl ?_
        refine g_iload_n 5 (gd rfl) rfl rfl ?_
        refine g_iaload 6 (gd rfl) rfl (n := 160) rfl (in_ix i15 rfl) (fun z20x5 e20x5 => ?_)
        have i20x5 := inv_I hIc10 (n := 160) (t := 0) (-1) 31 rfl (in_ix i15 rfl) rfl e20x5
        refine g_iconst (-1) 7 (gd rfl) rfl rfl ?_
        refine g_cmp_eq 10 29 (gd rfl) rfl rfl (fun c20x7 => ?_) (fun c20x7 => ?_)
        · skip
          have i20x7 := r_eq1 (-1) (-1) c20x7 i20x5 (in_c (-1) rfl) rfl
          refine g_iconst 0 30 (gd rfl) rfl rfl ?_
          refine g_ireturn (gd rfl) rfl (nb01 (in_w 0 1 (in_c 0 rfl) rfl)) (hp20 _ _ ?_)
          show GG _ _ _ _ _ _ _ _ [.int (Int32.ofInt 0)] _ _ _
          refine g_if_eq 26 126 (gd rfl) rfl rfl (fun c23 => ?_) (fun c23 => ?_)
          · skip
            refine g_iinc 129 (gd rfl) rfl rfl (Nat.le_of_ble_eq_true rfl) (fun z126 e126 => ?_)
            have i126 := in_add 1 160 e126 i15 (in_c 1 rfl) rfl rfl
            refine g_goto 10 (gd rfl) rfl ?_
            exact gg_w (by first | exact Nat.le_add_right _ _ | exact gw2 | exact gw3 | exact gwe rfl | exact gwf rfl | exact gwg rfl | exact gwh rfl | omega) (gg_f (gf_cons rfl (gf_cons rfl (gf_cons rfl gf_nil))) (ih10 sc10 z126 hIc10 hFc10 (in_w 0 160 i126 rfl) (m_up mm10 (t_add e126 i15 (in_c 1 rfl) rfl) (in_w 1 1 (in_c 1 rfl) rfl))))
          · skip
            exact zn_ne c23 (in_c 0 rfl) rfl
        · skip
          have i20x7 := r_ne1 0 31 c20x7 i20x5 (in_c (-1) rfl) rfl
          refine g_aload_n 11 (gd rfl) rfl rfl ?_
          refine g_getA (q2 := 4) 14 (gd rfl) rfl rfl rfl rfl ?_
          refine g_iload_n 15 (gd rfl) rfl rfl ?_
          refine g_iaload 16 (gd rfl) rfl (n := 160) rfl (in_ix i15 rfl) (fun z20x15 e20x15 => ?_)
          have q20x15 : z20x5 = z20x15 := (e20x5).trans e20x15.symm
          subst q20x15
          refine g_aload_n 17 (gd rfl) rfl rfl ?_
          refine g_getA (q2 := 5) 20 (gd rfl) rfl rfl rfl rfl ?_
          refine g_iload_n 21 (gd rfl) rfl rfl ?_
          refine g_iaload 22 (gd rfl) rfl (n := 160) rfl (in_ix i15 rfl) (fun z20x21 e20x21 => ?_)
          have i20x21 := inv_I hIc10 (n := 160) (t := 0) 0 31 rfl (in_ix i15 rfl) rfl e20x21
          refine g_cmp_eq 25 29 (gd rfl) rfl rfl (fun c20x22 => ?_) (fun c20x22 => ?_)
          · skip
            refine g_iconst 0 30 (gd rfl) rfl rfl ?_
            refine g_ireturn (gd rfl) rfl (nb01 (in_w 0 1 (in_c 0 rfl) rfl)) (hp20 _ _ ?_)
            show GG _ _ _ _ _ _ _ _ [.int (Int32.ofInt 0)] _ _ _
            refine g_if_eq 26 126 (gd rfl) rfl rfl (fun c23 => ?_) (fun c23 => ?_)
            · skip
              refine g_iinc 129 (gd rfl) rfl rfl (Nat.le_of_ble_eq_true rfl) (fun z126 e126 => ?_)
              have i126 := in_add 1 160 e126 i15 (in_c 1 rfl) rfl rfl
              refine g_goto 10 (gd rfl) rfl ?_
              exact gg_w (by first | exact Nat.le_add_right _ _ | exact gw2 | exact gw3 | exact gwe rfl | exact gwf rfl | exact gwg rfl | exact gwh rfl | omega) (gg_f (gf_cons rfl (gf_cons rfl (gf_cons rfl gf_nil))) (ih10 sc10 z126 hIc10 hFc10 (in_w 0 160 i126 rfl) (m_up mm10 (t_add e126 i15 (in_c 1 rfl) rfl) (in_w 1 1 (in_c 1 rfl) rfl))))
            · skip
              exact zn_ne c23 (in_c 0 rfl) rfl
          · skip
            refine g_iconst 1 26 (gd rfl) rfl rfl ?_
            refine g_goto 30 (gd rfl) rfl ?_
            refine g_ireturn (gd rfl) rfl (nb01 (in_w 0 1 (in_c 1 rfl) rfl)) (hp20 _ _ ?_)
            show GG _ _ _ _ _ _ _ _ [.int (Int32.ofInt 1)] _ _ _
            refine g_if_eq 26 126 (gd rfl) rfl rfl (fun c23 => ?_) (fun c23 => ?_)
            · skip
              exact zn_eq c23 (in_c 1 rfl) rfl
            · skip
              refine g_aload_n 27 (gd rfl) rfl rfl ?_
              refine g_getA (q2 := 85) 30 (gd rfl) rfl rfl rfl rfl ?_
              refine g_aload_n 31 (gd rfl) rfl rfl ?_
              refine g_getA (q2 := 4) 34 (gd rfl) rfl rfl rfl rfl ?_
              refine g_iload_n 35 (gd rfl) rfl rfl ?_
              refine g_iaload 36 (gd rfl) rfl (n := 160) rfl (in_ix i15 rfl) (fun z35 e35 => ?_)
              have q35 : z20x5 = z35 := (e20x5).trans e35.symm
              subst q35
              refine g_bipush 32 38 (gd rfl) rfl rfl ?_
              refine g_imul 39 (gd rfl) rfl (fun z38 e38 => ?_)
              have i38 := in_mulc 32 0 992 (Or.inr e38) i20x7 rfl rfl
              refine g_aload_n 40 (gd rfl) rfl rfl ?_
              refine g_getA (q2 := 4) 43 (gd rfl) rfl rfl rfl rfl ?_
              refine g_iload_n 44 (gd rfl) rfl rfl ?_
              refine g_iaload 45 (gd rfl) rfl (n := 160) rfl (in_ix i15 rfl) (fun z44 e44 => ?_)
              have q44 : z20x5 = z44 := (e20x5).trans e44.symm
              subst q44
              refine g_iadd 46 (gd rfl) rfl (fun z45 e45 => ?_)
              have i45 := in_add 0 1023 e45 i38 i20x7 rfl rfl
              refine g_dup2 47 (gd rfl) rfl rfl rfl ?_
              refine g_laload 48 (gd rfl) rfl (n := 1024) rfl (in_ix i45 rfl) (fun z47 e47 => ?_)
              refine g_lconst 1 49 (gd rfl) rfl rfl ?_
              refine g_ladd 50 (gd rfl) rfl (fun z49 e49 => ?_)
              refine g_lastore 51 (gd rfl) rfl (n := 1024) rfl (in_ix i45 rfl) ?_
              have hI50 := inv_sL (q := 85) (j := z45.toNatClampNeg) (x := z49) hIc10 rfl (l_rng z49)
              refine g_aload_n 52 (gd rfl) rfl rfl ?_
              refine g_getA (q2 := 85) 55 (gd rfl) rfl rfl rfl rfl ?_
              refine g_aload_n 56 (gd rfl) rfl rfl ?_
              refine g_getA (q2 := 5) 59 (gd rfl) rfl rfl rfl rfl ?_
              refine g_iload_n 60 (gd rfl) rfl rfl ?_
              refine g_iaload 61 (gd rfl) rfl (n := 160) rfl (in_ix i15 rfl) (fun z60 e60 => ?_)
              have q60 : z20x21 = z60 := (sL_I (e20x21)).trans e60.symm
              subst q60
              refine g_bipush 32 63 (gd rfl) rfl rfl ?_
              refine g_imul 64 (gd rfl) rfl (fun z63 e63 => ?_)
              have i63 := in_mulc 32 0 992 (Or.inr e63) i20x21 rfl rfl
              refine g_aload_n 65 (gd rfl) rfl rfl ?_
              refine g_getA (q2 := 5) 68 (gd rfl) rfl rfl rfl rfl ?_
              refine g_iload_n 69 (gd rfl) rfl rfl ?_
              refine g_iaload 70 (gd rfl) rfl (n := 160) rfl (in_ix i15 rfl) (fun z69 e69 => ?_)
              have q69 : z20x21 = z69 := (sL_I (e20x21)).trans e69.symm
              subst q69
              refine g_iadd 71 (gd rfl) rfl (fun z70 e70 => ?_)
              have i70 := in_add 0 1023 e70 i63 i20x21 rfl rfl
              refine g_dup2 72 (gd rfl) rfl rfl rfl ?_
              refine g_laload 73 (gd rfl) rfl (n := 1024) rfl (in_ix i70 rfl) (fun z72 e72 => ?_)
              refine g_lconst 1 74 (gd rfl) rfl rfl ?_
              refine g_ladd 75 (gd rfl) rfl (fun z74 e74 => ?_)
              refine g_lastore 76 (gd rfl) rfl (n := 1024) rfl (in_ix i70 rfl) ?_
              have hI75 := inv_sL (q := 85) (j := z70.toNatClampNeg) (x := z74) hI50 rfl (l_rng z74)
              refine g_aload_n 77 (gd rfl) rfl rfl ?_
              refine g_getA (q2 := 85) 80 (gd rfl) rfl rfl rfl rfl ?_
              refine g_aload_n 81 (gd rfl) rfl rfl ?_
              refine g_getA (q2 := 4) 84 (gd rfl) rfl rfl rfl rfl ?_
              refine g_iload_n 85 (gd rfl) rfl rfl ?_
              refine g_iaload 86 (gd rfl) rfl (n := 160) rfl (in_ix i15 rfl) (fun z85 e85 => ?_)
              have q85 : z20x5 = z85 := (sL_I (sL_I (e20x5))).trans e85.symm
              subst q85
              refine g_bipush 32 88 (gd rfl) rfl rfl ?_
              refine g_imul 89 (gd rfl) rfl (fun z88 e88 => ?_)
              have i88 := in_mulc 32 0 992 (Or.inr e88) i20x7 rfl rfl
              refine g_aload_n 90 (gd rfl) rfl rfl ?_
              refine g_getA (q2 := 5) 93 (gd rfl) rfl rfl rfl rfl ?_
              refine g_iload_n 94 (gd rfl) rfl rfl ?_
              refine g_iaload 95 (gd rfl) rfl (n := 160) rfl (in_ix i15 rfl) (fun z94 e94 => ?_)
              have q94 : z20x21 = z94 := (sL_I (sL_I (e20x21))).trans e94.symm
              subst q94
              refine g_iadd 96 (gd rfl) rfl (fun z95 e95 => ?_)
              have i95 := in_add 0 1023 e95 i88 i20x21 rfl rfl
              refine g_dup2 97 (gd rfl) rfl rfl rfl ?_
              refine g_laload 98 (gd rfl) rfl (n := 1024) rfl (in_ix i95 rfl) (fun z97 e97 => ?_)
              refine g_lconst 1 99 (gd rfl) rfl rfl ?_
              refine g_lsub 100 (gd rfl) rfl (fun z99 e99 => ?_)
              refine g_lastore 101 (gd rfl) rfl (n := 1024) rfl (in_ix i95 rfl) ?_
              have hI100 := inv_sL (q := 85) (j := z95.toNatClampNeg) (x := z99) hI75 rfl (l_rng z99)
              refine g_aload_n 102 (gd rfl) rfl rfl ?_
              refine g_getA (q2 := 85) 105 (gd rfl) rfl rfl rfl rfl ?_
              refine g_aload_n 106 (gd rfl) rfl rfl ?_
              refine g_getA (q2 := 5) 109 (gd rfl) rfl rfl rfl rfl ?_
              refine g_iload_n 110 (gd rfl) rfl rfl ?_
              refine g_iaload 111 (gd rfl) rfl (n := 160) rfl (in_ix i15 rfl) (fun z110 e110 => ?_)
              have q110 : z20x21 = z110 := (sL_I (sL_I (sL_I (e20x21)))).trans e110.symm
              subst q110
              refine g_bipush 32 113 (gd rfl) rfl rfl ?_
              refine g_imul 114 (gd rfl) rfl (fun z113 e113 => ?_)
              have i113 := in_mulc 32 0 992 (Or.inr e113) i20x21 rfl rfl
              refine g_aload_n 115 (gd rfl) rfl rfl ?_
              refine g_getA (q2 := 4) 118 (gd rfl) rfl rfl rfl rfl ?_
              refine g_iload_n 119 (gd rfl) rfl rfl ?_
              refine g_iaload 120 (gd rfl) rfl (n := 160) rfl (in_ix i15 rfl) (fun z119 e119 => ?_)
              have q119 : z20x5 = z119 := (sL_I (sL_I (sL_I (e20x5)))).trans e119.symm
              subst q119
              refine g_iadd 121 (gd rfl) rfl (fun z120 e120 => ?_)
              have i120 := in_add 0 1023 e120 i113 i20x7 rfl rfl
              refine g_dup2 122 (gd rfl) rfl rfl rfl ?_
              refine g_laload 123 (gd rfl) rfl (n := 1024) rfl (in_ix i120 rfl) (fun z122 e122 => ?_)
              refine g_lconst 1 124 (gd rfl) rfl rfl ?_
              refine g_lsub 125 (gd rfl) rfl (fun z124 e124 => ?_)
              refine g_lastore 126 (gd rfl) rfl (n := 1024) rfl (in_ix i120 rfl) ?_
              have hI125 := inv_sL (q := 85) (j := z120.toNatClampNeg) (x := z124) hI100 rfl (l_rng z124)
              refine g_iinc 129 (gd rfl) rfl rfl (Nat.le_of_ble_eq_true rfl) (fun z126 e126 => ?_)
              have i126 := in_add 1 160 e126 i15 (in_c 1 rfl) rfl rfl
              refine g_goto 10 (gd rfl) rfl ?_
              exact gg_w (by first | exact Nat.le_add_right _ _ | exact gw2 | exact gw3 | exact gwe rfl | exact gwf rfl | exact gwg rfl | exact gwh rfl | omega) (gg_f (gf_cons rfl (gf_cons rfl (gf_cons rfl gf_nil))) (ih10 (sL (sL (sL (sL sc10 85 z45.toNatClampNeg z49) 85 z70.toNatClampNeg z74) 85 z95.toNatClampNeg z99) 85 z120.toNatClampNeg z124) z126 hI125 (fr_sL rfl (fr_sL rfl (fr_sL rfl (fr_sL rfl hFc10)))) (in_w 0 160 i126 rfl) (m_up mm10 (t_add e126 i15 (in_c 1 rfl) rfl) (in_w 1 1 (in_c 1 rfl) rfl))))
  refine g_enter2 (k := 189) (N := 1976403) (by first | exact dq1 hd rfl | exact dq0 hd rfl | exact dq2 hd rfl | exact dq3 hd rfl | omega) rfl (Nat.le_of_ble_eq_true rfl) ?_
  refine g_aload_n 1 (gd rfl) rfl rfl ?_
  refine g_getA (q2 := 85) 4 (gd rfl) rfl rfl rfl rfl ?_
  refine g_lconst 0 5 (gd rfl) rfl rfl ?_
  refine g_calls (As := [.ref (A 85), .long (Int64.ofInt 0)]) (r := []) 8 (gd rfl) rfl rfl rfl rfl rfl (Nat.le_of_ble_eq_true rfl) (Nat.zero_le _) (Nat.zero_le _) (k_fillL 85 (by first | exact dq1 hd rfl | exact dq0 hd rfl | exact dq2 hd rfl | exact dq3 hd rfl | omega) hI (n := 1024) rfl rfl rfl (l_rng (Int64.ofInt 0))) (fun v u h => ?_)
  obtain ⟨s5, hI5, hF5, rfl, rfl, fl5⟩ := h
  show GG _ _ _ _ _ _ _ _ [] _ _ _
  refine g_iconst 0 9 (gd rfl) rfl rfl ?_
  refine g_istore_n 10 (gd rfl) rfl (Nat.le_of_ble_eq_true rfl) ?_
  exact gg_w (by first | exact Nat.le_of_ble_eq_true rfl | omega) (gg_f (gf_cons rfl (gf_cons rfl (gf_cons rfl gf_nil))) (ct10 161 s5 (Int32.ofInt 0) hI5 (fr_tr rfl fr_rf hF5) (in_w 0 160 (in_c 0 rfl) rfl) (m_in 161 (in_w 0 160 (in_c 0 rfl) rfl) rfl)))

def fm_189_76_32 : FM := ([], [85], [], [])
/-- GraphHouse$Trees.countTrees -/
theorem k_189_76_32 {Z : AmZ} {A : Nat → Nat} {s : GS} {ex : va_W} {d : Nat} {X : AmX}  (hd : 3 ≤ d) (hI : Inv s)  : GC Z d 189 [.ref (A 76), .ref (A 32)] (WW Z A s ++ ex) 0 0 (fun v u => ∃ t : GS, Inv t ∧ Fr fm_189_76_32 s t ∧ ∃ z : Int32, v = some (.int z) ∧ u = WW Z A t ++ ex ∧ In z (-2147483648) 2147483647) X := by
  intro post xp hP hX
  obtain ⟨u_32_1, e_32_1⟩ : ∃ w, w = s.2.2.1 32 1 := ⟨_, rfl⟩
  have ro_32_1 := inv_F hI 0 32 rfl e_32_1
  obtain ⟨u_32_3, e_32_3⟩ : ∃ w, w = s.2.2.1 32 3 := ⟨_, rfl⟩
  have ro_32_3 := inv_F hI 0 160 rfl e_32_3
  have ct179 : ∀ (k179 : Nat) (sc179 : GS) (y179_2 : Int32) (y179_3 : Int64) (y179_5 : Int32), Inv sc179 → Fr fm_189_76_32 s sc179 → (In y179_2 (-1) 31) → (In y179_5 0 31) → 31 - (y179_5).toInt < (k179 : Int) → GG Z (d - 1) 189 post (gx xp) (1 + k179 * 900) 179 (fun j => xlook j [(0, .ref (A 76)), (1, .ref (A 32)), (2, .int y179_2), (3, .long y179_3), (5, .int y179_5)]) [] (WW Z A sc179 ++ ex) 0 0 := by
    intro k179
    induction k179 with
    | zero => intro sc179 y179_2 y179_3 y179_5 hIc179 hFc179 j179_2 j179_5 mm179; exact m_no mm179 j179_5 rfl
    | succ k179 ih179 =>
      intro sc179 y179_2 y179_3 y179_5 hIc179 hFc179 j179_2 j179_5 mm179
      refine gg_w (M := 1 + k179 * 900 + 900) gws ?_
      refine g_iload 181 (gd rfl) rfl rfl ?_
      refine g_iload_n 182 (gd rfl) rfl rfl ?_
      refine g_cmp_ge 185 211 (gd rfl) rfl rfl (fun c182 => ?_) (fun c182 => ?_)
      · skip
        refine g_lload_n 212 (gd rfl) rfl rfl ?_
        refine g_l2i 213 (gd rfl) rfl (fun z212 e212 => ?_)
        exact g_ireturn (gd rfl) rfl rfl (hP _ _ ⟨sc179, hIc179, hFc179, z212, rfl, rfl, in_w (-2147483648) 2147483647 (i_rng z212) rfl⟩)
      · skip
        have i182 := r_lt1 0 30 c182 j179_5 j179_2 rfl
        have i182a := r_lt2 1 31 c182 j179_5 j179_2 rfl
        refine g_lload_n 186 (gd rfl) rfl rfl ?_
        refine g_lconst 0 187 (gd rfl) rfl rfl ?_
        refine g_lcmp 188 (gd rfl) rfl (fun z187 e187 => ?_)
        have i187 := lc_in e187
        refine g_if_eq 191 211 (gd rfl) rfl rfl (fun c188 => ?_) (fun c188 => ?_)
        · skip
          have i188 := z_eq 0 0 c188 i187 rfl
          have c188a := lc_eq e187 c188
          have i188a := lr_eq1 0 0 c188a (l_rng y179_3) (l_c 0 rfl) rfl
          refine g_lload_n 212 (gd rfl) rfl rfl ?_
          refine g_l2i 213 (gd rfl) rfl (fun z212 e212 => ?_)
          exact g_ireturn (gd rfl) rfl rfl (hP _ _ ⟨sc179, hIc179, hFc179, z212, rfl, rfl, in_w (-2147483648) 2147483647 (i_rng z212) rfl⟩)
        · skip
          have c188a := lc_ne e187 c188
          refine g_lload_n 192 (gd rfl) rfl rfl ?_
          refine g_aload_n 193 (gd rfl) rfl rfl ?_
          refine g_iload 195 (gd rfl) rfl rfl ?_
          refine g_iload_n 196 (gd rfl) rfl rfl ?_
          refine g_callv (X := _) (As := [.int y179_5, .int y179_2]) (r := [.long y179_3]) (b := A 76) (q := 76) 199 (gd rfl) rfl rfl rfl rfl rfl (ww_o rfl) (Nat.le_of_ble_eq_true rfl) (Nat.zero_le _) (Nat.zero_le _) (k_190_76 (by first | exact dq1 hd rfl | exact dq0 hd rfl | exact dq2 hd rfl | exact dq3 hd rfl | omega) hIc179 (in_w 0 30 i182 rfl) (in_w 1 31 i182a rfl)) (fun e u h => h) (fun v u h => ?_)
          obtain ⟨s196, hI196, hF196, z196, rfl, rfl⟩ := h
          show GG _ _ _ _ _ _ _ _ [.long z196, .long y179_3] _ _ _
          refine g_lmul 200 (gd rfl) rfl (fun z199 e199 => ?_)
          refine g_ldc2_w 1000000007 203 (gd rfl) rfl rfl ?_
          refine g_lrem 204 (gd rfl) rfl (by decide) (fun z203 e203 => ?_)
          have i203 := l_rem (-1000000006) 1000000006 e203 rfl
          refine g_lstore_n 205 (gd rfl) rfl (Nat.le_of_ble_eq_true rfl) ?_
          refine g_iinc 208 (gd rfl) rfl rfl (Nat.le_of_ble_eq_true rfl) (fun z205 e205 => ?_)
          have i205 := in_add 1 31 e205 i182 (in_c 1 rfl) rfl rfl
          refine g_goto 179 (gd rfl) rfl ?_
          exact gg_w (by first | exact Nat.le_add_right _ _ | exact gw2 | exact gw3 | exact gwe rfl | exact gwf rfl | exact gwg rfl | exact gwh rfl | omega) (gg_f (gf_cons rfl (gf_cons rfl (gf_cons rfl (gf_cons rfl (gf_cons rfl gf_nil))))) (ih179 s196 y179_2 z203 z205 hI196 (fr_tr rfl hFc179 hF196) (in_w (-1) 31 i182a rfl) (in_w 0 31 i205 rfl) (m_up mm179 (t_add e205 i182 (in_c 1 rfl) rfl) (in_w 1 1 (in_c 1 rfl) rfl))))
  have ct134 : ∀ (k134 : Nat) (sc134 : GS) (y134_2 : Int32), Inv sc134 → Fr fm_189_76_32 s sc134 → (In y134_2 0 2001) → 2001 - (y134_2).toInt < (k134 : Int) → GG Z (d - 1) 189 post (gx xp) (28802 + k134 * 900) 134 (fun j => xlook j [(0, .ref (A 76)), (1, .ref (A 32)), (2, .int y134_2)]) [] (WW Z A sc134 ++ ex) 0 0 := by
    intro k134
    induction k134 with
    | zero => intro sc134 y134_2 hIc134 hFc134 j134_2 mm134; exact m_no mm134 j134_2 rfl
    | succ k134 ih134 =>
      intro sc134 y134_2 hIc134 hFc134 j134_2 mm134
      refine gg_w (M := 28802 + k134 * 900 + 900) gws ?_
      refine g_iload_n 135 (gd rfl) rfl rfl ?_
      refine g_aload_n 136 (gd rfl) rfl rfl ?_
      refine g_getA (q2 := 85) 139 (gd rfl) rfl rfl rfl rfl ?_
      refine g_alen (n := 1024) (t := 1) 1024 140 (gd rfl) rfl rfl (Nat.le_of_ble_eq_true rfl) rfl ?_
      refine g_cmp_ge 143 167 (gd rfl) rfl rfl (fun c140 => ?_) (fun c140 => ?_)
      · skip
        have i140 := r_le2 1024 2001 c140 (in_c 1024 rfl) j134_2 rfl
        refine g_aload_n 168 (gd rfl) rfl rfl ?_
        refine g_getI 171 (gd rfl) rfl rfl rfl (fun z168 e168 => ?_)
        have q168 : u_32_1 = z168 := (fr_F e_32_1 hFc134 rfl).trans e168.symm
        subst q168
        refine g_iconst 1 172 (gd rfl) rfl rfl ?_
        refine g_isub 173 (gd rfl) rfl (fun z172 e172 => ?_)
        have i172 := in_sub (-1) 31 e172 ro_32_1 (in_c 1 rfl) rfl rfl
        refine g_istore_n 174 (gd rfl) rfl (Nat.le_of_ble_eq_true rfl) ?_
        refine g_lconst 1 175 (gd rfl) rfl rfl ?_
        refine g_lstore_n 176 (gd rfl) rfl (Nat.le_of_ble_eq_true rfl) ?_
        refine g_iconst 0 177 (gd rfl) rfl rfl ?_
        refine g_istore 179 (gd rfl) rfl (Nat.le_of_ble_eq_true rfl) ?_
        exact gg_w (by first | exact Nat.le_add_right _ _ | exact gw2 | exact gw3 | exact gwe rfl | exact gwf rfl | exact gwg rfl | exact gwh rfl | omega) (gg_f (gf_cons rfl (gf_cons rfl (gf_cons rfl (gf_cons rfl (gf_cons rfl gf_nil))))) (ct179 32 sc134 z172 (Int64.ofInt 1) (Int32.ofInt 0) hIc134 hFc134 (in_w (-1) 31 i172 rfl) (in_w 0 31 (in_c 0 rfl) rfl) (m_in 32 (in_w 0 31 (in_c 0 rfl) rfl) rfl)))
      · skip
        have i140 := r_lt1 0 1023 c140 j134_2 (in_c 1024 rfl) rfl
        refine g_aload_n 144 (gd rfl) rfl rfl ?_
        refine g_getA (q2 := 85) 147 (gd rfl) rfl rfl rfl rfl ?_
        refine g_iload_n 148 (gd rfl) rfl rfl ?_
        refine g_aload_n 149 (gd rfl) rfl rfl ?_
        refine g_getA (q2 := 85) 152 (gd rfl) rfl rfl rfl rfl ?_
        refine g_iload_n 153 (gd rfl) rfl rfl ?_
        refine g_laload 154 (gd rfl) rfl (n := 1024) rfl (in_ix i140 rfl) (fun z153 e153 => ?_)
        refine g_ldc2_w 1000000007 157 (gd rfl) rfl rfl ?_
        refine g_calls (As := [.long z153, .long (Int64.ofInt 1000000007)]) (r := [.int y134_2, .ref (A 85)]) 160 (gd rfl) rfl rfl rfl rfl rfl (Nat.le_of_ble_eq_true rfl) (mc := 0) (ms := 0) (Nat.zero_le _) (Nat.zero_le _) (P := fun v u => _) ?_ (fun v u h => h)
        intro po157 xx157 hp157 hx157
        refine g_enter2 (k := 419) (N := 300) (by first | exact dq1 hd rfl | exact dq0 hd rfl | exact dq2 hd rfl | exact dq3 hd rfl | omega) rfl (Nat.le_of_ble_eq_true rfl) ?_
        refine g_lload_n 1 (gd rfl) rfl rfl ?_
        refine g_lload_n 2 (gd rfl) rfl rfl ?_
        refine g_lrem 3 (gd rfl) rfl (by decide) (fun z157x2 e157x2 => ?_)
        have i157x2 := l_rem (-1000000006) 1000000006 e157x2 rfl
        refine g_lstore 5 (gd rfl) rfl (Nat.le_of_ble_eq_true rfl) ?_
        refine g_lload_n 6 (gd rfl) rfl rfl ?_
        refine g_lload_n 7 (gd rfl) rfl rfl ?_
        refine g_lxor 8 (gd rfl) rfl (fun z157x7 e157x7 => ?_)
        refine g_lconst 0 9 (gd rfl) rfl rfl ?_
        refine g_lcmp 10 (gd rfl) rfl (fun z157x9 e157x9 => ?_)
        have i157x9 := lc_in e157x9
        refine g_if_ge 13 25 (gd rfl) rfl rfl (fun c157x10 => ?_) (fun c157x10 => ?_)
        · skip
          have i157x10 := z_ge 0 1 c157x10 i157x9 rfl
          have c157x10a := lc_ge e157x9 c157x10
          have i157x10a := lr_le2 0 9223372036854775807 c157x10a (l_c 0 rfl) (l_rng z157x7) rfl
          refine g_lload 27 (gd rfl) rfl rfl ?_
          refine g_lreturn (gd rfl) rfl (hp157 _ _ ?_)
          show GG _ _ _ _ _ _ _ _ [.long z157x2, .int y134_2, .ref (A 85)] _ _ _
          refine g_lastore 161 (gd rfl) rfl (n := 1024) rfl (in_ix i140 rfl) ?_
          have hI160 := inv_sL (q := 85) (j := y134_2.toNatClampNeg) (x := z157x2) hIc134 rfl (l_rng z157x2)
          refine g_iinc 164 (gd rfl) rfl rfl (Nat.le_of_ble_eq_true rfl) (fun z161 e161 => ?_)
          have i161 := in_add 1 1024 e161 i140 (in_c 1 rfl) rfl rfl
          refine g_goto 134 (gd rfl) rfl ?_
          exact gg_w (by first | exact Nat.le_add_right _ _ | exact gw2 | exact gw3 | exact gwe rfl | exact gwf rfl | exact gwg rfl | exact gwh rfl | omega) (gg_f (gf_cons rfl (gf_cons rfl (gf_cons rfl gf_nil))) (ih134 (sL sc134 85 y134_2.toNatClampNeg z157x2) z161 hI160 (fr_sL rfl hFc134) (in_w 0 2001 i161 rfl) (m_up mm134 (t_add e161 i140 (in_c 1 rfl) rfl) (in_w 1 1 (in_c 1 rfl) rfl))))
        · skip
          have i157x10 := z_lt (-1) (-1) c157x10 i157x9 rfl
          have c157x10a := lc_lt e157x9 c157x10
          have i157x10a := lr_lt1 (-9223372036854775808) (-1) c157x10a (l_rng z157x7) (l_c 0 rfl) rfl
          refine g_lload 15 (gd rfl) rfl rfl ?_
          refine g_lconst 0 16 (gd rfl) rfl rfl ?_
          refine g_lcmp 17 (gd rfl) rfl (fun z157x16 e157x16 => ?_)
          have i157x16 := lc_in e157x16
          refine g_if_eq 20 25 (gd rfl) rfl rfl (fun c157x17 => ?_) (fun c157x17 => ?_)
          · skip
            have i157x17 := z_eq 0 0 c157x17 i157x16 rfl
            have c157x17a := lc_eq e157x16 c157x17
            have i157x17a := lr_eq1 0 0 c157x17a i157x2 (l_c 0 rfl) rfl
            refine g_lload 27 (gd rfl) rfl rfl ?_
            refine g_lreturn (gd rfl) rfl (hp157 _ _ ?_)
            show GG _ _ _ _ _ _ _ _ [.long z157x2, .int y134_2, .ref (A 85)] _ _ _
            refine g_lastore 161 (gd rfl) rfl (n := 1024) rfl (in_ix i140 rfl) ?_
            have hI160 := inv_sL (q := 85) (j := y134_2.toNatClampNeg) (x := z157x2) hIc134 rfl (l_rng z157x2)
            refine g_iinc 164 (gd rfl) rfl rfl (Nat.le_of_ble_eq_true rfl) (fun z161 e161 => ?_)
            have i161 := in_add 1 1024 e161 i140 (in_c 1 rfl) rfl rfl
            refine g_goto 134 (gd rfl) rfl ?_
            exact gg_w (by first | exact Nat.le_add_right _ _ | exact gw2 | exact gw3 | exact gwe rfl | exact gwf rfl | exact gwg rfl | exact gwh rfl | omega) (gg_f (gf_cons rfl (gf_cons rfl (gf_cons rfl gf_nil))) (ih134 (sL sc134 85 y134_2.toNatClampNeg z157x2) z161 hI160 (fr_sL rfl hFc134) (in_w 0 2001 i161 rfl) (m_up mm134 (t_add e161 i140 (in_c 1 rfl) rfl) (in_w 1 1 (in_c 1 rfl) rfl))))
          · skip
            have c157x17a := lc_ne e157x16 c157x17
            refine g_lload 22 (gd rfl) rfl rfl ?_
            refine g_lload_n 23 (gd rfl) rfl rfl ?_
            refine g_ladd 24 (gd rfl) rfl (fun z157x23 e157x23 => ?_)
            have i157x23 := l_add 1 2000000013 e157x23 i157x2 (l_c 1000000007 rfl) rfl
            refine g_lreturn (gd rfl) rfl (hp157 _ _ ?_)
            show GG _ _ _ _ _ _ _ _ [.long z157x23, .int y134_2, .ref (A 85)] _ _ _
            refine g_lastore 161 (gd rfl) rfl (n := 1024) rfl (in_ix i140 rfl) ?_
            have hI160 := inv_sL (q := 85) (j := y134_2.toNatClampNeg) (x := z157x23) hIc134 rfl (l_rng z157x23)
            refine g_iinc 164 (gd rfl) rfl rfl (Nat.le_of_ble_eq_true rfl) (fun z161 e161 => ?_)
            have i161 := in_add 1 1024 e161 i140 (in_c 1 rfl) rfl rfl
            refine g_goto 134 (gd rfl) rfl ?_
            exact gg_w (by first | exact Nat.le_add_right _ _ | exact gw2 | exact gw3 | exact gwe rfl | exact gwf rfl | exact gwg rfl | exact gwh rfl | omega) (gg_f (gf_cons rfl (gf_cons rfl (gf_cons rfl gf_nil))) (ih134 (sL sc134 85 y134_2.toNatClampNeg z157x23) z161 hI160 (fr_sL rfl hFc134) (in_w 0 2001 i161 rfl) (m_up mm134 (t_add e161 i140 (in_c 1 rfl) rfl) (in_w 1 1 (in_c 1 rfl) rfl))))
  have ct10 : ∀ (k10 : Nat) (sc10 : GS) (y10_2 : Int32), Inv sc10 → Fr fm_189_76_32 s sc10 → (In y10_2 0 160) → 160 - (y10_2).toInt < (k10 : Int) → GG Z (d - 1) 189 post (gx xp) (1830603 + k10 * 900) 10 (fun j => xlook j [(0, .ref (A 76)), (1, .ref (A 32)), (2, .int y10_2)]) [] (WW Z A sc10 ++ ex) 0 0 := by
    intro k10
    induction k10 with
    | zero => intro sc10 y10_2 hIc10 hFc10 j10_2 mm10; exact m_no mm10 j10_2 rfl
    | succ k10 ih10 =>
      intro sc10 y10_2 hIc10 hFc10 j10_2 mm10
      refine gg_w (M := 1830603 + k10 * 900 + 900) gws ?_
      refine g_iload_n 11 (gd rfl) rfl rfl ?_
      refine g_aload_n 12 (gd rfl) rfl rfl ?_
      refine g_getI 15 (gd rfl) rfl rfl rfl (fun z12 e12 => ?_)
      have q12 : u_32_3 = z12 := (fr_F e_32_3 hFc10 rfl).trans e12.symm
      subst q12
      refine g_cmp_ge 18 132 (gd rfl) rfl rfl (fun c15 => ?_) (fun c15 => ?_)
      · skip
        refine g_iconst 0 133 (gd rfl) rfl rfl ?_
        refine g_istore_n 134 (gd rfl) rfl (Nat.le_of_ble_eq_true rfl) ?_
        exact gg_w (by first | exact Nat.le_add_right _ _ | exact gw2 | exact gw3 | exact gwe rfl | exact gwf rfl | exact gwg rfl | exact gwh rfl | omega) (gg_f (gf_cons rfl (gf_cons rfl (gf_cons rfl gf_nil))) (ct134 2002 sc10 (Int32.ofInt 0) hIc10 hFc10 (in_w 0 2001 (in_c 0 rfl) rfl) (m_in 2002 (in_w 0 2001 (in_c 0 rfl) rfl) rfl)))
      · skip
        have i15 := r_lt1 0 159 c15 j10_2 ro_32_3 rfl
        have i15a := r_lt2 1 160 c15 j10_2 ro_32_3 rfl
        refine g_aload_n 19 (gd rfl) rfl rfl ?_
        refine g_iload_n 20 (gd rfl) rfl rfl ?_
        refine g_callv (X := _) (As := [.int y10_2]) (r := []) (b := A 32) (q := 32) 23 (gd rfl) rfl rfl rfl rfl rfl (ww_o rfl) (Nat.le_of_ble_eq_true rfl) (mc := 0) (ms := 0) (Nat.zero_le _) (Nat.zero_le _) (P := fun v u => _) ?_ (fun e u h => h) (fun v u h => h)
        intro po20 xx20 hp20 hx20
        refine g_enter2 (k := 97) (N := 300) (by first | exact dq1 hd rfl | exact dq0 hd rfl | exact dq2 hd rfl | exact dq3 hd rfl | omega) rfl (Nat.le_of_ble_eq_true rfl) ?_
        refine g_aload_n 1 (gd rfl) rfl rfl ?_
        refine g_getA (q2 := 34) 4 (gd rfl) rfl rfl rfl rfl ?_
        refine g_iload_n 5 (gd rfl) rfl rfl ?_
        refine g_iaload 6 (gd rfl) rfl (n := 160) rfl (in_ix i15 rfl) (fun z20x5 e20x5 => ?_)
        have i20x5 := inv_I hIc10 (n := 160) (t := 0) (-1) 31 rfl (in_ix i15 rfl) rfl e20x5
        refine g_iconst (-1) 7 (gd rfl) rfl rfl ?_
        refine g_cmp_eq 10 29 (gd rfl) rfl rfl (fun c20x7 => ?_) (fun c20x7 => ?_)
        · skip
          have i20x7 := r_eq1 (-1) (-1) c20x7 i20x5 (in_c (-1) rfl) rfl
          refine g_iconst 0 30 (gd rfl) rfl rfl ?_
          refine g_ireturn (gd rfl) rfl (nb01 (in_w 0 1 (in_c 0 rfl) rfl)) (hp20 _ _ ?_)
          show GG _ _ _ _ _ _ _ _ [.int (Int32.ofInt 0)] _ _ _
          refine g_if_eq 26 126 (gd rfl) rfl rfl (fun c23 => ?_) (fun c23 => ?_)
          · skip
            refine g_iinc 129 (gd rfl) rfl rfl (Nat.le_of_ble_eq_true rfl) (fun z126 e126 => ?_)
            have i126 := in_add 1 160 e126 i15 (in_c 1 rfl) rfl rfl
            refine g_goto 10 (gd rfl) rfl ?_
            exact gg_w (by first | exact Nat.le_add_right _ _ | exact gw2 | exact gw3 | exact gwe rfl | exact gwf rfl | exact gwg rfl | exact gwh rfl | omega) (gg_f (gf_cons rfl (gf_cons rfl (gf_cons rfl gf_nil))) (ih10 sc10 z126 hIc10 hFc10 (in_w 0 160 i126 rfl) (m_up mm10 (t_add e126 i15 (in_c 1 rfl) rfl) (in_w 1 1 (in_c 1 rfl) rfl))))
          · skip
            exact zn_ne c23 (in_c 0 rfl) rfl
        · skip
          have i20x7 := r_ne1 0 31 c20x7 i20x5 (in_c (-1) rfl) rfl
          refine g_aload_n 11 (gd rfl) rfl rfl ?_
          refine g_getA (q2 := 34) 14 (gd rfl) rfl rfl rfl rfl ?_
          refine g_iload_n 15 (gd rfl) rfl rfl ?_
          refine g_iaload 16 (gd rfl) rfl (n := 160) rfl (in_ix i15 rfl) (fun z20x15 e20x15 => ?_)
          have q20x15 : z20x5 = z20x15 := (e20x5).trans e20x15.symm
          subst q20x15
          refine g_aload_n 17 (gd rfl) rfl rfl ?_
          refine g_getA (q2 := 35) 20 (gd rfl) rfl rfl rfl rfl ?_
          refine g_iload_n 21 (gd rfl) rfl rfl ?_
          refine g_iaload 22 (gd rfl) rfl (n := 160) rfl (in_ix i15 rfl) (fun z20x21 e20x21 => ?_)
          have i20x21 := inv_I hIc10 (n := 160) (t := 0) 0 31 rfl (in_ix i15 rfl) rfl e20x21
          refine g_cmp_eq 25 29 (gd rfl) rfl rfl (fun c20x22 => ?_) (fun c20x22 => ?_)
          · skip
            refine g_iconst 0 30 (gd rfl) rfl rfl ?_
            refine g_ireturn (gd rfl) rfl (nb01 (in_w 0 1 (in_c 0 rfl) rfl)) (hp20 _ _ ?_)
            show GG _ _ _ _ _ _ _ _ [.int (Int32.ofInt 0)] _ _ _
            refine g_if_eq 26 126 (gd rfl) rfl rfl (fun c23 => ?_) (fun c23 => ?_)
            · skip
              refine g_iinc 129 (gd rfl) rfl rfl (Nat.le_of_ble_eq_true rfl) (fun z126 e126 => ?_)
              have i126 := in_add 1 160 e126 i15 (in_c 1 rfl) rfl rfl
              refine g_goto 10 (gd rfl) rfl ?_
              exact gg_w (by first | exact Nat.le_add_right _ _ | exact gw2 | exact gw3 | exact gwe rfl | exact gwf rfl | exact gwg rfl | exact gwh rfl | omega) (gg_f (gf_cons rfl (gf_cons rfl (gf_cons rfl gf_nil))) (ih10 sc10 z126 hIc10 hFc10 (in_w 0 160 i126 rfl) (m_up mm10 (t_add e126 i15 (in_c 1 rfl) rfl) (in_w 1 1 (in_c 1 rfl) rfl))))
            · skip
              exact zn_ne c23 (in_c 0 rfl) rfl
          · skip
            refine g_iconst 1 26 (gd rfl) rfl rfl ?_
            refine g_goto 30 (gd rfl) rfl ?_
            refine g_ireturn (gd rfl) rfl (nb01 (in_w 0 1 (in_c 1 rfl) rfl)) (hp20 _ _ ?_)
            show GG _ _ _ _ _ _ _ _ [.int (Int32.ofInt 1)] _ _ _
            refine g_if_eq 26 126 (gd rfl) rfl rfl (fun c23 => ?_) (fun c23 => ?_)
            · skip
              exact zn_eq c23 (in_c 1 rfl) rfl
            · skip
              refine g_aload_n 27 (gd rfl) rfl rfl ?_
              refine g_getA (q2 := 85) 30 (gd rfl) rfl rfl rfl rfl ?_
              refine g_aload_n 31 (gd rfl) rfl rfl ?_
              refine g_getA (q2 := 34) 34 (gd rfl) rfl rfl rfl rfl ?_
              refine g_iload_n 35 (gd rfl) rfl rfl ?_
              refine g_iaload 36 (gd rfl) rfl (n := 160) rfl (in_ix i15 rfl) (fun z35 e35 => ?_)
              have q35 : z20x5 = z35 := (e20x5).trans e35.symm
              subst q35
              refine g_bipush 32 38 (gd rfl) rfl rfl ?_
              refine g_imul 39 (gd rfl) rfl (fun z38 e38 => ?_)
              have i38 := in_mulc 32 0 992 (Or.inr e38) i20x7 rfl rfl
              refine g_aload_n 40 (gd rfl) rfl rfl ?_
              refine g_getA (q2 := 34) 43 (gd rfl) rfl rfl rfl rfl ?_
              refine g_iload_n 44 (gd rfl) rfl rfl ?_
              refine g_iaload 45 (gd rfl) rfl (n := 160) rfl (in_ix i15 rfl) (fun z44 e44 => ?_)
              have q44 : z20x5 = z44 := (e20x5).trans e44.symm
              subst q44
              refine g_iadd 46 (gd rfl) rfl (fun z45 e45 => ?_)
              have i45 := in_add 0 1023 e45 i38 i20x7 rfl rfl
              refine g_dup2 47 (gd rfl) rfl rfl rfl ?_
              refine g_laload 48 (gd rfl) rfl (n := 1024) rfl (in_ix i45 rfl) (fun z47 e47 => ?_)
              refine g_lconst 1 49 (gd rfl) rfl rfl ?_
              refine g_ladd 50 (gd rfl) rfl (fun z49 e49 => ?_)
              refine g_lastore 51 (gd rfl) rfl (n := 1024) rfl (in_ix i45 rfl) ?_
              have hI50 := inv_sL (q := 85) (j := z45.toNatClampNeg) (x := z49) hIc10 rfl (l_rng z49)
              refine g_aload_n 52 (gd rfl) rfl rfl ?_
              refine g_getA (q2 := 85) 55 (gd rfl) rfl rfl rfl rfl ?_
              refine g_aload_n 56 (gd rfl) rfl rfl ?_
              refine g_getA (q2 := 35) 59 (gd rfl) rfl rfl rfl rfl ?_
              refine g_iload_n 60 (gd rfl) rfl rfl ?_
              refine g_iaload 61 (gd rfl) rfl (n := 160) rfl (in_ix i15 rfl) (fun z60 e60 => ?_)
              have q60 : z20x21 = z60 := (sL_I (e20x21)).trans e60.symm
              subst q60
              refine g_bipush 32 63 (gd rfl) rfl rfl ?_
              refine g_imul 64 (gd rfl) rfl (fun z63 e63 => ?_)
              have i63 := in_mulc 32 0 992 (Or.inr e63) i20x21 rfl rfl
              refine g_aload_n 65 (gd rfl) rfl rfl ?_
              refine g_getA (q2 := 35) 68 (gd rfl) rfl rfl rfl rfl ?_
              refine g_iload_n 69 (gd rfl) rfl rfl ?_
              refine g_iaload 70 (gd rfl) rfl (n := 160) rfl (in_ix i15 rfl) (fun z69 e69 => ?_)
              have q69 : z20x21 = z69 := (sL_I (e20x21)).trans e69.symm
              subst q69
              refine g_iadd 71 (gd rfl) rfl (fun z70 e70 => ?_)
              have i70 := in_add 0 1023 e70 i63 i20x21 rfl rfl
              refine g_dup2 72 (gd rfl) rfl rfl rfl ?_
              refine g_laload 73 (gd rfl) rfl (n := 1024) rfl (in_ix i70 rfl) (fun z72 e72 => ?_)
              refine g_lconst 1 74 (gd rfl) rfl rfl ?_
              refine g_ladd 75 (gd rfl) rfl (fun z74 e74 => ?_)
              refine g_lastore 76 (gd rfl) rfl (n := 1024) rfl (in_ix i70 rfl) ?_
              have hI75 := inv_sL (q := 85) (j := z70.toNatClampNeg) (x := z74) hI50 rfl (l_rng z74)
              refine g_aload_n 77 (gd rfl) rfl rfl ?_
              refine g_getA (q2 := 85) 80 (gd rfl) rfl rfl rfl rfl ?_
              refine g_aload_n 81 (gd rfl) rfl rfl ?_
              refine g_getA (q2 := 34) 84 (gd rfl) rfl rfl rfl rfl ?_
              refine g_iload_n 85 (gd rfl) rfl rfl ?_
              refine g_iaload 86 (gd rfl) rfl (n := 160) rfl (in_ix i15 rfl) (fun z85 e85 => ?_)
              have q85 : z20x5 = z85 := (sL_I (sL_I (e20x5))).trans e85.symm
              subst q85
              refine g_bipush 32 88 (gd rfl) rfl rfl ?_
              refine g_imul 89 (gd rfl) rfl (fun z88 e88 => ?_)
              have i88 := in_mulc 32 0 992 (Or.inr e88) i20x7 rfl rfl
              refine g_aload_n 90 (gd rfl) rfl rfl ?_
              refine g_getA (q2 := 35) 93 (gd rfl) rfl rfl rfl rfl ?_
              refine g_iload_n 94 (gd rfl) rfl rfl ?_
              refine g_iaload 95 (gd rfl) rfl (n := 160) rfl (in_ix i15 rfl) (fun z94 e94 => ?_)
              have q94 : z20x21 = z94 := (sL_I (sL_I (e20x21))).trans e94.symm
              subst q94
              refine g_iadd 96 (gd rfl) rfl (fun z95 e95 => ?_)
              have i95 := in_add 0 1023 e95 i88 i20x21 rfl rfl
              refine g_dup2 97 (gd rfl) rfl rfl rfl ?_
              refine g_laload 98 (gd rfl) rfl (n := 1024) rfl (in_ix i95 rfl) (fun z97 e97 => ?_)
              refine g_lconst 1 99 (gd rfl) rfl rfl ?_
              refine g_lsub 100 (gd rfl) rfl (fun z99 e99 => ?_)
              refine g_lastore 101 (gd rfl) rfl (n := 1024) rfl (in_ix i95 rfl) ?_
              have hI100 := inv_sL (q := 85) (j := z95.toNatClampNeg) (x := z99) hI75 rfl (l_rng z99)
              refine g_aload_n 102 (gd rfl) rfl rfl ?_
              refine g_getA (q2 := 85) 105 (gd rfl) rfl rfl rfl rfl ?_
              refine g_aload_n 106 (gd rfl) rfl rfl ?_
              refine g_getA (q2 := 35) 109 (gd rfl) rfl rfl rfl rfl ?_
              refine g_iload_n 110 (gd rfl) rfl rfl ?_
              refine g_iaload 111 (gd rfl) rfl (n := 160) rfl (in_ix i15 rfl) (fun z110 e110 => ?_)
              have q110 : z20x21 = z110 := (sL_I (sL_I (sL_I (e20x21)))).trans e110.symm
              subst q110
              refine g_bipush 32 113 (gd rfl) rfl rfl ?_
              refine g_imul 114 (gd rfl) rfl (fun z113 e113 => ?_)
              have i113 := in_mulc 32 0 992 (Or.inr e113) i20x21 rfl rfl
              refine g_aload_n 115 (gd rfl) rfl rfl ?_
              refine g_getA (q2 := 34) 118 (gd rfl) rfl rfl rfl rfl ?_
              refine g_iload_n 119 (gd rfl) rfl rfl ?_
              refine g_iaload 120 (gd rfl) rfl (n := 160) rfl (in_ix i15 rfl) (fun z119 e119 => ?_)
              have q119 : z20x5 = z119 := (sL_I (sL_I (sL_I (e20x5)))).trans e119.symm
              subst q119
              refine g_iadd 121 (gd rfl) rfl (fun z120 e120 => ?_)
              have i120 := in_add 0 1023 e120 i113 i20x7 rfl rfl
              refine g_dup2 122 (gd rfl) rfl rfl rfl ?_
              refine g_laload 123 (gd rfl) rfl (n := 1024) rfl (in_ix i120 rfl) (fun z122 e122 => ?_)
              refine g_lconst 1 124 (gd rfl) rfl rfl ?_
              refine g_lsub 125 (gd rfl) rfl (fun z124 e124 => ?_)
              refine g_lastore 126 (gd rfl) rfl (n := 1024) rfl (in_ix i120 rfl) ?_
              have hI125 := inv_sL (q := 85) (j := z120.toNatClampNeg) (x := z124) hI100 rfl (l_rng z124)
              refine g_iinc 129 (gd rfl) rfl rfl (Nat.le_of_ble_eq_true rfl) (fun z126 e126 => ?_)
              have i126 := in_add 1 160 e126 i15 (in_c 1 rfl) rfl rfl
              refine g_goto 10 (gd rfl) rfl ?_
              exact gg_w (by first | exact Nat.le_add_right _ _ | exact gw2 | exact gw3 | exact gwe rfl | exact gwf rfl | exact gwg rfl | exact gwh rfl | omega) (gg_f (gf_cons rfl (gf_cons rfl (gf_cons rfl gf_nil))) (ih10 (sL (sL (sL (sL sc10 85 z45.toNatClampNeg z49) 85 z70.toNatClampNeg z74) 85 z95.toNatClampNeg z99) 85 z120.toNatClampNeg z124) z126 hI125 (fr_sL rfl (fr_sL rfl (fr_sL rfl (fr_sL rfl hFc10)))) (in_w 0 160 i126 rfl) (m_up mm10 (t_add e126 i15 (in_c 1 rfl) rfl) (in_w 1 1 (in_c 1 rfl) rfl))))
  refine g_enter2 (k := 189) (N := 1976403) (by first | exact dq1 hd rfl | exact dq0 hd rfl | exact dq2 hd rfl | exact dq3 hd rfl | omega) rfl (Nat.le_of_ble_eq_true rfl) ?_
  refine g_aload_n 1 (gd rfl) rfl rfl ?_
  refine g_getA (q2 := 85) 4 (gd rfl) rfl rfl rfl rfl ?_
  refine g_lconst 0 5 (gd rfl) rfl rfl ?_
  refine g_calls (As := [.ref (A 85), .long (Int64.ofInt 0)]) (r := []) 8 (gd rfl) rfl rfl rfl rfl rfl (Nat.le_of_ble_eq_true rfl) (Nat.zero_le _) (Nat.zero_le _) (k_fillL 85 (by first | exact dq1 hd rfl | exact dq0 hd rfl | exact dq2 hd rfl | exact dq3 hd rfl | omega) hI (n := 1024) rfl rfl rfl (l_rng (Int64.ofInt 0))) (fun v u h => ?_)
  obtain ⟨s5, hI5, hF5, rfl, rfl, fl5⟩ := h
  show GG _ _ _ _ _ _ _ _ [] _ _ _
  refine g_iconst 0 9 (gd rfl) rfl rfl ?_
  refine g_istore_n 10 (gd rfl) rfl (Nat.le_of_ble_eq_true rfl) ?_
  exact gg_w (by first | exact Nat.le_of_ble_eq_true rfl | omega) (gg_f (gf_cons rfl (gf_cons rfl (gf_cons rfl gf_nil))) (ct10 161 s5 (Int32.ofInt 0) hI5 (fr_tr rfl fr_rf hF5) (in_w 0 160 (in_c 0 rfl) rfl) (m_in 161 (in_w 0 160 (in_c 0 rfl) rfl) rfl)))

def fm_195_49_2 : FM := ([9, 10, 11, 12, 13, 14, 15], [50], [(2, 4), (49, 0), (49, 1), (49, 2)], [])
/-- GraphHouse$Ways.leastArc -/
theorem k_195_49_2 {Z : AmZ} {A : Nat → Nat} {s : GS} {ex : va_W} {d : Nat} {X : AmX} {x2 : Int32} {x3 : Int32} {x4 : Int32} (hd : 6 ≤ d) (hI : Inv s) (h2 : In x2 0 31) (h3 : In x3 0 31) (h4 : In x4 0 2147483647) : GC Z d 195 [.ref (A 49), .ref (A 2), .int x2, .int x3, .int x4] (WW Z A s ++ ex) 0 0 (fun v u => ∃ t : GS, Inv t ∧ Fr fm_195_49_2 s t ∧ ∃ z : Int32, v = some (.int z) ∧ u = WW Z A t ++ ex ∧ In z (-1) 159) X := by
  intro post xp hP hX
  have ct60 : ∀ (k60 : Nat) (sc60 : GS) (y60_5 : Int32) (y60_6 : Int32) (y60_7 : Int32), Inv sc60 → Fr fm_195_49_2 s sc60 → (In x4 0 2046) → (In y60_5 (-1) 159) → (In y60_6 0 31) → (In y60_7 0 4000) → 4000 - (y60_7).toInt < (k60 : Int) → GG Z (d - 1) 195 post (gx xp) (1 + k60 * 900) 60 (fun j => xlook j [(0, .ref (A 49)), (1, .ref (A 2)), (2, .int x2), (3, .int x3), (4, .int x4), (5, .int y60_5), (6, .int y60_6), (7, .int y60_7)]) [] (WW Z A sc60 ++ ex) 0 0 := by
    intro k60
    induction k60 with
    | zero => intro sc60 y60_5 y60_6 y60_7 hIc60 hFc60 j60_4 j60_5 j60_6 j60_7 mm60; exact m_no mm60 j60_7 rfl
    | succ k60 ih60 =>
      intro sc60 y60_5 y60_6 y60_7 hIc60 hFc60 j60_4 j60_5 j60_6 j60_7 mm60
      refine gg_w (M := 1 + k60 * 900 + 900) gws ?_
      refine g_iload 62 (gd rfl) rfl rfl ?_
      refine g_iload 64 (gd rfl) rfl rfl ?_
      refine g_cmp_gt 67 99 (gd rfl) rfl rfl (fun c64 => ?_) (fun c64 => ?_)
      · skip
        have i64 := r_lt2 1 4000 c64 j60_4 j60_7 rfl
        refine g_iload 101 (gd rfl) rfl rfl ?_
        exact g_ireturn (gd rfl) rfl rfl (hP _ _ ⟨sc60, hIc60, hFc60, y60_5, rfl, rfl, in_w (-1) 159 j60_5 rfl⟩)
      · skip
        have i64 := r_le1 0 2046 c64 j60_7 j60_4 rfl
        refine g_aload_n 68 (gd rfl) rfl rfl ?_
        refine g_aload_n 69 (gd rfl) rfl rfl ?_
        refine g_iload 71 (gd rfl) rfl rfl ?_
        refine g_callv (X := _) (As := [.ref (A 2), .int y60_6]) (r := []) (b := A 49) (q := 49) 74 (gd rfl) rfl rfl rfl rfl rfl (ww_o rfl) (Nat.le_of_ble_eq_true rfl) (Nat.zero_le _) (Nat.zero_le _) (k_196_49_2 (by first | exact dq1 hd rfl | exact dq0 hd rfl | exact dq2 hd rfl | exact dq3 hd rfl | omega) hIc60 (in_w 0 31 j60_6 rfl)) (fun e u h => h) (fun v u h => ?_)
        obtain ⟨z71, rfl, rfl, i71⟩ := h
        show GG _ _ _ _ _ _ _ _ [.int z71] _ _ _
        refine g_istore 76 (gd rfl) rfl (Nat.le_of_ble_eq_true rfl) ?_
        refine g_iload 78 (gd rfl) rfl rfl ?_
        refine g_iconst (-1) 79 (gd rfl) rfl rfl ?_
        refine g_cmp_ne 82 84 (gd rfl) rfl rfl (fun c79 => ?_) (fun c79 => ?_)
        · skip
          have i79 := r_ne1 0 159 c79 i71 (in_c (-1) rfl) rfl
          refine g_aload_n 85 (gd rfl) rfl rfl ?_
          refine g_getA (q2 := 5) 88 (gd rfl) rfl rfl rfl rfl ?_
          refine g_iload 90 (gd rfl) rfl rfl ?_
          refine g_iaload 91 (gd rfl) rfl (n := 160) rfl (in_ix i79 rfl) (fun z90 e90 => ?_)
          have i90 := inv_I hIc60 (n := 160) (t := 0) 0 31 rfl (in_ix i79 rfl) rfl e90
          refine g_istore 93 (gd rfl) rfl (Nat.le_of_ble_eq_true rfl) ?_
          refine g_iinc 96 (gd rfl) rfl rfl (Nat.le_of_ble_eq_true rfl) (fun z93 e93 => ?_)
          have i93 := in_add 1 2047 e93 i64 (in_c 1 rfl) rfl rfl
          refine g_goto 60 (gd rfl) rfl ?_
          exact gg_w (by first | exact Nat.le_add_right _ _ | exact gw2 | exact gw3 | exact gwe rfl | exact gwf rfl | exact gwg rfl | exact gwh rfl | omega) (gg_f (gf_cons rfl (gf_cons rfl (gf_cons rfl (gf_cons rfl (gf_cons rfl (gf_cons rfl (gf_cons rfl (gf_cons rfl gf_nil)))))))) (ih60 sc60 z71 z90 z93 hIc60 hFc60 (in_w 0 2046 j60_4 rfl) (in_w (-1) 159 i79 rfl) (in_w 0 31 i90 rfl) (in_w 0 4000 i93 rfl) (m_up mm60 (t_add e93 i64 (in_c 1 rfl) rfl) (in_w 1 1 (in_c 1 rfl) rfl))))
        · skip
          have i79 := r_eq1 (-1) (-1) c79 i71 (in_c (-1) rfl) rfl
          refine g_iconst (-1) 83 (gd rfl) rfl rfl ?_
          exact g_ireturn (gd rfl) rfl rfl (hP _ _ ⟨sc60, hIc60, hFc60, (Int32.ofInt (-1)), rfl, rfl, in_w (-1) 159 (in_c (-1) rfl) rfl⟩)
  refine g_enter2 (k := 195) (N := 3601801) (by first | exact dq1 hd rfl | exact dq0 hd rfl | exact dq2 hd rfl | exact dq3 hd rfl | omega) rfl (Nat.le_of_ble_eq_true rfl) ?_
  refine g_aload_n 1 (gd rfl) rfl rfl ?_
  refine g_aload_n 2 (gd rfl) rfl rfl ?_
  refine g_iload_n 3 (gd rfl) rfl rfl ?_
  refine g_callv (X := _) (As := [.ref (A 2), .int x3]) (r := []) (b := A 49) (q := 49) 6 (gd rfl) rfl rfl rfl rfl rfl (ww_o rfl) (Nat.le_of_ble_eq_true rfl) (Nat.zero_le _) (Nat.zero_le _) (k_198_49_2 (by first | exact dq1 hd rfl | exact dq0 hd rfl | exact dq2 hd rfl | exact dq3 hd rfl | omega) hI (in_w 0 31 h3 rfl)) (fun e u h => h) (fun v u h => ?_)
  obtain ⟨s3, hI3, hF3, rfl, rfl⟩ := h
  show GG _ _ _ _ _ _ _ _ [] _ _ _
  refine g_aload_n 7 (gd rfl) rfl rfl ?_
  refine g_getI 10 (gd rfl) rfl rfl rfl (fun z7 e7 => ?_)
  refine g_iload_n 11 (gd rfl) rfl rfl ?_
  refine g_ishr 12 (gd rfl) rfl (fun z11 e11 => ?_)
  refine g_iconst 1 13 (gd rfl) rfl rfl ?_
  refine g_iand 14 (gd rfl) rfl (fun z13 e13 => ?_)
  have i13 := in_and2 e13 (in_c 1 rfl) rfl
  refine g_if_ne 17 49 (gd rfl) rfl rfl (fun c14 => ?_) (fun c14 => ?_)
  · skip
    have i14 := z_ne 1 1 c14 i13 rfl
    refine g_iconst (-1) 50 (gd rfl) rfl rfl ?_
    exact g_ireturn (gd rfl) rfl rfl (hP _ _ ⟨s3, hI3, (fr_tr rfl fr_rf hF3), (Int32.ofInt (-1)), rfl, rfl, in_w (-1) 159 (in_c (-1) rfl) rfl⟩)
  · skip
    have i14 := z_eq 0 0 c14 i13 rfl
    refine g_aload_n 18 (gd rfl) rfl rfl ?_
    refine g_getA (q2 := 50) 21 (gd rfl) rfl rfl rfl rfl ?_
    refine g_iload_n 22 (gd rfl) rfl rfl ?_
    refine g_laload 23 (gd rfl) rfl (n := 32) rfl (in_ix h2 rfl) (fun z22 e22 => ?_)
    refine g_ldc2_w 9223372036854775807 26 (gd rfl) rfl rfl ?_
    refine g_lcmp 27 (gd rfl) rfl (fun z26 e26 => ?_)
    have i26 := lc_in e26
    refine g_if_eq 30 49 (gd rfl) rfl rfl (fun c27 => ?_) (fun c27 => ?_)
    · skip
      have i27 := z_eq 0 0 c27 i26 rfl
      have c27a := lc_eq e26 c27
      have i27a := lr_eq1 9223372036854775807 9223372036854775807 c27a (l_rng z22) (l_c 9223372036854775807 rfl) rfl
      refine g_iconst (-1) 50 (gd rfl) rfl rfl ?_
      exact g_ireturn (gd rfl) rfl rfl (hP _ _ ⟨s3, hI3, (fr_tr rfl fr_rf hF3), (Int32.ofInt (-1)), rfl, rfl, in_w (-1) 159 (in_c (-1) rfl) rfl⟩)
    · skip
      have c27a := lc_ne e26 c27
      have i27 := lr_ne1 (-9223372036854775808) 9223372036854775806 c27a (l_rng z22) (l_c 9223372036854775807 rfl) rfl
      refine g_iload 32 (gd rfl) rfl rfl ?_
      refine g_i2l 33 (gd rfl) rfl (fun z32 e32 => ?_)
      have i32 := l_i e32 h4
      refine g_aload_n 34 (gd rfl) rfl rfl ?_
      refine g_getA (q2 := 50) 37 (gd rfl) rfl rfl rfl rfl ?_
      refine g_iload_n 38 (gd rfl) rfl rfl ?_
      refine g_laload 39 (gd rfl) rfl (n := 32) rfl (in_ix h2 rfl) (fun z38 e38 => ?_)
      refine g_ldc2_w 1024 42 (gd rfl) rfl rfl ?_
      refine g_calls (As := [.long z38, .long (Int64.ofInt 1024)]) (r := [.long z32]) 45 (gd rfl) rfl rfl rfl rfl rfl (Nat.le_of_ble_eq_true rfl) (mc := 0) (ms := 0) (Nat.zero_le _) (Nat.zero_le _) (P := fun v u => _) ?_ (fun v u h => h)
      intro po42 xx42 hp42 hx42
      refine g_enter2 (k := 419) (N := 300) (by first | exact dq1 hd rfl | exact dq0 hd rfl | exact dq2 hd rfl | exact dq3 hd rfl | omega) rfl (Nat.le_of_ble_eq_true rfl) ?_
      refine g_lload_n 1 (gd rfl) rfl rfl ?_
      refine g_lload_n 2 (gd rfl) rfl rfl ?_
      refine g_lrem 3 (gd rfl) rfl (by decide) (fun z42x2 e42x2 => ?_)
      have i42x2 := l_rem (-1023) 1023 e42x2 rfl
      refine g_lstore 5 (gd rfl) rfl (Nat.le_of_ble_eq_true rfl) ?_
      refine g_lload_n 6 (gd rfl) rfl rfl ?_
      refine g_lload_n 7 (gd rfl) rfl rfl ?_
      refine g_lxor 8 (gd rfl) rfl (fun z42x7 e42x7 => ?_)
      refine g_lconst 0 9 (gd rfl) rfl rfl ?_
      refine g_lcmp 10 (gd rfl) rfl (fun z42x9 e42x9 => ?_)
      have i42x9 := lc_in e42x9
      refine g_if_ge 13 25 (gd rfl) rfl rfl (fun c42x10 => ?_) (fun c42x10 => ?_)
      · skip
        have i42x10 := z_ge 0 1 c42x10 i42x9 rfl
        have c42x10a := lc_ge e42x9 c42x10
        have i42x10a := lr_le2 0 9223372036854775807 c42x10a (l_c 0 rfl) (l_rng z42x7) rfl
        refine g_lload 27 (gd rfl) rfl rfl ?_
        refine g_lreturn (gd rfl) rfl (hp42 _ _ ?_)
        show GG _ _ _ _ _ _ _ _ [.long z42x2, .long z32] _ _ _
        refine g_lcmp 46 (gd rfl) rfl (fun z45 e45 => ?_)
        have i45 := lc_in e45
        refine g_if_lt 49 51 (gd rfl) rfl rfl (fun c46 => ?_) (fun c46 => ?_)
        · skip
          have i46 := z_lt (-1) (-1) c46 i45 rfl
          have c46a := lc_lt e45 c46
          have i46a := lr_lt1 0 1022 c46a i32 i42x2 rfl
          have i46b := l_b e32 i46a
          have i46c := lr_lt2 1 1023 c46a i32 i42x2 rfl
          refine g_iconst (-1) 52 (gd rfl) rfl rfl ?_
          refine g_istore 54 (gd rfl) rfl (Nat.le_of_ble_eq_true rfl) ?_
          refine g_iload_n 55 (gd rfl) rfl rfl ?_
          refine g_istore 57 (gd rfl) rfl (Nat.le_of_ble_eq_true rfl) ?_
          refine g_iconst 0 58 (gd rfl) rfl rfl ?_
          refine g_istore 60 (gd rfl) rfl (Nat.le_of_ble_eq_true rfl) ?_
          exact gg_w (by first | exact Nat.le_of_ble_eq_true rfl | omega) (gg_f (gf_cons rfl (gf_cons rfl (gf_cons rfl (gf_cons rfl (gf_cons rfl (gf_cons rfl (gf_cons rfl (gf_cons rfl gf_nil)))))))) (ct60 4001 s3 (Int32.ofInt (-1)) x2 (Int32.ofInt 0) hI3 (fr_tr rfl fr_rf hF3) (in_w 0 2046 i46b rfl) (in_w (-1) 159 (in_c (-1) rfl) rfl) (in_w 0 31 h2 rfl) (in_w 0 4000 (in_c 0 rfl) rfl) (m_in 4001 (in_w 0 4000 (in_c 0 rfl) rfl) rfl)))
        · skip
          have i46 := z_ge 0 1 c46 i45 rfl
          have c46a := lc_ge e45 c46
          refine g_iconst (-1) 50 (gd rfl) rfl rfl ?_
          exact g_ireturn (gd rfl) rfl rfl (hP _ _ ⟨s3, hI3, (fr_tr rfl fr_rf hF3), (Int32.ofInt (-1)), rfl, rfl, in_w (-1) 159 (in_c (-1) rfl) rfl⟩)
      · skip
        have i42x10 := z_lt (-1) (-1) c42x10 i42x9 rfl
        have c42x10a := lc_lt e42x9 c42x10
        have i42x10a := lr_lt1 (-9223372036854775808) (-1) c42x10a (l_rng z42x7) (l_c 0 rfl) rfl
        refine g_lload 15 (gd rfl) rfl rfl ?_
        refine g_lconst 0 16 (gd rfl) rfl rfl ?_
        refine g_lcmp 17 (gd rfl) rfl (fun z42x16 e42x16 => ?_)
        have i42x16 := lc_in e42x16
        refine g_if_eq 20 25 (gd rfl) rfl rfl (fun c42x17 => ?_) (fun c42x17 => ?_)
        · skip
          have i42x17 := z_eq 0 0 c42x17 i42x16 rfl
          have c42x17a := lc_eq e42x16 c42x17
          have i42x17a := lr_eq1 0 0 c42x17a i42x2 (l_c 0 rfl) rfl
          refine g_lload 27 (gd rfl) rfl rfl ?_
          refine g_lreturn (gd rfl) rfl (hp42 _ _ ?_)
          show GG _ _ _ _ _ _ _ _ [.long z42x2, .long z32] _ _ _
          refine g_lcmp 46 (gd rfl) rfl (fun z45 e45 => ?_)
          have i45 := lc_in e45
          refine g_if_lt 49 51 (gd rfl) rfl rfl (fun c46 => ?_) (fun c46 => ?_)
          · skip
            have i46 := z_lt (-1) (-1) c46 i45 rfl
            have c46a := lc_lt e45 c46
            exact ln_lt c46a i32 i42x17a rfl
          · skip
            have i46 := z_ge 0 1 c46 i45 rfl
            have c46a := lc_ge e45 c46
            refine g_iconst (-1) 50 (gd rfl) rfl rfl ?_
            exact g_ireturn (gd rfl) rfl rfl (hP _ _ ⟨s3, hI3, (fr_tr rfl fr_rf hF3), (Int32.ofInt (-1)), rfl, rfl, in_w (-1) 159 (in_c (-1) rfl) rfl⟩)
        · skip
          have c42x17a := lc_ne e42x16 c42x17
          refine g_lload 22 (gd rfl) rfl rfl ?_
          refine g_lload_n 23 (gd rfl) rfl rfl ?_
          refine g_ladd 24 (gd rfl) rfl (fun z42x23 e42x23 => ?_)
          have i42x23 := l_add 1 2047 e42x23 i42x2 (l_c 1024 rfl) rfl
          refine g_lreturn (gd rfl) rfl (hp42 _ _ ?_)
          show GG _ _ _ _ _ _ _ _ [.long z42x23, .long z32] _ _ _
          refine g_lcmp 46 (gd rfl) rfl (fun z45 e45 => ?_)
          have i45 := lc_in e45
          refine g_if_lt 49 51 (gd rfl) rfl rfl (fun c46 => ?_) (fun c46 => ?_)
          · skip
            have i46 := z_lt (-1) (-1) c46 i45 rfl
            have c46a := lc_lt e45 c46
            have i46a := lr_lt1 0 2046 c46a i32 i42x23 rfl
            have i46b := l_b e32 i46a
            refine g_iconst (-1) 52 (gd rfl) rfl rfl ?_
            refine g_istore 54 (gd rfl) rfl (Nat.le_of_ble_eq_true rfl) ?_
            refine g_iload_n 55 (gd rfl) rfl rfl ?_
            refine g_istore 57 (gd rfl) rfl (Nat.le_of_ble_eq_true rfl) ?_
            refine g_iconst 0 58 (gd rfl) rfl rfl ?_
            refine g_istore 60 (gd rfl) rfl (Nat.le_of_ble_eq_true rfl) ?_
            exact gg_w (by first | exact Nat.le_of_ble_eq_true rfl | omega) (gg_f (gf_cons rfl (gf_cons rfl (gf_cons rfl (gf_cons rfl (gf_cons rfl (gf_cons rfl (gf_cons rfl (gf_cons rfl gf_nil)))))))) (ct60 4001 s3 (Int32.ofInt (-1)) x2 (Int32.ofInt 0) hI3 (fr_tr rfl fr_rf hF3) (in_w 0 2046 i46b rfl) (in_w (-1) 159 (in_c (-1) rfl) rfl) (in_w 0 31 h2 rfl) (in_w 0 4000 (in_c 0 rfl) rfl) (m_in 4001 (in_w 0 4000 (in_c 0 rfl) rfl) rfl)))
          · skip
            have i46 := z_ge 0 1 c46 i45 rfl
            have c46a := lc_ge e45 c46
            have i46a := lr_le2 1 2147483647 c46a i42x23 i32 rfl
            have i46b := l_b e32 i46a
            refine g_iconst (-1) 50 (gd rfl) rfl rfl ?_
            exact g_ireturn (gd rfl) rfl rfl (hP _ _ ⟨s3, hI3, (fr_tr rfl fr_rf hF3), (Int32.ofInt (-1)), rfl, rfl, in_w (-1) 159 (in_c (-1) rfl) rfl⟩)
end
section
/-! methods, by vc.py -/
def fm_195_49_32 : FM := ([39, 40, 41, 42, 43, 44, 45], [50], [(32, 4), (49, 0), (49, 1), (49, 2)], [])
/-- GraphHouse$Ways.leastArc -/
theorem k_195_49_32 {Z : AmZ} {A : Nat → Nat} {s : GS} {ex : va_W} {d : Nat} {X : AmX} {x2 : Int32} {x3 : Int32} {x4 : Int32} (hd : 6 ≤ d) (hI : Inv s) (h2 : In x2 0 31) (h3 : In x3 0 31) (h4 : In x4 0 2147483647) : GC Z d 195 [.ref (A 49), .ref (A 32), .int x2, .int x3, .int x4] (WW Z A s ++ ex) 0 0 (fun v u => ∃ t : GS, Inv t ∧ Fr fm_195_49_32 s t ∧ ∃ z : Int32, v = some (.int z) ∧ u = WW Z A t ++ ex ∧ In z (-1) 159) X := by
  intro post xp hP hX
  have ct60 : ∀ (k60 : Nat) (sc60 : GS) (y60_5 : Int32) (y60_6 : Int32) (y60_7 : Int32), Inv sc60 → Fr fm_195_49_32 s sc60 → (In x4 0 2046) → (In y60_5 (-1) 159) → (In y60_6 0 31) → (In y60_7 0 4000) → 4000 - (y60_7).toInt < (k60 : Int) → GG Z (d - 1) 195 post (gx xp) (1 + k60 * 900) 60 (fun j => xlook j [(0, .ref (A 49)), (1, .ref (A 32)), (2, .int x2), (3, .int x3), (4, .int x4), (5, .int y60_5), (6, .int y60_6), (7, .int y60_7)]) [] (WW Z A sc60 ++ ex) 0 0 := by
    intro k60
    induction k60 with
    | zero => intro sc60 y60_5 y60_6 y60_7 hIc60 hFc60 j60_4 j60_5 j60_6 j60_7 mm60; exact m_no mm60 j60_7 rfl
    | succ k60 ih60 =>
      intro sc60 y60_5 y60_6 y60_7 hIc60 hFc60 j60_4 j60_5 j60_6 j60_7 mm60
      refine gg_w (M := 1 + k60 * 900 + 900) gws ?_
      refine g_iload 62 (gd rfl) rfl rfl ?_
      refine g_iload 64 (gd rfl) rfl rfl ?_
      refine g_cmp_gt 67 99 (gd rfl) rfl rfl (fun c64 => ?_) (fun c64 => ?_)
      · skip
        have i64 := r_lt2 1 4000 c64 j60_4 j60_7 rfl
        refine g_iload 101 (gd rfl) rfl rfl ?_
        exact g_ireturn (gd rfl) rfl rfl (hP _ _ ⟨sc60, hIc60, hFc60, y60_5, rfl, rfl, in_w (-1) 159 j60_5 rfl⟩)
      · skip
        have i64 := r_le1 0 2046 c64 j60_7 j60_4 rfl
        refine g_aload_n 68 (gd rfl) rfl rfl ?_
        refine g_aload_n 69 (gd rfl) rfl rfl ?_
        refine g_iload 71 (gd rfl) rfl rfl ?_
        refine g_callv (X := _) (As := [.ref (A 32), .int y60_6]) (r := []) (b := A 49) (q := 49) 74 (gd rfl) rfl rfl rfl rfl rfl (ww_o rfl) (Nat.le_of_ble_eq_true rfl) (Nat.zero_le _) (Nat.zero_le _) (k_196_49_32 (by first | exact dq1 hd rfl | exact dq0 hd rfl | exact dq2 hd rfl | exact dq3 hd rfl | omega) hIc60 (in_w 0 31 j60_6 rfl)) (fun e u h => h) (fun v u h => ?_)
        obtain ⟨z71, rfl, rfl, i71⟩ := h
        show GG _ _ _ _ _ _ _ _ [.int z71] _ _ _
        refine g_istore 76 (gd rfl) rfl (Nat.le_of_ble_eq_true rfl) ?_
        refine g_iload 78 (gd rfl) rfl rfl ?_
        refine g_iconst (-1) 79 (gd rfl) rfl rfl ?_
        refine g_cmp_ne 82 84 (gd rfl) rfl rfl (fun c79 => ?_) (fun c79 => ?_)
        · skip
          have i79 := r_ne1 0 159 c79 i71 (in_c (-1) rfl) rfl
          refine g_aload_n 85 (gd rfl) rfl rfl ?_
          refine g_getA (q2 := 35) 88 (gd rfl) rfl rfl rfl rfl ?_
          refine g_iload 90 (gd rfl) rfl rfl ?_
          refine g_iaload 91 (gd rfl) rfl (n := 160) rfl (in_ix i79 rfl) (fun z90 e90 => ?_)
          have i90 := inv_I hIc60 (n := 160) (t := 0) 0 31 rfl (in_ix i79 rfl) rfl e90
          refine g_istore 93 (gd rfl) rfl (Nat.le_of_ble_eq_true rfl) ?_
          refine g_iinc 96 (gd rfl) rfl rfl (Nat.le_of_ble_eq_true rfl) (fun z93 e93 => ?_)
          have i93 := in_add 1 2047 e93 i64 (in_c 1 rfl) rfl rfl
          refine g_goto 60 (gd rfl) rfl ?_
          exact gg_w (by first | exact Nat.le_add_right _ _ | exact gw2 | exact gw3 | exact gwe rfl | exact gwf rfl | exact gwg rfl | exact gwh rfl | omega) (gg_f (gf_cons rfl (gf_cons rfl (gf_cons rfl (gf_cons rfl (gf_cons rfl (gf_cons rfl (gf_cons rfl (gf_cons rfl gf_nil)))))))) (ih60 sc60 z71 z90 z93 hIc60 hFc60 (in_w 0 2046 j60_4 rfl) (in_w (-1) 159 i79 rfl) (in_w 0 31 i90 rfl) (in_w 0 4000 i93 rfl) (m_up mm60 (t_add e93 i64 (in_c 1 rfl) rfl) (in_w 1 1 (in_c 1 rfl) rfl))))
        · skip
          have i79 := r_eq1 (-1) (-1) c79 i71 (in_c (-1) rfl) rfl
          refine g_iconst (-1) 83 (gd rfl) rfl rfl ?_
          exact g_ireturn (gd rfl) rfl rfl (hP _ _ ⟨sc60, hIc60, hFc60, (Int32.ofInt (-1)), rfl, rfl, in_w (-1) 159 (in_c (-1) rfl) rfl⟩)
  refine g_enter2 (k := 195) (N := 3601801) (by first | exact dq1 hd rfl | exact dq0 hd rfl | exact dq2 hd rfl | exact dq3 hd rfl | omega) rfl (Nat.le_of_ble_eq_true rfl) ?_
  refine g_aload_n 1 (gd rfl) rfl rfl ?_
  refine g_aload_n 2 (gd rfl) rfl rfl ?_
  refine g_iload_n 3 (gd rfl) rfl rfl ?_
  refine g_callv (X := _) (As := [.ref (A 32), .int x3]) (r := []) (b := A 49) (q := 49) 6 (gd rfl) rfl rfl rfl rfl rfl (ww_o rfl) (Nat.le_of_ble_eq_true rfl) (Nat.zero_le _) (Nat.zero_le _) (k_198_49_32 (by first | exact dq1 hd rfl | exact dq0 hd rfl | exact dq2 hd rfl | exact dq3 hd rfl | omega) hI (in_w 0 31 h3 rfl)) (fun e u h => h) (fun v u h => ?_)
  obtain ⟨s3, hI3, hF3, rfl, rfl⟩ := h
  show GG _ _ _ _ _ _ _ _ [] _ _ _
  refine g_aload_n 7 (gd rfl) rfl rfl ?_
  refine g_getI 10 (gd rfl) rfl rfl rfl (fun z7 e7 => ?_)
  refine g_iload_n 11 (gd rfl) rfl rfl ?_
  refine g_ishr 12 (gd rfl) rfl (fun z11 e11 => ?_)
  refine g_iconst 1 13 (gd rfl) rfl rfl ?_
  refine g_iand 14 (gd rfl) rfl (fun z13 e13 => ?_)
  have i13 := in_and2 e13 (in_c 1 rfl) rfl
  refine g_if_ne 17 49 (gd rfl) rfl rfl (fun c14 => ?_) (fun c14 => ?_)
  · skip
    have i14 := z_ne 1 1 c14 i13 rfl
    refine g_iconst (-1) 50 (gd rfl) rfl rfl ?_
    exact g_ireturn (gd rfl) rfl rfl (hP _ _ ⟨s3, hI3, (fr_tr rfl fr_rf hF3), (Int32.ofInt (-1)), rfl, rfl, in_w (-1) 159 (in_c (-1) rfl) rfl⟩)
  · skip
    have i14 := z_eq 0 0 c14 i13 rfl
    refine g_aload_n 18 (gd rfl) rfl rfl ?_
    refine g_getA (q2 := 50) 21 (gd rfl) rfl rfl rfl rfl ?_
    refine g_iload_n 22 (gd rfl) rfl rfl ?_
    refine g_laload 23 (gd rfl) rfl (n := 32) rfl (in_ix h2 rfl) (fun z22 e22 => ?_)
    refine g_ldc2_w 9223372036854775807 26 (gd rfl) rfl rfl ?_
    refine g_lcmp 27 (gd rfl) rfl (fun z26 e26 => ?_)
    have i26 := lc_in e26
    refine g_if_eq 30 49 (gd rfl) rfl rfl (fun c27 => ?_) (fun c27 => ?_)
    · skip
      have i27 := z_eq 0 0 c27 i26 rfl
      have c27a := lc_eq e26 c27
      have i27a := lr_eq1 9223372036854775807 9223372036854775807 c27a (l_rng z22) (l_c 9223372036854775807 rfl) rfl
      refine g_iconst (-1) 50 (gd rfl) rfl rfl ?_
      exact g_ireturn (gd rfl) rfl rfl (hP _ _ ⟨s3, hI3, (fr_tr rfl fr_rf hF3), (Int32.ofInt (-1)), rfl, rfl, in_w (-1) 159 (in_c (-1) rfl) rfl⟩)
    · skip
      have c27a := lc_ne e26 c27
      have i27 := lr_ne1 (-9223372036854775808) 9223372036854775806 c27a (l_rng z22) (l_c 9223372036854775807 rfl) rfl
      refine g_iload 32 (gd rfl) rfl rfl ?_
      refine g_i2l 33 (gd rfl) rfl (fun z32 e32 => ?_)
      have i32 := l_i e32 h4
      refine g_aload_n 34 (gd rfl) rfl rfl ?_
      refine g_getA (q2 := 50) 37 (gd rfl) rfl rfl rfl rfl ?_
      refine g_iload_n 38 (gd rfl) rfl rfl ?_
      refine g_laload 39 (gd rfl) rfl (n := 32) rfl (in_ix h2 rfl) (fun z38 e38 => ?_)
      refine g_ldc2_w 1024 42 (gd rfl) rfl rfl ?_
      refine g_calls (As := [.long z38, .long (Int64.ofInt 1024)]) (r := [.long z32]) 45 (gd rfl) rfl rfl rfl rfl rfl (Nat.le_of_ble_eq_true rfl) (mc := 0) (ms := 0) (Nat.zero_le _) (Nat.zero_le _) (P := fun v u => _) ?_ (fun v u h => h)
      intro po42 xx42 hp42 hx42
      refine g_enter2 (k := 419) (N := 300) (by first | exact dq1 hd rfl | exact dq0 hd rfl | exact dq2 hd rfl | exact dq3 hd rfl | omega) rfl (Nat.le_of_ble_eq_true rfl) ?_
      refine g_lload_n 1 (gd rfl) rfl rfl ?_
      refine g_lload_n 2 (gd rfl) rfl rfl ?_
      refine g_lrem 3 (gd rfl) rfl (by decide) (fun z42x2 e42x2 => ?_)
      have i42x2 := l_rem (-1023) 1023 e42x2 rfl
      refine g_lstore 5 (gd rfl) rfl (Nat.le_of_ble_eq_true rfl) ?_
      refine g_lload_n 6 (gd rfl) rfl rfl ?_
      refine g_lload_n 7 (gd rfl) rfl rfl ?_
      refine g_lxor 8 (gd rfl) rfl (fun z42x7 e42x7 => ?_)
      refine g_lconst 0 9 (gd rfl) rfl rfl ?_
      refine g_lcmp 10 (gd rfl) rfl (fun z42x9 e42x9 => ?_)
      have i42x9 := lc_in e42x9
      refine g_if_ge 13 25 (gd rfl) rfl rfl (fun c42x10 => ?_) (fun c42x10 => ?_)
      · skip
        have i42x10 := z_ge 0 1 c42x10 i42x9 rfl
        have c42x10a := lc_ge e42x9 c42x10
        have i42x10a := lr_le2 0 9223372036854775807 c42x10a (l_c 0 rfl) (l_rng z42x7) rfl
        refine g_lload 27 (gd rfl) rfl rfl ?_
        refine g_lreturn (gd rfl) rfl (hp42 _ _ ?_)
        show GG _ _ _ _ _ _ _ _ [.long z42x2, .long z32] _ _ _
        refine g_lcmp 46 (gd rfl) rfl (fun z45 e45 => ?_)
        have i45 := lc_in e45
        refine g_if_lt 49 51 (gd rfl) rfl rfl (fun c46 => ?_) (fun c46 => ?_)
        · skip
          have i46 := z_lt (-1) (-1) c46 i45 rfl
          have c46a := lc_lt e45 c46
          have i46a := lr_lt1 0 1022 c46a i32 i42x2 rfl
          have i46b := l_b e32 i46a
          have i46c := lr_lt2 1 1023 c46a i32 i42x2 rfl
          refine g_iconst (-1) 52 (gd rfl) rfl rfl ?_
          refine g_istore 54 (gd rfl) rfl (Nat.le_of_ble_eq_true rfl) ?_
          refine g_iload_n 55 (gd rfl) rfl rfl ?_
          refine g_istore 57 (gd rfl) rfl (Nat.le_of_ble_eq_true rfl) ?_
          refine g_iconst 0 58 (gd rfl) rfl rfl ?_
          refine g_istore 60 (gd rfl) rfl (Nat.le_of_ble_eq_true rfl) ?_
          exact gg_w (by first | exact Nat.le_of_ble_eq_true rfl | omega) (gg_f (gf_cons rfl (gf_cons rfl (gf_cons rfl (gf_cons rfl (gf_cons rfl (gf_cons rfl (gf_cons rfl (gf_cons rfl gf_nil)))))))) (ct60 4001 s3 (Int32.ofInt (-1)) x2 (Int32.ofInt 0) hI3 (fr_tr rfl fr_rf hF3) (in_w 0 2046 i46b rfl) (in_w (-1) 159 (in_c (-1) rfl) rfl) (in_w 0 31 h2 rfl) (in_w 0 4000 (in_c 0 rfl) rfl) (m_in 4001 (in_w 0 4000 (in_c 0 rfl) rfl) rfl)))
        · skip
          have i46 := z_ge 0 1 c46 i45 rfl
          have c46a := lc_ge e45 c46
          refine g_iconst (-1) 50 (gd rfl) rfl rfl ?_
          exact g_ireturn (gd rfl) rfl rfl (hP _ _ ⟨s3, hI3, (fr_tr rfl fr_rf hF3), (Int32.ofInt (-1)), rfl, rfl, in_w (-1) 159 (in_c (-1) rfl) rfl⟩)
      · skip
        have i42x10 := z_lt (-1) (-1) c42x10 i42x9 rfl
        have c42x10a := lc_lt e42x9 c42x10
        have i42x10a := lr_lt1 (-9223372036854775808) (-1) c42x10a (l_rng z42x7) (l_c 0 rfl) rfl
        refine g_lload 15 (gd rfl) rfl rfl ?_
        refine g_lconst 0 16 (gd rfl) rfl rfl ?_
        refine g_lcmp 17 (gd rfl) rfl (fun z42x16 e42x16 => ?_)
        have i42x16 := lc_in e42x16
        refine g_if_eq 20 25 (gd rfl) rfl rfl (fun c42x17 => ?_) (fun c42x17 => ?_)
        · skip
          have i42x17 := z_eq 0 0 c42x17 i42x16 rfl
          have c42x17a := lc_eq e42x16 c42x17
          have i42x17a := lr_eq1 0 0 c42x17a i42x2 (l_c 0 rfl) rfl
          refine g_lload 27 (gd rfl) rfl rfl ?_
          refine g_lreturn (gd rfl) rfl (hp42 _ _ ?_)
          show GG _ _ _ _ _ _ _ _ [.long z42x2, .long z32] _ _ _
          refine g_lcmp 46 (gd rfl) rfl (fun z45 e45 => ?_)
          have i45 := lc_in e45
          refine g_if_lt 49 51 (gd rfl) rfl rfl (fun c46 => ?_) (fun c46 => ?_)
          · skip
            have i46 := z_lt (-1) (-1) c46 i45 rfl
            have c46a := lc_lt e45 c46
            exact ln_lt c46a i32 i42x17a rfl
          · skip
            have i46 := z_ge 0 1 c46 i45 rfl
            have c46a := lc_ge e45 c46
            refine g_iconst (-1) 50 (gd rfl) rfl rfl ?_
            exact g_ireturn (gd rfl) rfl rfl (hP _ _ ⟨s3, hI3, (fr_tr rfl fr_rf hF3), (Int32.ofInt (-1)), rfl, rfl, in_w (-1) 159 (in_c (-1) rfl) rfl⟩)
        · skip
          have c42x17a := lc_ne e42x16 c42x17
          refine g_lload 22 (gd rfl) rfl rfl ?_
          refine g_lload_n 23 (gd rfl) rfl rfl ?_
          refine g_ladd 24 (gd rfl) rfl (fun z42x23 e42x23 => ?_)
          have i42x23 := l_add 1 2047 e42x23 i42x2 (l_c 1024 rfl) rfl
          refine g_lreturn (gd rfl) rfl (hp42 _ _ ?_)
          show GG _ _ _ _ _ _ _ _ [.long z42x23, .long z32] _ _ _
          refine g_lcmp 46 (gd rfl) rfl (fun z45 e45 => ?_)
          have i45 := lc_in e45
          refine g_if_lt 49 51 (gd rfl) rfl rfl (fun c46 => ?_) (fun c46 => ?_)
          · skip
            have i46 := z_lt (-1) (-1) c46 i45 rfl
            have c46a := lc_lt e45 c46
            have i46a := lr_lt1 0 2046 c46a i32 i42x23 rfl
            have i46b := l_b e32 i46a
            refine g_iconst (-1) 52 (gd rfl) rfl rfl ?_
            refine g_istore 54 (gd rfl) rfl (Nat.le_of_ble_eq_true rfl) ?_
            refine g_iload_n 55 (gd rfl) rfl rfl ?_
            refine g_istore 57 (gd rfl) rfl (Nat.le_of_ble_eq_true rfl) ?_
            refine g_iconst 0 58 (gd rfl) rfl rfl ?_
            refine g_istore 60 (gd rfl) rfl (Nat.le_of_ble_eq_true rfl) ?_
            exact gg_w (by first | exact Nat.le_of_ble_eq_true rfl | omega) (gg_f (gf_cons rfl (gf_cons rfl (gf_cons rfl (gf_cons rfl (gf_cons rfl (gf_cons rfl (gf_cons rfl (gf_cons rfl gf_nil)))))))) (ct60 4001 s3 (Int32.ofInt (-1)) x2 (Int32.ofInt 0) hI3 (fr_tr rfl fr_rf hF3) (in_w 0 2046 i46b rfl) (in_w (-1) 159 (in_c (-1) rfl) rfl) (in_w 0 31 h2 rfl) (in_w 0 4000 (in_c 0 rfl) rfl) (m_in 4001 (in_w 0 4000 (in_c 0 rfl) rfl) rfl)))
          · skip
            have i46 := z_ge 0 1 c46 i45 rfl
            have c46a := lc_ge e45 c46
            have i46a := lr_le2 1 2147483647 c46a i42x23 i32 rfl
            have i46b := l_b e32 i46a
            refine g_iconst (-1) 50 (gd rfl) rfl rfl ?_
            exact g_ireturn (gd rfl) rfl rfl (hP _ _ ⟨s3, hI3, (fr_tr rfl fr_rf hF3), (Int32.ofInt (-1)), rfl, rfl, in_w (-1) 159 (in_c (-1) rfl) rfl⟩)

def fm_207_49_2 : FM := ([9, 10, 11, 12, 13, 14, 15], [55], [(2, 4), (49, 8), (49, 9), (49, 10), (49, 11)], [])
/-- GraphHouse$Ways.collect -/
theorem k_207_49_2 {Z : AmZ} {A : Nat → Nat} {s : GS} {ex : va_W} {d : Nat} {X : AmX} {x2 : Int32} {x3 : Int32} (hd : 22 ≤ d) (hI : Inv s) (h2 : In x2 0 31) (h3 : In x3 0 31) : GC Z d 207 [.ref (A 49), .ref (A 2), .int x2, .int x3] (WW Z A s ++ ex) 0 0 (fun v u => ∃ t : GS, Inv t ∧ Fr fm_207_49_2 s t ∧ v = none ∧ u = WW Z A t ++ ex) X := by
  intro post xp hP hX
  obtain ⟨u_2_0, e_2_0⟩ : ∃ w, w = s.2.2.1 2 0 := ⟨_, rfl⟩
  have ro_2_0 := inv_F hI 0 4000 rfl e_2_0
  refine g_enter2 (k := 207) (N := 900) (by first | exact dq1 hd rfl | exact dq0 hd rfl | exact dq2 hd rfl | exact dq3 hd rfl | omega) rfl (Nat.le_of_ble_eq_true rfl) ?_
  refine g_aload_n 1 (gd rfl) rfl rfl ?_
  refine g_getI 4 (gd rfl) rfl rfl rfl (fun z1 e1 => ?_)
  have i1 := inv_F hI (-1) 4000 rfl e1
  refine g_aload_n 5 (gd rfl) rfl rfl ?_
  refine g_getI 8 (gd rfl) rfl rfl rfl (fun z5 e5 => ?_)
  have q5 : u_2_0 = z5 := (e_2_0).trans e5.symm
  subst q5
  refine g_cmp_ne 11 28 (gd rfl) rfl rfl (fun c8 => ?_) (fun c8 => ?_)
  · skip
    refine g_aload_n 29 (gd rfl) rfl rfl ?_
    refine g_callv (X := _) (As := []) (r := []) (b := A 2) (q := 2) 32 (gd rfl) rfl rfl rfl rfl rfl (ww_o rfl) (Nat.le_of_ble_eq_true rfl) (Nat.zero_le _) (Nat.zero_le _) (k_106_2 (by first | exact dq1 hd rfl | exact dq0 hd rfl | exact dq2 hd rfl | exact dq3 hd rfl | omega) hI ) (fun e u h => h) (fun v u h => ?_)
    obtain ⟨s29, hI29, hF29, n29, rfl, rfl⟩ := h
    obtain ⟨z29a, e29⟩ : ∃ w, w = s29.2.2.1 2 4 := ⟨_, rfl⟩
    have i29a := inv_F hI29 (-1) 4000 rfl e29
    rw [← (show z29a = s29.2.2.1 2 4 from e29)] at n29
    rw [← (show u_2_0 = s29.2.2.1 2 0 from fr_F (e_2_0) hF29 rfl)] at n29
    show GG _ _ _ _ _ _ _ _ [] _ _ _
    refine g_aload_n 33 (gd rfl) rfl rfl ?_
    refine g_aload_n 34 (gd rfl) rfl rfl ?_
    refine g_getI 37 (gd rfl) rfl rfl rfl (fun z34 e34 => ?_)
    have q34 : u_2_0 = z34 := (fr_F (e_2_0) hF29 rfl).trans e34.symm
    subst q34
    refine g_putI 40 (gd rfl) rfl rfl rfl rfl ?_
    have hI37 := inv_sF (q := 49) (j := 8) hI29 rfl (in_w (-1) 4000 ro_2_0 rfl)
    refine g_aload_n 41 (gd rfl) rfl rfl ?_
    refine g_iload_n 42 (gd rfl) rfl rfl ?_
    refine g_putI 45 (gd rfl) rfl rfl rfl rfl ?_
    have hI42 := inv_sF (q := 49) (j := 9) hI37 rfl (in_w 0 31 h2 rfl)
    refine g_aload_n 46 (gd rfl) rfl rfl ?_
    refine g_iload_n 47 (gd rfl) rfl rfl ?_
    refine g_putI 50 (gd rfl) rfl rfl rfl rfl ?_
    have hI47 := inv_sF (q := 49) (j := 10) hI42 rfl (in_w 0 31 h3 rfl)
    refine g_aload_n 51 (gd rfl) rfl rfl ?_
    refine g_iconst 0 52 (gd rfl) rfl rfl ?_
    refine g_putI 55 (gd rfl) rfl rfl rfl rfl ?_
    have hI52 := inv_sF (q := 49) (j := 11) hI47 rfl (in_w 0 2001 (in_c 0 rfl) rfl)
    refine g_aload_n 56 (gd rfl) rfl rfl ?_
    refine g_aload_n 57 (gd rfl) rfl rfl ?_
    refine g_iload_n 58 (gd rfl) rfl rfl ?_
    refine g_iconst 1 59 (gd rfl) rfl rfl ?_
    refine g_iload_n 60 (gd rfl) rfl rfl ?_
    refine g_ishl 61 (gd rfl) rfl (fun z60 e60 => ?_)
    refine g_iconst 0 62 (gd rfl) rfl rfl ?_
    refine g_lconst 0 63 (gd rfl) rfl rfl ?_
    refine g_callv (X := _) (As := [.ref (A 2), .int x2, .int z60, .int (Int32.ofInt 0), .long (Int64.ofInt 0)]) (r := []) (b := A 49) (q := 49) 66 (gd rfl) rfl rfl rfl rfl rfl (ww_o rfl) (Nat.le_of_ble_eq_true rfl) (Nat.zero_le _) (Nat.zero_le _) (k_208_49_2 (by first | exact dq1 hd rfl | exact dq0 hd rfl | exact dq2 hd rfl | exact dq3 hd rfl | omega) hI52 (in_w 0 31 h2 rfl) (in_w 0 4 (in_c 0 rfl) rfl)) (fun e u h => h) (fun v u h => ?_)
    obtain ⟨s63, hI63, hF63, rfl, rfl⟩ := h
    show GG _ _ _ _ _ _ _ _ [] _ _ _
    refine g_aload_n 67 (gd rfl) rfl rfl ?_
    refine g_getI 70 (gd rfl) rfl rfl rfl (fun z67 e67 => ?_)
    have i67 := inv_F hI63 0 2001 rfl e67
    refine g_sipush 2000 73 (gd rfl) rfl rfl ?_
    refine g_cmp_gt 76 80 (gd rfl) rfl rfl (fun c73 => ?_) (fun c73 => ?_)
    · skip
      have i73 := r_lt2 2001 2001 c73 (in_c 2000 rfl) i67 rfl
      exact g_return (gd rfl) rfl (hP _ _ ⟨s63, hI63, (fr_tr rfl (fr_sF rfl (fr_sF rfl (fr_sF rfl (fr_sF rfl (fr_tr rfl fr_rf hF29))))) hF63), rfl, rfl⟩)
    · skip
      have i73 := r_le1 0 2000 c73 i67 (in_c 2000 rfl) rfl
      refine g_aload_n 77 (gd rfl) rfl rfl ?_
      refine g_callv (X := _) (As := []) (r := []) (b := A 49) (q := 49) 80 (gd rfl) rfl rfl rfl rfl rfl (ww_o rfl) (Nat.le_of_ble_eq_true rfl) (Nat.zero_le _) (Nat.zero_le _) (k_210_49 (by first | exact dq1 hd rfl | exact dq0 hd rfl | exact dq2 hd rfl | exact dq3 hd rfl | omega) hI63 ) (fun e u h => h) (fun v u h => ?_)
      obtain ⟨s77, hI77, hF77, rfl, rfl⟩ := h
      show GG _ _ _ _ _ _ _ _ [] _ _ _
      exact g_return (gd rfl) rfl (hP _ _ ⟨s77, hI77, (fr_tr rfl (fr_tr rfl (fr_sF rfl (fr_sF rfl (fr_sF rfl (fr_sF rfl (fr_tr rfl fr_rf hF29))))) hF63) hF77), rfl, rfl⟩)
  · skip
    have i8 := r_eq1 0 4000 c8 i1 ro_2_0 rfl
    refine g_aload_n 12 (gd rfl) rfl rfl ?_
    refine g_getI 15 (gd rfl) rfl rfl rfl (fun z12 e12 => ?_)
    have i12 := inv_F hI 0 31 rfl e12
    refine g_iload_n 16 (gd rfl) rfl rfl ?_
    refine g_cmp_ne 19 28 (gd rfl) rfl rfl (fun c16 => ?_) (fun c16 => ?_)
    · skip
      refine g_aload_n 29 (gd rfl) rfl rfl ?_
      refine g_callv (X := _) (As := []) (r := []) (b := A 2) (q := 2) 32 (gd rfl) rfl rfl rfl rfl rfl (ww_o rfl) (Nat.le_of_ble_eq_true rfl) (Nat.zero_le _) (Nat.zero_le _) (k_106_2 (by first | exact dq1 hd rfl | exact dq0 hd rfl | exact dq2 hd rfl | exact dq3 hd rfl | omega) hI ) (fun e u h => h) (fun v u h => ?_)
      obtain ⟨s29, hI29, hF29, n29, rfl, rfl⟩ := h
      obtain ⟨z29a, e29⟩ : ∃ w, w = s29.2.2.1 2 4 := ⟨_, rfl⟩
      have i29a := inv_F hI29 (-1) 4000 rfl e29
      rw [← (show z29a = s29.2.2.1 2 4 from e29)] at n29
      rw [← (show u_2_0 = s29.2.2.1 2 0 from fr_F (e_2_0) hF29 rfl)] at n29
      show GG _ _ _ _ _ _ _ _ [] _ _ _
      refine g_aload_n 33 (gd rfl) rfl rfl ?_
      refine g_aload_n 34 (gd rfl) rfl rfl ?_
      refine g_getI 37 (gd rfl) rfl rfl rfl (fun z34 e34 => ?_)
      have q34 : u_2_0 = z34 := (fr_F (e_2_0) hF29 rfl).trans e34.symm
      subst q34
      refine g_putI 40 (gd rfl) rfl rfl rfl rfl ?_
      have hI37 := inv_sF (q := 49) (j := 8) hI29 rfl (in_w (-1) 4000 ro_2_0 rfl)
      refine g_aload_n 41 (gd rfl) rfl rfl ?_
      refine g_iload_n 42 (gd rfl) rfl rfl ?_
      refine g_putI 45 (gd rfl) rfl rfl rfl rfl ?_
      have hI42 := inv_sF (q := 49) (j := 9) hI37 rfl (in_w 0 31 h2 rfl)
      refine g_aload_n 46 (gd rfl) rfl rfl ?_
      refine g_iload_n 47 (gd rfl) rfl rfl ?_
      refine g_putI 50 (gd rfl) rfl rfl rfl rfl ?_
      have hI47 := inv_sF (q := 49) (j := 10) hI42 rfl (in_w 0 31 h3 rfl)
      refine g_aload_n 51 (gd rfl) rfl rfl ?_
      refine g_iconst 0 52 (gd rfl) rfl rfl ?_
      refine g_putI 55 (gd rfl) rfl rfl rfl rfl ?_
      have hI52 := inv_sF (q := 49) (j := 11) hI47 rfl (in_w 0 2001 (in_c 0 rfl) rfl)
      refine g_aload_n 56 (gd rfl) rfl rfl ?_
      refine g_aload_n 57 (gd rfl) rfl rfl ?_
      refine g_iload_n 58 (gd rfl) rfl rfl ?_
      refine g_iconst 1 59 (gd rfl) rfl rfl ?_
      refine g_iload_n 60 (gd rfl) rfl rfl ?_
      refine g_ishl 61 (gd rfl) rfl (fun z60 e60 => ?_)
      refine g_iconst 0 62 (gd rfl) rfl rfl ?_
      refine g_lconst 0 63 (gd rfl) rfl rfl ?_
      refine g_callv (X := _) (As := [.ref (A 2), .int x2, .int z60, .int (Int32.ofInt 0), .long (Int64.ofInt 0)]) (r := []) (b := A 49) (q := 49) 66 (gd rfl) rfl rfl rfl rfl rfl (ww_o rfl) (Nat.le_of_ble_eq_true rfl) (Nat.zero_le _) (Nat.zero_le _) (k_208_49_2 (by first | exact dq1 hd rfl | exact dq0 hd rfl | exact dq2 hd rfl | exact dq3 hd rfl | omega) hI52 (in_w 0 31 h2 rfl) (in_w 0 4 (in_c 0 rfl) rfl)) (fun e u h => h) (fun v u h => ?_)
      obtain ⟨s63, hI63, hF63, rfl, rfl⟩ := h
      show GG _ _ _ _ _ _ _ _ [] _ _ _
      refine g_aload_n 67 (gd rfl) rfl rfl ?_
      refine g_getI 70 (gd rfl) rfl rfl rfl (fun z67 e67 => ?_)
      have i67 := inv_F hI63 0 2001 rfl e67
      refine g_sipush 2000 73 (gd rfl) rfl rfl ?_
      refine g_cmp_gt 76 80 (gd rfl) rfl rfl (fun c73 => ?_) (fun c73 => ?_)
      · skip
        have i73 := r_lt2 2001 2001 c73 (in_c 2000 rfl) i67 rfl
        exact g_return (gd rfl) rfl (hP _ _ ⟨s63, hI63, (fr_tr rfl (fr_sF rfl (fr_sF rfl (fr_sF rfl (fr_sF rfl (fr_tr rfl fr_rf hF29))))) hF63), rfl, rfl⟩)
      · skip
        have i73 := r_le1 0 2000 c73 i67 (in_c 2000 rfl) rfl
        refine g_aload_n 77 (gd rfl) rfl rfl ?_
        refine g_callv (X := _) (As := []) (r := []) (b := A 49) (q := 49) 80 (gd rfl) rfl rfl rfl rfl rfl (ww_o rfl) (Nat.le_of_ble_eq_true rfl) (Nat.zero_le _) (Nat.zero_le _) (k_210_49 (by first | exact dq1 hd rfl | exact dq0 hd rfl | exact dq2 hd rfl | exact dq3 hd rfl | omega) hI63 ) (fun e u h => h) (fun v u h => ?_)
        obtain ⟨s77, hI77, hF77, rfl, rfl⟩ := h
        show GG _ _ _ _ _ _ _ _ [] _ _ _
        exact g_return (gd rfl) rfl (hP _ _ ⟨s77, hI77, (fr_tr rfl (fr_tr rfl (fr_sF rfl (fr_sF rfl (fr_sF rfl (fr_sF rfl (fr_tr rfl fr_rf hF29))))) hF63) hF77), rfl, rfl⟩)
    · skip
      refine g_aload_n 20 (gd rfl) rfl rfl ?_
      refine g_getI 23 (gd rfl) rfl rfl rfl (fun z20 e20 => ?_)
      have i20 := inv_F hI 0 31 rfl e20
      refine g_iload_n 24 (gd rfl) rfl rfl ?_
      refine g_cmp_ne 27 28 (gd rfl) rfl rfl (fun c24 => ?_) (fun c24 => ?_)
      · skip
        refine g_aload_n 29 (gd rfl) rfl rfl ?_
        refine g_callv (X := _) (As := []) (r := []) (b := A 2) (q := 2) 32 (gd rfl) rfl rfl rfl rfl rfl (ww_o rfl) (Nat.le_of_ble_eq_true rfl) (Nat.zero_le _) (Nat.zero_le _) (k_106_2 (by first | exact dq1 hd rfl | exact dq0 hd rfl | exact dq2 hd rfl | exact dq3 hd rfl | omega) hI ) (fun e u h => h) (fun v u h => ?_)
        obtain ⟨s29, hI29, hF29, n29, rfl, rfl⟩ := h
        obtain ⟨z29a, e29⟩ : ∃ w, w = s29.2.2.1 2 4 := ⟨_, rfl⟩
        have i29a := inv_F hI29 (-1) 4000 rfl e29
        rw [← (show z29a = s29.2.2.1 2 4 from e29)] at n29
        rw [← (show u_2_0 = s29.2.2.1 2 0 from fr_F (e_2_0) hF29 rfl)] at n29
        show GG _ _ _ _ _ _ _ _ [] _ _ _
        refine g_aload_n 33 (gd rfl) rfl rfl ?_
        refine g_aload_n 34 (gd rfl) rfl rfl ?_
        refine g_getI 37 (gd rfl) rfl rfl rfl (fun z34 e34 => ?_)
        have q34 : u_2_0 = z34 := (fr_F (e_2_0) hF29 rfl).trans e34.symm
        subst q34
        refine g_putI 40 (gd rfl) rfl rfl rfl rfl ?_
        have hI37 := inv_sF (q := 49) (j := 8) hI29 rfl (in_w (-1) 4000 ro_2_0 rfl)
        refine g_aload_n 41 (gd rfl) rfl rfl ?_
        refine g_iload_n 42 (gd rfl) rfl rfl ?_
        refine g_putI 45 (gd rfl) rfl rfl rfl rfl ?_
        have hI42 := inv_sF (q := 49) (j := 9) hI37 rfl (in_w 0 31 h2 rfl)
        refine g_aload_n 46 (gd rfl) rfl rfl ?_
        refine g_iload_n 47 (gd rfl) rfl rfl ?_
        refine g_putI 50 (gd rfl) rfl rfl rfl rfl ?_
        have hI47 := inv_sF (q := 49) (j := 10) hI42 rfl (in_w 0 31 h3 rfl)
        refine g_aload_n 51 (gd rfl) rfl rfl ?_
        refine g_iconst 0 52 (gd rfl) rfl rfl ?_
        refine g_putI 55 (gd rfl) rfl rfl rfl rfl ?_
        have hI52 := inv_sF (q := 49) (j := 11) hI47 rfl (in_w 0 2001 (in_c 0 rfl) rfl)
        refine g_aload_n 56 (gd rfl) rfl rfl ?_
        refine g_aload_n 57 (gd rfl) rfl rfl ?_
        refine g_iload_n 58 (gd rfl) rfl rfl ?_
        refine g_iconst 1 59 (gd rfl) rfl rfl ?_
        refine g_iload_n 60 (gd rfl) rfl rfl ?_
        refine g_ishl 61 (gd rfl) rfl (fun z60 e60 => ?_)
        refine g_iconst 0 62 (gd rfl) rfl rfl ?_
        refine g_lconst 0 63 (gd rfl) rfl rfl ?_
        refine g_callv (X := _) (As := [.ref (A 2), .int x2, .int z60, .int (Int32.ofInt 0), .long (Int64.ofInt 0)]) (r := []) (b := A 49) (q := 49) 66 (gd rfl) rfl rfl rfl rfl rfl (ww_o rfl) (Nat.le_of_ble_eq_true rfl) (Nat.zero_le _) (Nat.zero_le _) (k_208_49_2 (by first | exact dq1 hd rfl | exact dq0 hd rfl | exact dq2 hd rfl | exact dq3 hd rfl | omega) hI52 (in_w 0 31 h2 rfl) (in_w 0 4 (in_c 0 rfl) rfl)) (fun e u h => h) (fun v u h => ?_)
        obtain ⟨s63, hI63, hF63, rfl, rfl⟩ := h
        show GG _ _ _ _ _ _ _ _ [] _ _ _
        refine g_aload_n 67 (gd rfl) rfl rfl ?_
        refine g_getI 70 (gd rfl) rfl rfl rfl (fun z67 e67 => ?_)
        have i67 := inv_F hI63 0 2001 rfl e67
        refine g_sipush 2000 73 (gd rfl) rfl rfl ?_
        refine g_cmp_gt 76 80 (gd rfl) rfl rfl (fun c73 => ?_) (fun c73 => ?_)
        · skip
          have i73 := r_lt2 2001 2001 c73 (in_c 2000 rfl) i67 rfl
          exact g_return (gd rfl) rfl (hP _ _ ⟨s63, hI63, (fr_tr rfl (fr_sF rfl (fr_sF rfl (fr_sF rfl (fr_sF rfl (fr_tr rfl fr_rf hF29))))) hF63), rfl, rfl⟩)
        · skip
          have i73 := r_le1 0 2000 c73 i67 (in_c 2000 rfl) rfl
          refine g_aload_n 77 (gd rfl) rfl rfl ?_
          refine g_callv (X := _) (As := []) (r := []) (b := A 49) (q := 49) 80 (gd rfl) rfl rfl rfl rfl rfl (ww_o rfl) (Nat.le_of_ble_eq_true rfl) (Nat.zero_le _) (Nat.zero_le _) (k_210_49 (by first | exact dq1 hd rfl | exact dq0 hd rfl | exact dq2 hd rfl | exact dq3 hd rfl | omega) hI63 ) (fun e u h => h) (fun v u h => ?_)
          obtain ⟨s77, hI77, hF77, rfl, rfl⟩ := h
          show GG _ _ _ _ _ _ _ _ [] _ _ _
          exact g_return (gd rfl) rfl (hP _ _ ⟨s77, hI77, (fr_tr rfl (fr_tr rfl (fr_sF rfl (fr_sF rfl (fr_sF rfl (fr_sF rfl (fr_tr rfl fr_rf hF29))))) hF63) hF77), rfl, rfl⟩)
      · skip
        exact g_return (gd rfl) rfl (hP _ _ ⟨s, hI, fr_rf, rfl, rfl⟩)

def fm_207_49_32 : FM := ([39, 40, 41, 42, 43, 44, 45], [55], [(32, 4), (49, 8), (49, 9), (49, 10), (49, 11)], [])
/-- GraphHouse$Ways.collect -/
theorem k_207_49_32 {Z : AmZ} {A : Nat → Nat} {s : GS} {ex : va_W} {d : Nat} {X : AmX} {x2 : Int32} {x3 : Int32} (hd : 22 ≤ d) (hI : Inv s) (h2 : In x2 0 31) (h3 : In x3 0 31) : GC Z d 207 [.ref (A 49), .ref (A 32), .int x2, .int x3] (WW Z A s ++ ex) 0 0 (fun v u => ∃ t : GS, Inv t ∧ Fr fm_207_49_32 s t ∧ v = none ∧ u = WW Z A t ++ ex) X := by
  intro post xp hP hX
  obtain ⟨u_32_0, e_32_0⟩ : ∃ w, w = s.2.2.1 32 0 := ⟨_, rfl⟩
  have ro_32_0 := inv_F hI 0 4000 rfl e_32_0
  refine g_enter2 (k := 207) (N := 900) (by first | exact dq1 hd rfl | exact dq0 hd rfl | exact dq2 hd rfl | exact dq3 hd rfl | omega) rfl (Nat.le_of_ble_eq_true rfl) ?_
  refine g_aload_n 1 (gd rfl) rfl rfl ?_
  refine g_getI 4 (gd rfl) rfl rfl rfl (fun z1 e1 => ?_)
  have i1 := inv_F hI (-1) 4000 rfl e1
  refine g_aload_n 5 (gd rfl) rfl rfl ?_
  refine g_getI 8 (gd rfl) rfl rfl rfl (fun z5 e5 => ?_)
  have q5 : u_32_0 = z5 := (e_32_0).trans e5.symm
  subst q5
  refine g_cmp_ne 11 28 (gd rfl) rfl rfl (fun c8 => ?_) (fun c8 => ?_)
  · skip
    refine g_aload_n 29 (gd rfl) rfl rfl ?_
    refine g_callv (X := _) (As := []) (r := []) (b := A 32) (q := 32) 32 (gd rfl) rfl rfl rfl rfl rfl (ww_o rfl) (Nat.le_of_ble_eq_true rfl) (Nat.zero_le _) (Nat.zero_le _) (k_106_32 (by first | exact dq1 hd rfl | exact dq0 hd rfl | exact dq2 hd rfl | exact dq3 hd rfl | omega) hI ) (fun e u h => h) (fun v u h => ?_)
    obtain ⟨s29, hI29, hF29, n29, rfl, rfl⟩ := h
    obtain ⟨z29a, e29⟩ : ∃ w, w = s29.2.2.1 32 4 := ⟨_, rfl⟩
    have i29a := inv_F hI29 (-1) 4000 rfl e29
    rw [← (show z29a = s29.2.2.1 32 4 from e29)] at n29
    rw [← (show u_32_0 = s29.2.2.1 32 0 from fr_F (e_32_0) hF29 rfl)] at n29
    show GG _ _ _ _ _ _ _ _ [] _ _ _
    refine g_aload_n 33 (gd rfl) rfl rfl ?_
    refine g_aload_n 34 (gd rfl) rfl rfl ?_
    refine g_getI 37 (gd rfl) rfl rfl rfl (fun z34 e34 => ?_)
    have q34 : u_32_0 = z34 := (fr_F (e_32_0) hF29 rfl).trans e34.symm
    subst q34
    refine g_putI 40 (gd rfl) rfl rfl rfl rfl ?_
    have hI37 := inv_sF (q := 49) (j := 8) hI29 rfl (in_w (-1) 4000 ro_32_0 rfl)
    refine g_aload_n 41 (gd rfl) rfl rfl ?_
    refine g_iload_n 42 (gd rfl) rfl rfl ?_
    refine g_putI 45 (gd rfl) rfl rfl rfl rfl ?_
    have hI42 := inv_sF (q := 49) (j := 9) hI37 rfl (in_w 0 31 h2 rfl)
    refine g_aload_n 46 (gd rfl) rfl rfl ?_
    refine g_iload_n 47 (gd rfl) rfl rfl ?_
    refine g_putI 50 (gd rfl) rfl rfl rfl rfl ?_
    have hI47 := inv_sF (q := 49) (j := 10) hI42 rfl (in_w 0 31 h3 rfl)
    refine g_aload_n 51 (gd rfl) rfl rfl ?_
    refine g_iconst 0 52 (gd rfl) rfl rfl ?_
    refine g_putI 55 (gd rfl) rfl rfl rfl rfl ?_
    have hI52 := inv_sF (q := 49) (j := 11) hI47 rfl (in_w 0 2001 (in_c 0 rfl) rfl)
    refine g_aload_n 56 (gd rfl) rfl rfl ?_
    refine g_aload_n 57 (gd rfl) rfl rfl ?_
    refine g_iload_n 58 (gd rfl) rfl rfl ?_
    refine g_iconst 1 59 (gd rfl) rfl rfl ?_
    refine g_iload_n 60 (gd rfl) rfl rfl ?_
    refine g_ishl 61 (gd rfl) rfl (fun z60 e60 => ?_)
    refine g_iconst 0 62 (gd rfl) rfl rfl ?_
    refine g_lconst 0 63 (gd rfl) rfl rfl ?_
    refine g_callv (X := _) (As := [.ref (A 32), .int x2, .int z60, .int (Int32.ofInt 0), .long (Int64.ofInt 0)]) (r := []) (b := A 49) (q := 49) 66 (gd rfl) rfl rfl rfl rfl rfl (ww_o rfl) (Nat.le_of_ble_eq_true rfl) (Nat.zero_le _) (Nat.zero_le _) (k_208_49_32 (by first | exact dq1 hd rfl | exact dq0 hd rfl | exact dq2 hd rfl | exact dq3 hd rfl | omega) hI52 (in_w 0 31 h2 rfl) (in_w 0 4 (in_c 0 rfl) rfl)) (fun e u h => h) (fun v u h => ?_)
    obtain ⟨s63, hI63, hF63, rfl, rfl⟩ := h
    show GG _ _ _ _ _ _ _ _ [] _ _ _
    refine g_aload_n 67 (gd rfl) rfl rfl ?_
    refine g_getI 70 (gd rfl) rfl rfl rfl (fun z67 e67 => ?_)
    have i67 := inv_F hI63 0 2001 rfl e67
    refine g_sipush 2000 73 (gd rfl) rfl rfl ?_
    refine g_cmp_gt 76 80 (gd rfl) rfl rfl (fun c73 => ?_) (fun c73 => ?_)
    · skip
      have i73 := r_lt2 2001 2001 c73 (in_c 2000 rfl) i67 rfl
      exact g_return (gd rfl) rfl (hP _ _ ⟨s63, hI63, (fr_tr rfl (fr_sF rfl (fr_sF rfl (fr_sF rfl (fr_sF rfl (fr_tr rfl fr_rf hF29))))) hF63), rfl, rfl⟩)
    · skip
      have i73 := r_le1 0 2000 c73 i67 (in_c 2000 rfl) rfl
      refine g_aload_n 77 (gd rfl) rfl rfl ?_
      refine g_callv (X := _) (As := []) (r := []) (b := A 49) (q := 49) 80 (gd rfl) rfl rfl rfl rfl rfl (ww_o rfl) (Nat.le_of_ble_eq_true rfl) (Nat.zero_le _) (Nat.zero_le _) (k_210_49 (by first | exact dq1 hd rfl | exact dq0 hd rfl | exact dq2 hd rfl | exact dq3 hd rfl | omega) hI63 ) (fun e u h => h) (fun v u h => ?_)
      obtain ⟨s77, hI77, hF77, rfl, rfl⟩ := h
      show GG _ _ _ _ _ _ _ _ [] _ _ _
      exact g_return (gd rfl) rfl (hP _ _ ⟨s77, hI77, (fr_tr rfl (fr_tr rfl (fr_sF rfl (fr_sF rfl (fr_sF rfl (fr_sF rfl (fr_tr rfl fr_rf hF29))))) hF63) hF77), rfl, rfl⟩)
  · skip
    have i8 := r_eq1 0 4000 c8 i1 ro_32_0 rfl
    refine g_aload_n 12 (gd rfl) rfl rfl ?_
    refine g_getI 15 (gd rfl) rfl rfl rfl (fun z12 e12 => ?_)
    have i12 := inv_F hI 0 31 rfl e12
    refine g_iload_n 16 (gd rfl) rfl rfl ?_
    refine g_cmp_ne 19 28 (gd rfl) rfl rfl (fun c16 => ?_) (fun c16 => ?_)
    · skip
      refine g_aload_n 29 (gd rfl) rfl rfl ?_
      refine g_callv (X := _) (As := []) (r := []) (b := A 32) (q := 32) 32 (gd rfl) rfl rfl rfl rfl rfl (ww_o rfl) (Nat.le_of_ble_eq_true rfl) (Nat.zero_le _) (Nat.zero_le _) (k_106_32 (by first | exact dq1 hd rfl | exact dq0 hd rfl | exact dq2 hd rfl | exact dq3 hd rfl | omega) hI ) (fun e u h => h) (fun v u h => ?_)
      obtain ⟨s29, hI29, hF29, n29, rfl, rfl⟩ := h
      obtain ⟨z29a, e29⟩ : ∃ w, w = s29.2.2.1 32 4 := ⟨_, rfl⟩
      have i29a := inv_F hI29 (-1) 4000 rfl e29
      rw [← (show z29a = s29.2.2.1 32 4 from e29)] at n29
      rw [← (show u_32_0 = s29.2.2.1 32 0 from fr_F (e_32_0) hF29 rfl)] at n29
      show GG _ _ _ _ _ _ _ _ [] _ _ _
      refine g_aload_n 33 (gd rfl) rfl rfl ?_
      refine g_aload_n 34 (gd rfl) rfl rfl ?_
      refine g_getI 37 (gd rfl) rfl rfl rfl (fun z34 e34 => ?_)
      have q34 : u_32_0 = z34 := (fr_F (e_32_0) hF29 rfl).trans e34.symm
      subst q34
      refine g_putI 40 (gd rfl) rfl rfl rfl rfl ?_
      have hI37 := inv_sF (q := 49) (j := 8) hI29 rfl (in_w (-1) 4000 ro_32_0 rfl)
      refine g_aload_n 41 (gd rfl) rfl rfl ?_
      refine g_iload_n 42 (gd rfl) rfl rfl ?_
      refine g_putI 45 (gd rfl) rfl rfl rfl rfl ?_
      have hI42 := inv_sF (q := 49) (j := 9) hI37 rfl (in_w 0 31 h2 rfl)
      refine g_aload_n 46 (gd rfl) rfl rfl ?_
      refine g_iload_n 47 (gd rfl) rfl rfl ?_
      refine g_putI 50 (gd rfl) rfl rfl rfl rfl ?_
      have hI47 := inv_sF (q := 49) (j := 10) hI42 rfl (in_w 0 31 h3 rfl)
      refine g_aload_n 51 (gd rfl) rfl rfl ?_
      refine g_iconst 0 52 (gd rfl) rfl rfl ?_
      refine g_putI 55 (gd rfl) rfl rfl rfl rfl ?_
      have hI52 := inv_sF (q := 49) (j := 11) hI47 rfl (in_w 0 2001 (in_c 0 rfl) rfl)
      refine g_aload_n 56 (gd rfl) rfl rfl ?_
      refine g_aload_n 57 (gd rfl) rfl rfl ?_
      refine g_iload_n 58 (gd rfl) rfl rfl ?_
      refine g_iconst 1 59 (gd rfl) rfl rfl ?_
      refine g_iload_n 60 (gd rfl) rfl rfl ?_
      refine g_ishl 61 (gd rfl) rfl (fun z60 e60 => ?_)
      refine g_iconst 0 62 (gd rfl) rfl rfl ?_
      refine g_lconst 0 63 (gd rfl) rfl rfl ?_
      refine g_callv (X := _) (As := [.ref (A 32), .int x2, .int z60, .int (Int32.ofInt 0), .long (Int64.ofInt 0)]) (r := []) (b := A 49) (q := 49) 66 (gd rfl) rfl rfl rfl rfl rfl (ww_o rfl) (Nat.le_of_ble_eq_true rfl) (Nat.zero_le _) (Nat.zero_le _) (k_208_49_32 (by first | exact dq1 hd rfl | exact dq0 hd rfl | exact dq2 hd rfl | exact dq3 hd rfl | omega) hI52 (in_w 0 31 h2 rfl) (in_w 0 4 (in_c 0 rfl) rfl)) (fun e u h => h) (fun v u h => ?_)
      obtain ⟨s63, hI63, hF63, rfl, rfl⟩ := h
      show GG _ _ _ _ _ _ _ _ [] _ _ _
      refine g_aload_n 67 (gd rfl) rfl rfl ?_
      refine g_getI 70 (gd rfl) rfl rfl rfl (fun z67 e67 => ?_)
      have i67 := inv_F hI63 0 2001 rfl e67
      refine g_sipush 2000 73 (gd rfl) rfl rfl ?_
      refine g_cmp_gt 76 80 (gd rfl) rfl rfl (fun c73 => ?_) (fun c73 => ?_)
      · skip
        have i73 := r_lt2 2001 2001 c73 (in_c 2000 rfl) i67 rfl
        exact g_return (gd rfl) rfl (hP _ _ ⟨s63, hI63, (fr_tr rfl (fr_sF rfl (fr_sF rfl (fr_sF rfl (fr_sF rfl (fr_tr rfl fr_rf hF29))))) hF63), rfl, rfl⟩)
      · skip
        have i73 := r_le1 0 2000 c73 i67 (in_c 2000 rfl) rfl
        refine g_aload_n 77 (gd rfl) rfl rfl ?_
        refine g_callv (X := _) (As := []) (r := []) (b := A 49) (q := 49) 80 (gd rfl) rfl rfl rfl rfl rfl (ww_o rfl) (Nat.le_of_ble_eq_true rfl) (Nat.zero_le _) (Nat.zero_le _) (k_210_49 (by first | exact dq1 hd rfl | exact dq0 hd rfl | exact dq2 hd rfl | exact dq3 hd rfl | omega) hI63 ) (fun e u h => h) (fun v u h => ?_)
        obtain ⟨s77, hI77, hF77, rfl, rfl⟩ := h
        show GG _ _ _ _ _ _ _ _ [] _ _ _
        exact g_return (gd rfl) rfl (hP _ _ ⟨s77, hI77, (fr_tr rfl (fr_tr rfl (fr_sF rfl (fr_sF rfl (fr_sF rfl (fr_sF rfl (fr_tr rfl fr_rf hF29))))) hF63) hF77), rfl, rfl⟩)
    · skip
      refine g_aload_n 20 (gd rfl) rfl rfl ?_
      refine g_getI 23 (gd rfl) rfl rfl rfl (fun z20 e20 => ?_)
      have i20 := inv_F hI 0 31 rfl e20
      refine g_iload_n 24 (gd rfl) rfl rfl ?_
      refine g_cmp_ne 27 28 (gd rfl) rfl rfl (fun c24 => ?_) (fun c24 => ?_)
      · skip
        refine g_aload_n 29 (gd rfl) rfl rfl ?_
        refine g_callv (X := _) (As := []) (r := []) (b := A 32) (q := 32) 32 (gd rfl) rfl rfl rfl rfl rfl (ww_o rfl) (Nat.le_of_ble_eq_true rfl) (Nat.zero_le _) (Nat.zero_le _) (k_106_32 (by first | exact dq1 hd rfl | exact dq0 hd rfl | exact dq2 hd rfl | exact dq3 hd rfl | omega) hI ) (fun e u h => h) (fun v u h => ?_)
        obtain ⟨s29, hI29, hF29, n29, rfl, rfl⟩ := h
        obtain ⟨z29a, e29⟩ : ∃ w, w = s29.2.2.1 32 4 := ⟨_, rfl⟩
        have i29a := inv_F hI29 (-1) 4000 rfl e29
        rw [← (show z29a = s29.2.2.1 32 4 from e29)] at n29
        rw [← (show u_32_0 = s29.2.2.1 32 0 from fr_F (e_32_0) hF29 rfl)] at n29
        show GG _ _ _ _ _ _ _ _ [] _ _ _
        refine g_aload_n 33 (gd rfl) rfl rfl ?_
        refine g_aload_n 34 (gd rfl) rfl rfl ?_
        refine g_getI 37 (gd rfl) rfl rfl rfl (fun z34 e34 => ?_)
        have q34 : u_32_0 = z34 := (fr_F (e_32_0) hF29 rfl).trans e34.symm
        subst q34
        refine g_putI 40 (gd rfl) rfl rfl rfl rfl ?_
        have hI37 := inv_sF (q := 49) (j := 8) hI29 rfl (in_w (-1) 4000 ro_32_0 rfl)
        refine g_aload_n 41 (gd rfl) rfl rfl ?_
        refine g_iload_n 42 (gd rfl) rfl rfl ?_
        refine g_putI 45 (gd rfl) rfl rfl rfl rfl ?_
        have hI42 := inv_sF (q := 49) (j := 9) hI37 rfl (in_w 0 31 h2 rfl)
        refine g_aload_n 46 (gd rfl) rfl rfl ?_
        refine g_iload_n 47 (gd rfl) rfl rfl ?_
        refine g_putI 50 (gd rfl) rfl rfl rfl rfl ?_
        have hI47 := inv_sF (q := 49) (j := 10) hI42 rfl (in_w 0 31 h3 rfl)
        refine g_aload_n 51 (gd rfl) rfl rfl ?_
        refine g_iconst 0 52 (gd rfl) rfl rfl ?_
        refine g_putI 55 (gd rfl) rfl rfl rfl rfl ?_
        have hI52 := inv_sF (q := 49) (j := 11) hI47 rfl (in_w 0 2001 (in_c 0 rfl) rfl)
        refine g_aload_n 56 (gd rfl) rfl rfl ?_
        refine g_aload_n 57 (gd rfl) rfl rfl ?_
        refine g_iload_n 58 (gd rfl) rfl rfl ?_
        refine g_iconst 1 59 (gd rfl) rfl rfl ?_
        refine g_iload_n 60 (gd rfl) rfl rfl ?_
        refine g_ishl 61 (gd rfl) rfl (fun z60 e60 => ?_)
        refine g_iconst 0 62 (gd rfl) rfl rfl ?_
        refine g_lconst 0 63 (gd rfl) rfl rfl ?_
        refine g_callv (X := _) (As := [.ref (A 32), .int x2, .int z60, .int (Int32.ofInt 0), .long (Int64.ofInt 0)]) (r := []) (b := A 49) (q := 49) 66 (gd rfl) rfl rfl rfl rfl rfl (ww_o rfl) (Nat.le_of_ble_eq_true rfl) (Nat.zero_le _) (Nat.zero_le _) (k_208_49_32 (by first | exact dq1 hd rfl | exact dq0 hd rfl | exact dq2 hd rfl | exact dq3 hd rfl | omega) hI52 (in_w 0 31 h2 rfl) (in_w 0 4 (in_c 0 rfl) rfl)) (fun e u h => h) (fun v u h => ?_)
        obtain ⟨s63, hI63, hF63, rfl, rfl⟩ := h
        show GG _ _ _ _ _ _ _ _ [] _ _ _
        refine g_aload_n 67 (gd rfl) rfl rfl ?_
        refine g_getI 70 (gd rfl) rfl rfl rfl (fun z67 e67 => ?_)
        have i67 := inv_F hI63 0 2001 rfl e67
        refine g_sipush 2000 73 (gd rfl) rfl rfl ?_
        refine g_cmp_gt 76 80 (gd rfl) rfl rfl (fun c73 => ?_) (fun c73 => ?_)
        · skip
          have i73 := r_lt2 2001 2001 c73 (in_c 2000 rfl) i67 rfl
          exact g_return (gd rfl) rfl (hP _ _ ⟨s63, hI63, (fr_tr rfl (fr_sF rfl (fr_sF rfl (fr_sF rfl (fr_sF rfl (fr_tr rfl fr_rf hF29))))) hF63), rfl, rfl⟩)
        · skip
          have i73 := r_le1 0 2000 c73 i67 (in_c 2000 rfl) rfl
          refine g_aload_n 77 (gd rfl) rfl rfl ?_
          refine g_callv (X := _) (As := []) (r := []) (b := A 49) (q := 49) 80 (gd rfl) rfl rfl rfl rfl rfl (ww_o rfl) (Nat.le_of_ble_eq_true rfl) (Nat.zero_le _) (Nat.zero_le _) (k_210_49 (by first | exact dq1 hd rfl | exact dq0 hd rfl | exact dq2 hd rfl | exact dq3 hd rfl | omega) hI63 ) (fun e u h => h) (fun v u h => ?_)
          obtain ⟨s77, hI77, hF77, rfl, rfl⟩ := h
          show GG _ _ _ _ _ _ _ _ [] _ _ _
          exact g_return (gd rfl) rfl (hP _ _ ⟨s77, hI77, (fr_tr rfl (fr_tr rfl (fr_sF rfl (fr_sF rfl (fr_sF rfl (fr_sF rfl (fr_tr rfl fr_rf hF29))))) hF63) hF77), rfl, rfl⟩)
      · skip
        exact g_return (gd rfl) rfl (hP _ _ ⟨s, hI, fr_rf, rfl, rfl⟩)

def fm_230_0 : FM := ([9, 10, 11, 12, 13, 14, 15, 39, 40, 41, 42, 43, 44, 45], [50], [(2, 4), (32, 4), (49, 0), (49, 1), (49, 2)], [])
/-- GraphHouse.way -/
theorem k_230_0 {Z : AmZ} {A : Nat → Nat} {s : GS} {ex : va_W} {d : Nat} {x1 : Int32} {x2 : Int32} {x3 : Int32} (hd : 7 ≤ d) (hI : Inv s)  : GC Z d 230 [.ref (A 0), .int x1, .int x2, .int x3] (WW Z A s ++ ex) 3 18 (fun v u => ∃ t : GS, Inv t ∧ Fr fm_230_0 s t ∧ ∃ z : Int32, v = some (.int z) ∧ u = WW Z A t ++ ex ∧ In z (-1) 159) (gE1 Z A ex fm_230_0 s) := by
  intro post xp hP hX
  obtain ⟨u_0_2, e_0_2⟩ : ∃ w, w = s.2.2.1 0 2 := ⟨_, rfl⟩
  have ro_0_2 := inv_F hI (-1) 4000 rfl e_0_2
  obtain ⟨u_2_1, e_2_1⟩ : ∃ w, w = s.2.2.1 2 1 := ⟨_, rfl⟩
  have ro_2_1 := inv_F hI 0 32 rfl e_2_1
  obtain ⟨u_32_1, e_32_1⟩ : ∃ w, w = s.2.2.1 32 1 := ⟨_, rfl⟩
  have ro_32_1 := inv_F hI 0 32 rfl e_32_1
  refine g_enter2 (k := 230) (N := 900) (by first | exact dq1 hd rfl | exact dq0 hd rfl | exact dq2 hd rfl | exact dq3 hd rfl | omega) rfl (Nat.le_of_ble_eq_true rfl) ?_
  refine g_aload_n 1 (gd rfl) rfl rfl ?_
  refine g_callv (X := _) (As := []) (r := []) (b := A 0) (q := 0) 4 (gd rfl) rfl rfl rfl rfl rfl (ww_o rfl) (Nat.le_of_ble_eq_true rfl) (mc := 0) (ms := 0) (Nat.zero_le _) (Nat.zero_le _) (P := fun v u => _) ?_ (fun e u h => h) (fun v u h => h)
  intro po1 xx1 hp1 hx1
  refine g_enter2 (k := 259) (N := 300) (by first | exact dq1 hd rfl | exact dq0 hd rfl | exact dq2 hd rfl | exact dq3 hd rfl | omega) rfl (Nat.le_of_ble_eq_true rfl) ?_
  refine g_aload_n 1 (gd rfl) rfl rfl ?_
  refine g_getI 4 (gd rfl) rfl rfl rfl (fun z1x1 e1x1 => ?_)
  have q1x1 : u_0_2 = z1x1 := (e_0_2).trans e1x1.symm
  subst q1x1
  refine g_iconst (-1) 5 (gd rfl) rfl rfl ?_
  refine g_cmp_ne 8 18 (gd rfl) rfl rfl (fun c1x5 => ?_) (fun c1x5 => ?_)
  · skip
    have i1x5 := r_ne1 0 4000 c1x5 ro_0_2 (in_c (-1) rfl) rfl
    refine g_aload_n 19 (gd rfl) rfl rfl ?_
    refine g_getA (q2 := 32) 22 (gd rfl) rfl rfl rfl rfl ?_
    refine g_areturn (gd rfl) rfl (hp1 _ _ ?_)
    show GG _ _ _ _ _ _ _ _ [.ref (A 32)] _ _ _
    refine g_astore 6 (gd rfl) rfl (Nat.le_of_ble_eq_true rfl) ?_
    refine g_aload 8 (gd rfl) rfl rfl ?_
    refine g_iload_n 9 (gd rfl) rfl rfl ?_
    refine g_callv (X := _) (As := [.int x1]) (r := []) (b := A 32) (q := 32) 12 (gd rfl) rfl rfl rfl rfl rfl (ww_o rfl) (Nat.le_of_ble_eq_true rfl) (mc := 0) (ms := 0) (Nat.zero_le _) (Nat.zero_le _) (P := fun v u => _) ?_ (fun e u h => h) (fun v u h => h)
    intro po9 xx9 hp9 hx9
    refine g_enter2 (k := 94) (N := 300) (by first | exact dq1 hd rfl | exact dq0 hd rfl | exact dq2 hd rfl | exact dq3 hd rfl | omega) rfl (Nat.le_of_ble_eq_true rfl) ?_
    refine g_iload_n 1 (gd rfl) rfl rfl ?_
    refine g_if_lt 4 16 (gd rfl) rfl rfl (fun c9x1 => ?_) (fun c9x1 => ?_)
    · skip
      have i9x1 := z_lt (-2147483648) (-1) c9x1 (i_rng x1) rfl
      refine g_iconst 0 17 (gd rfl) rfl rfl ?_
      refine g_ireturn (gd rfl) rfl (nb01 (in_w 0 1 (in_c 0 rfl) rfl)) (hp9 _ _ ?_)
      show GG _ _ _ _ _ _ _ _ [.int (Int32.ofInt 0)] _ _ _
      refine g_if_eq 15 32 (gd rfl) rfl rfl (fun c12 => ?_) (fun c12 => ?_)
      · skip
        refine g_iconst 0 33 (gd rfl) rfl rfl ?_
        refine g_thr (E := am_IA) (y := yX11_allow) 36 (gd rfl) rfl rfl (Or.inl ⟨rfl, rfl, rfl⟩) (by first | exact dq1 hd rfl | exact dq0 hd rfl | exact dq2 hd rfl | exact dq3 hd rfl | omega) (Nat.le_of_ble_eq_true rfl) (Nat.le_of_ble_eq_true rfl) (Nat.le_of_ble_eq_true rfl) (fun c33 => ?_) (fun c33 => ?_)
        · skip
          exact zn_ne c33 (in_c 0 rfl) rfl
        · skip
          exact (hX _ _ ⟨rfl, s, hI, fr_rf, rfl⟩)
      · skip
        exact zn_ne c12 (in_c 0 rfl) rfl
    · skip
      have i9x1 := z_ge 0 2147483647 c9x1 (i_rng x1) rfl
      refine g_iload_n 5 (gd rfl) rfl rfl ?_
      refine g_aload_n 6 (gd rfl) rfl rfl ?_
      refine g_getI 9 (gd rfl) rfl rfl rfl (fun z9x6 e9x6 => ?_)
      have q9x6 : u_32_1 = z9x6 := (e_32_1).trans e9x6.symm
      subst q9x6
      refine g_cmp_ge 12 16 (gd rfl) rfl rfl (fun c9x9 => ?_) (fun c9x9 => ?_)
      · skip
        refine g_iconst 0 17 (gd rfl) rfl rfl ?_
        refine g_ireturn (gd rfl) rfl (nb01 (in_w 0 1 (in_c 0 rfl) rfl)) (hp9 _ _ ?_)
        show GG _ _ _ _ _ _ _ _ [.int (Int32.ofInt 0)] _ _ _
        refine g_if_eq 15 32 (gd rfl) rfl rfl (fun c12 => ?_) (fun c12 => ?_)
        · skip
          refine g_iconst 0 33 (gd rfl) rfl rfl ?_
          refine g_thr (E := am_IA) (y := yX11_allow) 36 (gd rfl) rfl rfl (Or.inl ⟨rfl, rfl, rfl⟩) (by first | exact dq1 hd rfl | exact dq0 hd rfl | exact dq2 hd rfl | exact dq3 hd rfl | omega) (Nat.le_of_ble_eq_true rfl) (Nat.le_of_ble_eq_true rfl) (Nat.le_of_ble_eq_true rfl) (fun c33 => ?_) (fun c33 => ?_)
          · skip
            exact zn_ne c33 (in_c 0 rfl) rfl
          · skip
            exact (hX _ _ ⟨rfl, s, hI, fr_rf, rfl⟩)
        · skip
          exact zn_ne c12 (in_c 0 rfl) rfl
      · skip
        have i9x9 := r_lt1 0 31 c9x9 i9x1 ro_32_1 rfl
        have i9x9a := r_lt2 1 32 c9x9 i9x1 ro_32_1 rfl
        refine g_iconst 1 13 (gd rfl) rfl rfl ?_
        refine g_goto 17 (gd rfl) rfl ?_
        refine g_ireturn (gd rfl) rfl (nb01 (in_w 0 1 (in_c 1 rfl) rfl)) (hp9 _ _ ?_)
        show GG _ _ _ _ _ _ _ _ [.int (Int32.ofInt 1)] _ _ _
        refine g_if_eq 15 32 (gd rfl) rfl rfl (fun c12 => ?_) (fun c12 => ?_)
        · skip
          exact zn_eq c12 (in_c 1 rfl) rfl
        · skip
          refine g_aload 17 (gd rfl) rfl rfl ?_
          refine g_iload_n 18 (gd rfl) rfl rfl ?_
          refine g_callv (X := _) (As := [.int x2]) (r := []) (b := A 32) (q := 32) 21 (gd rfl) rfl rfl rfl rfl rfl (ww_o rfl) (Nat.le_of_ble_eq_true rfl) (mc := 0) (ms := 0) (Nat.zero_le _) (Nat.zero_le _) (P := fun v u => _) ?_ (fun e u h => h) (fun v u h => h)
          intro po18 xx18 hp18 hx18
          refine g_enter2 (k := 94) (N := 300) (by first | exact dq1 hd rfl | exact dq0 hd rfl | exact dq2 hd rfl | exact dq3 hd rfl | omega) rfl (Nat.le_of_ble_eq_true rfl) ?_
          refine g_iload_n 1 (gd rfl) rfl rfl ?_
          refine g_if_lt 4 16 (gd rfl) rfl rfl (fun c18x1 => ?_) (fun c18x1 => ?_)
          · skip
            have i18x1 := z_lt (-2147483648) (-1) c18x1 (i_rng x2) rfl
            refine g_iconst 0 17 (gd rfl) rfl rfl ?_
            refine g_ireturn (gd rfl) rfl (nb01 (in_w 0 1 (in_c 0 rfl) rfl)) (hp18 _ _ ?_)
            show GG _ _ _ _ _ _ _ _ [.int (Int32.ofInt 0)] _ _ _
            refine g_if_eq 24 32 (gd rfl) rfl rfl (fun c21 => ?_) (fun c21 => ?_)
            · skip
              refine g_iconst 0 33 (gd rfl) rfl rfl ?_
              refine g_thr (E := am_IA) (y := yX11_allow) 36 (gd rfl) rfl rfl (Or.inl ⟨rfl, rfl, rfl⟩) (by first | exact dq1 hd rfl | exact dq0 hd rfl | exact dq2 hd rfl | exact dq3 hd rfl | omega) (Nat.le_of_ble_eq_true rfl) (Nat.le_of_ble_eq_true rfl) (Nat.le_of_ble_eq_true rfl) (fun c33 => ?_) (fun c33 => ?_)
              · skip
                exact zn_ne c33 (in_c 0 rfl) rfl
              · skip
                exact (hX _ _ ⟨rfl, s, hI, fr_rf, rfl⟩)
            · skip
              exact zn_ne c21 (in_c 0 rfl) rfl
          · skip
            have i18x1 := z_ge 0 2147483647 c18x1 (i_rng x2) rfl
            refine g_iload_n 5 (gd rfl) rfl rfl ?_
            refine g_aload_n 6 (gd rfl) rfl rfl ?_
            refine g_getI 9 (gd rfl) rfl rfl rfl (fun z18x6 e18x6 => ?_)
            have q18x6 : u_32_1 = z18x6 := (e_32_1).trans e18x6.symm
            subst q18x6
            refine g_cmp_ge 12 16 (gd rfl) rfl rfl (fun c18x9 => ?_) (fun c18x9 => ?_)
            · skip
              have i18x9 := r_le2 1 2147483647 c18x9 i9x9a i18x1 rfl
              refine g_iconst 0 17 (gd rfl) rfl rfl ?_
              refine g_ireturn (gd rfl) rfl (nb01 (in_w 0 1 (in_c 0 rfl) rfl)) (hp18 _ _ ?_)
              show GG _ _ _ _ _ _ _ _ [.int (Int32.ofInt 0)] _ _ _
              refine g_if_eq 24 32 (gd rfl) rfl rfl (fun c21 => ?_) (fun c21 => ?_)
              · skip
                refine g_iconst 0 33 (gd rfl) rfl rfl ?_
                refine g_thr (E := am_IA) (y := yX11_allow) 36 (gd rfl) rfl rfl (Or.inl ⟨rfl, rfl, rfl⟩) (by first | exact dq1 hd rfl | exact dq0 hd rfl | exact dq2 hd rfl | exact dq3 hd rfl | omega) (Nat.le_of_ble_eq_true rfl) (Nat.le_of_ble_eq_true rfl) (Nat.le_of_ble_eq_true rfl) (fun c33 => ?_) (fun c33 => ?_)
                · skip
                  exact zn_ne c33 (in_c 0 rfl) rfl
                · skip
                  exact (hX _ _ ⟨rfl, s, hI, fr_rf, rfl⟩)
              · skip
                exact zn_ne c21 (in_c 0 rfl) rfl
            · skip
              have i18x9 := r_lt1 0 31 c18x9 i18x1 i9x9a rfl
              refine g_iconst 1 13 (gd rfl) rfl rfl ?_
              refine g_goto 17 (gd rfl) rfl ?_
              refine g_ireturn (gd rfl) rfl (nb01 (in_w 0 1 (in_c 1 rfl) rfl)) (hp18 _ _ ?_)
              show GG _ _ _ _ _ _ _ _ [.int (Int32.ofInt 1)] _ _ _
              refine g_if_eq 24 32 (gd rfl) rfl rfl (fun c21 => ?_) (fun c21 => ?_)
              · skip
                exact zn_eq c21 (in_c 1 rfl) rfl
              · skip
                refine g_iload_n 25 (gd rfl) rfl rfl ?_
                refine g_if_lt 28 32 (gd rfl) rfl rfl (fun c25 => ?_) (fun c25 => ?_)
                · skip
                  have i25 := z_lt (-2147483648) (-1) c25 (i_rng x3) rfl
                  refine g_iconst 0 33 (gd rfl) rfl rfl ?_
                  refine g_thr (E := am_IA) (y := yX11_allow) 36 (gd rfl) rfl rfl (Or.inl ⟨rfl, rfl, rfl⟩) (by first | exact dq1 hd rfl | exact dq0 hd rfl | exact dq2 hd rfl | exact dq3 hd rfl | omega) (Nat.le_of_ble_eq_true rfl) (Nat.le_of_ble_eq_true rfl) (Nat.le_of_ble_eq_true rfl) (fun c33 => ?_) (fun c33 => ?_)
                  · skip
                    exact zn_ne c33 (in_c 0 rfl) rfl
                  · skip
                    exact (hX _ _ ⟨rfl, s, hI, fr_rf, rfl⟩)
                · skip
                  have i25 := z_ge 0 2147483647 c25 (i_rng x3) rfl
                  refine g_iconst 1 29 (gd rfl) rfl rfl ?_
                  refine g_goto 33 (gd rfl) rfl ?_
                  refine g_thr (E := am_IA) (y := yX11_allow) 36 (gd rfl) rfl rfl (Or.inl ⟨rfl, rfl, rfl⟩) (by first | exact dq1 hd rfl | exact dq0 hd rfl | exact dq2 hd rfl | exact dq3 hd rfl | omega) (Nat.le_of_ble_eq_true rfl) (Nat.le_of_ble_eq_true rfl) (Nat.le_of_ble_eq_true rfl) (fun c33 => ?_) (fun c33 => ?_)
                  · skip
                    refine g_aload_n 37 (gd rfl) rfl rfl ?_
                    refine g_getA (q2 := 49) 40 (gd rfl) rfl rfl rfl rfl ?_
                    refine g_aload 42 (gd rfl) rfl rfl ?_
                    refine g_iload_n 43 (gd rfl) rfl rfl ?_
                    refine g_iload_n 44 (gd rfl) rfl rfl ?_
                    refine g_iload_n 45 (gd rfl) rfl rfl ?_
                    refine g_callv (X := _) (As := [.ref (A 32), .int x1, .int x2, .int x3]) (r := []) (b := A 49) (q := 49) 48 (gd rfl) rfl rfl rfl rfl rfl (ww_o rfl) (Nat.le_of_ble_eq_true rfl) (Nat.zero_le _) (Nat.zero_le _) (k_195_49_32 (by first | exact dq1 hd rfl | exact dq0 hd rfl | exact dq2 hd rfl | exact dq3 hd rfl | omega) hI (in_w 0 31 i9x9 rfl) (in_w 0 31 i18x9 rfl) (in_w 0 2147483647 i25 rfl)) (fun e u h => h) (fun v u h => ?_)
                    obtain ⟨s45, hI45, hF45, z45, rfl, rfl, i45⟩ := h
                    show GG _ _ _ _ _ _ _ _ [.int z45] _ _ _
                    exact g_ireturn (gd rfl) rfl rfl (hP _ _ ⟨s45, hI45, (fr_tr rfl fr_rf hF45), z45, rfl, rfl, in_w (-1) 159 i45 rfl⟩)
                  · skip
                    exact zn_eq c33 (in_c 1 rfl) rfl
  · skip
    have i1x5 := r_eq1 (-1) (-1) c1x5 ro_0_2 (in_c (-1) rfl) rfl
    refine g_aload_n 9 (gd rfl) rfl rfl ?_
    refine g_getA (q2 := 1) 12 (gd rfl) rfl rfl rfl rfl ?_
    refine g_getA (q2 := 2) 15 (gd rfl) rfl rfl rfl rfl ?_
    refine g_goto 22 (gd rfl) rfl ?_
    refine g_areturn (gd rfl) rfl (hp1 _ _ ?_)
    show GG _ _ _ _ _ _ _ _ [.ref (A 2)] _ _ _
    refine g_astore 6 (gd rfl) rfl (Nat.le_of_ble_eq_true rfl) ?_
    refine g_aload 8 (gd rfl) rfl rfl ?_
    refine g_iload_n 9 (gd rfl) rfl rfl ?_
    refine g_callv (X := _) (As := [.int x1]) (r := []) (b := A 2) (q := 2) 12 (gd rfl) rfl rfl rfl rfl rfl (ww_o rfl) (Nat.le_of_ble_eq_true rfl) (mc := 0) (ms := 0) (Nat.zero_le _) (Nat.zero_le _) (P := fun v u => _) ?_ (fun e u h => h) (fun v u h => h)
    intro po9 xx9 hp9 hx9
    refine g_enter2 (k := 94) (N := 300) (by first | exact dq1 hd rfl | exact dq0 hd rfl | exact dq2 hd rfl | exact dq3 hd rfl | omega) rfl (Nat.le_of_ble_eq_true rfl) ?_
    refine g_iload_n 1 (gd rfl) rfl rfl ?_
    refine g_if_lt 4 16 (gd rfl) rfl rfl (fun c9x1 => ?_) (fun c9x1 => ?_)
    · skip
      have i9x1 := z_lt (-2147483648) (-1) c9x1 (i_rng x1) rfl
      refine g_iconst 0 17 (gd rfl) rfl rfl ?_
      refine g_ireturn (gd rfl) rfl (nb01 (in_w 0 1 (in_c 0 rfl) rfl)) (hp9 _ _ ?_)
      show GG _ _ _ _ _ _ _ _ [.int (Int32.ofInt 0)] _ _ _
      refine g_if_eq 15 32 (gd rfl) rfl rfl (fun c12 => ?_) (fun c12 => ?_)
      · skip
        refine g_iconst 0 33 (gd rfl) rfl rfl ?_
        refine g_thr (E := am_IA) (y := yX11_allow) 36 (gd rfl) rfl rfl (Or.inl ⟨rfl, rfl, rfl⟩) (by first | exact dq1 hd rfl | exact dq0 hd rfl | exact dq2 hd rfl | exact dq3 hd rfl | omega) (Nat.le_of_ble_eq_true rfl) (Nat.le_of_ble_eq_true rfl) (Nat.le_of_ble_eq_true rfl) (fun c33 => ?_) (fun c33 => ?_)
        · skip
          exact zn_ne c33 (in_c 0 rfl) rfl
        · skip
          exact (hX _ _ ⟨rfl, s, hI, fr_rf, rfl⟩)
      · skip
        exact zn_ne c12 (in_c 0 rfl) rfl
    · skip
      have i9x1 := z_ge 0 2147483647 c9x1 (i_rng x1) rfl
      refine g_iload_n 5 (gd rfl) rfl rfl ?_
      refine g_aload_n 6 (gd rfl) rfl rfl ?_
      refine g_getI 9 (gd rfl) rfl rfl rfl (fun z9x6 e9x6 => ?_)
      have q9x6 : u_2_1 = z9x6 := (e_2_1).trans e9x6.symm
      subst q9x6
      refine g_cmp_ge 12 16 (gd rfl) rfl rfl (fun c9x9 => ?_) (fun c9x9 => ?_)
      · skip
        refine g_iconst 0 17 (gd rfl) rfl rfl ?_
        refine g_ireturn (gd rfl) rfl (nb01 (in_w 0 1 (in_c 0 rfl) rfl)) (hp9 _ _ ?_)
        show GG _ _ _ _ _ _ _ _ [.int (Int32.ofInt 0)] _ _ _
        refine g_if_eq 15 32 (gd rfl) rfl rfl (fun c12 => ?_) (fun c12 => ?_)
        · skip
          refine g_iconst 0 33 (gd rfl) rfl rfl ?_
          refine g_thr (E := am_IA) (y := yX11_allow) 36 (gd rfl) rfl rfl (Or.inl ⟨rfl, rfl, rfl⟩) (by first | exact dq1 hd rfl | exact dq0 hd rfl | exact dq2 hd rfl | exact dq3 hd rfl | omega) (Nat.le_of_ble_eq_true rfl) (Nat.le_of_ble_eq_true rfl) (Nat.le_of_ble_eq_true rfl) (fun c33 => ?_) (fun c33 => ?_)
          · skip
            exact zn_ne c33 (in_c 0 rfl) rfl
          · skip
            exact (hX _ _ ⟨rfl, s, hI, fr_rf, rfl⟩)
        · skip
          exact zn_ne c12 (in_c 0 rfl) rfl
      · skip
        have i9x9 := r_lt1 0 31 c9x9 i9x1 ro_2_1 rfl
        have i9x9a := r_lt2 1 32 c9x9 i9x1 ro_2_1 rfl
        refine g_iconst 1 13 (gd rfl) rfl rfl ?_
        refine g_goto 17 (gd rfl) rfl ?_
        refine g_ireturn (gd rfl) rfl (nb01 (in_w 0 1 (in_c 1 rfl) rfl)) (hp9 _ _ ?_)
        show GG _ _ _ _ _ _ _ _ [.int (Int32.ofInt 1)] _ _ _
        refine g_if_eq 15 32 (gd rfl) rfl rfl (fun c12 => ?_) (fun c12 => ?_)
        · skip
          exact zn_eq c12 (in_c 1 rfl) rfl
        · skip
          refine g_aload 17 (gd rfl) rfl rfl ?_
          refine g_iload_n 18 (gd rfl) rfl rfl ?_
          refine g_callv (X := _) (As := [.int x2]) (r := []) (b := A 2) (q := 2) 21 (gd rfl) rfl rfl rfl rfl rfl (ww_o rfl) (Nat.le_of_ble_eq_true rfl) (mc := 0) (ms := 0) (Nat.zero_le _) (Nat.zero_le _) (P := fun v u => _) ?_ (fun e u h => h) (fun v u h => h)
          intro po18 xx18 hp18 hx18
          refine g_enter2 (k := 94) (N := 300) (by first | exact dq1 hd rfl | exact dq0 hd rfl | exact dq2 hd rfl | exact dq3 hd rfl | omega) rfl (Nat.le_of_ble_eq_true rfl) ?_
          refine g_iload_n 1 (gd rfl) rfl rfl ?_
          refine g_if_lt 4 16 (gd rfl) rfl rfl (fun c18x1 => ?_) (fun c18x1 => ?_)
          · skip
            have i18x1 := z_lt (-2147483648) (-1) c18x1 (i_rng x2) rfl
            refine g_iconst 0 17 (gd rfl) rfl rfl ?_
            refine g_ireturn (gd rfl) rfl (nb01 (in_w 0 1 (in_c 0 rfl) rfl)) (hp18 _ _ ?_)
            show GG _ _ _ _ _ _ _ _ [.int (Int32.ofInt 0)] _ _ _
            refine g_if_eq 24 32 (gd rfl) rfl rfl (fun c21 => ?_) (fun c21 => ?_)
            · skip
              refine g_iconst 0 33 (gd rfl) rfl rfl ?_
              refine g_thr (E := am_IA) (y := yX11_allow) 36 (gd rfl) rfl rfl (Or.inl ⟨rfl, rfl, rfl⟩) (by first | exact dq1 hd rfl | exact dq0 hd rfl | exact dq2 hd rfl | exact dq3 hd rfl | omega) (Nat.le_of_ble_eq_true rfl) (Nat.le_of_ble_eq_true rfl) (Nat.le_of_ble_eq_true rfl) (fun c33 => ?_) (fun c33 => ?_)
              · skip
                exact zn_ne c33 (in_c 0 rfl) rfl
              · skip
                exact (hX _ _ ⟨rfl, s, hI, fr_rf, rfl⟩)
            · skip
              exact zn_ne c21 (in_c 0 rfl) rfl
          · skip
            have i18x1 := z_ge 0 2147483647 c18x1 (i_rng x2) rfl
            refine g_iload_n 5 (gd rfl) rfl rfl ?_
            refine g_aload_n 6 (gd rfl) rfl rfl ?_
            refine g_getI 9 (gd rfl) rfl rfl rfl (fun z18x6 e18x6 => ?_)
            have q18x6 : u_2_1 = z18x6 := (e_2_1).trans e18x6.symm
            subst q18x6
            refine g_cmp_ge 12 16 (gd rfl) rfl rfl (fun c18x9 => ?_) (fun c18x9 => ?_)
            · skip
              have i18x9 := r_le2 1 2147483647 c18x9 i9x9a i18x1 rfl
              refine g_iconst 0 17 (gd rfl) rfl rfl ?_
              refine g_ireturn (gd rfl) rfl (nb01 (in_w 0 1 (in_c 0 rfl) rfl)) (hp18 _ _ ?_)
              show GG _ _ _ _ _ _ _ _ [.int (Int32.ofInt 0)] _ _ _
              refine g_if_eq 24 32 (gd rfl) rfl rfl (fun c21 => ?_) (fun c21 => ?_)
              · skip
                refine g_iconst 0 33 (gd rfl) rfl rfl ?_
                refine g_thr (E := am_IA) (y := yX11_allow) 36 (gd rfl) rfl rfl (Or.inl ⟨rfl, rfl, rfl⟩) (by first | exact dq1 hd rfl | exact dq0 hd rfl | exact dq2 hd rfl | exact dq3 hd rfl | omega) (Nat.le_of_ble_eq_true rfl) (Nat.le_of_ble_eq_true rfl) (Nat.le_of_ble_eq_true rfl) (fun c33 => ?_) (fun c33 => ?_)
                · skip
                  exact zn_ne c33 (in_c 0 rfl) rfl
                · skip
                  exact (hX _ _ ⟨rfl, s, hI, fr_rf, rfl⟩)
              · skip
                exact zn_ne c21 (in_c 0 rfl) rfl
            · skip
              have i18x9 := r_lt1 0 31 c18x9 i18x1 i9x9a rfl
              refine g_iconst 1 13 (gd rfl) rfl rfl ?_
              refine g_goto 17 (gd rfl) rfl ?_
              refine g_ireturn (gd rfl) rfl (nb01 (in_w 0 1 (in_c 1 rfl) rfl)) (hp18 _ _ ?_)
              show GG _ _ _ _ _ _ _ _ [.int (Int32.ofInt 1)] _ _ _
              refine g_if_eq 24 32 (gd rfl) rfl rfl (fun c21 => ?_) (fun c21 => ?_)
              · skip
                exact zn_eq c21 (in_c 1 rfl) rfl
              · skip
                refine g_iload_n 25 (gd rfl) rfl rfl ?_
                refine g_if_lt 28 32 (gd rfl) rfl rfl (fun c25 => ?_) (fun c25 => ?_)
                · skip
                  have i25 := z_lt (-2147483648) (-1) c25 (i_rng x3) rfl
                  refine g_iconst 0 33 (gd rfl) rfl rfl ?_
                  refine g_thr (E := am_IA) (y := yX11_allow) 36 (gd rfl) rfl rfl (Or.inl ⟨rfl, rfl, rfl⟩) (by first | exact dq1 hd rfl | exact dq0 hd rfl | exact dq2 hd rfl | exact dq3 hd rfl | omega) (Nat.le_of_ble_eq_true rfl) (Nat.le_of_ble_eq_true rfl) (Nat.le_of_ble_eq_true rfl) (fun c33 => ?_) (fun c33 => ?_)
                  · skip
                    exact zn_ne c33 (in_c 0 rfl) rfl
                  · skip
                    exact (hX _ _ ⟨rfl, s, hI, fr_rf, rfl⟩)
                · skip
                  have i25 := z_ge 0 2147483647 c25 (i_rng x3) rfl
                  refine g_iconst 1 29 (gd rfl) rfl rfl ?_
                  refine g_goto 33 (gd rfl) rfl ?_
                  refine g_thr (E := am_IA) (y := yX11_allow) 36 (gd rfl) rfl rfl (Or.inl ⟨rfl, rfl, rfl⟩) (by first | exact dq1 hd rfl | exact dq0 hd rfl | exact dq2 hd rfl | exact dq3 hd rfl | omega) (Nat.le_of_ble_eq_true rfl) (Nat.le_of_ble_eq_true rfl) (Nat.le_of_ble_eq_true rfl) (fun c33 => ?_) (fun c33 => ?_)
                  · skip
                    refine g_aload_n 37 (gd rfl) rfl rfl ?_
                    refine g_getA (q2 := 49) 40 (gd rfl) rfl rfl rfl rfl ?_
                    refine g_aload 42 (gd rfl) rfl rfl ?_
                    refine g_iload_n 43 (gd rfl) rfl rfl ?_
                    refine g_iload_n 44 (gd rfl) rfl rfl ?_
                    refine g_iload_n 45 (gd rfl) rfl rfl ?_
                    refine g_callv (X := _) (As := [.ref (A 2), .int x1, .int x2, .int x3]) (r := []) (b := A 49) (q := 49) 48 (gd rfl) rfl rfl rfl rfl rfl (ww_o rfl) (Nat.le_of_ble_eq_true rfl) (Nat.zero_le _) (Nat.zero_le _) (k_195_49_2 (by first | exact dq1 hd rfl | exact dq0 hd rfl | exact dq2 hd rfl | exact dq3 hd rfl | omega) hI (in_w 0 31 i9x9 rfl) (in_w 0 31 i18x9 rfl) (in_w 0 2147483647 i25 rfl)) (fun e u h => h) (fun v u h => ?_)
                    obtain ⟨s45, hI45, hF45, z45, rfl, rfl, i45⟩ := h
                    show GG _ _ _ _ _ _ _ _ [.int z45] _ _ _
                    exact g_ireturn (gd rfl) rfl rfl (hP _ _ ⟨s45, hI45, (fr_tr rfl fr_rf hF45), z45, rfl, rfl, in_w (-1) 159 i45 rfl⟩)
                  · skip
                    exact zn_eq c33 (in_c 1 rfl) rfl

def fm_232_0 : FM := ([9, 10, 11, 12, 13, 14, 15, 39, 40, 41, 42, 43, 44, 45], [55], [(2, 4), (32, 4), (49, 8), (49, 9), (49, 10), (49, 11)], [])
/-- GraphHouse.shorts -/
theorem k_232_0 {Z : AmZ} {A : Nat → Nat} {s : GS} {ex : va_W} {d : Nat} {x1 : Int32} {x2 : Int32} (hd : 24 ≤ d) (hI : Inv s)  : GC Z d 232 [.ref (A 0), .int x1, .int x2] (WW Z A s ++ ex) 3 18 (fun v u => ∃ t : GS, Inv t ∧ Fr fm_232_0 s t ∧ ∃ z : Int32, v = some (.int z) ∧ u = WW Z A t ++ ex ∧ In z (-2) 2000) (gE1 Z A ex fm_232_0 s) := by
  intro post xp hP hX
  obtain ⟨u_0_2, e_0_2⟩ : ∃ w, w = s.2.2.1 0 2 := ⟨_, rfl⟩
  have ro_0_2 := inv_F hI (-1) 4000 rfl e_0_2
  obtain ⟨u_2_1, e_2_1⟩ : ∃ w, w = s.2.2.1 2 1 := ⟨_, rfl⟩
  have ro_2_1 := inv_F hI 0 32 rfl e_2_1
  obtain ⟨u_32_1, e_32_1⟩ : ∃ w, w = s.2.2.1 32 1 := ⟨_, rfl⟩
  have ro_32_1 := inv_F hI 0 32 rfl e_32_1
  refine g_enter2 (k := 232) (N := 900) (by first | exact dq1 hd rfl | exact dq0 hd rfl | exact dq2 hd rfl | exact dq3 hd rfl | omega) rfl (Nat.le_of_ble_eq_true rfl) ?_
  refine g_aload_n 1 (gd rfl) rfl rfl ?_
  refine g_callv (X := _) (As := []) (r := []) (b := A 0) (q := 0) 4 (gd rfl) rfl rfl rfl rfl rfl (ww_o rfl) (Nat.le_of_ble_eq_true rfl) (mc := 0) (ms := 0) (Nat.zero_le _) (Nat.zero_le _) (P := fun v u => _) ?_ (fun e u h => h) (fun v u h => h)
  intro po1 xx1 hp1 hx1
  refine g_enter2 (k := 259) (N := 300) (by first | exact dq1 hd rfl | exact dq0 hd rfl | exact dq2 hd rfl | exact dq3 hd rfl | omega) rfl (Nat.le_of_ble_eq_true rfl) ?_
  refine g_aload_n 1 (gd rfl) rfl rfl ?_
  refine g_getI 4 (gd rfl) rfl rfl rfl (fun z1x1 e1x1 => ?_)
  have q1x1 : u_0_2 = z1x1 := (e_0_2).trans e1x1.symm
  subst q1x1
  refine g_iconst (-1) 5 (gd rfl) rfl rfl ?_
  refine g_cmp_ne 8 18 (gd rfl) rfl rfl (fun c1x5 => ?_) (fun c1x5 => ?_)
  · skip
    have i1x5 := r_ne1 0 4000 c1x5 ro_0_2 (in_c (-1) rfl) rfl
    refine g_aload_n 19 (gd rfl) rfl rfl ?_
    refine g_getA (q2 := 32) 22 (gd rfl) rfl rfl rfl rfl ?_
    refine g_areturn (gd rfl) rfl (hp1 _ _ ?_)
    show GG _ _ _ _ _ _ _ _ [.ref (A 32)] _ _ _
    refine g_astore_n 5 (gd rfl) rfl (Nat.le_of_ble_eq_true rfl) ?_
    refine g_aload_n 6 (gd rfl) rfl rfl ?_
    refine g_iload_n 7 (gd rfl) rfl rfl ?_
    refine g_iload_n 8 (gd rfl) rfl rfl ?_
    refine g_callv (X := _) (As := [.int x1, .int x2]) (r := []) (b := A 32) (q := 32) 11 (gd rfl) rfl rfl rfl rfl rfl (ww_o rfl) (Nat.le_of_ble_eq_true rfl) (mc := 0) (ms := 0) (Nat.zero_le _) (Nat.zero_le _) (P := fun v u => _) ?_ (fun e u h => h) (fun v u h => h)
    intro po8 xx8 hp8 hx8
    refine g_enter2 (k := 95) (N := 300) (by first | exact dq1 hd rfl | exact dq0 hd rfl | exact dq2 hd rfl | exact dq3 hd rfl | omega) rfl (Nat.le_of_ble_eq_true rfl) ?_
    refine g_aload_n 1 (gd rfl) rfl rfl ?_
    refine g_iload_n 2 (gd rfl) rfl rfl ?_
    refine g_callv (X := _) (As := [.int x1]) (r := []) (b := A 32) (q := 32) 5 (gd rfl) rfl rfl rfl rfl rfl (ww_o rfl) (Nat.le_of_ble_eq_true rfl) (mc := 0) (ms := 0) (Nat.zero_le _) (Nat.zero_le _) (P := fun v u => _) ?_ (fun e u h => h) (fun v u h => h)
    intro po8x2 xx8x2 hp8x2 hx8x2
    refine g_enter2 (k := 94) (N := 300) (by first | exact dq1 hd rfl | exact dq0 hd rfl | exact dq2 hd rfl | exact dq3 hd rfl | omega) rfl (Nat.le_of_ble_eq_true rfl) ?_
    refine g_iload_n 1 (gd rfl) rfl rfl ?_
    refine g_if_lt 4 16 (gd rfl) rfl rfl (fun c8x2x1 => ?_) (fun c8x2x1 => ?_)
    · skip
      have i8x2x1 := z_lt (-2147483648) (-1) c8x2x1 (i_rng x1) rfl
      refine g_iconst 0 17 (gd rfl) rfl rfl ?_
      refine g_ireturn (gd rfl) rfl (nb01 (in_w 0 1 (in_c 0 rfl) rfl)) (hp8x2 _ _ ?_)
      show GG _ _ _ _ _ _ _ _ [.int (Int32.ofInt 0)] _ _ _
      refine g_if_eq 8 25 (gd rfl) rfl rfl (fun c8x5 => ?_) (fun c8x5 => ?_)
      · skip
        refine g_iconst 0 26 (gd rfl) rfl rfl ?_
        refine g_ireturn (gd rfl) rfl (nb01 (in_w 0 1 (in_c 0 rfl) rfl)) (hp8 _ _ ?_)
        show GG _ _ _ _ _ _ _ _ [.int (Int32.ofInt 0)] _ _ _
        refine g_thr (E := am_IA) (y := yX11_allow) 14 (gd rfl) rfl rfl (Or.inl ⟨rfl, rfl, rfl⟩) (by first | exact dq1 hd rfl | exact dq0 hd rfl | exact dq2 hd rfl | exact dq3 hd rfl | omega) (Nat.le_of_ble_eq_true rfl) (Nat.le_of_ble_eq_true rfl) (Nat.le_of_ble_eq_true rfl) (fun c11 => ?_) (fun c11 => ?_)
        · skip
          exact zn_ne c11 (in_c 0 rfl) rfl
        · skip
          exact (hX _ _ ⟨rfl, s, hI, fr_rf, rfl⟩)
      · skip
        exact zn_ne c8x5 (in_c 0 rfl) rfl
    · skip
      have i8x2x1 := z_ge 0 2147483647 c8x2x1 (i_rng x1) rfl
      refine g_iload_n 5 (gd rfl) rfl rfl ?_
      refine g_aload_n 6 (gd rfl) rfl rfl ?_
      refine g_getI 9 (gd rfl) rfl rfl rfl (fun z8x2x6 e8x2x6 => ?_)
      have q8x2x6 : u_32_1 = z8x2x6 := (e_32_1).trans e8x2x6.symm
      subst q8x2x6
      refine g_cmp_ge 12 16 (gd rfl) rfl rfl (fun c8x2x9 => ?_) (fun c8x2x9 => ?_)
      · skip
        refine g_iconst 0 17 (gd rfl) rfl rfl ?_
        refine g_ireturn (gd rfl) rfl (nb01 (in_w 0 1 (in_c 0 rfl) rfl)) (hp8x2 _ _ ?_)
        show GG _ _ _ _ _ _ _ _ [.int (Int32.ofInt 0)] _ _ _
        refine g_if_eq 8 25 (gd rfl) rfl rfl (fun c8x5 => ?_) (fun c8x5 => ?_)
        · skip
          refine g_iconst 0 26 (gd rfl) rfl rfl ?_
          refine g_ireturn (gd rfl) rfl (nb01 (in_w 0 1 (in_c 0 rfl) rfl)) (hp8 _ _ ?_)
          show GG _ _ _ _ _ _ _ _ [.int (Int32.ofInt 0)] _ _ _
          refine g_thr (E := am_IA) (y := yX11_allow) 14 (gd rfl) rfl rfl (Or.inl ⟨rfl, rfl, rfl⟩) (by first | exact dq1 hd rfl | exact dq0 hd rfl | exact dq2 hd rfl | exact dq3 hd rfl | omega) (Nat.le_of_ble_eq_true rfl) (Nat.le_of_ble_eq_true rfl) (Nat.le_of_ble_eq_true rfl) (fun c11 => ?_) (fun c11 => ?_)
          · skip
            exact zn_ne c11 (in_c 0 rfl) rfl
          · skip
            exact (hX _ _ ⟨rfl, s, hI, fr_rf, rfl⟩)
        · skip
          exact zn_ne c8x5 (in_c 0 rfl) rfl
      · skip
        have i8x2x9 := r_lt1 0 31 c8x2x9 i8x2x1 ro_32_1 rfl
        have i8x2x9a := r_lt2 1 32 c8x2x9 i8x2x1 ro_32_1 rfl
        refine g_iconst 1 13 (gd rfl) rfl rfl ?_
        refine g_goto 17 (gd rfl) rfl ?_
        refine g_ireturn (gd rfl) rfl (nb01 (in_w 0 1 (in_c 1 rfl) rfl)) (hp8x2 _ _ ?_)
        show GG _ _ _ _ _ _ _ _ [.int (Int32.ofInt 1)] _ _ _
        refine g_if_eq 8 25 (gd rfl) rfl rfl (fun c8x5 => ?_) (fun c8x5 => ?_)
        · skip
          exact zn_eq c8x5 (in_c 1 rfl) rfl
        · skip
          refine g_aload_n 9 (gd rfl) rfl rfl ?_
          refine g_iload_n 10 (gd rfl) rfl rfl ?_
          refine g_callv (X := _) (As := [.int x2]) (r := []) (b := A 32) (q := 32) 13 (gd rfl) rfl rfl rfl rfl rfl (ww_o rfl) (Nat.le_of_ble_eq_true rfl) (mc := 0) (ms := 0) (Nat.zero_le _) (Nat.zero_le _) (P := fun v u => _) ?_ (fun e u h => h) (fun v u h => h)
          intro po8x10 xx8x10 hp8x10 hx8x10
          refine g_enter2 (k := 94) (N := 300) (by first | exact dq1 hd rfl | exact dq0 hd rfl | exact dq2 hd rfl | exact dq3 hd rfl | omega) rfl (Nat.le_of_ble_eq_true rfl) ?_
          refine g_iload_n 1 (gd rfl) rfl rfl ?_
          refine g_if_lt 4 16 (gd rfl) rfl rfl (fun c8x10x1 => ?_) (fun c8x10x1 => ?_)
          · skip
            have i8x10x1 := z_lt (-2147483648) (-1) c8x10x1 (i_rng x2) rfl
            refine g_iconst 0 17 (gd rfl) rfl rfl ?_
            refine g_ireturn (gd rfl) rfl (nb01 (in_w 0 1 (in_c 0 rfl) rfl)) (hp8x10 _ _ ?_)
            show GG _ _ _ _ _ _ _ _ [.int (Int32.ofInt 0)] _ _ _
            refine g_if_eq 16 25 (gd rfl) rfl rfl (fun c8x13 => ?_) (fun c8x13 => ?_)
            · skip
              refine g_iconst 0 26 (gd rfl) rfl rfl ?_
              refine g_ireturn (gd rfl) rfl (nb01 (in_w 0 1 (in_c 0 rfl) rfl)) (hp8 _ _ ?_)
              show GG _ _ _ _ _ _ _ _ [.int (Int32.ofInt 0)] _ _ _
              refine g_thr (E := am_IA) (y := yX11_allow) 14 (gd rfl) rfl rfl (Or.inl ⟨rfl, rfl, rfl⟩) (by first | exact dq1 hd rfl | exact dq0 hd rfl | exact dq2 hd rfl | exact dq3 hd rfl | omega) (Nat.le_of_ble_eq_true rfl) (Nat.le_of_ble_eq_true rfl) (Nat.le_of_ble_eq_true rfl) (fun c11 => ?_) (fun c11 => ?_)
              · skip
                exact zn_ne c11 (in_c 0 rfl) rfl
              · skip
                exact (hX _ _ ⟨rfl, s, hI, fr_rf, rfl⟩)
            · skip
              exact zn_ne c8x13 (in_c 0 rfl) rfl
          · skip
            have i8x10x1 := z_ge 0 2147483647 c8x10x1 (i_rng x2) rfl
            refine g_iload_n 5 (gd rfl) rfl rfl ?_
            refine g_aload_n 6 (gd rfl) rfl rfl ?_
            refine g_getI 9 (gd rfl) rfl rfl rfl (fun z8x10x6 e8x10x6 => ?_)
            have q8x10x6 : u_32_1 = z8x10x6 := (e_32_1).trans e8x10x6.symm
            subst q8x10x6
            refine g_cmp_ge 12 16 (gd rfl) rfl rfl (fun c8x10x9 => ?_) (fun c8x10x9 => ?_)
            · skip
              have i8x10x9 := r_le2 1 2147483647 c8x10x9 i8x2x9a i8x10x1 rfl
              refine g_iconst 0 17 (gd rfl) rfl rfl ?_
              refine g_ireturn (gd rfl) rfl (nb01 (in_w 0 1 (in_c 0 rfl) rfl)) (hp8x10 _ _ ?_)
              show GG _ _ _ _ _ _ _ _ [.int (Int32.ofInt 0)] _ _ _
              refine g_if_eq 16 25 (gd rfl) rfl rfl (fun c8x13 => ?_) (fun c8x13 => ?_)
              · skip
                refine g_iconst 0 26 (gd rfl) rfl rfl ?_
                refine g_ireturn (gd rfl) rfl (nb01 (in_w 0 1 (in_c 0 rfl) rfl)) (hp8 _ _ ?_)
                show GG _ _ _ _ _ _ _ _ [.int (Int32.ofInt 0)] _ _ _
                refine g_thr (E := am_IA) (y := yX11_allow) 14 (gd rfl) rfl rfl (Or.inl ⟨rfl, rfl, rfl⟩) (by first | exact dq1 hd rfl | exact dq0 hd rfl | exact dq2 hd rfl | exact dq3 hd rfl | omega) (Nat.le_of_ble_eq_true rfl) (Nat.le_of_ble_eq_true rfl) (Nat.le_of_ble_eq_true rfl) (fun c11 => ?_) (fun c11 => ?_)
                · skip
                  exact zn_ne c11 (in_c 0 rfl) rfl
                · skip
                  exact (hX _ _ ⟨rfl, s, hI, fr_rf, rfl⟩)
              · skip
                exact zn_ne c8x13 (in_c 0 rfl) rfl
            · skip
              have i8x10x9 := r_lt1 0 31 c8x10x9 i8x10x1 i8x2x9a rfl
              refine g_iconst 1 13 (gd rfl) rfl rfl ?_
              refine g_goto 17 (gd rfl) rfl ?_
              refine g_ireturn (gd rfl) rfl (nb01 (in_w 0 1 (in_c 1 rfl) rfl)) (hp8x10 _ _ ?_)
              show GG _ _ _ _ _ _ _ _ [.int (Int32.ofInt 1)] _ _ _
              refine g_if_eq 16 25 (gd rfl) rfl rfl (fun c8x13 => ?_) (fun c8x13 => ?_)
              · skip
                exact zn_eq c8x13 (in_c 1 rfl) rfl
              · skip
                refine g_iload_n 17 (gd rfl) rfl rfl ?_
                refine g_iload_n 18 (gd rfl) rfl rfl ?_
                refine g_cmp_eq 21 25 (gd rfl) rfl rfl (fun c8x18 => ?_) (fun c8x18 => ?_)
                · skip
                  refine g_iconst 0 26 (gd rfl) rfl rfl ?_
                  refine g_ireturn (gd rfl) rfl (nb01 (in_w 0 1 (in_c 0 rfl) rfl)) (hp8 _ _ ?_)
                  show GG _ _ _ _ _ _ _ _ [.int (Int32.ofInt 0)] _ _ _
                  refine g_thr (E := am_IA) (y := yX11_allow) 14 (gd rfl) rfl rfl (Or.inl ⟨rfl, rfl, rfl⟩) (by first | exact dq1 hd rfl | exact dq0 hd rfl | exact dq2 hd rfl | exact dq3 hd rfl | omega) (Nat.le_of_ble_eq_true rfl) (Nat.le_of_ble_eq_true rfl) (Nat.le_of_ble_eq_true rfl) (fun c11 => ?_) (fun c11 => ?_)
                  · skip
                    exact zn_ne c11 (in_c 0 rfl) rfl
                  · skip
                    exact (hX _ _ ⟨rfl, s, hI, fr_rf, rfl⟩)
                · skip
                  refine g_iconst 1 22 (gd rfl) rfl rfl ?_
                  refine g_goto 26 (gd rfl) rfl ?_
                  refine g_ireturn (gd rfl) rfl (nb01 (in_w 0 1 (in_c 1 rfl) rfl)) (hp8 _ _ ?_)
                  show GG _ _ _ _ _ _ _ _ [.int (Int32.ofInt 1)] _ _ _
                  refine g_thr (E := am_IA) (y := yX11_allow) 14 (gd rfl) rfl rfl (Or.inl ⟨rfl, rfl, rfl⟩) (by first | exact dq1 hd rfl | exact dq0 hd rfl | exact dq2 hd rfl | exact dq3 hd rfl | omega) (Nat.le_of_ble_eq_true rfl) (Nat.le_of_ble_eq_true rfl) (Nat.le_of_ble_eq_true rfl) (fun c11 => ?_) (fun c11 => ?_)
                  · skip
                    refine g_aload_n 15 (gd rfl) rfl rfl ?_
                    refine g_getA (q2 := 49) 18 (gd rfl) rfl rfl rfl rfl ?_
                    refine g_aload_n 19 (gd rfl) rfl rfl ?_
                    refine g_iload_n 20 (gd rfl) rfl rfl ?_
                    refine g_iload_n 21 (gd rfl) rfl rfl ?_
                    refine g_callv (X := _) (As := [.ref (A 32), .int x1, .int x2]) (r := []) (b := A 49) (q := 49) 24 (gd rfl) rfl rfl rfl rfl rfl (ww_o rfl) (Nat.le_of_ble_eq_true rfl) (mc := 0) (ms := 0) (Nat.zero_le _) (Nat.zero_le _) (P := fun v u => _) ?_ (fun e u h => h) (fun v u h => h)
                    intro po21 xx21 hp21 hx21
                    refine g_enter2 (k := 205) (N := 300) (by first | exact dq1 hd rfl | exact dq0 hd rfl | exact dq2 hd rfl | exact dq3 hd rfl | omega) rfl (Nat.le_of_ble_eq_true rfl) ?_
                    refine g_aload_n 1 (gd rfl) rfl rfl ?_
                    refine g_aload_n 2 (gd rfl) rfl rfl ?_
                    refine g_iload_n 3 (gd rfl) rfl rfl ?_
                    refine g_iload_n 4 (gd rfl) rfl rfl ?_
                    refine g_callv (X := _) (As := [.ref (A 32), .int x1, .int x2]) (r := []) (b := A 49) (q := 49) 7 (gd rfl) rfl rfl rfl rfl rfl (ww_o rfl) (Nat.le_of_ble_eq_true rfl) (Nat.zero_le _) (Nat.zero_le _) (k_207_49_32 (by first | exact dq1 hd rfl | exact dq0 hd rfl | exact dq2 hd rfl | exact dq3 hd rfl | omega) hI (in_w 0 31 i8x2x9 rfl) (in_w 0 31 i8x10x9 rfl)) (fun e u h => h) (fun v u h => ?_)
                    obtain ⟨s21x4, hI21x4, hF21x4, rfl, rfl⟩ := h
                    show GG _ _ _ _ _ _ _ _ [] _ _ _
                    refine g_aload_n 8 (gd rfl) rfl rfl ?_
                    refine g_getI 11 (gd rfl) rfl rfl rfl (fun z21x8 e21x8 => ?_)
                    have i21x8 := inv_F hI21x4 0 2001 rfl e21x8
                    refine g_sipush 2000 14 (gd rfl) rfl rfl ?_
                    refine g_cmp_le 17 22 (gd rfl) rfl rfl (fun c21x14 => ?_) (fun c21x14 => ?_)
                    · skip
                      have i21x14 := r_le1 0 2000 c21x14 i21x8 (in_c 2000 rfl) rfl
                      refine g_aload_n 23 (gd rfl) rfl rfl ?_
                      refine g_getI 26 (gd rfl) rfl rfl rfl (fun z21x23 e21x23 => ?_)
                      have q21x23 : z21x8 = z21x23 := (e21x8).trans e21x23.symm
                      subst q21x23
                      refine g_ireturn (gd rfl) rfl rfl (hp21 _ _ ?_)
                      show GG _ _ _ _ _ _ _ _ [.int z21x8] _ _ _
                      exact g_ireturn (gd rfl) rfl rfl (hP _ _ ⟨s21x4, hI21x4, (fr_tr rfl fr_rf hF21x4), z21x8, rfl, rfl, in_w (-2) 2000 i21x14 rfl⟩)
                    · skip
                      have i21x14 := r_lt2 2001 2001 c21x14 (in_c 2000 rfl) i21x8 rfl
                      refine g_bipush (-2) 19 (gd rfl) rfl rfl ?_
                      refine g_goto 26 (gd rfl) rfl ?_
                      refine g_ireturn (gd rfl) rfl rfl (hp21 _ _ ?_)
                      show GG _ _ _ _ _ _ _ _ [.int (Int32.ofInt (-2))] _ _ _
                      exact g_ireturn (gd rfl) rfl rfl (hP _ _ ⟨s21x4, hI21x4, (fr_tr rfl fr_rf hF21x4), (Int32.ofInt (-2)), rfl, rfl, in_w (-2) 2000 (in_c (-2) rfl) rfl⟩)
                  · skip
                    exact zn_eq c11 (in_c 1 rfl) rfl
  · skip
    have i1x5 := r_eq1 (-1) (-1) c1x5 ro_0_2 (in_c (-1) rfl) rfl
    refine g_aload_n 9 (gd rfl) rfl rfl ?_
    refine g_getA (q2 := 1) 12 (gd rfl) rfl rfl rfl rfl ?_
    refine g_getA (q2 := 2) 15 (gd rfl) rfl rfl rfl rfl ?_
    refine g_goto 22 (gd rfl) rfl ?_
    refine g_areturn (gd rfl) rfl (hp1 _ _ ?_)
    show GG _ _ _ _ _ _ _ _ [.ref (A 2)] _ _ _
    refine g_astore_n 5 (gd rfl) rfl (Nat.le_of_ble_eq_true rfl) ?_
    refine g_aload_n 6 (gd rfl) rfl rfl ?_
    refine g_iload_n 7 (gd rfl) rfl rfl ?_
    refine g_iload_n 8 (gd rfl) rfl rfl ?_
    refine g_callv (X := _) (As := [.int x1, .int x2]) (r := []) (b := A 2) (q := 2) 11 (gd rfl) rfl rfl rfl rfl rfl (ww_o rfl) (Nat.le_of_ble_eq_true rfl) (mc := 0) (ms := 0) (Nat.zero_le _) (Nat.zero_le _) (P := fun v u => _) ?_ (fun e u h => h) (fun v u h => h)
    intro po8 xx8 hp8 hx8
    refine g_enter2 (k := 95) (N := 300) (by first | exact dq1 hd rfl | exact dq0 hd rfl | exact dq2 hd rfl | exact dq3 hd rfl | omega) rfl (Nat.le_of_ble_eq_true rfl) ?_
    refine g_aload_n 1 (gd rfl) rfl rfl ?_
    refine g_iload_n 2 (gd rfl) rfl rfl ?_
    refine g_callv (X := _) (As := [.int x1]) (r := []) (b := A 2) (q := 2) 5 (gd rfl) rfl rfl rfl rfl rfl (ww_o rfl) (Nat.le_of_ble_eq_true rfl) (mc := 0) (ms := 0) (Nat.zero_le _) (Nat.zero_le _) (P := fun v u => _) ?_ (fun e u h => h) (fun v u h => h)
    intro po8x2 xx8x2 hp8x2 hx8x2
    refine g_enter2 (k := 94) (N := 300) (by first | exact dq1 hd rfl | exact dq0 hd rfl | exact dq2 hd rfl | exact dq3 hd rfl | omega) rfl (Nat.le_of_ble_eq_true rfl) ?_
    refine g_iload_n 1 (gd rfl) rfl rfl ?_
    refine g_if_lt 4 16 (gd rfl) rfl rfl (fun c8x2x1 => ?_) (fun c8x2x1 => ?_)
    · skip
      have i8x2x1 := z_lt (-2147483648) (-1) c8x2x1 (i_rng x1) rfl
      refine g_iconst 0 17 (gd rfl) rfl rfl ?_
      refine g_ireturn (gd rfl) rfl (nb01 (in_w 0 1 (in_c 0 rfl) rfl)) (hp8x2 _ _ ?_)
      show GG _ _ _ _ _ _ _ _ [.int (Int32.ofInt 0)] _ _ _
      refine g_if_eq 8 25 (gd rfl) rfl rfl (fun c8x5 => ?_) (fun c8x5 => ?_)
      · skip
        refine g_iconst 0 26 (gd rfl) rfl rfl ?_
        refine g_ireturn (gd rfl) rfl (nb01 (in_w 0 1 (in_c 0 rfl) rfl)) (hp8 _ _ ?_)
        show GG _ _ _ _ _ _ _ _ [.int (Int32.ofInt 0)] _ _ _
        refine g_thr (E := am_IA) (y := yX11_allow) 14 (gd rfl) rfl rfl (Or.inl ⟨rfl, rfl, rfl⟩) (by first | exact dq1 hd rfl | exact dq0 hd rfl | exact dq2 hd rfl | exact dq3 hd rfl | omega) (Nat.le_of_ble_eq_true rfl) (Nat.le_of_ble_eq_true rfl) (Nat.le_of_ble_eq_true rfl) (fun c11 => ?_) (fun c11 => ?_)
        · skip
          exact zn_ne c11 (in_c 0 rfl) rfl
        · skip
          exact (hX _ _ ⟨rfl, s, hI, fr_rf, rfl⟩)
      · skip
        exact zn_ne c8x5 (in_c 0 rfl) rfl
    · skip
      have i8x2x1 := z_ge 0 2147483647 c8x2x1 (i_rng x1) rfl
      refine g_iload_n 5 (gd rfl) rfl rfl ?_
      refine g_aload_n 6 (gd rfl) rfl rfl ?_
      refine g_getI 9 (gd rfl) rfl rfl rfl (fun z8x2x6 e8x2x6 => ?_)
      have q8x2x6 : u_2_1 = z8x2x6 := (e_2_1).trans e8x2x6.symm
      subst q8x2x6
      refine g_cmp_ge 12 16 (gd rfl) rfl rfl (fun c8x2x9 => ?_) (fun c8x2x9 => ?_)
      · skip
        refine g_iconst 0 17 (gd rfl) rfl rfl ?_
        refine g_ireturn (gd rfl) rfl (nb01 (in_w 0 1 (in_c 0 rfl) rfl)) (hp8x2 _ _ ?_)
        show GG _ _ _ _ _ _ _ _ [.int (Int32.ofInt 0)] _ _ _
        refine g_if_eq 8 25 (gd rfl) rfl rfl (fun c8x5 => ?_) (fun c8x5 => ?_)
        · skip
          refine g_iconst 0 26 (gd rfl) rfl rfl ?_
          refine g_ireturn (gd rfl) rfl (nb01 (in_w 0 1 (in_c 0 rfl) rfl)) (hp8 _ _ ?_)
          show GG _ _ _ _ _ _ _ _ [.int (Int32.ofInt 0)] _ _ _
          refine g_thr (E := am_IA) (y := yX11_allow) 14 (gd rfl) rfl rfl (Or.inl ⟨rfl, rfl, rfl⟩) (by first | exact dq1 hd rfl | exact dq0 hd rfl | exact dq2 hd rfl | exact dq3 hd rfl | omega) (Nat.le_of_ble_eq_true rfl) (Nat.le_of_ble_eq_true rfl) (Nat.le_of_ble_eq_true rfl) (fun c11 => ?_) (fun c11 => ?_)
          · skip
            exact zn_ne c11 (in_c 0 rfl) rfl
          · skip
            exact (hX _ _ ⟨rfl, s, hI, fr_rf, rfl⟩)
        · skip
          exact zn_ne c8x5 (in_c 0 rfl) rfl
      · skip
        have i8x2x9 := r_lt1 0 31 c8x2x9 i8x2x1 ro_2_1 rfl
        have i8x2x9a := r_lt2 1 32 c8x2x9 i8x2x1 ro_2_1 rfl
        refine g_iconst 1 13 (gd rfl) rfl rfl ?_
        refine g_goto 17 (gd rfl) rfl ?_
        refine g_ireturn (gd rfl) rfl (nb01 (in_w 0 1 (in_c 1 rfl) rfl)) (hp8x2 _ _ ?_)
        show GG _ _ _ _ _ _ _ _ [.int (Int32.ofInt 1)] _ _ _
        refine g_if_eq 8 25 (gd rfl) rfl rfl (fun c8x5 => ?_) (fun c8x5 => ?_)
        · skip
          exact zn_eq c8x5 (in_c 1 rfl) rfl
        · skip
          refine g_aload_n 9 (gd rfl) rfl rfl ?_
          refine g_iload_n 10 (gd rfl) rfl rfl ?_
          refine g_callv (X := _) (As := [.int x2]) (r := []) (b := A 2) (q := 2) 13 (gd rfl) rfl rfl rfl rfl rfl (ww_o rfl) (Nat.le_of_ble_eq_true rfl) (mc := 0) (ms := 0) (Nat.zero_le _) (Nat.zero_le _) (P := fun v u => _) ?_ (fun e u h => h) (fun v u h => h)
          intro po8x10 xx8x10 hp8x10 hx8x10
          refine g_enter2 (k := 94) (N := 300) (by first | exact dq1 hd rfl | exact dq0 hd rfl | exact dq2 hd rfl | exact dq3 hd rfl | omega) rfl (Nat.le_of_ble_eq_true rfl) ?_
          refine g_iload_n 1 (gd rfl) rfl rfl ?_
          refine g_if_lt 4 16 (gd rfl) rfl rfl (fun c8x10x1 => ?_) (fun c8x10x1 => ?_)
          · skip
            have i8x10x1 := z_lt (-2147483648) (-1) c8x10x1 (i_rng x2) rfl
            refine g_iconst 0 17 (gd rfl) rfl rfl ?_
            refine g_ireturn (gd rfl) rfl (nb01 (in_w 0 1 (in_c 0 rfl) rfl)) (hp8x10 _ _ ?_)
            show GG _ _ _ _ _ _ _ _ [.int (Int32.ofInt 0)] _ _ _
            refine g_if_eq 16 25 (gd rfl) rfl rfl (fun c8x13 => ?_) (fun c8x13 => ?_)
            · skip
              refine g_iconst 0 26 (gd rfl) rfl rfl ?_
              refine g_ireturn (gd rfl) rfl (nb01 (in_w 0 1 (in_c 0 rfl) rfl)) (hp8 _ _ ?_)
              show GG _ _ _ _ _ _ _ _ [.int (Int32.ofInt 0)] _ _ _
              refine g_thr (E := am_IA) (y := yX11_allow) 14 (gd rfl) rfl rfl (Or.inl ⟨rfl, rfl, rfl⟩) (by first | exact dq1 hd rfl | exact dq0 hd rfl | exact dq2 hd rfl | exact dq3 hd rfl | omega) (Nat.le_of_ble_eq_true rfl) (Nat.le_of_ble_eq_true rfl) (Nat.le_of_ble_eq_true rfl) (fun c11 => ?_) (fun c11 => ?_)
              · skip
                exact zn_ne c11 (in_c 0 rfl) rfl
              · skip
                exact (hX _ _ ⟨rfl, s, hI, fr_rf, rfl⟩)
            · skip
              exact zn_ne c8x13 (in_c 0 rfl) rfl
          · skip
            have i8x10x1 := z_ge 0 2147483647 c8x10x1 (i_rng x2) rfl
            refine g_iload_n 5 (gd rfl) rfl rfl ?_
            refine g_aload_n 6 (gd rfl) rfl rfl ?_
            refine g_getI 9 (gd rfl) rfl rfl rfl (fun z8x10x6 e8x10x6 => ?_)
            have q8x10x6 : u_2_1 = z8x10x6 := (e_2_1).trans e8x10x6.symm
            subst q8x10x6
            refine g_cmp_ge 12 16 (gd rfl) rfl rfl (fun c8x10x9 => ?_) (fun c8x10x9 => ?_)
            · skip
              have i8x10x9 := r_le2 1 2147483647 c8x10x9 i8x2x9a i8x10x1 rfl
              refine g_iconst 0 17 (gd rfl) rfl rfl ?_
              refine g_ireturn (gd rfl) rfl (nb01 (in_w 0 1 (in_c 0 rfl) rfl)) (hp8x10 _ _ ?_)
              show GG _ _ _ _ _ _ _ _ [.int (Int32.ofInt 0)] _ _ _
              refine g_if_eq 16 25 (gd rfl) rfl rfl (fun c8x13 => ?_) (fun c8x13 => ?_)
              · skip
                refine g_iconst 0 26 (gd rfl) rfl rfl ?_
                refine g_ireturn (gd rfl) rfl (nb01 (in_w 0 1 (in_c 0 rfl) rfl)) (hp8 _ _ ?_)
                show GG _ _ _ _ _ _ _ _ [.int (Int32.ofInt 0)] _ _ _
                refine g_thr (E := am_IA) (y := yX11_allow) 14 (gd rfl) rfl rfl (Or.inl ⟨rfl, rfl, rfl⟩) (by first | exact dq1 hd rfl | exact dq0 hd rfl | exact dq2 hd rfl | exact dq3 hd rfl | omega) (Nat.le_of_ble_eq_true rfl) (Nat.le_of_ble_eq_true rfl) (Nat.le_of_ble_eq_true rfl) (fun c11 => ?_) (fun c11 => ?_)
                · skip
                  exact zn_ne c11 (in_c 0 rfl) rfl
                · skip
                  exact (hX _ _ ⟨rfl, s, hI, fr_rf, rfl⟩)
              · skip
                exact zn_ne c8x13 (in_c 0 rfl) rfl
            · skip
              have i8x10x9 := r_lt1 0 31 c8x10x9 i8x10x1 i8x2x9a rfl
              refine g_iconst 1 13 (gd rfl) rfl rfl ?_
              refine g_goto 17 (gd rfl) rfl ?_
              refine g_ireturn (gd rfl) rfl (nb01 (in_w 0 1 (in_c 1 rfl) rfl)) (hp8x10 _ _ ?_)
              show GG _ _ _ _ _ _ _ _ [.int (Int32.ofInt 1)] _ _ _
              refine g_if_eq 16 25 (gd rfl) rfl rfl (fun c8x13 => ?_) (fun c8x13 => ?_)
              · skip
                exact zn_eq c8x13 (in_c 1 rfl) rfl
              · skip
                refine g_iload_n 17 (gd rfl) rfl rfl ?_
                refine g_iload_n 18 (gd rfl) rfl rfl ?_
                refine g_cmp_eq 21 25 (gd rfl) rfl rfl (fun c8x18 => ?_) (fun c8x18 => ?_)
                · skip
                  refine g_iconst 0 26 (gd rfl) rfl rfl ?_
                  refine g_ireturn (gd rfl) rfl (nb01 (in_w 0 1 (in_c 0 rfl) rfl)) (hp8 _ _ ?_)
                  show GG _ _ _ _ _ _ _ _ [.int (Int32.ofInt 0)] _ _ _
                  refine g_thr (E := am_IA) (y := yX11_allow) 14 (gd rfl) rfl rfl (Or.inl ⟨rfl, rfl, rfl⟩) (by first | exact dq1 hd rfl | exact dq0 hd rfl | exact dq2 hd rfl | exact dq3 hd rfl | omega) (Nat.le_of_ble_eq_true rfl) (Nat.le_of_ble_eq_true rfl) (Nat.le_of_ble_eq_true rfl) (fun c11 => ?_) (fun c11 => ?_)
                  · skip
                    exact zn_ne c11 (in_c 0 rfl) rfl
                  · skip
                    exact (hX _ _ ⟨rfl, s, hI, fr_rf, rfl⟩)
                · skip
                  refine g_iconst 1 22 (gd rfl) rfl rfl ?_
                  refine g_goto 26 (gd rfl) rfl ?_
                  refine g_ireturn (gd rfl) rfl (nb01 (in_w 0 1 (in_c 1 rfl) rfl)) (hp8 _ _ ?_)
                  show GG _ _ _ _ _ _ _ _ [.int (Int32.ofInt 1)] _ _ _
                  refine g_thr (E := am_IA) (y := yX11_allow) 14 (gd rfl) rfl rfl (Or.inl ⟨rfl, rfl, rfl⟩) (by first | exact dq1 hd rfl | exact dq0 hd rfl | exact dq2 hd rfl | exact dq3 hd rfl | omega) (Nat.le_of_ble_eq_true rfl) (Nat.le_of_ble_eq_true rfl) (Nat.le_of_ble_eq_true rfl) (fun c11 => ?_) (fun c11 => ?_)
                  · skip
                    refine g_aload_n 15 (gd rfl) rfl rfl ?_
                    refine g_getA (q2 := 49) 18 (gd rfl) rfl rfl rfl rfl ?_
                    refine g_aload_n 19 (gd rfl) rfl rfl ?_
                    refine g_iload_n 20 (gd rfl) rfl rfl ?_
                    refine g_iload_n 21 (gd rfl) rfl rfl ?_
                    refine g_callv (X := _) (As := [.ref (A 2), .int x1, .int x2]) (r := []) (b := A 49) (q := 49) 24 (gd rfl) rfl rfl rfl rfl rfl (ww_o rfl) (Nat.le_of_ble_eq_true rfl) (mc := 0) (ms := 0) (Nat.zero_le _) (Nat.zero_le _) (P := fun v u => _) ?_ (fun e u h => h) (fun v u h => h)
                    intro po21 xx21 hp21 hx21
                    refine g_enter2 (k := 205) (N := 300) (by first | exact dq1 hd rfl | exact dq0 hd rfl | exact dq2 hd rfl | exact dq3 hd rfl | omega) rfl (Nat.le_of_ble_eq_true rfl) ?_
                    refine g_aload_n 1 (gd rfl) rfl rfl ?_
                    refine g_aload_n 2 (gd rfl) rfl rfl ?_
                    refine g_iload_n 3 (gd rfl) rfl rfl ?_
                    refine g_iload_n 4 (gd rfl) rfl rfl ?_
                    refine g_callv (X := _) (As := [.ref (A 2), .int x1, .int x2]) (r := []) (b := A 49) (q := 49) 7 (gd rfl) rfl rfl rfl rfl rfl (ww_o rfl) (Nat.le_of_ble_eq_true rfl) (Nat.zero_le _) (Nat.zero_le _) (k_207_49_2 (by first | exact dq1 hd rfl | exact dq0 hd rfl | exact dq2 hd rfl | exact dq3 hd rfl | omega) hI (in_w 0 31 i8x2x9 rfl) (in_w 0 31 i8x10x9 rfl)) (fun e u h => h) (fun v u h => ?_)
                    obtain ⟨s21x4, hI21x4, hF21x4, rfl, rfl⟩ := h
                    show GG _ _ _ _ _ _ _ _ [] _ _ _
                    refine g_aload_n 8 (gd rfl) rfl rfl ?_
                    refine g_getI 11 (gd rfl) rfl rfl rfl (fun z21x8 e21x8 => ?_)
                    have i21x8 := inv_F hI21x4 0 2001 rfl e21x8
                    refine g_sipush 2000 14 (gd rfl) rfl rfl ?_
                    refine g_cmp_le 17 22 (gd rfl) rfl rfl (fun c21x14 => ?_) (fun c21x14 => ?_)
                    · skip
                      have i21x14 := r_le1 0 2000 c21x14 i21x8 (in_c 2000 rfl) rfl
                      refine g_aload_n 23 (gd rfl) rfl rfl ?_
                      refine g_getI 26 (gd rfl) rfl rfl rfl (fun z21x23 e21x23 => ?_)
                      have q21x23 : z21x8 = z21x23 := (e21x8).trans e21x23.symm
                      subst q21x23
                      refine g_ireturn (gd rfl) rfl rfl (hp21 _ _ ?_)
                      show GG _ _ _ _ _ _ _ _ [.int z21x8] _ _ _
                      exact g_ireturn (gd rfl) rfl rfl (hP _ _ ⟨s21x4, hI21x4, (fr_tr rfl fr_rf hF21x4), z21x8, rfl, rfl, in_w (-2) 2000 i21x14 rfl⟩)
                    · skip
                      have i21x14 := r_lt2 2001 2001 c21x14 (in_c 2000 rfl) i21x8 rfl
                      refine g_bipush (-2) 19 (gd rfl) rfl rfl ?_
                      refine g_goto 26 (gd rfl) rfl ?_
                      refine g_ireturn (gd rfl) rfl rfl (hp21 _ _ ?_)
                      show GG _ _ _ _ _ _ _ _ [.int (Int32.ofInt (-2))] _ _ _
                      exact g_ireturn (gd rfl) rfl rfl (hP _ _ ⟨s21x4, hI21x4, (fr_tr rfl fr_rf hF21x4), (Int32.ofInt (-2)), rfl, rfl, in_w (-2) 2000 (in_c (-2) rfl) rfl⟩)
                  · skip
                    exact zn_eq c11 (in_c 1 rfl) rfl

def fm_244_0 : FM := ([68, 69, 70, 71, 72, 73, 74], [75], [(65, 8), (65, 16), (65, 17)], [(65, 18)])
/-- GraphHouse.pairing -/
theorem k_244_0 {Z : AmZ} {A : Nat → Nat} {s : GS} {ex : va_W} {d : Nat} {x1 : Int32} (hd : 7 ≤ d) (hI : Inv s)  : GC Z d 244 [.ref (A 0), .int x1] (WW Z A s ++ ex) 3 18 (fun v u => ∃ t : GS, Inv t ∧ Fr fm_244_0 s t ∧ ∃ z : Int64, v = some (.long z) ∧ u = WW Z A t ++ ex) (gE1 Z A ex fm_244_0 s) := by
  intro post xp hP hX
  obtain ⟨u_0_2, e_0_2⟩ : ∃ w, w = s.2.2.1 0 2 := ⟨_, rfl⟩
  have ro_0_2 := inv_F hI (-1) 4000 rfl e_0_2
  refine g_enter2 (k := 244) (N := 900) (by first | exact dq1 hd rfl | exact dq0 hd rfl | exact dq2 hd rfl | exact dq3 hd rfl | omega) rfl (Nat.le_of_ble_eq_true rfl) ?_
  refine g_iload_n 1 (gd rfl) rfl rfl ?_
  refine g_if_lt 4 13 (gd rfl) rfl rfl (fun c1 => ?_) (fun c1 => ?_)
  · skip
    have i1 := z_lt (-2147483648) (-1) c1 (i_rng x1) rfl
    refine g_iconst 0 14 (gd rfl) rfl rfl ?_
    refine g_thr (E := am_IA) (y := yX11_allow) 17 (gd rfl) rfl rfl (Or.inl ⟨rfl, rfl, rfl⟩) (by first | exact dq1 hd rfl | exact dq0 hd rfl | exact dq2 hd rfl | exact dq3 hd rfl | omega) (Nat.le_of_ble_eq_true rfl) (Nat.le_of_ble_eq_true rfl) (Nat.le_of_ble_eq_true rfl) (fun c14 => ?_) (fun c14 => ?_)
    · skip
      exact zn_ne c14 (in_c 0 rfl) rfl
    · skip
      exact (hX _ _ ⟨rfl, s, hI, fr_rf, rfl⟩)
  · skip
    have i1 := z_ge 0 2147483647 c1 (i_rng x1) rfl
    refine g_iload_n 5 (gd rfl) rfl rfl ?_
    refine g_iconst 1 6 (gd rfl) rfl rfl ?_
    refine g_cmp_gt 9 13 (gd rfl) rfl rfl (fun c6 => ?_) (fun c6 => ?_)
    · skip
      have i6 := r_lt2 2 2147483647 c6 (in_c 1 rfl) i1 rfl
      refine g_iconst 0 14 (gd rfl) rfl rfl ?_
      refine g_thr (E := am_IA) (y := yX11_allow) 17 (gd rfl) rfl rfl (Or.inl ⟨rfl, rfl, rfl⟩) (by first | exact dq1 hd rfl | exact dq0 hd rfl | exact dq2 hd rfl | exact dq3 hd rfl | omega) (Nat.le_of_ble_eq_true rfl) (Nat.le_of_ble_eq_true rfl) (Nat.le_of_ble_eq_true rfl) (fun c14 => ?_) (fun c14 => ?_)
      · skip
        exact zn_ne c14 (in_c 0 rfl) rfl
      · skip
        exact (hX _ _ ⟨rfl, s, hI, fr_rf, rfl⟩)
    · skip
      have i6 := r_le1 0 1 c6 i1 (in_c 1 rfl) rfl
      refine g_iconst 1 10 (gd rfl) rfl rfl ?_
      refine g_goto 14 (gd rfl) rfl ?_
      refine g_thr (E := am_IA) (y := yX11_allow) 17 (gd rfl) rfl rfl (Or.inl ⟨rfl, rfl, rfl⟩) (by first | exact dq1 hd rfl | exact dq0 hd rfl | exact dq2 hd rfl | exact dq3 hd rfl | omega) (Nat.le_of_ble_eq_true rfl) (Nat.le_of_ble_eq_true rfl) (Nat.le_of_ble_eq_true rfl) (fun c14 => ?_) (fun c14 => ?_)
      · skip
        refine g_aload_n 18 (gd rfl) rfl rfl ?_
        refine g_getA (q2 := 65) 21 (gd rfl) rfl rfl rfl rfl ?_
        refine g_aload_n 22 (gd rfl) rfl rfl ?_
        refine g_callv (X := _) (As := []) (r := [.ref (A 65)]) (b := A 0) (q := 0) 25 (gd rfl) rfl rfl rfl rfl rfl (ww_o rfl) (Nat.le_of_ble_eq_true rfl) (mc := 0) (ms := 0) (Nat.zero_le _) (Nat.zero_le _) (P := fun v u => _) ?_ (fun e u h => h) (fun v u h => h)
        intro po22 xx22 hp22 hx22
        refine g_enter2 (k := 259) (N := 300) (by first | exact dq1 hd rfl | exact dq0 hd rfl | exact dq2 hd rfl | exact dq3 hd rfl | omega) rfl (Nat.le_of_ble_eq_true rfl) ?_
        refine g_aload_n 1 (gd rfl) rfl rfl ?_
        refine g_getI 4 (gd rfl) rfl rfl rfl (fun z22x1 e22x1 => ?_)
        have q22x1 : u_0_2 = z22x1 := (e_0_2).trans e22x1.symm
        subst q22x1
        refine g_iconst (-1) 5 (gd rfl) rfl rfl ?_
        refine g_cmp_ne 8 18 (gd rfl) rfl rfl (fun c22x5 => ?_) (fun c22x5 => ?_)
        · skip
          have i22x5 := r_ne1 0 4000 c22x5 ro_0_2 (in_c (-1) rfl) rfl
          refine g_aload_n 19 (gd rfl) rfl rfl ?_
          refine g_getA (q2 := 32) 22 (gd rfl) rfl rfl rfl rfl ?_
          refine g_areturn (gd rfl) rfl (hp22 _ _ ?_)
          show GG _ _ _ _ _ _ _ _ [.ref (A 32), .ref (A 65)] _ _ _
          refine g_callv (X := _) (As := [.ref (A 32)]) (r := []) (b := A 65) (q := 65) 28 (gd rfl) rfl rfl rfl rfl rfl (ww_o rfl) (Nat.le_of_ble_eq_true rfl) (Nat.zero_le _) (Nat.zero_le _) (k_89_65_32 (by first | exact dq1 hd rfl | exact dq0 hd rfl | exact dq2 hd rfl | exact dq3 hd rfl | omega) hI ) (fun e u h => h) (fun v u h => ?_)
          obtain ⟨s25, hI25, hF25, rfl, rfl⟩ := h
          show GG _ _ _ _ _ _ _ _ [] _ _ _
          refine g_iload_n 29 (gd rfl) rfl rfl ?_
          refine g_if_ne 32 43 (gd rfl) rfl rfl (fun c29 => ?_) (fun c29 => ?_)
          · skip
            have i29 := z_ne 1 1 c29 i6 rfl
            refine g_aload_n 44 (gd rfl) rfl rfl ?_
            refine g_getA (q2 := 65) 47 (gd rfl) rfl rfl rfl rfl ?_
            refine g_getL 50 (gd rfl) rfl rfl rfl (fun z47 e47 => ?_)
            exact g_lreturn (gd rfl) rfl (hP _ _ ⟨s25, hI25, (fr_tr rfl fr_rf hF25), z47, rfl, rfl⟩)
          · skip
            have i29 := z_eq 0 0 c29 i6 rfl
            refine g_aload_n 33 (gd rfl) rfl rfl ?_
            refine g_getA (q2 := 65) 36 (gd rfl) rfl rfl rfl rfl ?_
            refine g_getI 39 (gd rfl) rfl rfl rfl (fun z36 e36 => ?_)
            have i36 := inv_F hI25 0 32 rfl e36
            refine g_i2l 40 (gd rfl) rfl (fun z39 e39 => ?_)
            have i39 := l_i e39 i36
            refine g_goto 50 (gd rfl) rfl ?_
            exact g_lreturn (gd rfl) rfl (hP _ _ ⟨s25, hI25, (fr_tr rfl fr_rf hF25), z39, rfl, rfl⟩)
        · skip
          have i22x5 := r_eq1 (-1) (-1) c22x5 ro_0_2 (in_c (-1) rfl) rfl
          refine g_aload_n 9 (gd rfl) rfl rfl ?_
          refine g_getA (q2 := 1) 12 (gd rfl) rfl rfl rfl rfl ?_
          refine g_getA (q2 := 2) 15 (gd rfl) rfl rfl rfl rfl ?_
          refine g_goto 22 (gd rfl) rfl ?_
          refine g_areturn (gd rfl) rfl (hp22 _ _ ?_)
          show GG _ _ _ _ _ _ _ _ [.ref (A 2), .ref (A 65)] _ _ _
          refine g_callv (X := _) (As := [.ref (A 2)]) (r := []) (b := A 65) (q := 65) 28 (gd rfl) rfl rfl rfl rfl rfl (ww_o rfl) (Nat.le_of_ble_eq_true rfl) (Nat.zero_le _) (Nat.zero_le _) (k_89_65_2 (by first | exact dq1 hd rfl | exact dq0 hd rfl | exact dq2 hd rfl | exact dq3 hd rfl | omega) hI ) (fun e u h => h) (fun v u h => ?_)
          obtain ⟨s25, hI25, hF25, rfl, rfl⟩ := h
          show GG _ _ _ _ _ _ _ _ [] _ _ _
          refine g_iload_n 29 (gd rfl) rfl rfl ?_
          refine g_if_ne 32 43 (gd rfl) rfl rfl (fun c29 => ?_) (fun c29 => ?_)
          · skip
            have i29 := z_ne 1 1 c29 i6 rfl
            refine g_aload_n 44 (gd rfl) rfl rfl ?_
            refine g_getA (q2 := 65) 47 (gd rfl) rfl rfl rfl rfl ?_
            refine g_getL 50 (gd rfl) rfl rfl rfl (fun z47 e47 => ?_)
            exact g_lreturn (gd rfl) rfl (hP _ _ ⟨s25, hI25, (fr_tr rfl fr_rf hF25), z47, rfl, rfl⟩)
          · skip
            have i29 := z_eq 0 0 c29 i6 rfl
            refine g_aload_n 33 (gd rfl) rfl rfl ?_
            refine g_getA (q2 := 65) 36 (gd rfl) rfl rfl rfl rfl ?_
            refine g_getI 39 (gd rfl) rfl rfl rfl (fun z36 e36 => ?_)
            have i36 := inv_F hI25 0 32 rfl e36
            refine g_i2l 40 (gd rfl) rfl (fun z39 e39 => ?_)
            have i39 := l_i e39 i36
            refine g_goto 50 (gd rfl) rfl ?_
            exact g_lreturn (gd rfl) rfl (hP _ _ ⟨s25, hI25, (fr_tr rfl fr_rf hF25), z39, rfl, rfl⟩)
      · skip
        exact zn_eq c14 (in_c 1 rfl) rfl

def fm_247_0 : FM := ([], [85], [(76, 9), (76, 10)], [])
/-- GraphHouse.trees -/
theorem k_247_0 {Z : AmZ} {A : Nat → Nat} {s : GS} {ex : va_W} {d : Nat} {X : AmX}  (hd : 5 ≤ d) (hI : Inv s)  : GC Z d 247 [.ref (A 0)] (WW Z A s ++ ex) 3 18 (fun v u => ∃ t : GS, Inv t ∧ Fr fm_247_0 s t ∧ ∃ z : Int32, v = some (.int z) ∧ u = WW Z A t ++ ex ∧ In z (-2147483648) 2147483647) X := by
  intro post xp hP hX
  obtain ⟨u_0_2, e_0_2⟩ : ∃ w, w = s.2.2.1 0 2 := ⟨_, rfl⟩
  have ro_0_2 := inv_F hI (-1) 4000 rfl e_0_2
  obtain ⟨u_2_0, e_2_0⟩ : ∃ w, w = s.2.2.1 2 0 := ⟨_, rfl⟩
  have ro_2_0 := inv_F hI 0 4000 rfl e_2_0
  obtain ⟨u_2_1, e_2_1⟩ : ∃ w, w = s.2.2.1 2 1 := ⟨_, rfl⟩
  have ro_2_1 := inv_F hI 0 32 rfl e_2_1
  obtain ⟨u_32_0, e_32_0⟩ : ∃ w, w = s.2.2.1 32 0 := ⟨_, rfl⟩
  have ro_32_0 := inv_F hI 0 4000 rfl e_32_0
  obtain ⟨u_32_1, e_32_1⟩ : ∃ w, w = s.2.2.1 32 1 := ⟨_, rfl⟩
  have ro_32_1 := inv_F hI 0 32 rfl e_32_1
  refine g_enter2 (k := 247) (N := 900) (by first | exact dq1 hd rfl | exact dq0 hd rfl | exact dq2 hd rfl | exact dq3 hd rfl | omega) rfl (Nat.le_of_ble_eq_true rfl) ?_
  refine g_aload_n 1 (gd rfl) rfl rfl ?_
  refine g_getA (q2 := 76) 4 (gd rfl) rfl rfl rfl rfl ?_
  refine g_aload_n 5 (gd rfl) rfl rfl ?_
  refine g_callv (X := _) (As := []) (r := [.ref (A 76)]) (b := A 0) (q := 0) 8 (gd rfl) rfl rfl rfl rfl rfl (ww_o rfl) (Nat.le_of_ble_eq_true rfl) (mc := 0) (ms := 0) (Nat.zero_le _) (Nat.zero_le _) (P := fun v u => _) ?_ (fun e u h => h) (fun v u h => h)
  intro po5 xx5 hp5 hx5
  refine g_enter2 (k := 259) (N := 300) (by first | exact dq1 hd rfl | exact dq0 hd rfl | exact dq2 hd rfl | exact dq3 hd rfl | omega) rfl (Nat.le_of_ble_eq_true rfl) ?_
  refine g_aload_n 1 (gd rfl) rfl rfl ?_
  refine g_getI 4 (gd rfl) rfl rfl rfl (fun z5x1 e5x1 => ?_)
  have q5x1 : u_0_2 = z5x1 := (e_0_2).trans e5x1.symm
  subst q5x1
  refine g_iconst (-1) 5 (gd rfl) rfl rfl ?_
  refine g_cmp_ne 8 18 (gd rfl) rfl rfl (fun c5x5 => ?_) (fun c5x5 => ?_)
  · skip
    have i5x5 := r_ne1 0 4000 c5x5 ro_0_2 (in_c (-1) rfl) rfl
    refine g_aload_n 19 (gd rfl) rfl rfl ?_
    refine g_getA (q2 := 32) 22 (gd rfl) rfl rfl rfl rfl ?_
    refine g_areturn (gd rfl) rfl (hp5 _ _ ?_)
    show GG _ _ _ _ _ _ _ _ [.ref (A 32), .ref (A 76)] _ _ _
    refine g_callv (X := _) (As := [.ref (A 32)]) (r := []) (b := A 76) (q := 76) 11 (gd rfl) rfl rfl rfl rfl rfl (ww_o rfl) (Nat.le_of_ble_eq_true rfl) (mc := 0) (ms := 0) (Nat.zero_le _) (Nat.zero_le _) (P := fun v u => _) ?_ (fun e u h => h) (fun v u h => h)
    intro po8 xx8 hp8 hx8
    refine g_enter2 (k := 188) (N := 300) (by first | exact dq1 hd rfl | exact dq0 hd rfl | exact dq2 hd rfl | exact dq3 hd rfl | omega) rfl (Nat.le_of_ble_eq_true rfl) ?_
    refine g_aload_n 1 (gd rfl) rfl rfl ?_
    refine g_getI 4 (gd rfl) rfl rfl rfl (fun z8x1 e8x1 => ?_)
    have i8x1 := inv_F hI (-1) 4000 rfl e8x1
    refine g_aload_n 5 (gd rfl) rfl rfl ?_
    refine g_getI 8 (gd rfl) rfl rfl rfl (fun z8x5 e8x5 => ?_)
    have q8x5 : u_32_0 = z8x5 := (e_32_0).trans e8x5.symm
    subst q8x5
    refine g_cmp_eq 11 39 (gd rfl) rfl rfl (fun c8x8 => ?_) (fun c8x8 => ?_)
    · skip
      have i8x8 := r_eq1 0 4000 c8x8 i8x1 ro_32_0 rfl
      refine g_aload_n 40 (gd rfl) rfl rfl ?_
      refine g_getI 43 (gd rfl) rfl rfl rfl (fun z8x40 e8x40 => ?_)
      refine g_ireturn (gd rfl) rfl rfl (hp8 _ _ ?_)
      show GG _ _ _ _ _ _ _ _ [.int z8x40] _ _ _
      exact g_ireturn (gd rfl) rfl rfl (hP _ _ ⟨s, hI, fr_rf, z8x40, rfl, rfl, in_w (-2147483648) 2147483647 (i_rng z8x40) rfl⟩)
    · skip
      refine g_aload_n 12 (gd rfl) rfl rfl ?_
      refine g_aload_n 13 (gd rfl) rfl rfl ?_
      refine g_getI 16 (gd rfl) rfl rfl rfl (fun z8x13 e8x13 => ?_)
      have q8x13 : u_32_0 = z8x13 := (e_32_0).trans e8x13.symm
      subst q8x13
      refine g_putI 19 (gd rfl) rfl rfl rfl rfl ?_
      have hI8x16 := inv_sF (q := 76) (j := 9) hI rfl (in_w (-1) 4000 ro_32_0 rfl)
      refine g_aload_n 20 (gd rfl) rfl rfl ?_
      refine g_aload_n 21 (gd rfl) rfl rfl ?_
      refine g_getI 24 (gd rfl) rfl rfl rfl (fun z8x21 e8x21 => ?_)
      have q8x21 : u_32_1 = z8x21 := (sF_ne rfl (e_32_1)).trans e8x21.symm
      subst q8x21
      refine g_if_ne 27 31 (gd rfl) rfl rfl (fun c8x24 => ?_) (fun c8x24 => ?_)
      · skip
        have i8x24 := z_ne 1 32 c8x24 ro_32_1 rfl
        refine g_aload_n 32 (gd rfl) rfl rfl ?_
        refine g_aload_n 33 (gd rfl) rfl rfl ?_
        refine g_callv (X := _) (As := [.ref (A 32)]) (r := [.ref (A 76)]) (b := A 76) (q := 76) 36 (gd rfl) rfl rfl rfl rfl rfl (ww_o rfl) (Nat.le_of_ble_eq_true rfl) (Nat.zero_le _) (Nat.zero_le _) (k_189_76_32 (by first | exact dq1 hd rfl | exact dq0 hd rfl | exact dq2 hd rfl | exact dq3 hd rfl | omega) hI8x16 ) (fun e u h => h) (fun v u h => ?_)
        obtain ⟨s8x33, hI8x33, hF8x33, z8x33, rfl, rfl, i8x33⟩ := h
        show GG _ _ _ _ _ _ _ _ [.int z8x33, .ref (A 76)] _ _ _
        refine g_putI 39 (gd rfl) rfl rfl rfl rfl ?_
        have hI8x36 := inv_sF (q := 76) (j := 10) hI8x33 rfl (in_w (-2147483648) 2147483647 i8x33 rfl)
        refine g_aload_n 40 (gd rfl) rfl rfl ?_
        refine g_getI 43 (gd rfl) rfl rfl rfl (fun z8x40 e8x40 => ?_)
        have q8x40 : z8x33 = z8x40 := (sF_get).trans e8x40.symm
        subst q8x40
        refine g_ireturn (gd rfl) rfl rfl (hp8 _ _ ?_)
        show GG _ _ _ _ _ _ _ _ [.int z8x33] _ _ _
        exact g_ireturn (gd rfl) rfl rfl (hP _ _ ⟨(sF s8x33 76 10 z8x33), hI8x36, (fr_sF rfl (fr_tr rfl (fr_sF rfl fr_rf) hF8x33)), z8x33, rfl, rfl, in_w (-2147483648) 2147483647 i8x33 rfl⟩)
      · skip
        have i8x24 := z_eq 0 0 c8x24 ro_32_1 rfl
        refine g_iconst 0 28 (gd rfl) rfl rfl ?_
        refine g_goto 36 (gd rfl) rfl ?_
        refine g_putI 39 (gd rfl) rfl rfl rfl rfl ?_
        have hI8x36 := inv_sF (q := 76) (j := 10) hI8x16 rfl (in_w (-2147483648) 2147483647 (in_c 0 rfl) rfl)
        refine g_aload_n 40 (gd rfl) rfl rfl ?_
        refine g_getI 43 (gd rfl) rfl rfl rfl (fun z8x40 e8x40 => ?_)
        have q8x40 : (Int32.ofInt 0) = z8x40 := (sF_get).trans e8x40.symm
        subst q8x40
        refine g_ireturn (gd rfl) rfl rfl (hp8 _ _ ?_)
        show GG _ _ _ _ _ _ _ _ [.int (Int32.ofInt 0)] _ _ _
        exact g_ireturn (gd rfl) rfl rfl (hP _ _ ⟨(sF (sF s 76 9 u_32_0) 76 10 (Int32.ofInt 0)), hI8x36, (fr_sF rfl (fr_sF rfl fr_rf)), (Int32.ofInt 0), rfl, rfl, in_w (-2147483648) 2147483647 (in_c 0 rfl) rfl⟩)
  · skip
    have i5x5 := r_eq1 (-1) (-1) c5x5 ro_0_2 (in_c (-1) rfl) rfl
    refine g_aload_n 9 (gd rfl) rfl rfl ?_
    refine g_getA (q2 := 1) 12 (gd rfl) rfl rfl rfl rfl ?_
    refine g_getA (q2 := 2) 15 (gd rfl) rfl rfl rfl rfl ?_
    refine g_goto 22 (gd rfl) rfl ?_
    refine g_areturn (gd rfl) rfl (hp5 _ _ ?_)
    show GG _ _ _ _ _ _ _ _ [.ref (A 2), .ref (A 76)] _ _ _
    refine g_callv (X := _) (As := [.ref (A 2)]) (r := []) (b := A 76) (q := 76) 11 (gd rfl) rfl rfl rfl rfl rfl (ww_o rfl) (Nat.le_of_ble_eq_true rfl) (mc := 0) (ms := 0) (Nat.zero_le _) (Nat.zero_le _) (P := fun v u => _) ?_ (fun e u h => h) (fun v u h => h)
    intro po8 xx8 hp8 hx8
    refine g_enter2 (k := 188) (N := 300) (by first | exact dq1 hd rfl | exact dq0 hd rfl | exact dq2 hd rfl | exact dq3 hd rfl | omega) rfl (Nat.le_of_ble_eq_true rfl) ?_
    refine g_aload_n 1 (gd rfl) rfl rfl ?_
    refine g_getI 4 (gd rfl) rfl rfl rfl (fun z8x1 e8x1 => ?_)
    have i8x1 := inv_F hI (-1) 4000 rfl e8x1
    refine g_aload_n 5 (gd rfl) rfl rfl ?_
    refine g_getI 8 (gd rfl) rfl rfl rfl (fun z8x5 e8x5 => ?_)
    have q8x5 : u_2_0 = z8x5 := (e_2_0).trans e8x5.symm
    subst q8x5
    refine g_cmp_eq 11 39 (gd rfl) rfl rfl (fun c8x8 => ?_) (fun c8x8 => ?_)
    · skip
      have i8x8 := r_eq1 0 4000 c8x8 i8x1 ro_2_0 rfl
      refine g_aload_n 40 (gd rfl) rfl rfl ?_
      refine g_getI 43 (gd rfl) rfl rfl rfl (fun z8x40 e8x40 => ?_)
      refine g_ireturn (gd rfl) rfl rfl (hp8 _ _ ?_)
      show GG _ _ _ _ _ _ _ _ [.int z8x40] _ _ _
      exact g_ireturn (gd rfl) rfl rfl (hP _ _ ⟨s, hI, fr_rf, z8x40, rfl, rfl, in_w (-2147483648) 2147483647 (i_rng z8x40) rfl⟩)
    · skip
      refine g_aload_n 12 (gd rfl) rfl rfl ?_
      refine g_aload_n 13 (gd rfl) rfl rfl ?_
      refine g_getI 16 (gd rfl) rfl rfl rfl (fun z8x13 e8x13 => ?_)
      have q8x13 : u_2_0 = z8x13 := (e_2_0).trans e8x13.symm
      subst q8x13
      refine g_putI 19 (gd rfl) rfl rfl rfl rfl ?_
      have hI8x16 := inv_sF (q := 76) (j := 9) hI rfl (in_w (-1) 4000 ro_2_0 rfl)
      refine g_aload_n 20 (gd rfl) rfl rfl ?_
      refine g_aload_n 21 (gd rfl) rfl rfl ?_
      refine g_getI 24 (gd rfl) rfl rfl rfl (fun z8x21 e8x21 => ?_)
      have q8x21 : u_2_1 = z8x21 := (sF_ne rfl (e_2_1)).trans e8x21.symm
      subst q8x21
      refine g_if_ne 27 31 (gd rfl) rfl rfl (fun c8x24 => ?_) (fun c8x24 => ?_)
      · skip
        have i8x24 := z_ne 1 32 c8x24 ro_2_1 rfl
        refine g_aload_n 32 (gd rfl) rfl rfl ?_
        refine g_aload_n 33 (gd rfl) rfl rfl ?_
        refine g_callv (X := _) (As := [.ref (A 2)]) (r := [.ref (A 76)]) (b := A 76) (q := 76) 36 (gd rfl) rfl rfl rfl rfl rfl (ww_o rfl) (Nat.le_of_ble_eq_true rfl) (Nat.zero_le _) (Nat.zero_le _) (k_189_76_2 (by first | exact dq1 hd rfl | exact dq0 hd rfl | exact dq2 hd rfl | exact dq3 hd rfl | omega) hI8x16 ) (fun e u h => h) (fun v u h => ?_)
        obtain ⟨s8x33, hI8x33, hF8x33, z8x33, rfl, rfl, i8x33⟩ := h
        show GG _ _ _ _ _ _ _ _ [.int z8x33, .ref (A 76)] _ _ _
        refine g_putI 39 (gd rfl) rfl rfl rfl rfl ?_
        have hI8x36 := inv_sF (q := 76) (j := 10) hI8x33 rfl (in_w (-2147483648) 2147483647 i8x33 rfl)
        refine g_aload_n 40 (gd rfl) rfl rfl ?_
        refine g_getI 43 (gd rfl) rfl rfl rfl (fun z8x40 e8x40 => ?_)
        have q8x40 : z8x33 = z8x40 := (sF_get).trans e8x40.symm
        subst q8x40
        refine g_ireturn (gd rfl) rfl rfl (hp8 _ _ ?_)
        show GG _ _ _ _ _ _ _ _ [.int z8x33] _ _ _
        exact g_ireturn (gd rfl) rfl rfl (hP _ _ ⟨(sF s8x33 76 10 z8x33), hI8x36, (fr_sF rfl (fr_tr rfl (fr_sF rfl fr_rf) hF8x33)), z8x33, rfl, rfl, in_w (-2147483648) 2147483647 i8x33 rfl⟩)
      · skip
        have i8x24 := z_eq 0 0 c8x24 ro_2_1 rfl
        refine g_iconst 0 28 (gd rfl) rfl rfl ?_
        refine g_goto 36 (gd rfl) rfl ?_
        refine g_putI 39 (gd rfl) rfl rfl rfl rfl ?_
        have hI8x36 := inv_sF (q := 76) (j := 10) hI8x16 rfl (in_w (-2147483648) 2147483647 (in_c 0 rfl) rfl)
        refine g_aload_n 40 (gd rfl) rfl rfl ?_
        refine g_getI 43 (gd rfl) rfl rfl rfl (fun z8x40 e8x40 => ?_)
        have q8x40 : (Int32.ofInt 0) = z8x40 := (sF_get).trans e8x40.symm
        subst q8x40
        refine g_ireturn (gd rfl) rfl rfl (hp8 _ _ ?_)
        show GG _ _ _ _ _ _ _ _ [.int (Int32.ofInt 0)] _ _ _
        exact g_ireturn (gd rfl) rfl rfl (hP _ _ ⟨(sF (sF s 76 9 u_2_0) 76 10 (Int32.ofInt 0)), hI8x36, (fr_sF rfl (fr_sF rfl fr_rf)), (Int32.ofInt 0), rfl, rfl, in_w (-2147483648) 2147483647 (in_c 0 rfl) rfl⟩)

def fm_250_0 : FM := ([9, 10, 11, 12, 13, 14, 15, 39, 40, 41, 42, 43, 44, 45, 89, 90, 91, 92, 93], [], [(2, 4), (32, 4), (86, 4), (86, 5)], [])
def fm_254_0 : FM := ([9, 10, 11, 12, 13, 14, 15, 39, 40, 41, 42, 43, 44, 45], [99, 100, 101], [(2, 4), (32, 4)], [])
/-- GraphHouse.fits -/
theorem k_254_0 {Z : AmZ} {A : Nat → Nat} {s : GS} {ex : va_W} {d : Nat} {x1 : Int32} {x2 : Int32} (hd : 7 ≤ d) (hI : Inv s)  : GC Z d 254 [.ref (A 0), .int x1, .int x2] (WW Z A s ++ ex) 3 18 (fun v u => ∃ t : GS, Inv t ∧ Fr fm_254_0 s t ∧ ∃ z : Int32, v = some (.int z) ∧ u = WW Z A t ++ ex ∧ In z (-1) 1952) (gE1 Z A ex fm_254_0 s) := by
  intro post xp hP hX
  obtain ⟨u_0_2, e_0_2⟩ : ∃ w, w = s.2.2.1 0 2 := ⟨_, rfl⟩
  have ro_0_2 := inv_F hI (-1) 4000 rfl e_0_2
  obtain ⟨u_2_1, e_2_1⟩ : ∃ w, w = s.2.2.1 2 1 := ⟨_, rfl⟩
  have ro_2_1 := inv_F hI 0 32 rfl e_2_1
  obtain ⟨u_32_1, e_32_1⟩ : ∃ w, w = s.2.2.1 32 1 := ⟨_, rfl⟩
  have ro_32_1 := inv_F hI 0 32 rfl e_32_1
  refine g_enter2 (k := 254) (N := 900) (by first | exact dq1 hd rfl | exact dq0 hd rfl | exact dq2 hd rfl | exact dq3 hd rfl | omega) rfl (Nat.le_of_ble_eq_true rfl) ?_
  refine g_aload_n 1 (gd rfl) rfl rfl ?_
  refine g_callv (X := _) (As := []) (r := []) (b := A 0) (q := 0) 4 (gd rfl) rfl rfl rfl rfl rfl (ww_o rfl) (Nat.le_of_ble_eq_true rfl) (mc := 0) (ms := 0) (Nat.zero_le _) (Nat.zero_le _) (P := fun v u => _) ?_ (fun e u h => h) (fun v u h => h)
  intro po1 xx1 hp1 hx1
  refine g_enter2 (k := 259) (N := 300) (by first | exact dq1 hd rfl | exact dq0 hd rfl | exact dq2 hd rfl | exact dq3 hd rfl | omega) rfl (Nat.le_of_ble_eq_true rfl) ?_
  refine g_aload_n 1 (gd rfl) rfl rfl ?_
  refine g_getI 4 (gd rfl) rfl rfl rfl (fun z1x1 e1x1 => ?_)
  have q1x1 : u_0_2 = z1x1 := (e_0_2).trans e1x1.symm
  subst q1x1
  refine g_iconst (-1) 5 (gd rfl) rfl rfl ?_
  refine g_cmp_ne 8 18 (gd rfl) rfl rfl (fun c1x5 => ?_) (fun c1x5 => ?_)
  · skip
    have i1x5 := r_ne1 0 4000 c1x5 ro_0_2 (in_c (-1) rfl) rfl
    refine g_aload_n 19 (gd rfl) rfl rfl ?_
    refine g_getA (q2 := 32) 22 (gd rfl) rfl rfl rfl rfl ?_
    refine g_areturn (gd rfl) rfl (hp1 _ _ ?_)
    show GG _ _ _ _ _ _ _ _ [.ref (A 32)] _ _ _
    refine g_astore_n 5 (gd rfl) rfl (Nat.le_of_ble_eq_true rfl) ?_
    refine g_aload_n 6 (gd rfl) rfl rfl ?_
    refine g_iload_n 7 (gd rfl) rfl rfl ?_
    refine g_callv (X := _) (As := [.int x1]) (r := []) (b := A 32) (q := 32) 10 (gd rfl) rfl rfl rfl rfl rfl (ww_o rfl) (Nat.le_of_ble_eq_true rfl) (mc := 0) (ms := 0) (Nat.zero_le _) (Nat.zero_le _) (P := fun v u => _) ?_ (fun e u h => h) (fun v u h => h)
    intro po7 xx7 hp7 hx7
    refine g_enter2 (k := 94) (N := 300) (by first | exact dq1 hd rfl | exact dq0 hd rfl | exact dq2 hd rfl | exact dq3 hd rfl | omega) rfl (Nat.le_of_ble_eq_true rfl) ?_
    refine g_iload_n 1 (gd rfl) rfl rfl ?_
    refine g_if_lt 4 16 (gd rfl) rfl rfl (fun c7x1 => ?_) (fun c7x1 => ?_)
    · skip
      have i7x1 := z_lt (-2147483648) (-1) c7x1 (i_rng x1) rfl
      refine g_iconst 0 17 (gd rfl) rfl rfl ?_
      refine g_ireturn (gd rfl) rfl (nb01 (in_w 0 1 (in_c 0 rfl) rfl)) (hp7 _ _ ?_)
      show GG _ _ _ _ _ _ _ _ [.int (Int32.ofInt 0)] _ _ _
      refine g_if_eq 13 25 (gd rfl) rfl rfl (fun c10 => ?_) (fun c10 => ?_)
      · skip
        refine g_iconst 0 26 (gd rfl) rfl rfl ?_
        refine g_thr (E := am_IA) (y := yX11_allow) 29 (gd rfl) rfl rfl (Or.inl ⟨rfl, rfl, rfl⟩) (by first | exact dq1 hd rfl | exact dq0 hd rfl | exact dq2 hd rfl | exact dq3 hd rfl | omega) (Nat.le_of_ble_eq_true rfl) (Nat.le_of_ble_eq_true rfl) (Nat.le_of_ble_eq_true rfl) (fun c26 => ?_) (fun c26 => ?_)
        · skip
          exact zn_ne c26 (in_c 0 rfl) rfl
        · skip
          exact (hX _ _ ⟨rfl, s, hI, fr_rf, rfl⟩)
      · skip
        exact zn_ne c10 (in_c 0 rfl) rfl
    · skip
      have i7x1 := z_ge 0 2147483647 c7x1 (i_rng x1) rfl
      refine g_iload_n 5 (gd rfl) rfl rfl ?_
      refine g_aload_n 6 (gd rfl) rfl rfl ?_
      refine g_getI 9 (gd rfl) rfl rfl rfl (fun z7x6 e7x6 => ?_)
      have q7x6 : u_32_1 = z7x6 := (e_32_1).trans e7x6.symm
      subst q7x6
      refine g_cmp_ge 12 16 (gd rfl) rfl rfl (fun c7x9 => ?_) (fun c7x9 => ?_)
      · skip
        refine g_iconst 0 17 (gd rfl) rfl rfl ?_
        refine g_ireturn (gd rfl) rfl (nb01 (in_w 0 1 (in_c 0 rfl) rfl)) (hp7 _ _ ?_)
        show GG _ _ _ _ _ _ _ _ [.int (Int32.ofInt 0)] _ _ _
        refine g_if_eq 13 25 (gd rfl) rfl rfl (fun c10 => ?_) (fun c10 => ?_)
        · skip
          refine g_iconst 0 26 (gd rfl) rfl rfl ?_
          refine g_thr (E := am_IA) (y := yX11_allow) 29 (gd rfl) rfl rfl (Or.inl ⟨rfl, rfl, rfl⟩) (by first | exact dq1 hd rfl | exact dq0 hd rfl | exact dq2 hd rfl | exact dq3 hd rfl | omega) (Nat.le_of_ble_eq_true rfl) (Nat.le_of_ble_eq_true rfl) (Nat.le_of_ble_eq_true rfl) (fun c26 => ?_) (fun c26 => ?_)
          · skip
            exact zn_ne c26 (in_c 0 rfl) rfl
          · skip
            exact (hX _ _ ⟨rfl, s, hI, fr_rf, rfl⟩)
        · skip
          exact zn_ne c10 (in_c 0 rfl) rfl
      · skip
        have i7x9 := r_lt1 0 31 c7x9 i7x1 ro_32_1 rfl
        have i7x9a := r_lt2 1 32 c7x9 i7x1 ro_32_1 rfl
        refine g_iconst 1 13 (gd rfl) rfl rfl ?_
        refine g_goto 17 (gd rfl) rfl ?_
        refine g_ireturn (gd rfl) rfl (nb01 (in_w 0 1 (in_c 1 rfl) rfl)) (hp7 _ _ ?_)
        show GG _ _ _ _ _ _ _ _ [.int (Int32.ofInt 1)] _ _ _
        refine g_if_eq 13 25 (gd rfl) rfl rfl (fun c10 => ?_) (fun c10 => ?_)
        · skip
          exact zn_eq c10 (in_c 1 rfl) rfl
        · skip
          refine g_aload_n 14 (gd rfl) rfl rfl ?_
          refine g_iload_n 15 (gd rfl) rfl rfl ?_
          refine g_callv (X := _) (As := [.int x2]) (r := []) (b := A 32) (q := 32) 18 (gd rfl) rfl rfl rfl rfl rfl (ww_o rfl) (Nat.le_of_ble_eq_true rfl) (mc := 0) (ms := 0) (Nat.zero_le _) (Nat.zero_le _) (P := fun v u => _) ?_ (fun e u h => h) (fun v u h => h)
          intro po15 xx15 hp15 hx15
          refine g_enter2 (k := 94) (N := 300) (by first | exact dq1 hd rfl | exact dq0 hd rfl | exact dq2 hd rfl | exact dq3 hd rfl | omega) rfl (Nat.le_of_ble_eq_true rfl) ?_
          refine g_iload_n 1 (gd rfl) rfl rfl ?_
          refine g_if_lt 4 16 (gd rfl) rfl rfl (fun c15x1 => ?_) (fun c15x1 => ?_)
          · skip
            have i15x1 := z_lt (-2147483648) (-1) c15x1 (i_rng x2) rfl
            refine g_iconst 0 17 (gd rfl) rfl rfl ?_
            refine g_ireturn (gd rfl) rfl (nb01 (in_w 0 1 (in_c 0 rfl) rfl)) (hp15 _ _ ?_)
            show GG _ _ _ _ _ _ _ _ [.int (Int32.ofInt 0)] _ _ _
            refine g_if_eq 21 25 (gd rfl) rfl rfl (fun c18 => ?_) (fun c18 => ?_)
            · skip
              refine g_iconst 0 26 (gd rfl) rfl rfl ?_
              refine g_thr (E := am_IA) (y := yX11_allow) 29 (gd rfl) rfl rfl (Or.inl ⟨rfl, rfl, rfl⟩) (by first | exact dq1 hd rfl | exact dq0 hd rfl | exact dq2 hd rfl | exact dq3 hd rfl | omega) (Nat.le_of_ble_eq_true rfl) (Nat.le_of_ble_eq_true rfl) (Nat.le_of_ble_eq_true rfl) (fun c26 => ?_) (fun c26 => ?_)
              · skip
                exact zn_ne c26 (in_c 0 rfl) rfl
              · skip
                exact (hX _ _ ⟨rfl, s, hI, fr_rf, rfl⟩)
            · skip
              exact zn_ne c18 (in_c 0 rfl) rfl
          · skip
            have i15x1 := z_ge 0 2147483647 c15x1 (i_rng x2) rfl
            refine g_iload_n 5 (gd rfl) rfl rfl ?_
            refine g_aload_n 6 (gd rfl) rfl rfl ?_
            refine g_getI 9 (gd rfl) rfl rfl rfl (fun z15x6 e15x6 => ?_)
            have q15x6 : u_32_1 = z15x6 := (e_32_1).trans e15x6.symm
            subst q15x6
            refine g_cmp_ge 12 16 (gd rfl) rfl rfl (fun c15x9 => ?_) (fun c15x9 => ?_)
            · skip
              have i15x9 := r_le2 1 2147483647 c15x9 i7x9a i15x1 rfl
              refine g_iconst 0 17 (gd rfl) rfl rfl ?_
              refine g_ireturn (gd rfl) rfl (nb01 (in_w 0 1 (in_c 0 rfl) rfl)) (hp15 _ _ ?_)
              show GG _ _ _ _ _ _ _ _ [.int (Int32.ofInt 0)] _ _ _
              refine g_if_eq 21 25 (gd rfl) rfl rfl (fun c18 => ?_) (fun c18 => ?_)
              · skip
                refine g_iconst 0 26 (gd rfl) rfl rfl ?_
                refine g_thr (E := am_IA) (y := yX11_allow) 29 (gd rfl) rfl rfl (Or.inl ⟨rfl, rfl, rfl⟩) (by first | exact dq1 hd rfl | exact dq0 hd rfl | exact dq2 hd rfl | exact dq3 hd rfl | omega) (Nat.le_of_ble_eq_true rfl) (Nat.le_of_ble_eq_true rfl) (Nat.le_of_ble_eq_true rfl) (fun c26 => ?_) (fun c26 => ?_)
                · skip
                  exact zn_ne c26 (in_c 0 rfl) rfl
                · skip
                  exact (hX _ _ ⟨rfl, s, hI, fr_rf, rfl⟩)
              · skip
                exact zn_ne c18 (in_c 0 rfl) rfl
            · skip
              have i15x9 := r_lt1 0 31 c15x9 i15x1 i7x9a rfl
              refine g_iconst 1 13 (gd rfl) rfl rfl ?_
              refine g_goto 17 (gd rfl) rfl ?_
              refine g_ireturn (gd rfl) rfl (nb01 (in_w 0 1 (in_c 1 rfl) rfl)) (hp15 _ _ ?_)
              show GG _ _ _ _ _ _ _ _ [.int (Int32.ofInt 1)] _ _ _
              refine g_if_eq 21 25 (gd rfl) rfl rfl (fun c18 => ?_) (fun c18 => ?_)
              · skip
                exact zn_eq c18 (in_c 1 rfl) rfl
              · skip
                refine g_iconst 1 22 (gd rfl) rfl rfl ?_
                refine g_goto 26 (gd rfl) rfl ?_
                refine g_thr (E := am_IA) (y := yX11_allow) 29 (gd rfl) rfl rfl (Or.inl ⟨rfl, rfl, rfl⟩) (by first | exact dq1 hd rfl | exact dq0 hd rfl | exact dq2 hd rfl | exact dq3 hd rfl | omega) (Nat.le_of_ble_eq_true rfl) (Nat.le_of_ble_eq_true rfl) (Nat.le_of_ble_eq_true rfl) (fun c26 => ?_) (fun c26 => ?_)
                · skip
                  refine g_aload_n 30 (gd rfl) rfl rfl ?_
                  refine g_getA (q2 := 94) 33 (gd rfl) rfl rfl rfl rfl ?_
                  refine g_aload_n 34 (gd rfl) rfl rfl ?_
                  refine g_iload_n 35 (gd rfl) rfl rfl ?_
                  refine g_iload_n 36 (gd rfl) rfl rfl ?_
                  refine g_callv (X := _) (As := [.ref (A 32), .int x1, .int x2]) (r := []) (b := A 94) (q := 94) 39 (gd rfl) rfl rfl rfl rfl rfl (ww_o rfl) (Nat.le_of_ble_eq_true rfl) (Nat.zero_le _) (Nat.zero_le _) (k_163_94_32 (by first | exact dq1 hd rfl | exact dq0 hd rfl | exact dq2 hd rfl | exact dq3 hd rfl | omega) hI (in_w 0 31 i7x9 rfl) (in_w 0 31 i15x9 rfl)) (fun e u h => h) (fun v u h => ?_)
                  obtain ⟨s36, hI36, hF36, z36, rfl, rfl, i36⟩ := h
                  show GG _ _ _ _ _ _ _ _ [.int z36] _ _ _
                  exact g_ireturn (gd rfl) rfl rfl (hP _ _ ⟨s36, hI36, (fr_tr rfl fr_rf hF36), z36, rfl, rfl, in_w (-1) 1952 i36 rfl⟩)
                · skip
                  exact zn_eq c26 (in_c 1 rfl) rfl
  · skip
    have i1x5 := r_eq1 (-1) (-1) c1x5 ro_0_2 (in_c (-1) rfl) rfl
    refine g_aload_n 9 (gd rfl) rfl rfl ?_
    refine g_getA (q2 := 1) 12 (gd rfl) rfl rfl rfl rfl ?_
    refine g_getA (q2 := 2) 15 (gd rfl) rfl rfl rfl rfl ?_
    refine g_goto 22 (gd rfl) rfl ?_
    refine g_areturn (gd rfl) rfl (hp1 _ _ ?_)
    show GG _ _ _ _ _ _ _ _ [.ref (A 2)] _ _ _
    refine g_astore_n 5 (gd rfl) rfl (Nat.le_of_ble_eq_true rfl) ?_
    refine g_aload_n 6 (gd rfl) rfl rfl ?_
    refine g_iload_n 7 (gd rfl) rfl rfl ?_
    refine g_callv (X := _) (As := [.int x1]) (r := []) (b := A 2) (q := 2) 10 (gd rfl) rfl rfl rfl rfl rfl (ww_o rfl) (Nat.le_of_ble_eq_true rfl) (mc := 0) (ms := 0) (Nat.zero_le _) (Nat.zero_le _) (P := fun v u => _) ?_ (fun e u h => h) (fun v u h => h)
    intro po7 xx7 hp7 hx7
    refine g_enter2 (k := 94) (N := 300) (by first | exact dq1 hd rfl | exact dq0 hd rfl | exact dq2 hd rfl | exact dq3 hd rfl | omega) rfl (Nat.le_of_ble_eq_true rfl) ?_
    refine g_iload_n 1 (gd rfl) rfl rfl ?_
    refine g_if_lt 4 16 (gd rfl) rfl rfl (fun c7x1 => ?_) (fun c7x1 => ?_)
    · skip
      have i7x1 := z_lt (-2147483648) (-1) c7x1 (i_rng x1) rfl
      refine g_iconst 0 17 (gd rfl) rfl rfl ?_
      refine g_ireturn (gd rfl) rfl (nb01 (in_w 0 1 (in_c 0 rfl) rfl)) (hp7 _ _ ?_)
      show GG _ _ _ _ _ _ _ _ [.int (Int32.ofInt 0)] _ _ _
      refine g_if_eq 13 25 (gd rfl) rfl rfl (fun c10 => ?_) (fun c10 => ?_)
      · skip
        refine g_iconst 0 26 (gd rfl) rfl rfl ?_
        refine g_thr (E := am_IA) (y := yX11_allow) 29 (gd rfl) rfl rfl (Or.inl ⟨rfl, rfl, rfl⟩) (by first | exact dq1 hd rfl | exact dq0 hd rfl | exact dq2 hd rfl | exact dq3 hd rfl | omega) (Nat.le_of_ble_eq_true rfl) (Nat.le_of_ble_eq_true rfl) (Nat.le_of_ble_eq_true rfl) (fun c26 => ?_) (fun c26 => ?_)
        · skip
          exact zn_ne c26 (in_c 0 rfl) rfl
        · skip
          exact (hX _ _ ⟨rfl, s, hI, fr_rf, rfl⟩)
      · skip
        exact zn_ne c10 (in_c 0 rfl) rfl
    · skip
      have i7x1 := z_ge 0 2147483647 c7x1 (i_rng x1) rfl
      refine g_iload_n 5 (gd rfl) rfl rfl ?_
      refine g_aload_n 6 (gd rfl) rfl rfl ?_
      refine g_getI 9 (gd rfl) rfl rfl rfl (fun z7x6 e7x6 => ?_)
      have q7x6 : u_2_1 = z7x6 := (e_2_1).trans e7x6.symm
      subst q7x6
      refine g_cmp_ge 12 16 (gd rfl) rfl rfl (fun c7x9 => ?_) (fun c7x9 => ?_)
      · skip
        refine g_iconst 0 17 (gd rfl) rfl rfl ?_
        refine g_ireturn (gd rfl) rfl (nb01 (in_w 0 1 (in_c 0 rfl) rfl)) (hp7 _ _ ?_)
        show GG _ _ _ _ _ _ _ _ [.int (Int32.ofInt 0)] _ _ _
        refine g_if_eq 13 25 (gd rfl) rfl rfl (fun c10 => ?_) (fun c10 => ?_)
        · skip
          refine g_iconst 0 26 (gd rfl) rfl rfl ?_
          refine g_thr (E := am_IA) (y := yX11_allow) 29 (gd rfl) rfl rfl (Or.inl ⟨rfl, rfl, rfl⟩) (by first | exact dq1 hd rfl | exact dq0 hd rfl | exact dq2 hd rfl | exact dq3 hd rfl | omega) (Nat.le_of_ble_eq_true rfl) (Nat.le_of_ble_eq_true rfl) (Nat.le_of_ble_eq_true rfl) (fun c26 => ?_) (fun c26 => ?_)
          · skip
            exact zn_ne c26 (in_c 0 rfl) rfl
          · skip
            exact (hX _ _ ⟨rfl, s, hI, fr_rf, rfl⟩)
        · skip
          exact zn_ne c10 (in_c 0 rfl) rfl
      · skip
        have i7x9 := r_lt1 0 31 c7x9 i7x1 ro_2_1 rfl
        have i7x9a := r_lt2 1 32 c7x9 i7x1 ro_2_1 rfl
        refine g_iconst 1 13 (gd rfl) rfl rfl ?_
        refine g_goto 17 (gd rfl) rfl ?_
        refine g_ireturn (gd rfl) rfl (nb01 (in_w 0 1 (in_c 1 rfl) rfl)) (hp7 _ _ ?_)
        show GG _ _ _ _ _ _ _ _ [.int (Int32.ofInt 1)] _ _ _
        refine g_if_eq 13 25 (gd rfl) rfl rfl (fun c10 => ?_) (fun c10 => ?_)
        · skip
          exact zn_eq c10 (in_c 1 rfl) rfl
        · skip
          refine g_aload_n 14 (gd rfl) rfl rfl ?_
          refine g_iload_n 15 (gd rfl) rfl rfl ?_
          refine g_callv (X := _) (As := [.int x2]) (r := []) (b := A 2) (q := 2) 18 (gd rfl) rfl rfl rfl rfl rfl (ww_o rfl) (Nat.le_of_ble_eq_true rfl) (mc := 0) (ms := 0) (Nat.zero_le _) (Nat.zero_le _) (P := fun v u => _) ?_ (fun e u h => h) (fun v u h => h)
          intro po15 xx15 hp15 hx15
          refine g_enter2 (k := 94) (N := 300) (by first | exact dq1 hd rfl | exact dq0 hd rfl | exact dq2 hd rfl | exact dq3 hd rfl | omega) rfl (Nat.le_of_ble_eq_true rfl) ?_
          refine g_iload_n 1 (gd rfl) rfl rfl ?_
          refine g_if_lt 4 16 (gd rfl) rfl rfl (fun c15x1 => ?_) (fun c15x1 => ?_)
          · skip
            have i15x1 := z_lt (-2147483648) (-1) c15x1 (i_rng x2) rfl
            refine g_iconst 0 17 (gd rfl) rfl rfl ?_
            refine g_ireturn (gd rfl) rfl (nb01 (in_w 0 1 (in_c 0 rfl) rfl)) (hp15 _ _ ?_)
            show GG _ _ _ _ _ _ _ _ [.int (Int32.ofInt 0)] _ _ _
            refine g_if_eq 21 25 (gd rfl) rfl rfl (fun c18 => ?_) (fun c18 => ?_)
            · skip
              refine g_iconst 0 26 (gd rfl) rfl rfl ?_
              refine g_thr (E := am_IA) (y := yX11_allow) 29 (gd rfl) rfl rfl (Or.inl ⟨rfl, rfl, rfl⟩) (by first | exact dq1 hd rfl | exact dq0 hd rfl | exact dq2 hd rfl | exact dq3 hd rfl | omega) (Nat.le_of_ble_eq_true rfl) (Nat.le_of_ble_eq_true rfl) (Nat.le_of_ble_eq_true rfl) (fun c26 => ?_) (fun c26 => ?_)
              · skip
                exact zn_ne c26 (in_c 0 rfl) rfl
              · skip
                exact (hX _ _ ⟨rfl, s, hI, fr_rf, rfl⟩)
            · skip
              exact zn_ne c18 (in_c 0 rfl) rfl
          · skip
            have i15x1 := z_ge 0 2147483647 c15x1 (i_rng x2) rfl
            refine g_iload_n 5 (gd rfl) rfl rfl ?_
            refine g_aload_n 6 (gd rfl) rfl rfl ?_
            refine g_getI 9 (gd rfl) rfl rfl rfl (fun z15x6 e15x6 => ?_)
            have q15x6 : u_2_1 = z15x6 := (e_2_1).trans e15x6.symm
            subst q15x6
            refine g_cmp_ge 12 16 (gd rfl) rfl rfl (fun c15x9 => ?_) (fun c15x9 => ?_)
            · skip
              have i15x9 := r_le2 1 2147483647 c15x9 i7x9a i15x1 rfl
              refine g_iconst 0 17 (gd rfl) rfl rfl ?_
              refine g_ireturn (gd rfl) rfl (nb01 (in_w 0 1 (in_c 0 rfl) rfl)) (hp15 _ _ ?_)
              show GG _ _ _ _ _ _ _ _ [.int (Int32.ofInt 0)] _ _ _
              refine g_if_eq 21 25 (gd rfl) rfl rfl (fun c18 => ?_) (fun c18 => ?_)
              · skip
                refine g_iconst 0 26 (gd rfl) rfl rfl ?_
                refine g_thr (E := am_IA) (y := yX11_allow) 29 (gd rfl) rfl rfl (Or.inl ⟨rfl, rfl, rfl⟩) (by first | exact dq1 hd rfl | exact dq0 hd rfl | exact dq2 hd rfl | exact dq3 hd rfl | omega) (Nat.le_of_ble_eq_true rfl) (Nat.le_of_ble_eq_true rfl) (Nat.le_of_ble_eq_true rfl) (fun c26 => ?_) (fun c26 => ?_)
                · skip
                  exact zn_ne c26 (in_c 0 rfl) rfl
                · skip
                  exact (hX _ _ ⟨rfl, s, hI, fr_rf, rfl⟩)
              · skip
                exact zn_ne c18 (in_c 0 rfl) rfl
            · skip
              have i15x9 := r_lt1 0 31 c15x9 i15x1 i7x9a rfl
              refine g_iconst 1 13 (gd rfl) rfl rfl ?_
              refine g_goto 17 (gd rfl) rfl ?_
              refine g_ireturn (gd rfl) rfl (nb01 (in_w 0 1 (in_c 1 rfl) rfl)) (hp15 _ _ ?_)
              show GG _ _ _ _ _ _ _ _ [.int (Int32.ofInt 1)] _ _ _
              refine g_if_eq 21 25 (gd rfl) rfl rfl (fun c18 => ?_) (fun c18 => ?_)
              · skip
                exact zn_eq c18 (in_c 1 rfl) rfl
              · skip
                refine g_iconst 1 22 (gd rfl) rfl rfl ?_
                refine g_goto 26 (gd rfl) rfl ?_
                refine g_thr (E := am_IA) (y := yX11_allow) 29 (gd rfl) rfl rfl (Or.inl ⟨rfl, rfl, rfl⟩) (by first | exact dq1 hd rfl | exact dq0 hd rfl | exact dq2 hd rfl | exact dq3 hd rfl | omega) (Nat.le_of_ble_eq_true rfl) (Nat.le_of_ble_eq_true rfl) (Nat.le_of_ble_eq_true rfl) (fun c26 => ?_) (fun c26 => ?_)
                · skip
                  refine g_aload_n 30 (gd rfl) rfl rfl ?_
                  refine g_getA (q2 := 94) 33 (gd rfl) rfl rfl rfl rfl ?_
                  refine g_aload_n 34 (gd rfl) rfl rfl ?_
                  refine g_iload_n 35 (gd rfl) rfl rfl ?_
                  refine g_iload_n 36 (gd rfl) rfl rfl ?_
                  refine g_callv (X := _) (As := [.ref (A 2), .int x1, .int x2]) (r := []) (b := A 94) (q := 94) 39 (gd rfl) rfl rfl rfl rfl rfl (ww_o rfl) (Nat.le_of_ble_eq_true rfl) (Nat.zero_le _) (Nat.zero_le _) (k_163_94_2 (by first | exact dq1 hd rfl | exact dq0 hd rfl | exact dq2 hd rfl | exact dq3 hd rfl | omega) hI (in_w 0 31 i7x9 rfl) (in_w 0 31 i15x9 rfl)) (fun e u h => h) (fun v u h => ?_)
                  obtain ⟨s36, hI36, hF36, z36, rfl, rfl, i36⟩ := h
                  show GG _ _ _ _ _ _ _ _ [.int z36] _ _ _
                  exact g_ireturn (gd rfl) rfl rfl (hP _ _ ⟨s36, hI36, (fr_tr rfl fr_rf hF36), z36, rfl, rfl, in_w (-1) 1952 i36 rfl⟩)
                · skip
                  exact zn_eq c26 (in_c 1 rfl) rfl

def fm_256_0 : FM := ([9, 10, 11, 12, 13, 14, 15, 39, 40, 41, 42, 43, 44, 45], [105, 106, 107, 108], [(2, 4), (32, 4), (102, 9), (102, 10), (102, 11), (102, 12)], [])
/-- GraphHouse.run -/
theorem k_256_0 {Z : AmZ} {A : Nat → Nat} {s : GS} {ex : va_W} {d : Nat} {x1 : Int32} {x2 : Int32} {x3 : Int32} {x4 : Int64} (hd : 8 ≤ d) (hI : Inv s)  : GC Z d 256 [.ref (A 0), .int x1, .int x2, .int x3, .long x4] (WW Z A s ++ ex) 3 18 (fun v u => ∃ t : GS, Inv t ∧ Fr fm_256_0 s t ∧ ∃ z : Int32, v = some (.int z) ∧ u = WW Z A t ++ ex ∧ In z 0 200) (gE1 Z A ex fm_256_0 s) := by
  intro post xp hP hX
  obtain ⟨u_0_2, e_0_2⟩ : ∃ w, w = s.2.2.1 0 2 := ⟨_, rfl⟩
  have ro_0_2 := inv_F hI (-1) 4000 rfl e_0_2
  refine g_enter2 (k := 256) (N := 900) (by first | exact dq1 hd rfl | exact dq0 hd rfl | exact dq2 hd rfl | exact dq3 hd rfl | omega) rfl (Nat.le_of_ble_eq_true rfl) ?_
  refine g_iload_n 1 (gd rfl) rfl rfl ?_
  refine g_if_lt 4 35 (gd rfl) rfl rfl (fun c1 => ?_) (fun c1 => ?_)
  · skip
    have i1 := z_lt (-2147483648) (-1) c1 (i_rng x1) rfl
    refine g_iconst 0 36 (gd rfl) rfl rfl ?_
    refine g_thr (E := am_IA) (y := yX11_allow) 39 (gd rfl) rfl rfl (Or.inl ⟨rfl, rfl, rfl⟩) (by first | exact dq1 hd rfl | exact dq0 hd rfl | exact dq2 hd rfl | exact dq3 hd rfl | omega) (Nat.le_of_ble_eq_true rfl) (Nat.le_of_ble_eq_true rfl) (Nat.le_of_ble_eq_true rfl) (fun c36 => ?_) (fun c36 => ?_)
    · skip
      exact zn_ne c36 (in_c 0 rfl) rfl
    · skip
      exact (hX _ _ ⟨rfl, s, hI, fr_rf, rfl⟩)
  · skip
    have i1 := z_ge 0 2147483647 c1 (i_rng x1) rfl
    refine g_iload_n 5 (gd rfl) rfl rfl ?_
    refine g_sipush 200 8 (gd rfl) rfl rfl ?_
    refine g_cmp_gt 11 35 (gd rfl) rfl rfl (fun c8 => ?_) (fun c8 => ?_)
    · skip
      have i8 := r_lt2 201 2147483647 c8 (in_c 200 rfl) i1 rfl
      refine g_iconst 0 36 (gd rfl) rfl rfl ?_
      refine g_thr (E := am_IA) (y := yX11_allow) 39 (gd rfl) rfl rfl (Or.inl ⟨rfl, rfl, rfl⟩) (by first | exact dq1 hd rfl | exact dq0 hd rfl | exact dq2 hd rfl | exact dq3 hd rfl | omega) (Nat.le_of_ble_eq_true rfl) (Nat.le_of_ble_eq_true rfl) (Nat.le_of_ble_eq_true rfl) (fun c36 => ?_) (fun c36 => ?_)
      · skip
        exact zn_ne c36 (in_c 0 rfl) rfl
      · skip
        exact (hX _ _ ⟨rfl, s, hI, fr_rf, rfl⟩)
    · skip
      have i8 := r_le1 0 200 c8 i1 (in_c 200 rfl) rfl
      refine g_iload_n 12 (gd rfl) rfl rfl ?_
      refine g_iconst 1 13 (gd rfl) rfl rfl ?_
      refine g_cmp_lt 16 35 (gd rfl) rfl rfl (fun c13 => ?_) (fun c13 => ?_)
      · skip
        have i13 := r_lt1 (-2147483648) 0 c13 (i_rng x2) (in_c 1 rfl) rfl
        refine g_iconst 0 36 (gd rfl) rfl rfl ?_
        refine g_thr (E := am_IA) (y := yX11_allow) 39 (gd rfl) rfl rfl (Or.inl ⟨rfl, rfl, rfl⟩) (by first | exact dq1 hd rfl | exact dq0 hd rfl | exact dq2 hd rfl | exact dq3 hd rfl | omega) (Nat.le_of_ble_eq_true rfl) (Nat.le_of_ble_eq_true rfl) (Nat.le_of_ble_eq_true rfl) (fun c36 => ?_) (fun c36 => ?_)
        · skip
          exact zn_ne c36 (in_c 0 rfl) rfl
        · skip
          exact (hX _ _ ⟨rfl, s, hI, fr_rf, rfl⟩)
      · skip
        have i13 := r_le2 1 2147483647 c13 (in_c 1 rfl) (i_rng x2) rfl
        refine g_iload_n 17 (gd rfl) rfl rfl ?_
        refine g_iconst 4 18 (gd rfl) rfl rfl ?_
        refine g_cmp_gt 21 35 (gd rfl) rfl rfl (fun c18 => ?_) (fun c18 => ?_)
        · skip
          have i18 := r_lt2 5 2147483647 c18 (in_c 4 rfl) i13 rfl
          refine g_iconst 0 36 (gd rfl) rfl rfl ?_
          refine g_thr (E := am_IA) (y := yX11_allow) 39 (gd rfl) rfl rfl (Or.inl ⟨rfl, rfl, rfl⟩) (by first | exact dq1 hd rfl | exact dq0 hd rfl | exact dq2 hd rfl | exact dq3 hd rfl | omega) (Nat.le_of_ble_eq_true rfl) (Nat.le_of_ble_eq_true rfl) (Nat.le_of_ble_eq_true rfl) (fun c36 => ?_) (fun c36 => ?_)
          · skip
            exact zn_ne c36 (in_c 0 rfl) rfl
          · skip
            exact (hX _ _ ⟨rfl, s, hI, fr_rf, rfl⟩)
        · skip
          have i18 := r_le1 1 4 c18 i13 (in_c 4 rfl) rfl
          refine g_iload_n 22 (gd rfl) rfl rfl ?_
          refine g_if_lt 25 35 (gd rfl) rfl rfl (fun c22 => ?_) (fun c22 => ?_)
          · skip
            have i22 := z_lt (-2147483648) (-1) c22 (i_rng x3) rfl
            refine g_iconst 0 36 (gd rfl) rfl rfl ?_
            refine g_thr (E := am_IA) (y := yX11_allow) 39 (gd rfl) rfl rfl (Or.inl ⟨rfl, rfl, rfl⟩) (by first | exact dq1 hd rfl | exact dq0 hd rfl | exact dq2 hd rfl | exact dq3 hd rfl | omega) (Nat.le_of_ble_eq_true rfl) (Nat.le_of_ble_eq_true rfl) (Nat.le_of_ble_eq_true rfl) (fun c36 => ?_) (fun c36 => ?_)
            · skip
              exact zn_ne c36 (in_c 0 rfl) rfl
            · skip
              exact (hX _ _ ⟨rfl, s, hI, fr_rf, rfl⟩)
          · skip
            have i22 := z_ge 0 2147483647 c22 (i_rng x3) rfl
            refine g_iload_n 26 (gd rfl) rfl rfl ?_
            refine g_bipush 90 28 (gd rfl) rfl rfl ?_
            refine g_cmp_gt 31 35 (gd rfl) rfl rfl (fun c28 => ?_) (fun c28 => ?_)
            · skip
              have i28 := r_lt2 91 2147483647 c28 (in_c 90 rfl) i22 rfl
              refine g_iconst 0 36 (gd rfl) rfl rfl ?_
              refine g_thr (E := am_IA) (y := yX11_allow) 39 (gd rfl) rfl rfl (Or.inl ⟨rfl, rfl, rfl⟩) (by first | exact dq1 hd rfl | exact dq0 hd rfl | exact dq2 hd rfl | exact dq3 hd rfl | omega) (Nat.le_of_ble_eq_true rfl) (Nat.le_of_ble_eq_true rfl) (Nat.le_of_ble_eq_true rfl) (fun c36 => ?_) (fun c36 => ?_)
              · skip
                exact zn_ne c36 (in_c 0 rfl) rfl
              · skip
                exact (hX _ _ ⟨rfl, s, hI, fr_rf, rfl⟩)
            · skip
              have i28 := r_le1 0 90 c28 i22 (in_c 90 rfl) rfl
              refine g_iconst 1 32 (gd rfl) rfl rfl ?_
              refine g_goto 36 (gd rfl) rfl ?_
              refine g_thr (E := am_IA) (y := yX11_allow) 39 (gd rfl) rfl rfl (Or.inl ⟨rfl, rfl, rfl⟩) (by first | exact dq1 hd rfl | exact dq0 hd rfl | exact dq2 hd rfl | exact dq3 hd rfl | omega) (Nat.le_of_ble_eq_true rfl) (Nat.le_of_ble_eq_true rfl) (Nat.le_of_ble_eq_true rfl) (fun c36 => ?_) (fun c36 => ?_)
              · skip
                refine g_aload_n 40 (gd rfl) rfl rfl ?_
                refine g_callv (X := _) (As := []) (r := []) (b := A 0) (q := 0) 43 (gd rfl) rfl rfl rfl rfl rfl (ww_o rfl) (Nat.le_of_ble_eq_true rfl) (mc := 0) (ms := 0) (Nat.zero_le _) (Nat.zero_le _) (P := fun v u => _) ?_ (fun e u h => h) (fun v u h => h)
                intro po40 xx40 hp40 hx40
                refine g_enter2 (k := 259) (N := 300) (by first | exact dq1 hd rfl | exact dq0 hd rfl | exact dq2 hd rfl | exact dq3 hd rfl | omega) rfl (Nat.le_of_ble_eq_true rfl) ?_
                refine g_aload_n 1 (gd rfl) rfl rfl ?_
                refine g_getI 4 (gd rfl) rfl rfl rfl (fun z40x1 e40x1 => ?_)
                have q40x1 : u_0_2 = z40x1 := (e_0_2).trans e40x1.symm
                subst q40x1
                refine g_iconst (-1) 5 (gd rfl) rfl rfl ?_
                refine g_cmp_ne 8 18 (gd rfl) rfl rfl (fun c40x5 => ?_) (fun c40x5 => ?_)
                · skip
                  have i40x5 := r_ne1 0 4000 c40x5 ro_0_2 (in_c (-1) rfl) rfl
                  refine g_aload_n 19 (gd rfl) rfl rfl ?_
                  refine g_getA (q2 := 32) 22 (gd rfl) rfl rfl rfl rfl ?_
                  refine g_areturn (gd rfl) rfl (hp40 _ _ ?_)
                  show GG _ _ _ _ _ _ _ _ [.ref (A 32)] _ _ _
                  refine g_astore 45 (gd rfl) rfl (Nat.le_of_ble_eq_true rfl) ?_
                  refine g_aload_n 46 (gd rfl) rfl rfl ?_
                  refine g_getA (q2 := 102) 49 (gd rfl) rfl rfl rfl rfl ?_
                  refine g_aload 51 (gd rfl) rfl rfl ?_
                  refine g_iload_n 52 (gd rfl) rfl rfl ?_
                  refine g_callv (X := _) (As := [.ref (A 32), .int x1]) (r := []) (b := A 102) (q := 102) 55 (gd rfl) rfl rfl rfl rfl rfl (ww_o rfl) (Nat.le_of_ble_eq_true rfl) (Nat.zero_le _) (Nat.zero_le _) (k_63_102_32 (by first | exact dq1 hd rfl | exact dq0 hd rfl | exact dq2 hd rfl | exact dq3 hd rfl | omega) hI (in_w 0 200 i8 rfl)) (fun e u h => h) (fun v u h => ?_)
                  obtain ⟨s52, hI52, hF52, z52, rfl, rfl, i52⟩ := h
                  show GG _ _ _ _ _ _ _ _ [.int z52] _ _ _
                  refine g_istore 57 (gd rfl) rfl (Nat.le_of_ble_eq_true rfl) ?_
                  refine g_aload_n 58 (gd rfl) rfl rfl ?_
                  refine g_getA (q2 := 102) 61 (gd rfl) rfl rfl rfl rfl ?_
                  refine g_aload 63 (gd rfl) rfl rfl ?_
                  refine g_iload 65 (gd rfl) rfl rfl ?_
                  refine g_iload_n 66 (gd rfl) rfl rfl ?_
                  refine g_iload_n 67 (gd rfl) rfl rfl ?_
                  refine g_lload 69 (gd rfl) rfl rfl ?_
                  refine g_callv (X := _) (As := [.ref (A 32), .int z52, .int x2, .int x3, .long x4]) (r := []) (b := A 102) (q := 102) 72 (gd rfl) rfl rfl rfl rfl rfl (ww_o rfl) (Nat.le_of_ble_eq_true rfl) (Nat.zero_le _) (Nat.zero_le _) (k_70_102_32 (by first | exact dq1 hd rfl | exact dq0 hd rfl | exact dq2 hd rfl | exact dq3 hd rfl | omega) hI52 (in_w 0 200 i52 rfl) (in_w 1 4 i18 rfl) (in_w 0 90 i28 rfl)) (fun e u h => h) (fun v u h => ?_)
                  obtain ⟨s69, hI69, hF69, rfl, rfl⟩ := h
                  show GG _ _ _ _ _ _ _ _ [] _ _ _
                  refine g_iload 74 (gd rfl) rfl rfl ?_
                  exact g_ireturn (gd rfl) rfl rfl (hP _ _ ⟨s69, hI69, (fr_tr rfl (fr_tr rfl fr_rf hF52) hF69), z52, rfl, rfl, in_w 0 200 i52 rfl⟩)
                · skip
                  have i40x5 := r_eq1 (-1) (-1) c40x5 ro_0_2 (in_c (-1) rfl) rfl
                  refine g_aload_n 9 (gd rfl) rfl rfl ?_
                  refine g_getA (q2 := 1) 12 (gd rfl) rfl rfl rfl rfl ?_
                  refine g_getA (q2 := 2) 15 (gd rfl) rfl rfl rfl rfl ?_
                  refine g_goto 22 (gd rfl) rfl ?_
                  refine g_areturn (gd rfl) rfl (hp40 _ _ ?_)
                  show GG _ _ _ _ _ _ _ _ [.ref (A 2)] _ _ _
                  refine g_astore 45 (gd rfl) rfl (Nat.le_of_ble_eq_true rfl) ?_
                  refine g_aload_n 46 (gd rfl) rfl rfl ?_
                  refine g_getA (q2 := 102) 49 (gd rfl) rfl rfl rfl rfl ?_
                  refine g_aload 51 (gd rfl) rfl rfl ?_
                  refine g_iload_n 52 (gd rfl) rfl rfl ?_
                  refine g_callv (X := _) (As := [.ref (A 2), .int x1]) (r := []) (b := A 102) (q := 102) 55 (gd rfl) rfl rfl rfl rfl rfl (ww_o rfl) (Nat.le_of_ble_eq_true rfl) (Nat.zero_le _) (Nat.zero_le _) (k_63_102_2 (by first | exact dq1 hd rfl | exact dq0 hd rfl | exact dq2 hd rfl | exact dq3 hd rfl | omega) hI (in_w 0 200 i8 rfl)) (fun e u h => h) (fun v u h => ?_)
                  obtain ⟨s52, hI52, hF52, z52, rfl, rfl, i52⟩ := h
                  show GG _ _ _ _ _ _ _ _ [.int z52] _ _ _
                  refine g_istore 57 (gd rfl) rfl (Nat.le_of_ble_eq_true rfl) ?_
                  refine g_aload_n 58 (gd rfl) rfl rfl ?_
                  refine g_getA (q2 := 102) 61 (gd rfl) rfl rfl rfl rfl ?_
                  refine g_aload 63 (gd rfl) rfl rfl ?_
                  refine g_iload 65 (gd rfl) rfl rfl ?_
                  refine g_iload_n 66 (gd rfl) rfl rfl ?_
                  refine g_iload_n 67 (gd rfl) rfl rfl ?_
                  refine g_lload 69 (gd rfl) rfl rfl ?_
                  refine g_callv (X := _) (As := [.ref (A 2), .int z52, .int x2, .int x3, .long x4]) (r := []) (b := A 102) (q := 102) 72 (gd rfl) rfl rfl rfl rfl rfl (ww_o rfl) (Nat.le_of_ble_eq_true rfl) (Nat.zero_le _) (Nat.zero_le _) (k_70_102_2 (by first | exact dq1 hd rfl | exact dq0 hd rfl | exact dq2 hd rfl | exact dq3 hd rfl | omega) hI52 (in_w 0 200 i52 rfl) (in_w 1 4 i18 rfl) (in_w 0 90 i28 rfl)) (fun e u h => h) (fun v u h => ?_)
                  obtain ⟨s69, hI69, hF69, rfl, rfl⟩ := h
                  show GG _ _ _ _ _ _ _ _ [] _ _ _
                  refine g_iload 74 (gd rfl) rfl rfl ?_
                  exact g_ireturn (gd rfl) rfl rfl (hP _ _ ⟨s69, hI69, (fr_tr rfl (fr_tr rfl fr_rf hF52) hF69), z52, rfl, rfl, in_w 0 200 i52 rfl⟩)
              · skip
                exact zn_eq c36 (in_c 1 rfl) rfl
end
section
/-! methods, by vc.py -/
def fm_299 : FM := ([], [], [(109, 23), (109, 24), (109, 27), (109, 28), (109, 29), (109, 30)], [(109, 31)])
end
section
/-! methods, by vc.py -/
def fm_304 : FM := ([110, 112, 127, 128], [], [(109, 23), (109, 24), (109, 27), (109, 28), (109, 29), (109, 30), (109, 32)], [(109, 31)])
def fm_320 : FM := ([134], [135], [(109, 40)], [])
/-- GraphHouseModel.findShorts -/
theorem k_320 {Z : AmZ} {A : Nat → Nat} {s : GS} {ex : va_W} {d : Nat} {X : AmX} {x1 : Int32} {x2 : Int32} (hd : 6 ≤ d) (hI : Inv s) (h1 : In x1 0 31) (h2 : In x2 0 31) : GC Z d 320 [.ref (A 109), .int x1, .int x2] (WW Z A s ++ ex) 0 0 (fun v u => ∃ t : GS, Inv t ∧ Fr fm_320 s t ∧ v = none ∧ u = WW Z A t ++ ex) X := by
  intro post xp hP hX
  obtain ⟨u_109_19, e_109_19⟩ : ∃ w, w = s.2.2.1 109 19 := ⟨_, rfl⟩
  have ro_109_19 := inv_F hI 0 160 rfl e_109_19
  have ct7 : ∀ (k7 : Nat) (sc7 : GS) (y7_3 : Int32), Inv sc7 → Fr fm_320 s sc7 → (In y7_3 0 160) → 160 - (y7_3).toInt < (k7 : Int) → GG Z (d - 1) 320 post (gx xp) (1 + k7 * 900) 7 (fun j => xlook j [(0, .ref (A 109)), (1, .int x1), (2, .int x2), (3, .int y7_3)]) [] (WW Z A sc7 ++ ex) 0 0 := by
    intro k7
    induction k7 with
    | zero => intro sc7 y7_3 hIc7 hFc7 j7_3 mm7; exact m_no mm7 j7_3 rfl
    | succ k7 ih7 =>
      intro sc7 y7_3 hIc7 hFc7 j7_3 mm7
      refine gg_w (M := 1 + k7 * 900 + 900) gws ?_
      refine g_iload_n 8 (gd rfl) rfl rfl ?_
      refine g_sipush 160 11 (gd rfl) rfl rfl ?_
      refine g_cmp_ge 14 89 (gd rfl) rfl rfl (fun c11 => ?_) (fun c11 => ?_)
      · skip
        have i11 := r_le2 160 160 c11 (in_c 160 rfl) j7_3 rfl
        exact g_return (gd rfl) rfl (hP _ _ ⟨sc7, hIc7, hFc7, rfl, rfl⟩)
      · skip
        have i11 := r_lt1 0 159 c11 j7_3 (in_c 160 rfl) rfl
        refine g_aload_n 15 (gd rfl) rfl rfl ?_
        refine g_getI 18 (gd rfl) rfl rfl rfl (fun z15 e15 => ?_)
        have i15 := inv_F hIc7 0 2001 rfl e15
        refine g_sipush 2000 21 (gd rfl) rfl rfl ?_
        refine g_cmp_gt 24 89 (gd rfl) rfl rfl (fun c21 => ?_) (fun c21 => ?_)
        · skip
          have i21 := r_lt2 2001 2001 c21 (in_c 2000 rfl) i15 rfl
          exact g_return (gd rfl) rfl (hP _ _ ⟨sc7, hIc7, hFc7, rfl, rfl⟩)
        · skip
          have i21 := r_le1 0 2000 c21 i15 (in_c 2000 rfl) rfl
          refine g_aload_n 25 (gd rfl) rfl rfl ?_
          refine g_iload_n 26 (gd rfl) rfl rfl ?_
          refine g_iload_n 27 (gd rfl) rfl rfl ?_
          refine g_iconst 1 28 (gd rfl) rfl rfl ?_
          refine g_iload_n 29 (gd rfl) rfl rfl ?_
          refine g_ishl 30 (gd rfl) rfl (fun z29 e29 => ?_)
          refine g_callv (X := _) (As := [.int y7_3, .int x1, .int z29]) (r := []) (b := A 109) (q := 109) 33 (gd rfl) rfl rfl rfl rfl rfl (ww_o rfl) (Nat.le_of_ble_eq_true rfl) (mc := 0) (ms := 0) (Nat.zero_le _) (Nat.zero_le _) (P := fun v u => _) ?_ (fun e u h => h) (fun v u h => h)
          intro po30 xx30 hp30 hx30
          refine g_enter2 (k := 319) (N := 300) (by first | exact dq1 hd rfl | exact dq0 hd rfl | exact dq2 hd rfl | exact dq3 hd rfl | omega) rfl (Nat.le_of_ble_eq_true rfl) ?_
          refine g_aload_n 1 (gd rfl) rfl rfl ?_
          refine g_getA (q2 := 112) 4 (gd rfl) rfl rfl rfl rfl ?_
          refine g_aload_n 5 (gd rfl) rfl rfl ?_
          refine g_getI 8 (gd rfl) rfl rfl rfl (fun z30x5 e30x5 => ?_)
          have q30x5 : u_109_19 = z30x5 := (fr_F e_109_19 hFc7 rfl).trans e30x5.symm
          subst q30x5
          refine g_iload_n 9 (gd rfl) rfl rfl ?_
          refine g_iadd 10 (gd rfl) rfl (fun z30x9 e30x9 => ?_)
          have i30x9 := in_add 0 319 e30x9 ro_109_19 i11 rfl rfl
          refine g_baload 11 (gd rfl) rfl (n := 480) rfl (in_ix i30x9 rfl) (fun z30x10 e30x10 => ?_)
          have i30x10 := inv_I hIc7 (n := 480) (t := 3) 0 1 rfl (in_ix i30x9 rfl) rfl e30x10
          refine g_if_eq 14 51 (gd rfl) rfl rfl (fun c30x11 => ?_) (fun c30x11 => ?_)
          · skip
            have i30x11 := z_eq 0 0 c30x11 i30x10 rfl
            refine g_iconst 0 52 (gd rfl) rfl rfl ?_
            refine g_ireturn (gd rfl) rfl (nb01 (in_w 0 1 (in_c 0 rfl) rfl)) (hp30 _ _ ?_)
            show GG _ _ _ _ _ _ _ _ [.int (Int32.ofInt 0)] _ _ _
            refine g_if_eq 36 83 (gd rfl) rfl rfl (fun c33 => ?_) (fun c33 => ?_)
            · skip
              refine g_iinc 86 (gd rfl) rfl rfl (Nat.le_of_ble_eq_true rfl) (fun z83 e83 => ?_)
              have i83 := in_add 1 160 e83 i11 (in_c 1 rfl) rfl rfl
              refine g_goto 7 (gd rfl) rfl ?_
              exact gg_w (by first | exact Nat.le_add_right _ _ | exact gw2 | exact gw3 | exact gwe rfl | exact gwf rfl | exact gwg rfl | exact gwh rfl | omega) (gg_f (gf_cons rfl (gf_cons rfl (gf_cons rfl (gf_cons rfl gf_nil)))) (ih7 sc7 z83 hIc7 hFc7 (in_w 0 160 i83 rfl) (m_up mm7 (t_add e83 i11 (in_c 1 rfl) rfl) (in_w 1 1 (in_c 1 rfl) rfl))))
            · skip
              exact zn_ne c33 (in_c 0 rfl) rfl
          · skip
            have i30x11 := z_ne 1 1 c30x11 i30x10 rfl
            refine g_aload_n 15 (gd rfl) rfl rfl ?_
            refine g_getA (q2 := 113) 18 (gd rfl) rfl rfl rfl rfl ?_
            refine g_aload_n 19 (gd rfl) rfl rfl ?_
            refine g_getI 22 (gd rfl) rfl rfl rfl (fun z30x19 e30x19 => ?_)
            have q30x19 : u_109_19 = z30x19 := (fr_F e_109_19 hFc7 rfl).trans e30x19.symm
            subst q30x19
            refine g_iload_n 23 (gd rfl) rfl rfl ?_
            refine g_iadd 24 (gd rfl) rfl (fun z30x23 e30x23 => ?_)
            have i30x23 := in_add 0 319 e30x23 ro_109_19 i11 rfl rfl
            refine g_iaload 25 (gd rfl) rfl (n := 480) rfl (in_ix i30x23 rfl) (fun z30x24 e30x24 => ?_)
            have i30x24 := inv_I hIc7 (n := 480) (t := 0) 0 31 rfl (in_ix i30x23 rfl) rfl e30x24
            refine g_iload_n 26 (gd rfl) rfl rfl ?_
            refine g_cmp_ne 29 51 (gd rfl) rfl rfl (fun c30x26 => ?_) (fun c30x26 => ?_)
            · skip
              refine g_iconst 0 52 (gd rfl) rfl rfl ?_
              refine g_ireturn (gd rfl) rfl (nb01 (in_w 0 1 (in_c 0 rfl) rfl)) (hp30 _ _ ?_)
              show GG _ _ _ _ _ _ _ _ [.int (Int32.ofInt 0)] _ _ _
              refine g_if_eq 36 83 (gd rfl) rfl rfl (fun c33 => ?_) (fun c33 => ?_)
              · skip
                refine g_iinc 86 (gd rfl) rfl rfl (Nat.le_of_ble_eq_true rfl) (fun z83 e83 => ?_)
                have i83 := in_add 1 160 e83 i11 (in_c 1 rfl) rfl rfl
                refine g_goto 7 (gd rfl) rfl ?_
                exact gg_w (by first | exact Nat.le_add_right _ _ | exact gw2 | exact gw3 | exact gwe rfl | exact gwf rfl | exact gwg rfl | exact gwh rfl | omega) (gg_f (gf_cons rfl (gf_cons rfl (gf_cons rfl (gf_cons rfl gf_nil)))) (ih7 sc7 z83 hIc7 hFc7 (in_w 0 160 i83 rfl) (m_up mm7 (t_add e83 i11 (in_c 1 rfl) rfl) (in_w 1 1 (in_c 1 rfl) rfl))))
              · skip
                exact zn_ne c33 (in_c 0 rfl) rfl
            · skip
              refine g_iload_n 30 (gd rfl) rfl rfl ?_
              refine g_aload_n 31 (gd rfl) rfl rfl ?_
              refine g_getA (q2 := 114) 34 (gd rfl) rfl rfl rfl rfl ?_
              refine g_aload_n 35 (gd rfl) rfl rfl ?_
              refine g_getI 38 (gd rfl) rfl rfl rfl (fun z30x35 e30x35 => ?_)
              have q30x35 : u_109_19 = z30x35 := (fr_F e_109_19 hFc7 rfl).trans e30x35.symm
              subst q30x35
              refine g_iload_n 39 (gd rfl) rfl rfl ?_
              refine g_iadd 40 (gd rfl) rfl (fun z30x39 e30x39 => ?_)
              have i30x39 := in_add 0 319 e30x39 ro_109_19 i11 rfl rfl
              refine g_iaload 41 (gd rfl) rfl (n := 480) rfl (in_ix i30x39 rfl) (fun z30x40 e30x40 => ?_)
              have i30x40 := inv_I hIc7 (n := 480) (t := 0) 0 31 rfl (in_ix i30x39 rfl) rfl e30x40
              refine g_calls (As := [.int z29, .int z30x40]) (r := []) 44 (gd rfl) rfl rfl rfl rfl rfl (Nat.le_of_ble_eq_true rfl) (mc := 0) (ms := 0) (Nat.zero_le _) (Nat.zero_le _) (P := fun v u => _) ?_ (fun v u h => h)
              intro po30x41 xx30x41 hp30x41 hx30x41
              refine g_enter2 (k := 311) (N := 300) (by first | exact dq1 hd rfl | exact dq0 hd rfl | exact dq2 hd rfl | exact dq3 hd rfl | omega) rfl (Nat.le_of_ble_eq_true rfl) ?_
              refine g_iload_n 1 (gd rfl) rfl rfl ?_
              refine g_iload_n 2 (gd rfl) rfl rfl ?_
              refine g_ishr 3 (gd rfl) rfl (fun z30x41x2 e30x41x2 => ?_)
              refine g_iconst 1 4 (gd rfl) rfl rfl ?_
              refine g_iand 5 (gd rfl) rfl (fun z30x41x4 e30x41x4 => ?_)
              have i30x41x4 := in_and2 e30x41x4 (in_c 1 rfl) rfl
              refine g_iconst 1 6 (gd rfl) rfl rfl ?_
              refine g_cmp_ne 9 13 (gd rfl) rfl rfl (fun c30x41x6 => ?_) (fun c30x41x6 => ?_)
              · skip
                have i30x41x6 := r_ne1 0 0 c30x41x6 i30x41x4 (in_c 1 rfl) rfl
                refine g_iconst 0 14 (gd rfl) rfl rfl ?_
                refine g_ireturn (gd rfl) rfl (nb01 (in_w 0 1 (in_c 0 rfl) rfl)) (hp30x41 _ _ ?_)
                show GG _ _ _ _ _ _ _ _ [.int (Int32.ofInt 0)] _ _ _
                refine g_if_ne 47 51 (gd rfl) rfl rfl (fun c30x44 => ?_) (fun c30x44 => ?_)
                · skip
                  exact zn_ne c30x44 (in_c 0 rfl) rfl
                · skip
                  refine g_iconst 1 48 (gd rfl) rfl rfl ?_
                  refine g_goto 52 (gd rfl) rfl ?_
                  refine g_ireturn (gd rfl) rfl (nb01 (in_w 0 1 (in_c 1 rfl) rfl)) (hp30 _ _ ?_)
                  show GG _ _ _ _ _ _ _ _ [.int (Int32.ofInt 1)] _ _ _
                  refine g_if_eq 36 83 (gd rfl) rfl rfl (fun c33 => ?_) (fun c33 => ?_)
                  · skip
                    exact zn_eq c33 (in_c 1 rfl) rfl
                  · skip
                    refine g_aload_n 37 (gd rfl) rfl rfl ?_
                    refine g_getA (q2 := 114) 40 (gd rfl) rfl rfl rfl rfl ?_
                    refine g_aload_n 41 (gd rfl) rfl rfl ?_
                    refine g_getI 44 (gd rfl) rfl rfl rfl (fun z41 e41 => ?_)
                    have q41 : u_109_19 = z41 := (fr_F e_109_19 hFc7 rfl).trans e41.symm
                    subst q41
                    refine g_iload_n 45 (gd rfl) rfl rfl ?_
                    refine g_iadd 46 (gd rfl) rfl (fun z45 e45 => ?_)
                    have i45 := in_add 0 319 e45 ro_109_19 i11 rfl rfl
                    refine g_iaload 47 (gd rfl) rfl (n := 480) rfl (in_ix i45 rfl) (fun z46 e46 => ?_)
                    have i46 := inv_I hIc7 (n := 480) (t := 0) 0 31 rfl (in_ix i45 rfl) rfl e46
                    refine g_istore 49 (gd rfl) rfl (Nat.le_of_ble_eq_true rfl) ?_
                    refine g_iload 51 (gd rfl) rfl rfl ?_
                    refine g_iload_n 52 (gd rfl) rfl rfl ?_
                    refine g_cmp_ne 55 67 (gd rfl) rfl rfl (fun c52 => ?_) (fun c52 => ?_)
                    · skip
                      refine g_aload_n 68 (gd rfl) rfl rfl ?_
                      refine g_iload_n 69 (gd rfl) rfl rfl ?_
                      refine g_iload 71 (gd rfl) rfl rfl ?_
                      refine g_iconst 1 72 (gd rfl) rfl rfl ?_
                      refine g_iload_n 73 (gd rfl) rfl rfl ?_
                      refine g_ishl 74 (gd rfl) rfl (fun z73 e73 => ?_)
                      refine g_iconst 1 75 (gd rfl) rfl rfl ?_
                      refine g_iload 77 (gd rfl) rfl rfl ?_
                      refine g_ishl 78 (gd rfl) rfl (fun z77 e77 => ?_)
                      refine g_ior 79 (gd rfl) rfl (fun z78 e78 => ?_)
                      refine g_iload_n 80 (gd rfl) rfl rfl ?_
                      refine g_callv (X := _) (As := [.int y7_3, .int z46, .int z78, .int x2]) (r := []) (b := A 109) (q := 109) 83 (gd rfl) rfl rfl rfl rfl rfl (ww_o rfl) (Nat.le_of_ble_eq_true rfl) (Nat.zero_le _) (Nat.zero_le _) (k_321 (by first | exact dq1 hd rfl | exact dq0 hd rfl | exact dq2 hd rfl | exact dq3 hd rfl | omega) hIc7 (in_w 0 159 i11 rfl) (in_w 0 31 i46 rfl) (in_w 0 31 h2 rfl)) (fun e u h => h) (fun v u h => ?_)
                      obtain ⟨s80, hI80, hF80, rfl, rfl⟩ := h
                      show GG _ _ _ _ _ _ _ _ [] _ _ _
                      refine g_iinc 86 (gd rfl) rfl rfl (Nat.le_of_ble_eq_true rfl) (fun z83 e83 => ?_)
                      have i83 := in_add 1 160 e83 i11 (in_c 1 rfl) rfl rfl
                      refine g_goto 7 (gd rfl) rfl ?_
                      exact gg_w (by first | exact Nat.le_add_right _ _ | exact gw2 | exact gw3 | exact gwe rfl | exact gwf rfl | exact gwg rfl | exact gwh rfl | omega) (gg_f (gf_cons rfl (gf_cons rfl (gf_cons rfl (gf_cons rfl gf_nil)))) (ih7 s80 z83 hI80 (fr_tr rfl hFc7 hF80) (in_w 0 160 i83 rfl) (m_up mm7 (t_add e83 i11 (in_c 1 rfl) rfl) (in_w 1 1 (in_c 1 rfl) rfl))))
                    · skip
                      refine g_aload_n 56 (gd rfl) rfl rfl ?_
                      refine g_iconst 1 57 (gd rfl) rfl rfl ?_
                      refine g_iload_n 58 (gd rfl) rfl rfl ?_
                      refine g_iconst 0 59 (gd rfl) rfl rfl ?_
                      refine g_iconst 0 60 (gd rfl) rfl rfl ?_
                      refine g_iconst 0 61 (gd rfl) rfl rfl ?_
                      refine g_callv (X := _) (As := [.int (Int32.ofInt 1), .int y7_3, .int (Int32.ofInt 0), .int (Int32.ofInt 0), .int (Int32.ofInt 0)]) (r := []) (b := A 109) (q := 109) 64 (gd rfl) rfl rfl rfl rfl rfl (ww_o rfl) (Nat.le_of_ble_eq_true rfl) (Nat.zero_le _) (Nat.zero_le _) (k_318 (by first | exact dq1 hd rfl | exact dq0 hd rfl | exact dq2 hd rfl | exact dq3 hd rfl | omega) hIc7 (in_w 1 4 (in_c 1 rfl) rfl) (in_w 0 159 i11 rfl) (in_w 0 159 (in_c 0 rfl) rfl) (in_w 0 159 (in_c 0 rfl) rfl) (in_w 0 159 (in_c 0 rfl) rfl)) (fun e u h => h) (fun v u h => ?_)
                      obtain ⟨s61, hI61, hF61, rfl, rfl⟩ := h
                      show GG _ _ _ _ _ _ _ _ [] _ _ _
                      refine g_goto 83 (gd rfl) rfl ?_
                      refine g_iinc 86 (gd rfl) rfl rfl (Nat.le_of_ble_eq_true rfl) (fun z83 e83 => ?_)
                      have i83 := in_add 1 160 e83 i11 (in_c 1 rfl) rfl rfl
                      refine g_goto 7 (gd rfl) rfl ?_
                      exact gg_w (by first | exact Nat.le_add_right _ _ | exact gw2 | exact gw3 | exact gwe rfl | exact gwf rfl | exact gwg rfl | exact gwh rfl | omega) (gg_f (gf_cons rfl (gf_cons rfl (gf_cons rfl (gf_cons rfl gf_nil)))) (ih7 s61 z83 hI61 (fr_tr rfl hFc7 hF61) (in_w 0 160 i83 rfl) (m_up mm7 (t_add e83 i11 (in_c 1 rfl) rfl) (in_w 1 1 (in_c 1 rfl) rfl))))
              · skip
                have i30x41x6 := r_eq1 1 1 c30x41x6 i30x41x4 (in_c 1 rfl) rfl
                refine g_iconst 1 10 (gd rfl) rfl rfl ?_
                refine g_goto 14 (gd rfl) rfl ?_
                refine g_ireturn (gd rfl) rfl (nb01 (in_w 0 1 (in_c 1 rfl) rfl)) (hp30x41 _ _ ?_)
                show GG _ _ _ _ _ _ _ _ [.int (Int32.ofInt 1)] _ _ _
                refine g_if_ne 47 51 (gd rfl) rfl rfl (fun c30x44 => ?_) (fun c30x44 => ?_)
                · skip
                  refine g_iconst 0 52 (gd rfl) rfl rfl ?_
                  refine g_ireturn (gd rfl) rfl (nb01 (in_w 0 1 (in_c 0 rfl) rfl)) (hp30 _ _ ?_)
                  show GG _ _ _ _ _ _ _ _ [.int (Int32.ofInt 0)] _ _ _
                  refine g_if_eq 36 83 (gd rfl) rfl rfl (fun c33 => ?_) (fun c33 => ?_)
                  · skip
                    refine g_iinc 86 (gd rfl) rfl rfl (Nat.le_of_ble_eq_true rfl) (fun z83 e83 => ?_)
                    have i83 := in_add 1 160 e83 i11 (in_c 1 rfl) rfl rfl
                    refine g_goto 7 (gd rfl) rfl ?_
                    exact gg_w (by first | exact Nat.le_add_right _ _ | exact gw2 | exact gw3 | exact gwe rfl | exact gwf rfl | exact gwg rfl | exact gwh rfl | omega) (gg_f (gf_cons rfl (gf_cons rfl (gf_cons rfl (gf_cons rfl gf_nil)))) (ih7 sc7 z83 hIc7 hFc7 (in_w 0 160 i83 rfl) (m_up mm7 (t_add e83 i11 (in_c 1 rfl) rfl) (in_w 1 1 (in_c 1 rfl) rfl))))
                  · skip
                    exact zn_ne c33 (in_c 0 rfl) rfl
                · skip
                  exact zn_eq c30x44 (in_c 1 rfl) rfl
  refine g_enter2 (k := 320) (N := 145801) (by first | exact dq1 hd rfl | exact dq0 hd rfl | exact dq2 hd rfl | exact dq3 hd rfl | omega) rfl (Nat.le_of_ble_eq_true rfl) ?_
  refine g_aload_n 1 (gd rfl) rfl rfl ?_
  refine g_iconst 0 2 (gd rfl) rfl rfl ?_
  refine g_putI 5 (gd rfl) rfl rfl rfl rfl ?_
  have hI2 := inv_sF (q := 109) (j := 40) hI rfl (in_w 0 2001 (in_c 0 rfl) rfl)
  refine g_iconst 0 6 (gd rfl) rfl rfl ?_
  refine g_istore_n 7 (gd rfl) rfl (Nat.le_of_ble_eq_true rfl) ?_
  exact gg_w (by first | exact Nat.le_of_ble_eq_true rfl | omega) (gg_f (gf_cons rfl (gf_cons rfl (gf_cons rfl (gf_cons rfl gf_nil)))) (ct7 161 (sF s 109 40 (Int32.ofInt 0)) (Int32.ofInt 0) hI2 (fr_sF rfl fr_rf) (in_w 0 160 (in_c 0 rfl) rfl) (m_in 161 (in_w 0 160 (in_c 0 rfl) rfl) rfl)))
end
