/-! FUNCTIONAL CONTRACTS, by fgen.py -/
theorem oc_54_60_2 : (Int32.ofInt (-1)).toInt = (-1) ∧ (Int32.ofInt 0).toInt = 0 ∧ (Int32.ofInt 1).toInt = 1 ∧ (Int32.ofInt 32).toInt = 32 := ⟨rfl, rfl, rfl, rfl⟩
set_option maxHeartbeats 4000000 in
/-- GraphHouse$Colours.canLower -/
theorem f_54_60_2 {Z : AmZ} {A : Nat → Nat} {s : GS} {ex : va_W} {d : Nat} {X : AmX} {x2 : Int32} {x3 : Int32} {x4 : Int32} (hd : 381 ≤ d) (hI : Inv s) (h2 : In x2 0 31) (h3 : In x3 0 31) (h4 : In x4 0 31) (q_0 : CLX (s.1 9) (s.2.2.1 2 1).toNatClampNeg s x2 x3 x4) : GC Z d 54 [.ref (A 60), .ref (A 2), .int x2, .int x3, .int x4] (WW Z A s ++ ex) 0 0 (fun v u => ∃ t : GS, Inv t ∧ Fr fm_54_60_2 s t ∧ ∃ z : Int32, v = some (.int z) ∧ u = WW Z A t ++ ex ∧ In z 0 1 ∧ (CLW (s.1 9) (s.2.2.1 2 1).toNatClampNeg (s.2.2.1 60 3).toInt (s.1 61) ((t).1 61) (x2).toNatClampNeg (x3).toNatClampNeg (z).toInt) ∧ (((t).2.2.1 60 7).toInt = 0)) X := by
  intro post xp hP hX
  obtain ⟨u_2_1, e_2_1⟩ : ∃ w, w = s.2.2.1 2 1 := ⟨_, rfl⟩
  have ro_2_1 := inv_F hI 0 32 rfl e_2_1
  obtain ⟨u_60_3, e_60_3⟩ : ∃ w, w = s.2.2.1 60 3 := ⟨_, rfl⟩
  have ro_60_3 := inv_F hI 0 32 rfl e_60_3
  have ct108 : ∀ (k108 : Nat) (sc108 : GS) (y108_5 : Int32) (y108_6 : Int32) (y108_7 : Int32) (y108_8 : Int32), Inv sc108 → Fr fm_54_60_2 s sc108 → (In y108_8 0 32) → (L108 s sc108 x2 (y108_8)) → ((y108_5) = Int32.ofInt 1 <<< (x2 &&& 31)) → ((y108_6) = (y108_5) - Int32.ofInt 1) → ((∀ u : Nat, u < (x2).toNatClampNeg → bt (s.1 61 (x3).toNatClampNeg) u = true → bt (s.1 9 (x2).toNatClampNeg) u = false)) → 32 - (y108_8).toInt < (k108 : Int) → GG Z (d - 1) 54 post (gx xp) (1 + k108 * 900) 108 (fun j => xlook j [(0, .ref (A 60)), (1, .ref (A 2)), (2, .int x2), (3, .int x3), (4, .int x4), (5, .int y108_5), (6, .int y108_6), (7, .int y108_7), (8, .int y108_8)]) [] (WW Z A sc108 ++ ex) 0 0 := by
    intro k108
    induction k108 with
    | zero => intro sc108 y108_5 y108_6 y108_7 y108_8 hIc108 hFc108 j108_8 g108_0 g108_1 g108_2 g108_3 mm108; exact m_no mm108 j108_8 rfl
    | succ k108 ih108 =>
      intro sc108 y108_5 y108_6 y108_7 y108_8 hIc108 hFc108 j108_8 g108_0 g108_1 g108_2 g108_3 mm108
      refine gg_w (M := 1 + k108 * 900 + 900) gws ?_
      refine g_iload 110 (gd rfl) rfl rfl ?_
      refine g_aload_n 111 (gd rfl) rfl rfl ?_
      refine g_getI 114 (gd rfl) rfl rfl rfl (fun z111 e111 => ?_)
      have q111 : u_60_3 = z111 := (fr_F e_60_3 hFc108 rfl).trans e111.symm
      subst q111
      refine g_cmp_ge 117 135 (gd rfl) rfl rfl (fun c114 => ?_) (fun c114 => ?_)
      · skip
        refine g_aload_n 136 (gd rfl) rfl rfl ?_
        refine g_getA (q2 := 61) 139 (gd rfl) rfl rfl rfl rfl ?_
        refine g_iload_n 140 (gd rfl) rfl rfl ?_
        refine g_dup2 141 (gd rfl) rfl rfl rfl ?_
        refine g_iaload 142 (gd rfl) rfl (n := 32) rfl (in_ix h3 rfl) (fun z141 e141 => ?_)
        refine g_iload 144 (gd rfl) rfl rfl ?_
        refine g_ior 145 (gd rfl) rfl (fun z144 e144 => ?_)
        refine g_iastore 146 (gd rfl) rfl (n := 32) rfl (in_ix h3 rfl) ?_
        have hI145 := inv_sI (q := 61) (j := x3.toNatClampNeg) hIc108 rfl (in_w (-2147483648) 2147483647 (i_rng z144) rfl)
        refine g_aload_n 147 (gd rfl) rfl rfl ?_
        refine g_aload_n 148 (gd rfl) rfl rfl ?_
        refine g_getA (q2 := 9) 151 (gd rfl) rfl rfl rfl rfl ?_
        refine g_aload_n 152 (gd rfl) rfl rfl ?_
        refine g_callv (X := _) (As := []) (r := [.ref (A 9), .ref (A 60)]) (b := A 2) (q := 2) 155 (gd rfl) rfl rfl rfl rfl rfl (ww_o rfl) (Nat.le_of_ble_eq_true rfl) (mc := 0) (ms := 0) (Nat.zero_le _) (Nat.zero_le _) (P := fun v u => _) ?_ (fun e u h => h) (fun v u h => h)
        intro po152 xx152 hp152 hx152
        refine g_enter2 (k := 102) (N := 300) (by first | exact dq1 hd rfl | exact dq0 hd rfl | exact dq2 hd rfl | exact dq3 hd rfl | omega) rfl (Nat.le_of_ble_eq_true rfl) ?_
        refine g_aload_n 1 (gd rfl) rfl rfl ?_
        refine g_getI 4 (gd rfl) rfl rfl rfl (fun z152x1 e152x1 => ?_)
        have q152x1 : u_2_1 = z152x1 := (sI_F (fr_F e_2_1 hFc108 rfl)).trans e152x1.symm
        subst q152x1
        refine g_bipush 32 6 (gd rfl) rfl rfl ?_
        refine g_cmp_lt 9 13 (gd rfl) rfl rfl (fun c152x6 => ?_) (fun c152x6 => ?_)
        · skip
          have i152x6 := r_lt1 0 31 c152x6 ro_2_1 (in_c 32 rfl) rfl
          refine g_iconst 1 14 (gd rfl) rfl rfl ?_
          refine g_aload_n 15 (gd rfl) rfl rfl ?_
          refine g_getI 18 (gd rfl) rfl rfl rfl (fun z152x15 e152x15 => ?_)
          have q152x15 : u_2_1 = z152x15 := (sI_F (fr_F e_2_1 hFc108 rfl)).trans e152x15.symm
          subst q152x15
          refine g_ishl 19 (gd rfl) rfl (fun z152x18 e152x18 => ?_)
          refine g_iconst 1 20 (gd rfl) rfl rfl ?_
          refine g_isub 21 (gd rfl) rfl (fun z152x20 e152x20 => ?_)
          refine g_ireturn (gd rfl) rfl rfl (hp152 _ _ ?_)
          show GG _ _ _ _ _ _ _ _ [.int z152x20, .ref (A 9), .ref (A 60)] _ _ _
          refine g_iload 157 (gd rfl) rfl rfl ?_
          refine g_iconst (-1) 158 (gd rfl) rfl rfl ?_
          refine g_ixor 159 (gd rfl) rfl (fun z158 e158 => ?_)
          refine g_iand 160 (gd rfl) rfl (fun z159 e159 => ?_)
          refine g_iload 162 (gd rfl) rfl rfl ?_
          refine g_iconst (-1) 163 (gd rfl) rfl rfl ?_
          refine g_ixor 164 (gd rfl) rfl (fun z163 e163 => ?_)
          refine g_iand 165 (gd rfl) rfl (fun z164 e164 => ?_)
          refine g_iconst 0 166 (gd rfl) rfl rfl ?_
          have p166 : FLX ((sI sc108 61 x3.toNatClampNeg z144).1 9) (sI sc108 61 x3.toNatClampNeg z144) z164 ((Int32.ofInt 0)).toInt := by rw [sI_p (show Nat.beq 9 61 = false from rfl), hFc108.1 9 rfl]; exact (lo_x q_0 g108_0 h2 h3 h4 (by rw [← e_60_3]; (first | have a0 := oa6 h4 h3 h2 ro_60_3 i152x6 j108_8 | ((first | have a0 := in_u h4 | (have a0 := h4; unfold In at a0)); (first | have a1 := in_u h3 | (have a1 := h3; unfold In at a1)); (first | have a2 := in_u h2 | (have a2 := h2; unfold In at a2)); (first | have a3 := in_u ro_60_3 | (have a3 := ro_60_3; unfold In at a3)); (first | have a4 := in_u i152x6 | (have a4 := i152x6; unfold In at a4)); (first | have a5 := in_u j108_8 | (have a5 := j108_8; unfold In at a5)))); have oc := oc_54_60_2; omega) (hFc108.2.2.1 60 3 rfl) g108_1 e141 e144 g108_3 (msk_of (al := z152x20) h2 g108_1 g108_2 (fun u => Iff.trans (all_a e152x18 e152x20 i152x6 u) (show ((u : Int) < (u_2_1).toInt ↔ u < (s.2.2.1 2 1).toNatClampNeg) from (by show _ ↔ u < (s.2.2.1 2 1).toInt.toNat; rw [← e_2_1]; omega))) e158 e159 e163 e164) (show (Int32.ofInt 0).toInt = 0 from rfl)).1
          refine g_callv (X := _) (As := [.ref (A 9), .int z164, .int (Int32.ofInt 0)]) (r := []) (b := A 60) (q := 60) 169 (gd rfl) rfl rfl rfl rfl rfl (ww_o rfl) (Nat.le_of_ble_eq_true rfl) (Nat.zero_le _) (Nat.zero_le _) (f_46_60_9 (by first | exact dq1 hd rfl | exact dq0 hd rfl | exact dq2 hd rfl | exact dq3 hd rfl | omega) hI145 (in_w 0 33 (in_c 0 rfl) rfl) p166) (fun e u h => h) (fun v u h => ?_)
          obtain ⟨s166, hI166, hF166, z166, rfl, rfl, i166, p166a, p166b⟩ := h
          show GG _ _ _ _ _ _ _ _ [.int z166] _ _ _
          refine g_if_eq 172 174 (gd rfl) rfl rfl (fun c169 => ?_) (fun c169 => ?_)
          · skip
            have i169 := z_eq 0 0 c169 i166 rfl
            refine g_aload_n 175 (gd rfl) rfl rfl ?_
            refine g_getA (q2 := 62) 178 (gd rfl) rfl rfl rfl rfl ?_
            refine g_iconst 0 179 (gd rfl) rfl rfl ?_
            refine g_aload_n 180 (gd rfl) rfl rfl ?_
            refine g_getA (q2 := 61) 183 (gd rfl) rfl rfl rfl rfl ?_
            refine g_iconst 0 184 (gd rfl) rfl rfl ?_
            refine g_bipush 32 186 (gd rfl) rfl rfl ?_
            refine g_cpI (q2 := 62) (q := 61) (n0 := 32) (n1 := 32) 189 (gd rfl) rfl rfl rfl rfl (Nat.le_of_ble_eq_true rfl) (cp_0 (in_c 0 rfl) rfl) (cp_0 (in_c 0 rfl) rfl) (cp_0 (in_c 32 rfl) rfl) (cp_1 (in_c 0 rfl) (in_c 32 rfl) rfl) (cp_1 (in_c 0 rfl) (in_c 32 rfl) rfl) hI166 rfl rfl rfl rfl (fun s186 hI186 hF186 cp186 => ?_)
            refine g_iconst 0 190 (gd rfl) rfl rfl ?_
            have n190 : CLW (s.1 9) (s.2.2.1 2 1).toNatClampNeg (s.2.2.1 60 3).toInt (s.1 61) ((s186).1 61) (x2).toNatClampNeg (x3).toNatClampNeg ((Int32.ofInt 0)).toInt := by exact lo_z q_0 h3 (lo_x q_0 g108_0 h2 h3 h4 (by rw [← e_60_3]; (first | have a0 := oa6 h4 h3 h2 ro_60_3 i152x6 j108_8 | ((first | have a0 := in_u h4 | (have a0 := h4; unfold In at a0)); (first | have a1 := in_u h3 | (have a1 := h3; unfold In at a1)); (first | have a2 := in_u h2 | (have a2 := h2; unfold In at a2)); (first | have a3 := in_u ro_60_3 | (have a3 := ro_60_3; unfold In at a3)); (first | have a4 := in_u i152x6 | (have a4 := i152x6; unfold In at a4)); (first | have a5 := in_u j108_8 | (have a5 := j108_8; unfold In at a5)))); have oc := oc_54_60_2; omega) (hFc108.2.2.1 60 3 rfl) g108_1 e141 e144 g108_3 (msk_of (al := z152x20) h2 g108_1 g108_2 (fun u => Iff.trans (all_a e152x18 e152x20 i152x6 u) (show ((u : Int) < (u_2_1).toInt ↔ u < (s.2.2.1 2 1).toNatClampNeg) from (by show _ ↔ u < (s.2.2.1 2 1).toInt.toNat; rw [← e_2_1]; omega))) e158 e159 e163 e164) (show (Int32.ofInt 0).toInt = 0 from rfl)).2.1 (lo_x q_0 g108_0 h2 h3 h4 (by rw [← e_60_3]; (first | have a0 := oa6 h4 h3 h2 ro_60_3 i152x6 j108_8 | ((first | have a0 := in_u h4 | (have a0 := h4; unfold In at a0)); (first | have a1 := in_u h3 | (have a1 := h3; unfold In at a1)); (first | have a2 := in_u h2 | (have a2 := h2; unfold In at a2)); (first | have a3 := in_u ro_60_3 | (have a3 := ro_60_3; unfold In at a3)); (first | have a4 := in_u i152x6 | (have a4 := i152x6; unfold In at a4)); (first | have a5 := in_u j108_8 | (have a5 := j108_8; unfold In at a5)))); have oc := oc_54_60_2; omega) (hFc108.2.2.1 60 3 rfl) g108_1 e141 e144 g108_3 (msk_of (al := z152x20) h2 g108_1 g108_2 (fun u => Iff.trans (all_a e152x18 e152x20 i152x6 u) (show ((u : Int) < (u_2_1).toInt ↔ u < (s.2.2.1 2 1).toNatClampNeg) from (by show _ ↔ u < (s.2.2.1 2 1).toInt.toNat; rw [← e_2_1]; omega))) e158 e159 e163 e164) (show (Int32.ofInt 0).toInt = 0 from rfl)).2.2 (lo_x q_0 g108_0 h2 h3 h4 (by rw [← e_60_3]; (first | have a0 := oa6 h4 h3 h2 ro_60_3 i152x6 j108_8 | ((first | have a0 := in_u h4 | (have a0 := h4; unfold In at a0)); (first | have a1 := in_u h3 | (have a1 := h3; unfold In at a1)); (first | have a2 := in_u h2 | (have a2 := h2; unfold In at a2)); (first | have a3 := in_u ro_60_3 | (have a3 := ro_60_3; unfold In at a3)); (first | have a4 := in_u i152x6 | (have a4 := i152x6; unfold In at a4)); (first | have a5 := in_u j108_8 | (have a5 := j108_8; unfold In at a5)))); have oc := oc_54_60_2; omega) (hFc108.2.2.1 60 3 rfl) g108_1 e141 e144 g108_3 (msk_of (al := z152x20) h2 g108_1 g108_2 (fun u => Iff.trans (all_a e152x18 e152x20 i152x6 u) (show ((u : Int) < (u_2_1).toInt ↔ u < (s.2.2.1 2 1).toNatClampNeg) from (by show _ ↔ u < (s.2.2.1 2 1).toInt.toNat; rw [← e_2_1]; omega))) e158 e159 e163 e164) (show (Int32.ofInt 0).toInt = 0 from rfl)).1 (hFc108.2.2.1 60 3 rfl) (msk_of (al := z152x20) h2 g108_1 g108_2 (fun u => Iff.trans (all_a e152x18 e152x20 i152x6 u) (show ((u : Int) < (u_2_1).toInt ↔ u < (s.2.2.1 2 1).toNatClampNeg) from (by show _ ↔ u < (s.2.2.1 2 1).toInt.toNat; rw [← e_2_1]; omega))) e158 e159 e163 e164) (show FRE (s.1 9) (sc108.2.2.1 60 3).toInt z164 ((sI sc108 61 x3.toNatClampNeg z144).1 61) (s166.1 61) (z166).toInt from (by have h9 := p166a; rw [sI_p (show Nat.beq 9 61 = false from rfl), hFc108.1 9 rfl] at h9; exact h9)) c169 g108_0.2.1 ((hF166.1 62 rfl).trans (sI_p rfl)) (cpi_v cp186) rfl
            have n190a : ((s186).2.2.1 60 7).toInt = 0 := by exact (congrArg Int32.toInt (hF186.2.2.1 60 7 rfl)).trans (p166b.1.trans (g108_0.2.2.trans q_0.2.2.1))
            exact g_ireturn (gd rfl) rfl (nb01 (in_w 0 1 (in_c 0 rfl) rfl)) (hP _ _ ⟨s186, hI186, (fr_tr rfl (fr_tr rfl (fr_sI rfl hFc108) hF166) hF186), (Int32.ofInt 0), rfl, rfl, in_w 0 1 (in_c 0 rfl) rfl, n190, n190a⟩)
          · skip
            have i169 := z_ne 1 1 c169 i166 rfl
            refine g_iconst 1 173 (gd rfl) rfl rfl ?_
            have n173 : CLW (s.1 9) (s.2.2.1 2 1).toNatClampNeg (s.2.2.1 60 3).toInt (s.1 61) ((s166).1 61) (x2).toNatClampNeg (x3).toNatClampNeg ((Int32.ofInt 1)).toInt := by exact lo_y (y := x2) (x := x2) q_0 h3 (lo_x q_0 g108_0 h2 h3 h4 (by rw [← e_60_3]; (first | have a0 := oa6 h4 h3 h2 ro_60_3 i152x6 j108_8 | ((first | have a0 := in_u h4 | (have a0 := h4; unfold In at a0)); (first | have a1 := in_u h3 | (have a1 := h3; unfold In at a1)); (first | have a2 := in_u h2 | (have a2 := h2; unfold In at a2)); (first | have a3 := in_u ro_60_3 | (have a3 := ro_60_3; unfold In at a3)); (first | have a4 := in_u i152x6 | (have a4 := i152x6; unfold In at a4)); (first | have a5 := in_u j108_8 | (have a5 := j108_8; unfold In at a5)))); have oc := oc_54_60_2; omega) (hFc108.2.2.1 60 3 rfl) g108_1 e141 e144 g108_3 (msk_of (al := z152x20) h2 g108_1 g108_2 (fun u => Iff.trans (all_a e152x18 e152x20 i152x6 u) (show ((u : Int) < (u_2_1).toInt ↔ u < (s.2.2.1 2 1).toNatClampNeg) from (by show _ ↔ u < (s.2.2.1 2 1).toInt.toNat; rw [← e_2_1]; omega))) e158 e159 e163 e164) (show (Int32.ofInt 0).toInt = 0 from rfl)).2.1 (lo_x q_0 g108_0 h2 h3 h4 (by rw [← e_60_3]; (first | have a0 := oa6 h4 h3 h2 ro_60_3 i152x6 j108_8 | ((first | have a0 := in_u h4 | (have a0 := h4; unfold In at a0)); (first | have a1 := in_u h3 | (have a1 := h3; unfold In at a1)); (first | have a2 := in_u h2 | (have a2 := h2; unfold In at a2)); (first | have a3 := in_u ro_60_3 | (have a3 := ro_60_3; unfold In at a3)); (first | have a4 := in_u i152x6 | (have a4 := i152x6; unfold In at a4)); (first | have a5 := in_u j108_8 | (have a5 := j108_8; unfold In at a5)))); have oc := oc_54_60_2; omega) (hFc108.2.2.1 60 3 rfl) g108_1 e141 e144 g108_3 (msk_of (al := z152x20) h2 g108_1 g108_2 (fun u => Iff.trans (all_a e152x18 e152x20 i152x6 u) (show ((u : Int) < (u_2_1).toInt ↔ u < (s.2.2.1 2 1).toNatClampNeg) from (by show _ ↔ u < (s.2.2.1 2 1).toInt.toNat; rw [← e_2_1]; omega))) e158 e159 e163 e164) (show (Int32.ofInt 0).toInt = 0 from rfl)).2.2 (hFc108.2.2.1 60 3 rfl) (msk_of (al := z152x20) h2 g108_1 g108_2 (fun u => Iff.trans (all_a e152x18 e152x20 i152x6 u) (show ((u : Int) < (u_2_1).toInt ↔ u < (s.2.2.1 2 1).toNatClampNeg) from (by show _ ↔ u < (s.2.2.1 2 1).toInt.toNat; rw [← e_2_1]; omega))) e158 e159 e163 e164) (show FRE (s.1 9) (sc108.2.2.1 60 3).toInt z164 ((sI sc108 61 x3.toNatClampNeg z144).1 61) (s166.1 61) (z166).toInt from (by have h9 := p166a; rw [sI_p (show Nat.beq 9 61 = false from rfl), hFc108.1 9 rfl] at h9; exact h9)) c169 (by decide)
            have n173a : ((s166).2.2.1 60 7).toInt = 0 := by exact (p166b.1.trans (g108_0.2.2.trans q_0.2.2.1))
            exact g_ireturn (gd rfl) rfl (nb01 (in_w 0 1 (in_c 1 rfl) rfl)) (hP _ _ ⟨s166, hI166, (fr_tr rfl (fr_sI rfl hFc108) hF166), (Int32.ofInt 1), rfl, rfl, in_w 0 1 (in_c 1 rfl) rfl, n173, n173a⟩)
        · skip
          have i152x6 := r_le2 32 32 c152x6 (in_c 32 rfl) ro_2_1 rfl
          refine g_iconst (-1) 10 (gd rfl) rfl rfl ?_
          refine g_goto 21 (gd rfl) rfl ?_
          refine g_ireturn (gd rfl) rfl rfl (hp152 _ _ ?_)
          show GG _ _ _ _ _ _ _ _ [.int (Int32.ofInt (-1)), .ref (A 9), .ref (A 60)] _ _ _
          refine g_iload 157 (gd rfl) rfl rfl ?_
          refine g_iconst (-1) 158 (gd rfl) rfl rfl ?_
          refine g_ixor 159 (gd rfl) rfl (fun z158 e158 => ?_)
          refine g_iand 160 (gd rfl) rfl (fun z159 e159 => ?_)
          refine g_iload 162 (gd rfl) rfl rfl ?_
          refine g_iconst (-1) 163 (gd rfl) rfl rfl ?_
          refine g_ixor 164 (gd rfl) rfl (fun z163 e163 => ?_)
          refine g_iand 165 (gd rfl) rfl (fun z164 e164 => ?_)
          refine g_iconst 0 166 (gd rfl) rfl rfl ?_
          have p166 : FLX ((sI sc108 61 x3.toNatClampNeg z144).1 9) (sI sc108 61 x3.toNatClampNeg z144) z164 ((Int32.ofInt 0)).toInt := by rw [sI_p (show Nat.beq 9 61 = false from rfl), hFc108.1 9 rfl]; exact (lo_x q_0 g108_0 h2 h3 h4 (by rw [← e_60_3]; (first | have a0 := oa6 h4 h3 h2 ro_60_3 i152x6 j108_8 | ((first | have a0 := in_u h4 | (have a0 := h4; unfold In at a0)); (first | have a1 := in_u h3 | (have a1 := h3; unfold In at a1)); (first | have a2 := in_u h2 | (have a2 := h2; unfold In at a2)); (first | have a3 := in_u ro_60_3 | (have a3 := ro_60_3; unfold In at a3)); (first | have a4 := in_u i152x6 | (have a4 := i152x6; unfold In at a4)); (first | have a5 := in_u j108_8 | (have a5 := j108_8; unfold In at a5)))); have oc := oc_54_60_2; omega) (hFc108.2.2.1 60 3 rfl) g108_1 e141 e144 g108_3 (msk_of (al := Int32.ofInt (-1)) h2 g108_1 g108_2 (fun u => Iff.trans (all_b (show (u_2_1).toInt = 32 from (by (first | have a0 := oa6 h4 h3 h2 ro_60_3 i152x6 j108_8 | ((first | have a0 := in_u h4 | (have a0 := h4; unfold In at a0)); (first | have a1 := in_u h3 | (have a1 := h3; unfold In at a1)); (first | have a2 := in_u h2 | (have a2 := h2; unfold In at a2)); (first | have a3 := in_u ro_60_3 | (have a3 := ro_60_3; unfold In at a3)); (first | have a4 := in_u i152x6 | (have a4 := i152x6; unfold In at a4)); (first | have a5 := in_u j108_8 | (have a5 := j108_8; unfold In at a5)))); have oc := oc_54_60_2; omega)) u) (show ((u : Int) < (u_2_1).toInt ↔ u < (s.2.2.1 2 1).toNatClampNeg) from (by show _ ↔ u < (s.2.2.1 2 1).toInt.toNat; rw [← e_2_1]; omega))) e158 e159 e163 e164) (show (Int32.ofInt 0).toInt = 0 from rfl)).1
          refine g_callv (X := _) (As := [.ref (A 9), .int z164, .int (Int32.ofInt 0)]) (r := []) (b := A 60) (q := 60) 169 (gd rfl) rfl rfl rfl rfl rfl (ww_o rfl) (Nat.le_of_ble_eq_true rfl) (Nat.zero_le _) (Nat.zero_le _) (f_46_60_9 (by first | exact dq1 hd rfl | exact dq0 hd rfl | exact dq2 hd rfl | exact dq3 hd rfl | omega) hI145 (in_w 0 33 (in_c 0 rfl) rfl) p166) (fun e u h => h) (fun v u h => ?_)
          obtain ⟨s166, hI166, hF166, z166, rfl, rfl, i166, p166a, p166b⟩ := h
          show GG _ _ _ _ _ _ _ _ [.int z166] _ _ _
          refine g_if_eq 172 174 (gd rfl) rfl rfl (fun c169 => ?_) (fun c169 => ?_)
          · skip
            have i169 := z_eq 0 0 c169 i166 rfl
            refine g_aload_n 175 (gd rfl) rfl rfl ?_
            refine g_getA (q2 := 62) 178 (gd rfl) rfl rfl rfl rfl ?_
            refine g_iconst 0 179 (gd rfl) rfl rfl ?_
            refine g_aload_n 180 (gd rfl) rfl rfl ?_
            refine g_getA (q2 := 61) 183 (gd rfl) rfl rfl rfl rfl ?_
            refine g_iconst 0 184 (gd rfl) rfl rfl ?_
            refine g_bipush 32 186 (gd rfl) rfl rfl ?_
            refine g_cpI (q2 := 62) (q := 61) (n0 := 32) (n1 := 32) 189 (gd rfl) rfl rfl rfl rfl (Nat.le_of_ble_eq_true rfl) (cp_0 (in_c 0 rfl) rfl) (cp_0 (in_c 0 rfl) rfl) (cp_0 (in_c 32 rfl) rfl) (cp_1 (in_c 0 rfl) (in_c 32 rfl) rfl) (cp_1 (in_c 0 rfl) (in_c 32 rfl) rfl) hI166 rfl rfl rfl rfl (fun s186 hI186 hF186 cp186 => ?_)
            refine g_iconst 0 190 (gd rfl) rfl rfl ?_
            have n190 : CLW (s.1 9) (s.2.2.1 2 1).toNatClampNeg (s.2.2.1 60 3).toInt (s.1 61) ((s186).1 61) (x2).toNatClampNeg (x3).toNatClampNeg ((Int32.ofInt 0)).toInt := by exact lo_z q_0 h3 (lo_x q_0 g108_0 h2 h3 h4 (by rw [← e_60_3]; (first | have a0 := oa6 h4 h3 h2 ro_60_3 i152x6 j108_8 | ((first | have a0 := in_u h4 | (have a0 := h4; unfold In at a0)); (first | have a1 := in_u h3 | (have a1 := h3; unfold In at a1)); (first | have a2 := in_u h2 | (have a2 := h2; unfold In at a2)); (first | have a3 := in_u ro_60_3 | (have a3 := ro_60_3; unfold In at a3)); (first | have a4 := in_u i152x6 | (have a4 := i152x6; unfold In at a4)); (first | have a5 := in_u j108_8 | (have a5 := j108_8; unfold In at a5)))); have oc := oc_54_60_2; omega) (hFc108.2.2.1 60 3 rfl) g108_1 e141 e144 g108_3 (msk_of (al := Int32.ofInt (-1)) h2 g108_1 g108_2 (fun u => Iff.trans (all_b (show (u_2_1).toInt = 32 from (by (first | have a0 := oa6 h4 h3 h2 ro_60_3 i152x6 j108_8 | ((first | have a0 := in_u h4 | (have a0 := h4; unfold In at a0)); (first | have a1 := in_u h3 | (have a1 := h3; unfold In at a1)); (first | have a2 := in_u h2 | (have a2 := h2; unfold In at a2)); (first | have a3 := in_u ro_60_3 | (have a3 := ro_60_3; unfold In at a3)); (first | have a4 := in_u i152x6 | (have a4 := i152x6; unfold In at a4)); (first | have a5 := in_u j108_8 | (have a5 := j108_8; unfold In at a5)))); have oc := oc_54_60_2; omega)) u) (show ((u : Int) < (u_2_1).toInt ↔ u < (s.2.2.1 2 1).toNatClampNeg) from (by show _ ↔ u < (s.2.2.1 2 1).toInt.toNat; rw [← e_2_1]; omega))) e158 e159 e163 e164) (show (Int32.ofInt 0).toInt = 0 from rfl)).2.1 (lo_x q_0 g108_0 h2 h3 h4 (by rw [← e_60_3]; (first | have a0 := oa6 h4 h3 h2 ro_60_3 i152x6 j108_8 | ((first | have a0 := in_u h4 | (have a0 := h4; unfold In at a0)); (first | have a1 := in_u h3 | (have a1 := h3; unfold In at a1)); (first | have a2 := in_u h2 | (have a2 := h2; unfold In at a2)); (first | have a3 := in_u ro_60_3 | (have a3 := ro_60_3; unfold In at a3)); (first | have a4 := in_u i152x6 | (have a4 := i152x6; unfold In at a4)); (first | have a5 := in_u j108_8 | (have a5 := j108_8; unfold In at a5)))); have oc := oc_54_60_2; omega) (hFc108.2.2.1 60 3 rfl) g108_1 e141 e144 g108_3 (msk_of (al := Int32.ofInt (-1)) h2 g108_1 g108_2 (fun u => Iff.trans (all_b (show (u_2_1).toInt = 32 from (by (first | have a0 := oa6 h4 h3 h2 ro_60_3 i152x6 j108_8 | ((first | have a0 := in_u h4 | (have a0 := h4; unfold In at a0)); (first | have a1 := in_u h3 | (have a1 := h3; unfold In at a1)); (first | have a2 := in_u h2 | (have a2 := h2; unfold In at a2)); (first | have a3 := in_u ro_60_3 | (have a3 := ro_60_3; unfold In at a3)); (first | have a4 := in_u i152x6 | (have a4 := i152x6; unfold In at a4)); (first | have a5 := in_u j108_8 | (have a5 := j108_8; unfold In at a5)))); have oc := oc_54_60_2; omega)) u) (show ((u : Int) < (u_2_1).toInt ↔ u < (s.2.2.1 2 1).toNatClampNeg) from (by show _ ↔ u < (s.2.2.1 2 1).toInt.toNat; rw [← e_2_1]; omega))) e158 e159 e163 e164) (show (Int32.ofInt 0).toInt = 0 from rfl)).2.2 (lo_x q_0 g108_0 h2 h3 h4 (by rw [← e_60_3]; (first | have a0 := oa6 h4 h3 h2 ro_60_3 i152x6 j108_8 | ((first | have a0 := in_u h4 | (have a0 := h4; unfold In at a0)); (first | have a1 := in_u h3 | (have a1 := h3; unfold In at a1)); (first | have a2 := in_u h2 | (have a2 := h2; unfold In at a2)); (first | have a3 := in_u ro_60_3 | (have a3 := ro_60_3; unfold In at a3)); (first | have a4 := in_u i152x6 | (have a4 := i152x6; unfold In at a4)); (first | have a5 := in_u j108_8 | (have a5 := j108_8; unfold In at a5)))); have oc := oc_54_60_2; omega) (hFc108.2.2.1 60 3 rfl) g108_1 e141 e144 g108_3 (msk_of (al := Int32.ofInt (-1)) h2 g108_1 g108_2 (fun u => Iff.trans (all_b (show (u_2_1).toInt = 32 from (by (first | have a0 := oa6 h4 h3 h2 ro_60_3 i152x6 j108_8 | ((first | have a0 := in_u h4 | (have a0 := h4; unfold In at a0)); (first | have a1 := in_u h3 | (have a1 := h3; unfold In at a1)); (first | have a2 := in_u h2 | (have a2 := h2; unfold In at a2)); (first | have a3 := in_u ro_60_3 | (have a3 := ro_60_3; unfold In at a3)); (first | have a4 := in_u i152x6 | (have a4 := i152x6; unfold In at a4)); (first | have a5 := in_u j108_8 | (have a5 := j108_8; unfold In at a5)))); have oc := oc_54_60_2; omega)) u) (show ((u : Int) < (u_2_1).toInt ↔ u < (s.2.2.1 2 1).toNatClampNeg) from (by show _ ↔ u < (s.2.2.1 2 1).toInt.toNat; rw [← e_2_1]; omega))) e158 e159 e163 e164) (show (Int32.ofInt 0).toInt = 0 from rfl)).1 (hFc108.2.2.1 60 3 rfl) (msk_of (al := Int32.ofInt (-1)) h2 g108_1 g108_2 (fun u => Iff.trans (all_b (show (u_2_1).toInt = 32 from (by (first | have a0 := oa6 h4 h3 h2 ro_60_3 i152x6 j108_8 | ((first | have a0 := in_u h4 | (have a0 := h4; unfold In at a0)); (first | have a1 := in_u h3 | (have a1 := h3; unfold In at a1)); (first | have a2 := in_u h2 | (have a2 := h2; unfold In at a2)); (first | have a3 := in_u ro_60_3 | (have a3 := ro_60_3; unfold In at a3)); (first | have a4 := in_u i152x6 | (have a4 := i152x6; unfold In at a4)); (first | have a5 := in_u j108_8 | (have a5 := j108_8; unfold In at a5)))); have oc := oc_54_60_2; omega)) u) (show ((u : Int) < (u_2_1).toInt ↔ u < (s.2.2.1 2 1).toNatClampNeg) from (by show _ ↔ u < (s.2.2.1 2 1).toInt.toNat; rw [← e_2_1]; omega))) e158 e159 e163 e164) (show FRE (s.1 9) (sc108.2.2.1 60 3).toInt z164 ((sI sc108 61 x3.toNatClampNeg z144).1 61) (s166.1 61) (z166).toInt from (by have h9 := p166a; rw [sI_p (show Nat.beq 9 61 = false from rfl), hFc108.1 9 rfl] at h9; exact h9)) c169 g108_0.2.1 ((hF166.1 62 rfl).trans (sI_p rfl)) (cpi_v cp186) rfl
            have n190a : ((s186).2.2.1 60 7).toInt = 0 := by exact (congrArg Int32.toInt (hF186.2.2.1 60 7 rfl)).trans (p166b.1.trans (g108_0.2.2.trans q_0.2.2.1))
            exact g_ireturn (gd rfl) rfl (nb01 (in_w 0 1 (in_c 0 rfl) rfl)) (hP _ _ ⟨s186, hI186, (fr_tr rfl (fr_tr rfl (fr_sI rfl hFc108) hF166) hF186), (Int32.ofInt 0), rfl, rfl, in_w 0 1 (in_c 0 rfl) rfl, n190, n190a⟩)
          · skip
            have i169 := z_ne 1 1 c169 i166 rfl
            refine g_iconst 1 173 (gd rfl) rfl rfl ?_
            have n173 : CLW (s.1 9) (s.2.2.1 2 1).toNatClampNeg (s.2.2.1 60 3).toInt (s.1 61) ((s166).1 61) (x2).toNatClampNeg (x3).toNatClampNeg ((Int32.ofInt 1)).toInt := by exact lo_y (y := x2) (x := x2) q_0 h3 (lo_x q_0 g108_0 h2 h3 h4 (by rw [← e_60_3]; (first | have a0 := oa6 h4 h3 h2 ro_60_3 i152x6 j108_8 | ((first | have a0 := in_u h4 | (have a0 := h4; unfold In at a0)); (first | have a1 := in_u h3 | (have a1 := h3; unfold In at a1)); (first | have a2 := in_u h2 | (have a2 := h2; unfold In at a2)); (first | have a3 := in_u ro_60_3 | (have a3 := ro_60_3; unfold In at a3)); (first | have a4 := in_u i152x6 | (have a4 := i152x6; unfold In at a4)); (first | have a5 := in_u j108_8 | (have a5 := j108_8; unfold In at a5)))); have oc := oc_54_60_2; omega) (hFc108.2.2.1 60 3 rfl) g108_1 e141 e144 g108_3 (msk_of (al := Int32.ofInt (-1)) h2 g108_1 g108_2 (fun u => Iff.trans (all_b (show (u_2_1).toInt = 32 from (by (first | have a0 := oa6 h4 h3 h2 ro_60_3 i152x6 j108_8 | ((first | have a0 := in_u h4 | (have a0 := h4; unfold In at a0)); (first | have a1 := in_u h3 | (have a1 := h3; unfold In at a1)); (first | have a2 := in_u h2 | (have a2 := h2; unfold In at a2)); (first | have a3 := in_u ro_60_3 | (have a3 := ro_60_3; unfold In at a3)); (first | have a4 := in_u i152x6 | (have a4 := i152x6; unfold In at a4)); (first | have a5 := in_u j108_8 | (have a5 := j108_8; unfold In at a5)))); have oc := oc_54_60_2; omega)) u) (show ((u : Int) < (u_2_1).toInt ↔ u < (s.2.2.1 2 1).toNatClampNeg) from (by show _ ↔ u < (s.2.2.1 2 1).toInt.toNat; rw [← e_2_1]; omega))) e158 e159 e163 e164) (show (Int32.ofInt 0).toInt = 0 from rfl)).2.1 (lo_x q_0 g108_0 h2 h3 h4 (by rw [← e_60_3]; (first | have a0 := oa6 h4 h3 h2 ro_60_3 i152x6 j108_8 | ((first | have a0 := in_u h4 | (have a0 := h4; unfold In at a0)); (first | have a1 := in_u h3 | (have a1 := h3; unfold In at a1)); (first | have a2 := in_u h2 | (have a2 := h2; unfold In at a2)); (first | have a3 := in_u ro_60_3 | (have a3 := ro_60_3; unfold In at a3)); (first | have a4 := in_u i152x6 | (have a4 := i152x6; unfold In at a4)); (first | have a5 := in_u j108_8 | (have a5 := j108_8; unfold In at a5)))); have oc := oc_54_60_2; omega) (hFc108.2.2.1 60 3 rfl) g108_1 e141 e144 g108_3 (msk_of (al := Int32.ofInt (-1)) h2 g108_1 g108_2 (fun u => Iff.trans (all_b (show (u_2_1).toInt = 32 from (by (first | have a0 := oa6 h4 h3 h2 ro_60_3 i152x6 j108_8 | ((first | have a0 := in_u h4 | (have a0 := h4; unfold In at a0)); (first | have a1 := in_u h3 | (have a1 := h3; unfold In at a1)); (first | have a2 := in_u h2 | (have a2 := h2; unfold In at a2)); (first | have a3 := in_u ro_60_3 | (have a3 := ro_60_3; unfold In at a3)); (first | have a4 := in_u i152x6 | (have a4 := i152x6; unfold In at a4)); (first | have a5 := in_u j108_8 | (have a5 := j108_8; unfold In at a5)))); have oc := oc_54_60_2; omega)) u) (show ((u : Int) < (u_2_1).toInt ↔ u < (s.2.2.1 2 1).toNatClampNeg) from (by show _ ↔ u < (s.2.2.1 2 1).toInt.toNat; rw [← e_2_1]; omega))) e158 e159 e163 e164) (show (Int32.ofInt 0).toInt = 0 from rfl)).2.2 (hFc108.2.2.1 60 3 rfl) (msk_of (al := Int32.ofInt (-1)) h2 g108_1 g108_2 (fun u => Iff.trans (all_b (show (u_2_1).toInt = 32 from (by (first | have a0 := oa6 h4 h3 h2 ro_60_3 i152x6 j108_8 | ((first | have a0 := in_u h4 | (have a0 := h4; unfold In at a0)); (first | have a1 := in_u h3 | (have a1 := h3; unfold In at a1)); (first | have a2 := in_u h2 | (have a2 := h2; unfold In at a2)); (first | have a3 := in_u ro_60_3 | (have a3 := ro_60_3; unfold In at a3)); (first | have a4 := in_u i152x6 | (have a4 := i152x6; unfold In at a4)); (first | have a5 := in_u j108_8 | (have a5 := j108_8; unfold In at a5)))); have oc := oc_54_60_2; omega)) u) (show ((u : Int) < (u_2_1).toInt ↔ u < (s.2.2.1 2 1).toNatClampNeg) from (by show _ ↔ u < (s.2.2.1 2 1).toInt.toNat; rw [← e_2_1]; omega))) e158 e159 e163 e164) (show FRE (s.1 9) (sc108.2.2.1 60 3).toInt z164 ((sI sc108 61 x3.toNatClampNeg z144).1 61) (s166.1 61) (z166).toInt from (by have h9 := p166a; rw [sI_p (show Nat.beq 9 61 = false from rfl), hFc108.1 9 rfl] at h9; exact h9)) c169 (by decide)
            have n173a : ((s166).2.2.1 60 7).toInt = 0 := by exact (p166b.1.trans (g108_0.2.2.trans q_0.2.2.1))
            exact g_ireturn (gd rfl) rfl (nb01 (in_w 0 1 (in_c 1 rfl) rfl)) (hP _ _ ⟨s166, hI166, (fr_tr rfl (fr_sI rfl hFc108) hF166), (Int32.ofInt 1), rfl, rfl, in_w 0 1 (in_c 1 rfl) rfl, n173, n173a⟩)
      · skip
        have i114 := r_lt1 0 31 c114 j108_8 ro_60_3 rfl
        have i114a := r_lt2 1 32 c114 j108_8 ro_60_3 rfl
        refine g_aload_n 118 (gd rfl) rfl rfl ?_
        refine g_getA (q2 := 61) 121 (gd rfl) rfl rfl rfl rfl ?_
        refine g_iload 123 (gd rfl) rfl rfl ?_
        refine g_dup2 124 (gd rfl) rfl rfl rfl ?_
        refine g_iaload 125 (gd rfl) rfl (n := 32) rfl (in_ix i114 rfl) (fun z124 e124 => ?_)
        refine g_iload 127 (gd rfl) rfl rfl ?_
        refine g_iand 128 (gd rfl) rfl (fun z127 e127 => ?_)
        refine g_iastore 129 (gd rfl) rfl (n := 32) rfl (in_ix i114 rfl) ?_
        have hI128 := inv_sI (q := 61) (j := y108_8.toNatClampNeg) hIc108 rfl (in_w (-2147483648) 2147483647 (i_rng z127) rfl)
        refine g_iinc 132 (gd rfl) rfl rfl (Nat.le_of_ble_eq_true rfl) (fun z129 e129 => ?_)
        have i129 := in_add 1 32 e129 i114 (in_c 1 rfl) rfl rfl
        refine g_goto 108 (gd rfl) rfl ?_
        have n108 : L108 s (sI sc108 61 y108_8.toNatClampNeg z127) x2 (z129) := by exact l108_s g108_0 h2 i114 g108_1 g108_2 e124 e127 (by (first | have a0 := oa7 h4 h3 h2 i114a ro_2_1 i114 i129 | ((first | have a0 := in_u h4 | (have a0 := h4; unfold In at a0)); (first | have a1 := in_u h3 | (have a1 := h3; unfold In at a1)); (first | have a2 := in_u h2 | (have a2 := h2; unfold In at a2)); (first | have a3 := in_u i114a | (have a3 := i114a; unfold In at a3)); (first | have a4 := in_u ro_2_1 | (have a4 := ro_2_1; unfold In at a4)); (first | have a5 := in_u i114 | (have a5 := i114; unfold In at a5)); (first | have a6 := in_u i129 | (have a6 := i129; unfold In at a6)))); have a7 := t_add e129 i114 (in_c 1 rfl) rfl; (first | have a8 := in_u ((in_c 1 rfl)) | (have a8 := (in_c 1 rfl); unfold In at a8)); have oc := oc_54_60_2; omega)
        have n108a : (y108_5) = Int32.ofInt 1 <<< (x2 &&& 31) := by exact g108_1
        have n108b : (y108_6) = (y108_5) - Int32.ofInt 1 := by exact g108_2
        have n108c : (∀ u : Nat, u < (x2).toNatClampNeg → bt (s.1 61 (x3).toNatClampNeg) u = true → bt (s.1 9 (x2).toNatClampNeg) u = false) := by exact g108_3
        exact gg_w (by first | exact Nat.le_add_right _ _ | exact gw2 | exact gw3 | exact gwe rfl | exact gwf rfl | exact gwg rfl | exact gwh rfl | omega) (gg_f (gf_cons rfl (gf_cons rfl (gf_cons rfl (gf_cons rfl (gf_cons rfl (gf_cons rfl (gf_cons rfl (gf_cons rfl (gf_cons rfl gf_nil))))))))) (ih108 (sI sc108 61 y108_8.toNatClampNeg z127) y108_5 y108_6 y108_7 z129 hI128 (fr_sI rfl hFc108) (in_w 0 32 i129 rfl) n108 n108a n108b n108c (m_up mm108 (t_add e129 i114 (in_c 1 rfl) rfl) (in_w 1 1 (in_c 1 rfl) rfl))))
  refine g_enter2 (k := 54) (N := 30601) (by first | exact dq1 hd rfl | exact dq0 hd rfl | exact dq2 hd rfl | exact dq3 hd rfl | omega) rfl (Nat.le_of_ble_eq_true rfl) ?_
  refine g_iconst 1 1 (gd rfl) rfl rfl ?_
  refine g_iload_n 2 (gd rfl) rfl rfl ?_
  refine g_ishl 3 (gd rfl) rfl (fun z2 e2 => ?_)
  refine g_istore 5 (gd rfl) rfl (Nat.le_of_ble_eq_true rfl) ?_
  refine g_iload 7 (gd rfl) rfl rfl ?_
  refine g_iconst 1 8 (gd rfl) rfl rfl ?_
  refine g_isub 9 (gd rfl) rfl (fun z8 e8 => ?_)
  refine g_istore 11 (gd rfl) rfl (Nat.le_of_ble_eq_true rfl) ?_
  refine g_aload_n 12 (gd rfl) rfl rfl ?_
  refine g_getA (q2 := 61) 15 (gd rfl) rfl rfl rfl rfl ?_
  refine g_iload_n 16 (gd rfl) rfl rfl ?_
  refine g_iaload 17 (gd rfl) rfl (n := 32) rfl (in_ix h3 rfl) (fun z16 e16 => ?_)
  refine g_aload_n 18 (gd rfl) rfl rfl ?_
  refine g_getA (q2 := 9) 21 (gd rfl) rfl rfl rfl rfl ?_
  refine g_iload_n 22 (gd rfl) rfl rfl ?_
  refine g_iaload 23 (gd rfl) rfl (n := 32) rfl (in_ix h2 rfl) (fun z22 e22 => ?_)
  refine g_iand 24 (gd rfl) rfl (fun z23 e23 => ?_)
  refine g_iload 26 (gd rfl) rfl rfl ?_
  refine g_iand 27 (gd rfl) rfl (fun z26 e26 => ?_)
  refine g_if_eq 30 32 (gd rfl) rfl rfl (fun c27 => ?_) (fun c27 => ?_)
  · skip
    have i27 := z_eq 0 0 c27 (i_rng z26) rfl
    refine g_aload_n 33 (gd rfl) rfl rfl ?_
    refine g_getA (q2 := 9) 36 (gd rfl) rfl rfl rfl rfl ?_
    refine g_iload 38 (gd rfl) rfl rfl ?_
    refine g_aload_n 39 (gd rfl) rfl rfl ?_
    refine g_getA (q2 := 61) 42 (gd rfl) rfl rfl rfl rfl ?_
    refine g_iload_n 43 (gd rfl) rfl rfl ?_
    refine g_iaload 44 (gd rfl) rfl (n := 32) rfl (in_ix h3 rfl) (fun z43 e43 => ?_)
    have q43 : z16 = z43 := (e16).trans e43.symm
    subst q43
    refine g_aload_n 45 (gd rfl) rfl rfl ?_
    refine g_getA (q2 := 61) 48 (gd rfl) rfl rfl rfl rfl ?_
    refine g_iload 50 (gd rfl) rfl rfl ?_
    refine g_iaload 51 (gd rfl) rfl (n := 32) rfl (in_ix h4 rfl) (fun z50 e50 => ?_)
    refine g_ior 52 (gd rfl) rfl (fun z51 e51 => ?_)
    refine g_calls (As := [.ref (A 9), .int z2, .int z51]) (r := []) 55 (gd rfl) rfl rfl rfl rfl rfl (Nat.le_of_ble_eq_true rfl) (Nat.zero_le _) (Nat.zero_le _) (f_266_9 (by first | exact dq1 hd rfl | exact dq0 hd rfl | exact dq2 hd rfl | exact dq3 hd rfl | omega) hI ) (fun v u h => ?_)
    obtain ⟨z52, rfl, rfl, i52, p52, p52a⟩ := h
    show GG _ _ _ _ _ _ _ _ [.int z52] _ _ _
    refine g_istore 57 (gd rfl) rfl (Nat.le_of_ble_eq_true rfl) ?_
    refine g_iload 59 (gd rfl) rfl rfl ?_
    refine g_iload 61 (gd rfl) rfl rfl ?_
    refine g_iand 62 (gd rfl) rfl (fun z61 e61 => ?_)
    refine g_if_ne 65 90 (gd rfl) rfl rfl (fun c62 => ?_) (fun c62 => ?_)
    · skip
      refine g_aload_n 91 (gd rfl) rfl rfl ?_
      refine g_getA (q2 := 61) 94 (gd rfl) rfl rfl rfl rfl ?_
      refine g_iconst 0 95 (gd rfl) rfl rfl ?_
      refine g_aload_n 96 (gd rfl) rfl rfl ?_
      refine g_getA (q2 := 62) 99 (gd rfl) rfl rfl rfl rfl ?_
      refine g_iconst 0 100 (gd rfl) rfl rfl ?_
      refine g_bipush 32 102 (gd rfl) rfl rfl ?_
      refine g_cpI (q2 := 61) (q := 62) (n0 := 32) (n1 := 32) 105 (gd rfl) rfl rfl rfl rfl (Nat.le_of_ble_eq_true rfl) (cp_0 (in_c 0 rfl) rfl) (cp_0 (in_c 0 rfl) rfl) (cp_0 (in_c 32 rfl) rfl) (cp_1 (in_c 0 rfl) (in_c 32 rfl) rfl) (cp_1 (in_c 0 rfl) (in_c 32 rfl) rfl) hI rfl rfl rfl rfl (fun s102 hI102 hF102 cp102 => ?_)
      refine g_iconst 0 106 (gd rfl) rfl rfl ?_
      refine g_istore 108 (gd rfl) rfl (Nat.le_of_ble_eq_true rfl) ?_
      have n108 : L108 s s102 x2 ((Int32.ofInt 0)) := by exact l108_0 (cpi_v cp102) (hF102.1 61 rfl) (hF102.2.2.1 60 7 rfl) rfl
      have n108a : (z2) = Int32.ofInt 1 <<< (x2 &&& 31) := by exact e2
      have n108b : (z8) = (z2) - Int32.ofInt 1 := by exact e8
      have n108c : (∀ u : Nat, u < (x2).toNatClampNeg → bt (s.1 61 (x3).toNatClampNeg) u = true → bt (s.1 9 (x2).toNatClampNeg) u = false) := by exact lo_n h2 e2 e8 e16 e22 e23 e26 c27
      exact gg_w (by first | exact Nat.le_of_ble_eq_true rfl | omega) (gg_f (gf_cons rfl (gf_cons rfl (gf_cons rfl (gf_cons rfl (gf_cons rfl (gf_cons rfl (gf_cons rfl (gf_cons rfl (gf_cons rfl gf_nil))))))))) (ct108 33 s102 z2 z8 z52 (Int32.ofInt 0) hI102 (fr_tr rfl fr_rf hF102) (in_w 0 32 (in_c 0 rfl) rfl) n108 n108a n108b n108c (m_in 33 (in_w 0 32 (in_c 0 rfl) rfl) rfl)))
    · skip
      have i62 := z_eq 0 0 c62 (i_rng z61) rfl
      refine g_aload_n 66 (gd rfl) rfl rfl ?_
      refine g_getA (q2 := 61) 69 (gd rfl) rfl rfl rfl rfl ?_
      refine g_iload_n 70 (gd rfl) rfl rfl ?_
      refine g_dup2 71 (gd rfl) rfl rfl rfl ?_
      refine g_iaload 72 (gd rfl) rfl (n := 32) rfl (in_ix h3 rfl) (fun z71 e71 => ?_)
      have q71 : z16 = z71 := (e16).trans e71.symm
      subst q71
      refine g_iload 74 (gd rfl) rfl rfl ?_
      refine g_ixor 75 (gd rfl) rfl (fun z74 e74 => ?_)
      refine g_iastore 76 (gd rfl) rfl (n := 32) rfl (in_ix h3 rfl) ?_
      have hI75 := inv_sI (q := 61) (j := x3.toNatClampNeg) hI rfl (in_w (-2147483648) 2147483647 (i_rng z74) rfl)
      refine g_aload_n 77 (gd rfl) rfl rfl ?_
      refine g_getA (q2 := 61) 80 (gd rfl) rfl rfl rfl rfl ?_
      refine g_iload 82 (gd rfl) rfl rfl ?_
      refine g_dup2 83 (gd rfl) rfl rfl rfl ?_
      refine g_iaload 84 (gd rfl) rfl (n := 32) rfl (in_ix h4 rfl) (fun z83 e83 => ?_)
      refine g_iload 86 (gd rfl) rfl rfl ?_
      refine g_ixor 87 (gd rfl) rfl (fun z86 e86 => ?_)
      refine g_iastore 88 (gd rfl) rfl (n := 32) rfl (in_ix h4 rfl) ?_
      have hI87 := inv_sI (q := 61) (j := x4.toNatClampNeg) hI75 rfl (in_w (-2147483648) 2147483647 (i_rng z86) rfl)
      refine g_iconst 1 89 (gd rfl) rfl rfl ?_
      have n89 : CLW (s.1 9) (s.2.2.1 2 1).toNatClampNeg (s.2.2.1 60 3).toInt (s.1 61) (((sI (sI s 61 x3.toNatClampNeg z74) 61 x4.toNatClampNeg z86)).1 61) (x2).toNatClampNeg (x3).toNatClampNeg ((Int32.ofInt 1)).toInt := by exact lo_c q_0 h2 h3 h4 e2 e8 e16 e50 e51 p52a e61 c62 e74 e83 e86 (by decide)
      have n89a : (((sI (sI s 61 x3.toNatClampNeg z74) 61 x4.toNatClampNeg z86)).2.2.1 60 7).toInt = 0 := by exact q_0.2.2.1
      exact g_ireturn (gd rfl) rfl (nb01 (in_w 0 1 (in_c 1 rfl) rfl)) (hP _ _ ⟨(sI (sI s 61 x3.toNatClampNeg z74) 61 x4.toNatClampNeg z86), hI87, (fr_sI rfl (fr_sI rfl fr_rf)), (Int32.ofInt 1), rfl, rfl, in_w 0 1 (in_c 1 rfl) rfl, n89, n89a⟩)
  · skip
    refine g_iconst 0 31 (gd rfl) rfl rfl ?_
    have n31 : CLW (s.1 9) (s.2.2.1 2 1).toNatClampNeg (s.2.2.1 60 3).toInt (s.1 61) ((s).1 61) (x2).toNatClampNeg (x3).toNatClampNeg ((Int32.ofInt 0)).toInt := by exact lo_b q_0 h2 h3 e2 e8 e16 e22 e23 e26 c27 rfl
    have n31a : ((s).2.2.1 60 7).toInt = 0 := by exact q_0.2.2.1
    exact g_ireturn (gd rfl) rfl (nb01 (in_w 0 1 (in_c 0 rfl) rfl)) (hP _ _ ⟨s, hI, fr_rf, (Int32.ofInt 0), rfl, rfl, in_w 0 1 (in_c 0 rfl) rfl, n31, n31a⟩)

theorem oc_54_60_32 : (Int32.ofInt (-1)).toInt = (-1) ∧ (Int32.ofInt 0).toInt = 0 ∧ (Int32.ofInt 1).toInt = 1 ∧ (Int32.ofInt 32).toInt = 32 := ⟨rfl, rfl, rfl, rfl⟩
set_option maxHeartbeats 4000000 in
/-- GraphHouse$Colours.canLower -/
theorem f_54_60_32 {Z : AmZ} {A : Nat → Nat} {s : GS} {ex : va_W} {d : Nat} {X : AmX} {x2 : Int32} {x3 : Int32} {x4 : Int32} (hd : 381 ≤ d) (hI : Inv s) (h2 : In x2 0 31) (h3 : In x3 0 31) (h4 : In x4 0 31) (q_0 : CLX (s.1 39) (s.2.2.1 32 1).toNatClampNeg s x2 x3 x4) : GC Z d 54 [.ref (A 60), .ref (A 32), .int x2, .int x3, .int x4] (WW Z A s ++ ex) 0 0 (fun v u => ∃ t : GS, Inv t ∧ Fr fm_54_60_32 s t ∧ ∃ z : Int32, v = some (.int z) ∧ u = WW Z A t ++ ex ∧ In z 0 1 ∧ (CLW (s.1 39) (s.2.2.1 32 1).toNatClampNeg (s.2.2.1 60 3).toInt (s.1 61) ((t).1 61) (x2).toNatClampNeg (x3).toNatClampNeg (z).toInt) ∧ (((t).2.2.1 60 7).toInt = 0)) X := by
  intro post xp hP hX
  obtain ⟨u_32_1, e_32_1⟩ : ∃ w, w = s.2.2.1 32 1 := ⟨_, rfl⟩
  have ro_32_1 := inv_F hI 0 32 rfl e_32_1
  obtain ⟨u_60_3, e_60_3⟩ : ∃ w, w = s.2.2.1 60 3 := ⟨_, rfl⟩
  have ro_60_3 := inv_F hI 0 32 rfl e_60_3
  have ct108 : ∀ (k108 : Nat) (sc108 : GS) (y108_5 : Int32) (y108_6 : Int32) (y108_7 : Int32) (y108_8 : Int32), Inv sc108 → Fr fm_54_60_32 s sc108 → (In y108_8 0 32) → (L108 s sc108 x2 (y108_8)) → ((y108_5) = Int32.ofInt 1 <<< (x2 &&& 31)) → ((y108_6) = (y108_5) - Int32.ofInt 1) → ((∀ u : Nat, u < (x2).toNatClampNeg → bt (s.1 61 (x3).toNatClampNeg) u = true → bt (s.1 39 (x2).toNatClampNeg) u = false)) → 32 - (y108_8).toInt < (k108 : Int) → GG Z (d - 1) 54 post (gx xp) (1 + k108 * 900) 108 (fun j => xlook j [(0, .ref (A 60)), (1, .ref (A 32)), (2, .int x2), (3, .int x3), (4, .int x4), (5, .int y108_5), (6, .int y108_6), (7, .int y108_7), (8, .int y108_8)]) [] (WW Z A sc108 ++ ex) 0 0 := by
    intro k108
    induction k108 with
    | zero => intro sc108 y108_5 y108_6 y108_7 y108_8 hIc108 hFc108 j108_8 g108_0 g108_1 g108_2 g108_3 mm108; exact m_no mm108 j108_8 rfl
    | succ k108 ih108 =>
      intro sc108 y108_5 y108_6 y108_7 y108_8 hIc108 hFc108 j108_8 g108_0 g108_1 g108_2 g108_3 mm108
      refine gg_w (M := 1 + k108 * 900 + 900) gws ?_
      refine g_iload 110 (gd rfl) rfl rfl ?_
      refine g_aload_n 111 (gd rfl) rfl rfl ?_
      refine g_getI 114 (gd rfl) rfl rfl rfl (fun z111 e111 => ?_)
      have q111 : u_60_3 = z111 := (fr_F e_60_3 hFc108 rfl).trans e111.symm
      subst q111
      refine g_cmp_ge 117 135 (gd rfl) rfl rfl (fun c114 => ?_) (fun c114 => ?_)
      · skip
        refine g_aload_n 136 (gd rfl) rfl rfl ?_
        refine g_getA (q2 := 61) 139 (gd rfl) rfl rfl rfl rfl ?_
        refine g_iload_n 140 (gd rfl) rfl rfl ?_
        refine g_dup2 141 (gd rfl) rfl rfl rfl ?_
        refine g_iaload 142 (gd rfl) rfl (n := 32) rfl (in_ix h3 rfl) (fun z141 e141 => ?_)
        refine g_iload 144 (gd rfl) rfl rfl ?_
        refine g_ior 145 (gd rfl) rfl (fun z144 e144 => ?_)
        refine g_iastore 146 (gd rfl) rfl (n := 32) rfl (in_ix h3 rfl) ?_
        have hI145 := inv_sI (q := 61) (j := x3.toNatClampNeg) hIc108 rfl (in_w (-2147483648) 2147483647 (i_rng z144) rfl)
        refine g_aload_n 147 (gd rfl) rfl rfl ?_
        refine g_aload_n 148 (gd rfl) rfl rfl ?_
        refine g_getA (q2 := 39) 151 (gd rfl) rfl rfl rfl rfl ?_
        refine g_aload_n 152 (gd rfl) rfl rfl ?_
        refine g_callv (X := _) (As := []) (r := [.ref (A 39), .ref (A 60)]) (b := A 32) (q := 32) 155 (gd rfl) rfl rfl rfl rfl rfl (ww_o rfl) (Nat.le_of_ble_eq_true rfl) (mc := 0) (ms := 0) (Nat.zero_le _) (Nat.zero_le _) (P := fun v u => _) ?_ (fun e u h => h) (fun v u h => h)
        intro po152 xx152 hp152 hx152
        refine g_enter2 (k := 102) (N := 300) (by first | exact dq1 hd rfl | exact dq0 hd rfl | exact dq2 hd rfl | exact dq3 hd rfl | omega) rfl (Nat.le_of_ble_eq_true rfl) ?_
        refine g_aload_n 1 (gd rfl) rfl rfl ?_
        refine g_getI 4 (gd rfl) rfl rfl rfl (fun z152x1 e152x1 => ?_)
        have q152x1 : u_32_1 = z152x1 := (sI_F (fr_F e_32_1 hFc108 rfl)).trans e152x1.symm
        subst q152x1
        refine g_bipush 32 6 (gd rfl) rfl rfl ?_
        refine g_cmp_lt 9 13 (gd rfl) rfl rfl (fun c152x6 => ?_) (fun c152x6 => ?_)
        · skip
          have i152x6 := r_lt1 0 31 c152x6 ro_32_1 (in_c 32 rfl) rfl
          refine g_iconst 1 14 (gd rfl) rfl rfl ?_
          refine g_aload_n 15 (gd rfl) rfl rfl ?_
          refine g_getI 18 (gd rfl) rfl rfl rfl (fun z152x15 e152x15 => ?_)
          have q152x15 : u_32_1 = z152x15 := (sI_F (fr_F e_32_1 hFc108 rfl)).trans e152x15.symm
          subst q152x15
          refine g_ishl 19 (gd rfl) rfl (fun z152x18 e152x18 => ?_)
          refine g_iconst 1 20 (gd rfl) rfl rfl ?_
          refine g_isub 21 (gd rfl) rfl (fun z152x20 e152x20 => ?_)
          refine g_ireturn (gd rfl) rfl rfl (hp152 _ _ ?_)
          show GG _ _ _ _ _ _ _ _ [.int z152x20, .ref (A 39), .ref (A 60)] _ _ _
          refine g_iload 157 (gd rfl) rfl rfl ?_
          refine g_iconst (-1) 158 (gd rfl) rfl rfl ?_
          refine g_ixor 159 (gd rfl) rfl (fun z158 e158 => ?_)
          refine g_iand 160 (gd rfl) rfl (fun z159 e159 => ?_)
          refine g_iload 162 (gd rfl) rfl rfl ?_
          refine g_iconst (-1) 163 (gd rfl) rfl rfl ?_
          refine g_ixor 164 (gd rfl) rfl (fun z163 e163 => ?_)
          refine g_iand 165 (gd rfl) rfl (fun z164 e164 => ?_)
          refine g_iconst 0 166 (gd rfl) rfl rfl ?_
          have p166 : FLX ((sI sc108 61 x3.toNatClampNeg z144).1 39) (sI sc108 61 x3.toNatClampNeg z144) z164 ((Int32.ofInt 0)).toInt := by rw [sI_p (show Nat.beq 39 61 = false from rfl), hFc108.1 39 rfl]; exact (lo_x q_0 g108_0 h2 h3 h4 (by rw [← e_60_3]; (first | have a0 := oa6 h4 h3 h2 ro_60_3 i152x6 j108_8 | ((first | have a0 := in_u h4 | (have a0 := h4; unfold In at a0)); (first | have a1 := in_u h3 | (have a1 := h3; unfold In at a1)); (first | have a2 := in_u h2 | (have a2 := h2; unfold In at a2)); (first | have a3 := in_u ro_60_3 | (have a3 := ro_60_3; unfold In at a3)); (first | have a4 := in_u i152x6 | (have a4 := i152x6; unfold In at a4)); (first | have a5 := in_u j108_8 | (have a5 := j108_8; unfold In at a5)))); have oc := oc_54_60_32; omega) (hFc108.2.2.1 60 3 rfl) g108_1 e141 e144 g108_3 (msk_of (al := z152x20) h2 g108_1 g108_2 (fun u => Iff.trans (all_a e152x18 e152x20 i152x6 u) (show ((u : Int) < (u_32_1).toInt ↔ u < (s.2.2.1 32 1).toNatClampNeg) from (by show _ ↔ u < (s.2.2.1 32 1).toInt.toNat; rw [← e_32_1]; omega))) e158 e159 e163 e164) (show (Int32.ofInt 0).toInt = 0 from rfl)).1
          refine g_callv (X := _) (As := [.ref (A 39), .int z164, .int (Int32.ofInt 0)]) (r := []) (b := A 60) (q := 60) 169 (gd rfl) rfl rfl rfl rfl rfl (ww_o rfl) (Nat.le_of_ble_eq_true rfl) (Nat.zero_le _) (Nat.zero_le _) (f_46_60_39 (by first | exact dq1 hd rfl | exact dq0 hd rfl | exact dq2 hd rfl | exact dq3 hd rfl | omega) hI145 (in_w 0 33 (in_c 0 rfl) rfl) p166) (fun e u h => h) (fun v u h => ?_)
          obtain ⟨s166, hI166, hF166, z166, rfl, rfl, i166, p166a, p166b⟩ := h
          show GG _ _ _ _ _ _ _ _ [.int z166] _ _ _
          refine g_if_eq 172 174 (gd rfl) rfl rfl (fun c169 => ?_) (fun c169 => ?_)
          · skip
            have i169 := z_eq 0 0 c169 i166 rfl
            refine g_aload_n 175 (gd rfl) rfl rfl ?_
            refine g_getA (q2 := 62) 178 (gd rfl) rfl rfl rfl rfl ?_
            refine g_iconst 0 179 (gd rfl) rfl rfl ?_
            refine g_aload_n 180 (gd rfl) rfl rfl ?_
            refine g_getA (q2 := 61) 183 (gd rfl) rfl rfl rfl rfl ?_
            refine g_iconst 0 184 (gd rfl) rfl rfl ?_
            refine g_bipush 32 186 (gd rfl) rfl rfl ?_
            refine g_cpI (q2 := 62) (q := 61) (n0 := 32) (n1 := 32) 189 (gd rfl) rfl rfl rfl rfl (Nat.le_of_ble_eq_true rfl) (cp_0 (in_c 0 rfl) rfl) (cp_0 (in_c 0 rfl) rfl) (cp_0 (in_c 32 rfl) rfl) (cp_1 (in_c 0 rfl) (in_c 32 rfl) rfl) (cp_1 (in_c 0 rfl) (in_c 32 rfl) rfl) hI166 rfl rfl rfl rfl (fun s186 hI186 hF186 cp186 => ?_)
            refine g_iconst 0 190 (gd rfl) rfl rfl ?_
            have n190 : CLW (s.1 39) (s.2.2.1 32 1).toNatClampNeg (s.2.2.1 60 3).toInt (s.1 61) ((s186).1 61) (x2).toNatClampNeg (x3).toNatClampNeg ((Int32.ofInt 0)).toInt := by exact lo_z q_0 h3 (lo_x q_0 g108_0 h2 h3 h4 (by rw [← e_60_3]; (first | have a0 := oa6 h4 h3 h2 ro_60_3 i152x6 j108_8 | ((first | have a0 := in_u h4 | (have a0 := h4; unfold In at a0)); (first | have a1 := in_u h3 | (have a1 := h3; unfold In at a1)); (first | have a2 := in_u h2 | (have a2 := h2; unfold In at a2)); (first | have a3 := in_u ro_60_3 | (have a3 := ro_60_3; unfold In at a3)); (first | have a4 := in_u i152x6 | (have a4 := i152x6; unfold In at a4)); (first | have a5 := in_u j108_8 | (have a5 := j108_8; unfold In at a5)))); have oc := oc_54_60_32; omega) (hFc108.2.2.1 60 3 rfl) g108_1 e141 e144 g108_3 (msk_of (al := z152x20) h2 g108_1 g108_2 (fun u => Iff.trans (all_a e152x18 e152x20 i152x6 u) (show ((u : Int) < (u_32_1).toInt ↔ u < (s.2.2.1 32 1).toNatClampNeg) from (by show _ ↔ u < (s.2.2.1 32 1).toInt.toNat; rw [← e_32_1]; omega))) e158 e159 e163 e164) (show (Int32.ofInt 0).toInt = 0 from rfl)).2.1 (lo_x q_0 g108_0 h2 h3 h4 (by rw [← e_60_3]; (first | have a0 := oa6 h4 h3 h2 ro_60_3 i152x6 j108_8 | ((first | have a0 := in_u h4 | (have a0 := h4; unfold In at a0)); (first | have a1 := in_u h3 | (have a1 := h3; unfold In at a1)); (first | have a2 := in_u h2 | (have a2 := h2; unfold In at a2)); (first | have a3 := in_u ro_60_3 | (have a3 := ro_60_3; unfold In at a3)); (first | have a4 := in_u i152x6 | (have a4 := i152x6; unfold In at a4)); (first | have a5 := in_u j108_8 | (have a5 := j108_8; unfold In at a5)))); have oc := oc_54_60_32; omega) (hFc108.2.2.1 60 3 rfl) g108_1 e141 e144 g108_3 (msk_of (al := z152x20) h2 g108_1 g108_2 (fun u => Iff.trans (all_a e152x18 e152x20 i152x6 u) (show ((u : Int) < (u_32_1).toInt ↔ u < (s.2.2.1 32 1).toNatClampNeg) from (by show _ ↔ u < (s.2.2.1 32 1).toInt.toNat; rw [← e_32_1]; omega))) e158 e159 e163 e164) (show (Int32.ofInt 0).toInt = 0 from rfl)).2.2 (lo_x q_0 g108_0 h2 h3 h4 (by rw [← e_60_3]; (first | have a0 := oa6 h4 h3 h2 ro_60_3 i152x6 j108_8 | ((first | have a0 := in_u h4 | (have a0 := h4; unfold In at a0)); (first | have a1 := in_u h3 | (have a1 := h3; unfold In at a1)); (first | have a2 := in_u h2 | (have a2 := h2; unfold In at a2)); (first | have a3 := in_u ro_60_3 | (have a3 := ro_60_3; unfold In at a3)); (first | have a4 := in_u i152x6 | (have a4 := i152x6; unfold In at a4)); (first | have a5 := in_u j108_8 | (have a5 := j108_8; unfold In at a5)))); have oc := oc_54_60_32; omega) (hFc108.2.2.1 60 3 rfl) g108_1 e141 e144 g108_3 (msk_of (al := z152x20) h2 g108_1 g108_2 (fun u => Iff.trans (all_a e152x18 e152x20 i152x6 u) (show ((u : Int) < (u_32_1).toInt ↔ u < (s.2.2.1 32 1).toNatClampNeg) from (by show _ ↔ u < (s.2.2.1 32 1).toInt.toNat; rw [← e_32_1]; omega))) e158 e159 e163 e164) (show (Int32.ofInt 0).toInt = 0 from rfl)).1 (hFc108.2.2.1 60 3 rfl) (msk_of (al := z152x20) h2 g108_1 g108_2 (fun u => Iff.trans (all_a e152x18 e152x20 i152x6 u) (show ((u : Int) < (u_32_1).toInt ↔ u < (s.2.2.1 32 1).toNatClampNeg) from (by show _ ↔ u < (s.2.2.1 32 1).toInt.toNat; rw [← e_32_1]; omega))) e158 e159 e163 e164) (show FRE (s.1 39) (sc108.2.2.1 60 3).toInt z164 ((sI sc108 61 x3.toNatClampNeg z144).1 61) (s166.1 61) (z166).toInt from (by have h9 := p166a; rw [sI_p (show Nat.beq 39 61 = false from rfl), hFc108.1 39 rfl] at h9; exact h9)) c169 g108_0.2.1 ((hF166.1 62 rfl).trans (sI_p rfl)) (cpi_v cp186) rfl
            have n190a : ((s186).2.2.1 60 7).toInt = 0 := by exact (congrArg Int32.toInt (hF186.2.2.1 60 7 rfl)).trans (p166b.1.trans (g108_0.2.2.trans q_0.2.2.1))
            exact g_ireturn (gd rfl) rfl (nb01 (in_w 0 1 (in_c 0 rfl) rfl)) (hP _ _ ⟨s186, hI186, (fr_tr rfl (fr_tr rfl (fr_sI rfl hFc108) hF166) hF186), (Int32.ofInt 0), rfl, rfl, in_w 0 1 (in_c 0 rfl) rfl, n190, n190a⟩)
          · skip
            have i169 := z_ne 1 1 c169 i166 rfl
            refine g_iconst 1 173 (gd rfl) rfl rfl ?_
            have n173 : CLW (s.1 39) (s.2.2.1 32 1).toNatClampNeg (s.2.2.1 60 3).toInt (s.1 61) ((s166).1 61) (x2).toNatClampNeg (x3).toNatClampNeg ((Int32.ofInt 1)).toInt := by exact lo_y (y := x2) (x := x2) q_0 h3 (lo_x q_0 g108_0 h2 h3 h4 (by rw [← e_60_3]; (first | have a0 := oa6 h4 h3 h2 ro_60_3 i152x6 j108_8 | ((first | have a0 := in_u h4 | (have a0 := h4; unfold In at a0)); (first | have a1 := in_u h3 | (have a1 := h3; unfold In at a1)); (first | have a2 := in_u h2 | (have a2 := h2; unfold In at a2)); (first | have a3 := in_u ro_60_3 | (have a3 := ro_60_3; unfold In at a3)); (first | have a4 := in_u i152x6 | (have a4 := i152x6; unfold In at a4)); (first | have a5 := in_u j108_8 | (have a5 := j108_8; unfold In at a5)))); have oc := oc_54_60_32; omega) (hFc108.2.2.1 60 3 rfl) g108_1 e141 e144 g108_3 (msk_of (al := z152x20) h2 g108_1 g108_2 (fun u => Iff.trans (all_a e152x18 e152x20 i152x6 u) (show ((u : Int) < (u_32_1).toInt ↔ u < (s.2.2.1 32 1).toNatClampNeg) from (by show _ ↔ u < (s.2.2.1 32 1).toInt.toNat; rw [← e_32_1]; omega))) e158 e159 e163 e164) (show (Int32.ofInt 0).toInt = 0 from rfl)).2.1 (lo_x q_0 g108_0 h2 h3 h4 (by rw [← e_60_3]; (first | have a0 := oa6 h4 h3 h2 ro_60_3 i152x6 j108_8 | ((first | have a0 := in_u h4 | (have a0 := h4; unfold In at a0)); (first | have a1 := in_u h3 | (have a1 := h3; unfold In at a1)); (first | have a2 := in_u h2 | (have a2 := h2; unfold In at a2)); (first | have a3 := in_u ro_60_3 | (have a3 := ro_60_3; unfold In at a3)); (first | have a4 := in_u i152x6 | (have a4 := i152x6; unfold In at a4)); (first | have a5 := in_u j108_8 | (have a5 := j108_8; unfold In at a5)))); have oc := oc_54_60_32; omega) (hFc108.2.2.1 60 3 rfl) g108_1 e141 e144 g108_3 (msk_of (al := z152x20) h2 g108_1 g108_2 (fun u => Iff.trans (all_a e152x18 e152x20 i152x6 u) (show ((u : Int) < (u_32_1).toInt ↔ u < (s.2.2.1 32 1).toNatClampNeg) from (by show _ ↔ u < (s.2.2.1 32 1).toInt.toNat; rw [← e_32_1]; omega))) e158 e159 e163 e164) (show (Int32.ofInt 0).toInt = 0 from rfl)).2.2 (hFc108.2.2.1 60 3 rfl) (msk_of (al := z152x20) h2 g108_1 g108_2 (fun u => Iff.trans (all_a e152x18 e152x20 i152x6 u) (show ((u : Int) < (u_32_1).toInt ↔ u < (s.2.2.1 32 1).toNatClampNeg) from (by show _ ↔ u < (s.2.2.1 32 1).toInt.toNat; rw [← e_32_1]; omega))) e158 e159 e163 e164) (show FRE (s.1 39) (sc108.2.2.1 60 3).toInt z164 ((sI sc108 61 x3.toNatClampNeg z144).1 61) (s166.1 61) (z166).toInt from (by have h9 := p166a; rw [sI_p (show Nat.beq 39 61 = false from rfl), hFc108.1 39 rfl] at h9; exact h9)) c169 (by decide)
            have n173a : ((s166).2.2.1 60 7).toInt = 0 := by exact (p166b.1.trans (g108_0.2.2.trans q_0.2.2.1))
            exact g_ireturn (gd rfl) rfl (nb01 (in_w 0 1 (in_c 1 rfl) rfl)) (hP _ _ ⟨s166, hI166, (fr_tr rfl (fr_sI rfl hFc108) hF166), (Int32.ofInt 1), rfl, rfl, in_w 0 1 (in_c 1 rfl) rfl, n173, n173a⟩)
        · skip
          have i152x6 := r_le2 32 32 c152x6 (in_c 32 rfl) ro_32_1 rfl
          refine g_iconst (-1) 10 (gd rfl) rfl rfl ?_
          refine g_goto 21 (gd rfl) rfl ?_
          refine g_ireturn (gd rfl) rfl rfl (hp152 _ _ ?_)
          show GG _ _ _ _ _ _ _ _ [.int (Int32.ofInt (-1)), .ref (A 39), .ref (A 60)] _ _ _
          refine g_iload 157 (gd rfl) rfl rfl ?_
          refine g_iconst (-1) 158 (gd rfl) rfl rfl ?_
          refine g_ixor 159 (gd rfl) rfl (fun z158 e158 => ?_)
          refine g_iand 160 (gd rfl) rfl (fun z159 e159 => ?_)
          refine g_iload 162 (gd rfl) rfl rfl ?_
          refine g_iconst (-1) 163 (gd rfl) rfl rfl ?_
          refine g_ixor 164 (gd rfl) rfl (fun z163 e163 => ?_)
          refine g_iand 165 (gd rfl) rfl (fun z164 e164 => ?_)
          refine g_iconst 0 166 (gd rfl) rfl rfl ?_
          have p166 : FLX ((sI sc108 61 x3.toNatClampNeg z144).1 39) (sI sc108 61 x3.toNatClampNeg z144) z164 ((Int32.ofInt 0)).toInt := by rw [sI_p (show Nat.beq 39 61 = false from rfl), hFc108.1 39 rfl]; exact (lo_x q_0 g108_0 h2 h3 h4 (by rw [← e_60_3]; (first | have a0 := oa6 h4 h3 h2 ro_60_3 i152x6 j108_8 | ((first | have a0 := in_u h4 | (have a0 := h4; unfold In at a0)); (first | have a1 := in_u h3 | (have a1 := h3; unfold In at a1)); (first | have a2 := in_u h2 | (have a2 := h2; unfold In at a2)); (first | have a3 := in_u ro_60_3 | (have a3 := ro_60_3; unfold In at a3)); (first | have a4 := in_u i152x6 | (have a4 := i152x6; unfold In at a4)); (first | have a5 := in_u j108_8 | (have a5 := j108_8; unfold In at a5)))); have oc := oc_54_60_32; omega) (hFc108.2.2.1 60 3 rfl) g108_1 e141 e144 g108_3 (msk_of (al := Int32.ofInt (-1)) h2 g108_1 g108_2 (fun u => Iff.trans (all_b (show (u_32_1).toInt = 32 from (by (first | have a0 := oa6 h4 h3 h2 ro_60_3 i152x6 j108_8 | ((first | have a0 := in_u h4 | (have a0 := h4; unfold In at a0)); (first | have a1 := in_u h3 | (have a1 := h3; unfold In at a1)); (first | have a2 := in_u h2 | (have a2 := h2; unfold In at a2)); (first | have a3 := in_u ro_60_3 | (have a3 := ro_60_3; unfold In at a3)); (first | have a4 := in_u i152x6 | (have a4 := i152x6; unfold In at a4)); (first | have a5 := in_u j108_8 | (have a5 := j108_8; unfold In at a5)))); have oc := oc_54_60_32; omega)) u) (show ((u : Int) < (u_32_1).toInt ↔ u < (s.2.2.1 32 1).toNatClampNeg) from (by show _ ↔ u < (s.2.2.1 32 1).toInt.toNat; rw [← e_32_1]; omega))) e158 e159 e163 e164) (show (Int32.ofInt 0).toInt = 0 from rfl)).1
          refine g_callv (X := _) (As := [.ref (A 39), .int z164, .int (Int32.ofInt 0)]) (r := []) (b := A 60) (q := 60) 169 (gd rfl) rfl rfl rfl rfl rfl (ww_o rfl) (Nat.le_of_ble_eq_true rfl) (Nat.zero_le _) (Nat.zero_le _) (f_46_60_39 (by first | exact dq1 hd rfl | exact dq0 hd rfl | exact dq2 hd rfl | exact dq3 hd rfl | omega) hI145 (in_w 0 33 (in_c 0 rfl) rfl) p166) (fun e u h => h) (fun v u h => ?_)
          obtain ⟨s166, hI166, hF166, z166, rfl, rfl, i166, p166a, p166b⟩ := h
          show GG _ _ _ _ _ _ _ _ [.int z166] _ _ _
          refine g_if_eq 172 174 (gd rfl) rfl rfl (fun c169 => ?_) (fun c169 => ?_)
          · skip
            have i169 := z_eq 0 0 c169 i166 rfl
            refine g_aload_n 175 (gd rfl) rfl rfl ?_
            refine g_getA (q2 := 62) 178 (gd rfl) rfl rfl rfl rfl ?_
            refine g_iconst 0 179 (gd rfl) rfl rfl ?_
            refine g_aload_n 180 (gd rfl) rfl rfl ?_
            refine g_getA (q2 := 61) 183 (gd rfl) rfl rfl rfl rfl ?_
            refine g_iconst 0 184 (gd rfl) rfl rfl ?_
            refine g_bipush 32 186 (gd rfl) rfl rfl ?_
            refine g_cpI (q2 := 62) (q := 61) (n0 := 32) (n1 := 32) 189 (gd rfl) rfl rfl rfl rfl (Nat.le_of_ble_eq_true rfl) (cp_0 (in_c 0 rfl) rfl) (cp_0 (in_c 0 rfl) rfl) (cp_0 (in_c 32 rfl) rfl) (cp_1 (in_c 0 rfl) (in_c 32 rfl) rfl) (cp_1 (in_c 0 rfl) (in_c 32 rfl) rfl) hI166 rfl rfl rfl rfl (fun s186 hI186 hF186 cp186 => ?_)
            refine g_iconst 0 190 (gd rfl) rfl rfl ?_
            have n190 : CLW (s.1 39) (s.2.2.1 32 1).toNatClampNeg (s.2.2.1 60 3).toInt (s.1 61) ((s186).1 61) (x2).toNatClampNeg (x3).toNatClampNeg ((Int32.ofInt 0)).toInt := by exact lo_z q_0 h3 (lo_x q_0 g108_0 h2 h3 h4 (by rw [← e_60_3]; (first | have a0 := oa6 h4 h3 h2 ro_60_3 i152x6 j108_8 | ((first | have a0 := in_u h4 | (have a0 := h4; unfold In at a0)); (first | have a1 := in_u h3 | (have a1 := h3; unfold In at a1)); (first | have a2 := in_u h2 | (have a2 := h2; unfold In at a2)); (first | have a3 := in_u ro_60_3 | (have a3 := ro_60_3; unfold In at a3)); (first | have a4 := in_u i152x6 | (have a4 := i152x6; unfold In at a4)); (first | have a5 := in_u j108_8 | (have a5 := j108_8; unfold In at a5)))); have oc := oc_54_60_32; omega) (hFc108.2.2.1 60 3 rfl) g108_1 e141 e144 g108_3 (msk_of (al := Int32.ofInt (-1)) h2 g108_1 g108_2 (fun u => Iff.trans (all_b (show (u_32_1).toInt = 32 from (by (first | have a0 := oa6 h4 h3 h2 ro_60_3 i152x6 j108_8 | ((first | have a0 := in_u h4 | (have a0 := h4; unfold In at a0)); (first | have a1 := in_u h3 | (have a1 := h3; unfold In at a1)); (first | have a2 := in_u h2 | (have a2 := h2; unfold In at a2)); (first | have a3 := in_u ro_60_3 | (have a3 := ro_60_3; unfold In at a3)); (first | have a4 := in_u i152x6 | (have a4 := i152x6; unfold In at a4)); (first | have a5 := in_u j108_8 | (have a5 := j108_8; unfold In at a5)))); have oc := oc_54_60_32; omega)) u) (show ((u : Int) < (u_32_1).toInt ↔ u < (s.2.2.1 32 1).toNatClampNeg) from (by show _ ↔ u < (s.2.2.1 32 1).toInt.toNat; rw [← e_32_1]; omega))) e158 e159 e163 e164) (show (Int32.ofInt 0).toInt = 0 from rfl)).2.1 (lo_x q_0 g108_0 h2 h3 h4 (by rw [← e_60_3]; (first | have a0 := oa6 h4 h3 h2 ro_60_3 i152x6 j108_8 | ((first | have a0 := in_u h4 | (have a0 := h4; unfold In at a0)); (first | have a1 := in_u h3 | (have a1 := h3; unfold In at a1)); (first | have a2 := in_u h2 | (have a2 := h2; unfold In at a2)); (first | have a3 := in_u ro_60_3 | (have a3 := ro_60_3; unfold In at a3)); (first | have a4 := in_u i152x6 | (have a4 := i152x6; unfold In at a4)); (first | have a5 := in_u j108_8 | (have a5 := j108_8; unfold In at a5)))); have oc := oc_54_60_32; omega) (hFc108.2.2.1 60 3 rfl) g108_1 e141 e144 g108_3 (msk_of (al := Int32.ofInt (-1)) h2 g108_1 g108_2 (fun u => Iff.trans (all_b (show (u_32_1).toInt = 32 from (by (first | have a0 := oa6 h4 h3 h2 ro_60_3 i152x6 j108_8 | ((first | have a0 := in_u h4 | (have a0 := h4; unfold In at a0)); (first | have a1 := in_u h3 | (have a1 := h3; unfold In at a1)); (first | have a2 := in_u h2 | (have a2 := h2; unfold In at a2)); (first | have a3 := in_u ro_60_3 | (have a3 := ro_60_3; unfold In at a3)); (first | have a4 := in_u i152x6 | (have a4 := i152x6; unfold In at a4)); (first | have a5 := in_u j108_8 | (have a5 := j108_8; unfold In at a5)))); have oc := oc_54_60_32; omega)) u) (show ((u : Int) < (u_32_1).toInt ↔ u < (s.2.2.1 32 1).toNatClampNeg) from (by show _ ↔ u < (s.2.2.1 32 1).toInt.toNat; rw [← e_32_1]; omega))) e158 e159 e163 e164) (show (Int32.ofInt 0).toInt = 0 from rfl)).2.2 (lo_x q_0 g108_0 h2 h3 h4 (by rw [← e_60_3]; (first | have a0 := oa6 h4 h3 h2 ro_60_3 i152x6 j108_8 | ((first | have a0 := in_u h4 | (have a0 := h4; unfold In at a0)); (first | have a1 := in_u h3 | (have a1 := h3; unfold In at a1)); (first | have a2 := in_u h2 | (have a2 := h2; unfold In at a2)); (first | have a3 := in_u ro_60_3 | (have a3 := ro_60_3; unfold In at a3)); (first | have a4 := in_u i152x6 | (have a4 := i152x6; unfold In at a4)); (first | have a5 := in_u j108_8 | (have a5 := j108_8; unfold In at a5)))); have oc := oc_54_60_32; omega) (hFc108.2.2.1 60 3 rfl) g108_1 e141 e144 g108_3 (msk_of (al := Int32.ofInt (-1)) h2 g108_1 g108_2 (fun u => Iff.trans (all_b (show (u_32_1).toInt = 32 from (by (first | have a0 := oa6 h4 h3 h2 ro_60_3 i152x6 j108_8 | ((first | have a0 := in_u h4 | (have a0 := h4; unfold In at a0)); (first | have a1 := in_u h3 | (have a1 := h3; unfold In at a1)); (first | have a2 := in_u h2 | (have a2 := h2; unfold In at a2)); (first | have a3 := in_u ro_60_3 | (have a3 := ro_60_3; unfold In at a3)); (first | have a4 := in_u i152x6 | (have a4 := i152x6; unfold In at a4)); (first | have a5 := in_u j108_8 | (have a5 := j108_8; unfold In at a5)))); have oc := oc_54_60_32; omega)) u) (show ((u : Int) < (u_32_1).toInt ↔ u < (s.2.2.1 32 1).toNatClampNeg) from (by show _ ↔ u < (s.2.2.1 32 1).toInt.toNat; rw [← e_32_1]; omega))) e158 e159 e163 e164) (show (Int32.ofInt 0).toInt = 0 from rfl)).1 (hFc108.2.2.1 60 3 rfl) (msk_of (al := Int32.ofInt (-1)) h2 g108_1 g108_2 (fun u => Iff.trans (all_b (show (u_32_1).toInt = 32 from (by (first | have a0 := oa6 h4 h3 h2 ro_60_3 i152x6 j108_8 | ((first | have a0 := in_u h4 | (have a0 := h4; unfold In at a0)); (first | have a1 := in_u h3 | (have a1 := h3; unfold In at a1)); (first | have a2 := in_u h2 | (have a2 := h2; unfold In at a2)); (first | have a3 := in_u ro_60_3 | (have a3 := ro_60_3; unfold In at a3)); (first | have a4 := in_u i152x6 | (have a4 := i152x6; unfold In at a4)); (first | have a5 := in_u j108_8 | (have a5 := j108_8; unfold In at a5)))); have oc := oc_54_60_32; omega)) u) (show ((u : Int) < (u_32_1).toInt ↔ u < (s.2.2.1 32 1).toNatClampNeg) from (by show _ ↔ u < (s.2.2.1 32 1).toInt.toNat; rw [← e_32_1]; omega))) e158 e159 e163 e164) (show FRE (s.1 39) (sc108.2.2.1 60 3).toInt z164 ((sI sc108 61 x3.toNatClampNeg z144).1 61) (s166.1 61) (z166).toInt from (by have h9 := p166a; rw [sI_p (show Nat.beq 39 61 = false from rfl), hFc108.1 39 rfl] at h9; exact h9)) c169 g108_0.2.1 ((hF166.1 62 rfl).trans (sI_p rfl)) (cpi_v cp186) rfl
            have n190a : ((s186).2.2.1 60 7).toInt = 0 := by exact (congrArg Int32.toInt (hF186.2.2.1 60 7 rfl)).trans (p166b.1.trans (g108_0.2.2.trans q_0.2.2.1))
            exact g_ireturn (gd rfl) rfl (nb01 (in_w 0 1 (in_c 0 rfl) rfl)) (hP _ _ ⟨s186, hI186, (fr_tr rfl (fr_tr rfl (fr_sI rfl hFc108) hF166) hF186), (Int32.ofInt 0), rfl, rfl, in_w 0 1 (in_c 0 rfl) rfl, n190, n190a⟩)
          · skip
            have i169 := z_ne 1 1 c169 i166 rfl
            refine g_iconst 1 173 (gd rfl) rfl rfl ?_
            have n173 : CLW (s.1 39) (s.2.2.1 32 1).toNatClampNeg (s.2.2.1 60 3).toInt (s.1 61) ((s166).1 61) (x2).toNatClampNeg (x3).toNatClampNeg ((Int32.ofInt 1)).toInt := by exact lo_y (y := x2) (x := x2) q_0 h3 (lo_x q_0 g108_0 h2 h3 h4 (by rw [← e_60_3]; (first | have a0 := oa6 h4 h3 h2 ro_60_3 i152x6 j108_8 | ((first | have a0 := in_u h4 | (have a0 := h4; unfold In at a0)); (first | have a1 := in_u h3 | (have a1 := h3; unfold In at a1)); (first | have a2 := in_u h2 | (have a2 := h2; unfold In at a2)); (first | have a3 := in_u ro_60_3 | (have a3 := ro_60_3; unfold In at a3)); (first | have a4 := in_u i152x6 | (have a4 := i152x6; unfold In at a4)); (first | have a5 := in_u j108_8 | (have a5 := j108_8; unfold In at a5)))); have oc := oc_54_60_32; omega) (hFc108.2.2.1 60 3 rfl) g108_1 e141 e144 g108_3 (msk_of (al := Int32.ofInt (-1)) h2 g108_1 g108_2 (fun u => Iff.trans (all_b (show (u_32_1).toInt = 32 from (by (first | have a0 := oa6 h4 h3 h2 ro_60_3 i152x6 j108_8 | ((first | have a0 := in_u h4 | (have a0 := h4; unfold In at a0)); (first | have a1 := in_u h3 | (have a1 := h3; unfold In at a1)); (first | have a2 := in_u h2 | (have a2 := h2; unfold In at a2)); (first | have a3 := in_u ro_60_3 | (have a3 := ro_60_3; unfold In at a3)); (first | have a4 := in_u i152x6 | (have a4 := i152x6; unfold In at a4)); (first | have a5 := in_u j108_8 | (have a5 := j108_8; unfold In at a5)))); have oc := oc_54_60_32; omega)) u) (show ((u : Int) < (u_32_1).toInt ↔ u < (s.2.2.1 32 1).toNatClampNeg) from (by show _ ↔ u < (s.2.2.1 32 1).toInt.toNat; rw [← e_32_1]; omega))) e158 e159 e163 e164) (show (Int32.ofInt 0).toInt = 0 from rfl)).2.1 (lo_x q_0 g108_0 h2 h3 h4 (by rw [← e_60_3]; (first | have a0 := oa6 h4 h3 h2 ro_60_3 i152x6 j108_8 | ((first | have a0 := in_u h4 | (have a0 := h4; unfold In at a0)); (first | have a1 := in_u h3 | (have a1 := h3; unfold In at a1)); (first | have a2 := in_u h2 | (have a2 := h2; unfold In at a2)); (first | have a3 := in_u ro_60_3 | (have a3 := ro_60_3; unfold In at a3)); (first | have a4 := in_u i152x6 | (have a4 := i152x6; unfold In at a4)); (first | have a5 := in_u j108_8 | (have a5 := j108_8; unfold In at a5)))); have oc := oc_54_60_32; omega) (hFc108.2.2.1 60 3 rfl) g108_1 e141 e144 g108_3 (msk_of (al := Int32.ofInt (-1)) h2 g108_1 g108_2 (fun u => Iff.trans (all_b (show (u_32_1).toInt = 32 from (by (first | have a0 := oa6 h4 h3 h2 ro_60_3 i152x6 j108_8 | ((first | have a0 := in_u h4 | (have a0 := h4; unfold In at a0)); (first | have a1 := in_u h3 | (have a1 := h3; unfold In at a1)); (first | have a2 := in_u h2 | (have a2 := h2; unfold In at a2)); (first | have a3 := in_u ro_60_3 | (have a3 := ro_60_3; unfold In at a3)); (first | have a4 := in_u i152x6 | (have a4 := i152x6; unfold In at a4)); (first | have a5 := in_u j108_8 | (have a5 := j108_8; unfold In at a5)))); have oc := oc_54_60_32; omega)) u) (show ((u : Int) < (u_32_1).toInt ↔ u < (s.2.2.1 32 1).toNatClampNeg) from (by show _ ↔ u < (s.2.2.1 32 1).toInt.toNat; rw [← e_32_1]; omega))) e158 e159 e163 e164) (show (Int32.ofInt 0).toInt = 0 from rfl)).2.2 (hFc108.2.2.1 60 3 rfl) (msk_of (al := Int32.ofInt (-1)) h2 g108_1 g108_2 (fun u => Iff.trans (all_b (show (u_32_1).toInt = 32 from (by (first | have a0 := oa6 h4 h3 h2 ro_60_3 i152x6 j108_8 | ((first | have a0 := in_u h4 | (have a0 := h4; unfold In at a0)); (first | have a1 := in_u h3 | (have a1 := h3; unfold In at a1)); (first | have a2 := in_u h2 | (have a2 := h2; unfold In at a2)); (first | have a3 := in_u ro_60_3 | (have a3 := ro_60_3; unfold In at a3)); (first | have a4 := in_u i152x6 | (have a4 := i152x6; unfold In at a4)); (first | have a5 := in_u j108_8 | (have a5 := j108_8; unfold In at a5)))); have oc := oc_54_60_32; omega)) u) (show ((u : Int) < (u_32_1).toInt ↔ u < (s.2.2.1 32 1).toNatClampNeg) from (by show _ ↔ u < (s.2.2.1 32 1).toInt.toNat; rw [← e_32_1]; omega))) e158 e159 e163 e164) (show FRE (s.1 39) (sc108.2.2.1 60 3).toInt z164 ((sI sc108 61 x3.toNatClampNeg z144).1 61) (s166.1 61) (z166).toInt from (by have h9 := p166a; rw [sI_p (show Nat.beq 39 61 = false from rfl), hFc108.1 39 rfl] at h9; exact h9)) c169 (by decide)
            have n173a : ((s166).2.2.1 60 7).toInt = 0 := by exact (p166b.1.trans (g108_0.2.2.trans q_0.2.2.1))
            exact g_ireturn (gd rfl) rfl (nb01 (in_w 0 1 (in_c 1 rfl) rfl)) (hP _ _ ⟨s166, hI166, (fr_tr rfl (fr_sI rfl hFc108) hF166), (Int32.ofInt 1), rfl, rfl, in_w 0 1 (in_c 1 rfl) rfl, n173, n173a⟩)
      · skip
        have i114 := r_lt1 0 31 c114 j108_8 ro_60_3 rfl
        have i114a := r_lt2 1 32 c114 j108_8 ro_60_3 rfl
        refine g_aload_n 118 (gd rfl) rfl rfl ?_
        refine g_getA (q2 := 61) 121 (gd rfl) rfl rfl rfl rfl ?_
        refine g_iload 123 (gd rfl) rfl rfl ?_
        refine g_dup2 124 (gd rfl) rfl rfl rfl ?_
        refine g_iaload 125 (gd rfl) rfl (n := 32) rfl (in_ix i114 rfl) (fun z124 e124 => ?_)
        refine g_iload 127 (gd rfl) rfl rfl ?_
        refine g_iand 128 (gd rfl) rfl (fun z127 e127 => ?_)
        refine g_iastore 129 (gd rfl) rfl (n := 32) rfl (in_ix i114 rfl) ?_
        have hI128 := inv_sI (q := 61) (j := y108_8.toNatClampNeg) hIc108 rfl (in_w (-2147483648) 2147483647 (i_rng z127) rfl)
        refine g_iinc 132 (gd rfl) rfl rfl (Nat.le_of_ble_eq_true rfl) (fun z129 e129 => ?_)
        have i129 := in_add 1 32 e129 i114 (in_c 1 rfl) rfl rfl
        refine g_goto 108 (gd rfl) rfl ?_
        have n108 : L108 s (sI sc108 61 y108_8.toNatClampNeg z127) x2 (z129) := by exact l108_s g108_0 h2 i114 g108_1 g108_2 e124 e127 (by (first | have a0 := oa7 h4 h3 h2 i114a ro_32_1 i114 i129 | ((first | have a0 := in_u h4 | (have a0 := h4; unfold In at a0)); (first | have a1 := in_u h3 | (have a1 := h3; unfold In at a1)); (first | have a2 := in_u h2 | (have a2 := h2; unfold In at a2)); (first | have a3 := in_u i114a | (have a3 := i114a; unfold In at a3)); (first | have a4 := in_u ro_32_1 | (have a4 := ro_32_1; unfold In at a4)); (first | have a5 := in_u i114 | (have a5 := i114; unfold In at a5)); (first | have a6 := in_u i129 | (have a6 := i129; unfold In at a6)))); have a7 := t_add e129 i114 (in_c 1 rfl) rfl; (first | have a8 := in_u ((in_c 1 rfl)) | (have a8 := (in_c 1 rfl); unfold In at a8)); have oc := oc_54_60_32; omega)
        have n108a : (y108_5) = Int32.ofInt 1 <<< (x2 &&& 31) := by exact g108_1
        have n108b : (y108_6) = (y108_5) - Int32.ofInt 1 := by exact g108_2
        have n108c : (∀ u : Nat, u < (x2).toNatClampNeg → bt (s.1 61 (x3).toNatClampNeg) u = true → bt (s.1 39 (x2).toNatClampNeg) u = false) := by exact g108_3
        exact gg_w (by first | exact Nat.le_add_right _ _ | exact gw2 | exact gw3 | exact gwe rfl | exact gwf rfl | exact gwg rfl | exact gwh rfl | omega) (gg_f (gf_cons rfl (gf_cons rfl (gf_cons rfl (gf_cons rfl (gf_cons rfl (gf_cons rfl (gf_cons rfl (gf_cons rfl (gf_cons rfl gf_nil))))))))) (ih108 (sI sc108 61 y108_8.toNatClampNeg z127) y108_5 y108_6 y108_7 z129 hI128 (fr_sI rfl hFc108) (in_w 0 32 i129 rfl) n108 n108a n108b n108c (m_up mm108 (t_add e129 i114 (in_c 1 rfl) rfl) (in_w 1 1 (in_c 1 rfl) rfl))))
  refine g_enter2 (k := 54) (N := 30601) (by first | exact dq1 hd rfl | exact dq0 hd rfl | exact dq2 hd rfl | exact dq3 hd rfl | omega) rfl (Nat.le_of_ble_eq_true rfl) ?_
  refine g_iconst 1 1 (gd rfl) rfl rfl ?_
  refine g_iload_n 2 (gd rfl) rfl rfl ?_
  refine g_ishl 3 (gd rfl) rfl (fun z2 e2 => ?_)
  refine g_istore 5 (gd rfl) rfl (Nat.le_of_ble_eq_true rfl) ?_
  refine g_iload 7 (gd rfl) rfl rfl ?_
  refine g_iconst 1 8 (gd rfl) rfl rfl ?_
  refine g_isub 9 (gd rfl) rfl (fun z8 e8 => ?_)
  refine g_istore 11 (gd rfl) rfl (Nat.le_of_ble_eq_true rfl) ?_
  refine g_aload_n 12 (gd rfl) rfl rfl ?_
  refine g_getA (q2 := 61) 15 (gd rfl) rfl rfl rfl rfl ?_
  refine g_iload_n 16 (gd rfl) rfl rfl ?_
  refine g_iaload 17 (gd rfl) rfl (n := 32) rfl (in_ix h3 rfl) (fun z16 e16 => ?_)
  refine g_aload_n 18 (gd rfl) rfl rfl ?_
  refine g_getA (q2 := 39) 21 (gd rfl) rfl rfl rfl rfl ?_
  refine g_iload_n 22 (gd rfl) rfl rfl ?_
  refine g_iaload 23 (gd rfl) rfl (n := 32) rfl (in_ix h2 rfl) (fun z22 e22 => ?_)
  refine g_iand 24 (gd rfl) rfl (fun z23 e23 => ?_)
  refine g_iload 26 (gd rfl) rfl rfl ?_
  refine g_iand 27 (gd rfl) rfl (fun z26 e26 => ?_)
  refine g_if_eq 30 32 (gd rfl) rfl rfl (fun c27 => ?_) (fun c27 => ?_)
  · skip
    have i27 := z_eq 0 0 c27 (i_rng z26) rfl
    refine g_aload_n 33 (gd rfl) rfl rfl ?_
    refine g_getA (q2 := 39) 36 (gd rfl) rfl rfl rfl rfl ?_
    refine g_iload 38 (gd rfl) rfl rfl ?_
    refine g_aload_n 39 (gd rfl) rfl rfl ?_
    refine g_getA (q2 := 61) 42 (gd rfl) rfl rfl rfl rfl ?_
    refine g_iload_n 43 (gd rfl) rfl rfl ?_
    refine g_iaload 44 (gd rfl) rfl (n := 32) rfl (in_ix h3 rfl) (fun z43 e43 => ?_)
    have q43 : z16 = z43 := (e16).trans e43.symm
    subst q43
    refine g_aload_n 45 (gd rfl) rfl rfl ?_
    refine g_getA (q2 := 61) 48 (gd rfl) rfl rfl rfl rfl ?_
    refine g_iload 50 (gd rfl) rfl rfl ?_
    refine g_iaload 51 (gd rfl) rfl (n := 32) rfl (in_ix h4 rfl) (fun z50 e50 => ?_)
    refine g_ior 52 (gd rfl) rfl (fun z51 e51 => ?_)
    refine g_calls (As := [.ref (A 39), .int z2, .int z51]) (r := []) 55 (gd rfl) rfl rfl rfl rfl rfl (Nat.le_of_ble_eq_true rfl) (Nat.zero_le _) (Nat.zero_le _) (f_266_39 (by first | exact dq1 hd rfl | exact dq0 hd rfl | exact dq2 hd rfl | exact dq3 hd rfl | omega) hI ) (fun v u h => ?_)
    obtain ⟨z52, rfl, rfl, i52, p52, p52a⟩ := h
    show GG _ _ _ _ _ _ _ _ [.int z52] _ _ _
    refine g_istore 57 (gd rfl) rfl (Nat.le_of_ble_eq_true rfl) ?_
    refine g_iload 59 (gd rfl) rfl rfl ?_
    refine g_iload 61 (gd rfl) rfl rfl ?_
    refine g_iand 62 (gd rfl) rfl (fun z61 e61 => ?_)
    refine g_if_ne 65 90 (gd rfl) rfl rfl (fun c62 => ?_) (fun c62 => ?_)
    · skip
      refine g_aload_n 91 (gd rfl) rfl rfl ?_
      refine g_getA (q2 := 61) 94 (gd rfl) rfl rfl rfl rfl ?_
      refine g_iconst 0 95 (gd rfl) rfl rfl ?_
      refine g_aload_n 96 (gd rfl) rfl rfl ?_
      refine g_getA (q2 := 62) 99 (gd rfl) rfl rfl rfl rfl ?_
      refine g_iconst 0 100 (gd rfl) rfl rfl ?_
      refine g_bipush 32 102 (gd rfl) rfl rfl ?_
      refine g_cpI (q2 := 61) (q := 62) (n0 := 32) (n1 := 32) 105 (gd rfl) rfl rfl rfl rfl (Nat.le_of_ble_eq_true rfl) (cp_0 (in_c 0 rfl) rfl) (cp_0 (in_c 0 rfl) rfl) (cp_0 (in_c 32 rfl) rfl) (cp_1 (in_c 0 rfl) (in_c 32 rfl) rfl) (cp_1 (in_c 0 rfl) (in_c 32 rfl) rfl) hI rfl rfl rfl rfl (fun s102 hI102 hF102 cp102 => ?_)
      refine g_iconst 0 106 (gd rfl) rfl rfl ?_
      refine g_istore 108 (gd rfl) rfl (Nat.le_of_ble_eq_true rfl) ?_
      have n108 : L108 s s102 x2 ((Int32.ofInt 0)) := by exact l108_0 (cpi_v cp102) (hF102.1 61 rfl) (hF102.2.2.1 60 7 rfl) rfl
      have n108a : (z2) = Int32.ofInt 1 <<< (x2 &&& 31) := by exact e2
      have n108b : (z8) = (z2) - Int32.ofInt 1 := by exact e8
      have n108c : (∀ u : Nat, u < (x2).toNatClampNeg → bt (s.1 61 (x3).toNatClampNeg) u = true → bt (s.1 39 (x2).toNatClampNeg) u = false) := by exact lo_n h2 e2 e8 e16 e22 e23 e26 c27
      exact gg_w (by first | exact Nat.le_of_ble_eq_true rfl | omega) (gg_f (gf_cons rfl (gf_cons rfl (gf_cons rfl (gf_cons rfl (gf_cons rfl (gf_cons rfl (gf_cons rfl (gf_cons rfl (gf_cons rfl gf_nil))))))))) (ct108 33 s102 z2 z8 z52 (Int32.ofInt 0) hI102 (fr_tr rfl fr_rf hF102) (in_w 0 32 (in_c 0 rfl) rfl) n108 n108a n108b n108c (m_in 33 (in_w 0 32 (in_c 0 rfl) rfl) rfl)))
    · skip
      have i62 := z_eq 0 0 c62 (i_rng z61) rfl
      refine g_aload_n 66 (gd rfl) rfl rfl ?_
      refine g_getA (q2 := 61) 69 (gd rfl) rfl rfl rfl rfl ?_
      refine g_iload_n 70 (gd rfl) rfl rfl ?_
      refine g_dup2 71 (gd rfl) rfl rfl rfl ?_
      refine g_iaload 72 (gd rfl) rfl (n := 32) rfl (in_ix h3 rfl) (fun z71 e71 => ?_)
      have q71 : z16 = z71 := (e16).trans e71.symm
      subst q71
      refine g_iload 74 (gd rfl) rfl rfl ?_
      refine g_ixor 75 (gd rfl) rfl (fun z74 e74 => ?_)
      refine g_iastore 76 (gd rfl) rfl (n := 32) rfl (in_ix h3 rfl) ?_
      have hI75 := inv_sI (q := 61) (j := x3.toNatClampNeg) hI rfl (in_w (-2147483648) 2147483647 (i_rng z74) rfl)
      refine g_aload_n 77 (gd rfl) rfl rfl ?_
      refine g_getA (q2 := 61) 80 (gd rfl) rfl rfl rfl rfl ?_
      refine g_iload 82 (gd rfl) rfl rfl ?_
      refine g_dup2 83 (gd rfl) rfl rfl rfl ?_
      refine g_iaload 84 (gd rfl) rfl (n := 32) rfl (in_ix h4 rfl) (fun z83 e83 => ?_)
      refine g_iload 86 (gd rfl) rfl rfl ?_
      refine g_ixor 87 (gd rfl) rfl (fun z86 e86 => ?_)
      refine g_iastore 88 (gd rfl) rfl (n := 32) rfl (in_ix h4 rfl) ?_
      have hI87 := inv_sI (q := 61) (j := x4.toNatClampNeg) hI75 rfl (in_w (-2147483648) 2147483647 (i_rng z86) rfl)
      refine g_iconst 1 89 (gd rfl) rfl rfl ?_
      have n89 : CLW (s.1 39) (s.2.2.1 32 1).toNatClampNeg (s.2.2.1 60 3).toInt (s.1 61) (((sI (sI s 61 x3.toNatClampNeg z74) 61 x4.toNatClampNeg z86)).1 61) (x2).toNatClampNeg (x3).toNatClampNeg ((Int32.ofInt 1)).toInt := by exact lo_c q_0 h2 h3 h4 e2 e8 e16 e50 e51 p52a e61 c62 e74 e83 e86 (by decide)
      have n89a : (((sI (sI s 61 x3.toNatClampNeg z74) 61 x4.toNatClampNeg z86)).2.2.1 60 7).toInt = 0 := by exact q_0.2.2.1
      exact g_ireturn (gd rfl) rfl (nb01 (in_w 0 1 (in_c 1 rfl) rfl)) (hP _ _ ⟨(sI (sI s 61 x3.toNatClampNeg z74) 61 x4.toNatClampNeg z86), hI87, (fr_sI rfl (fr_sI rfl fr_rf)), (Int32.ofInt 1), rfl, rfl, in_w 0 1 (in_c 1 rfl) rfl, n89, n89a⟩)
  · skip
    refine g_iconst 0 31 (gd rfl) rfl rfl ?_
    have n31 : CLW (s.1 39) (s.2.2.1 32 1).toNatClampNeg (s.2.2.1 60 3).toInt (s.1 61) ((s).1 61) (x2).toNatClampNeg (x3).toNatClampNeg ((Int32.ofInt 0)).toInt := by exact lo_b q_0 h2 h3 e2 e8 e16 e22 e23 e26 c27 rfl
    have n31a : ((s).2.2.1 60 7).toInt = 0 := by exact q_0.2.2.1
    exact g_ireturn (gd rfl) rfl (nb01 (in_w 0 1 (in_c 0 rfl) rfl)) (hP _ _ ⟨s, hI, fr_rf, (Int32.ofInt 0), rfl, rfl, in_w 0 1 (in_c 0 rfl) rfl, n31, n31a⟩)

theorem oc_53_60_2 : (Int32.ofInt (-1)).toInt = (-1) ∧ (Int32.ofInt 0).toInt = 0 ∧ (Int32.ofInt 1).toInt = 1 := ⟨rfl, rfl, rfl⟩
/-- GraphHouse$Colours.lessen -/
theorem f_53_60_2 {Z : AmZ} {A : Nat → Nat} {s : GS} {ex : va_W} {d : Nat} {X : AmX} {x2 : Int32} {x3 : Int32} (hd : 382 ≤ d) (hI : Inv s) (h2 : In x2 0 31) (h3 : In x3 0 31) (q_0 : LSX (s.1 9) (s.2.2.1 2 1).toNatClampNeg s x2 x3) : GC Z d 53 [.ref (A 60), .ref (A 2), .int x2, .int x3] (WW Z A s ++ ex) 0 0 (fun v u => ∃ t : GS, Inv t ∧ Fr fm_53_60_2 s t ∧ ∃ z : Int32, v = some (.int z) ∧ u = WW Z A t ++ ex ∧ In z 0 31 ∧ ((z).toInt ≤ (x3).toInt) ∧ (LSE (s.1 9) (s.2.2.1 2 1).toNatClampNeg (s.2.2.1 60 3).toInt (s.1 61) ((t).1 61) (x2).toNatClampNeg (z).toInt) ∧ (((t).2.2.1 60 7).toInt = 0)) X := by
  intro post xp hP hX
  have ct49 : ∀ (k49 : Nat) (sc49 : GS) (y49_4 : Int32) (y49_5 : Int32), Inv sc49 → Fr fm_53_60_2 s sc49 → (In y49_4 0 31) → (In y49_5 0 32) → ((y49_4).toInt ≤ (x3).toInt) → (0 ≤ (y49_5).toInt) → (L49 (s.1 9) (s.2.2.1 2 1).toNatClampNeg s sc49 x2 (y49_4) (y49_5)) → 32 - (y49_5).toInt < (k49 : Int) → GG Z (d - 1) 53 post (gx xp) (1 + k49 * 900) 49 (fun j => xlook j [(0, .ref (A 60)), (1, .ref (A 2)), (2, .int x2), (3, .int x3), (4, .int y49_4), (5, .int y49_5)]) [] (WW Z A sc49 ++ ex) 0 0 := by
    intro k49
    induction k49 with
    | zero => intro sc49 y49_4 y49_5 hIc49 hFc49 j49_4 j49_5 n49_0 n49_1 g49_0 mm49; exfalso; (first | have a0 := oa2 h3 h2 | ((first | have a0 := in_u h3 | (have a0 := h3; unfold In at a0)); (first | have a1 := in_u h2 | (have a1 := h2; unfold In at a1)))); have a2 := j49_5; unfold In at a2; have a3 := j49_4; unfold In at a3; have oc := oc_53_60_2; omega
    | succ k49 ih49 =>
      intro sc49 y49_4 y49_5 hIc49 hFc49 j49_4 j49_5 n49_0 n49_1 g49_0 mm49
      refine gg_w (M := 1 + k49 * 900 + 900) gws ?_
      refine g_iload 51 (gd rfl) rfl rfl ?_
      refine g_iload 53 (gd rfl) rfl rfl ?_
      refine g_cmp_ge 56 79 (gd rfl) rfl rfl (fun c53 => ?_) (fun c53 => ?_)
      · skip
        refine g_iload 81 (gd rfl) rfl rfl ?_
        have n81 : (y49_4).toInt ≤ (x3).toInt := by first | exact n49_0 | ((first | have a0 := oa4 h3 h2 j49_5 j49_4 | ((first | have a0 := in_u h3 | (have a0 := h3; unfold In at a0)); (first | have a1 := in_u h2 | (have a1 := h2; unfold In at a1)); (first | have a2 := in_u j49_5 | (have a2 := j49_5; unfold In at a2)); (first | have a3 := in_u j49_4 | (have a3 := j49_4; unfold In at a3)))); have oc := oc_53_60_2; omega)
        have n81a : LSE (s.1 9) (s.2.2.1 2 1).toNatClampNeg (s.2.2.1 60 3).toInt (s.1 61) ((sc49).1 61) (x2).toNatClampNeg (y49_4).toInt := by exact lsi_e g49_0.1 (by (first | have a0 := oa4 h3 h2 j49_5 j49_4 | ((first | have a0 := in_u h3 | (have a0 := h3; unfold In at a0)); (first | have a1 := in_u h2 | (have a1 := h2; unfold In at a1)); (first | have a2 := in_u j49_5 | (have a2 := j49_5; unfold In at a2)); (first | have a3 := in_u j49_4 | (have a3 := j49_4; unfold In at a3)))); have oc := oc_53_60_2; omega)
        have n81b : ((sc49).2.2.1 60 7).toInt = 0 := by exact g49_0.2
        exact g_ireturn (gd rfl) rfl rfl (hP _ _ ⟨sc49, hIc49, hFc49, y49_4, rfl, rfl, in_w 0 31 j49_4 rfl, n81, n81a, n81b⟩)
      · skip
        have i53 := r_lt1 0 30 c53 j49_5 j49_4 rfl
        have i53a := r_lt2 1 31 c53 j49_5 j49_4 rfl
        refine g_aload_n 57 (gd rfl) rfl rfl ?_
        refine g_aload_n 58 (gd rfl) rfl rfl ?_
        refine g_iload_n 59 (gd rfl) rfl rfl ?_
        refine g_iload 61 (gd rfl) rfl rfl ?_
        refine g_iload 63 (gd rfl) rfl rfl ?_
        have p63 : CLX (sc49.1 9) (sc49.2.2.1 2 1).toNatClampNeg sc49 x2 y49_5 y49_4 := by rw [hFc49.1 9 rfl, hFc49.2.2.1 2 1 rfl]; exact l49_x q_0 g49_0 j49_4 (by (first | have a0 := oa4 h3 h2 i53 i53a | ((first | have a0 := in_u h3 | (have a0 := h3; unfold In at a0)); (first | have a1 := in_u h2 | (have a1 := h2; unfold In at a1)); (first | have a2 := in_u i53 | (have a2 := i53; unfold In at a2)); (first | have a3 := in_u i53a | (have a3 := i53a; unfold In at a3)))); have oc := oc_53_60_2; omega) (hFc49.2.2.1 60 3 rfl)
        refine g_callv (X := _) (As := [.ref (A 2), .int x2, .int y49_5, .int y49_4]) (r := []) (b := A 60) (q := 60) 66 (gd rfl) rfl rfl rfl rfl rfl (ww_o rfl) (Nat.le_of_ble_eq_true rfl) (Nat.zero_le _) (Nat.zero_le _) (f_54_60_2 (by first | exact dq1 hd rfl | exact dq0 hd rfl | exact dq2 hd rfl | exact dq3 hd rfl | omega) hIc49 (in_w 0 31 h2 rfl) (in_w 0 31 i53 rfl) (in_w 0 31 i53a rfl) p63) (fun e u h => h) (fun v u h => ?_)
        obtain ⟨s63, hI63, hF63, z63, rfl, rfl, i63, p63a, p63b⟩ := h
        show GG _ _ _ _ _ _ _ _ [.int z63] _ _ _
        refine g_if_eq 69 73 (gd rfl) rfl rfl (fun c66 => ?_) (fun c66 => ?_)
        · skip
          have i66 := z_eq 0 0 c66 i63 rfl
          refine g_iinc 76 (gd rfl) rfl rfl (Nat.le_of_ble_eq_true rfl) (fun z73 e73 => ?_)
          have i73 := in_add 1 31 e73 i53 (in_c 1 rfl) rfl rfl
          refine g_goto 49 (gd rfl) rfl ?_
          have n49 : (y49_4).toInt ≤ (x3).toInt := by first | exact n49_0 | ((first | have a0 := oa5 h3 h2 i53 i53a i73 | ((first | have a0 := in_u h3 | (have a0 := h3; unfold In at a0)); (first | have a1 := in_u h2 | (have a1 := h2; unfold In at a1)); (first | have a2 := in_u i53 | (have a2 := i53; unfold In at a2)); (first | have a3 := in_u i53a | (have a3 := i53a; unfold In at a3)); (first | have a4 := in_u i73 | (have a4 := i73; unfold In at a4)))); have a5 := t_add e73 i53 (in_c 1 rfl) rfl; (first | have a6 := in_u ((in_c 1 rfl)) | (have a6 := (in_c 1 rfl); unfold In at a6)); have oc := oc_53_60_2; omega)
          have n49a : 0 ≤ (z73).toInt := by (first | have a0 := oa5 h3 h2 i53 i53a i73 | ((first | have a0 := in_u h3 | (have a0 := h3; unfold In at a0)); (first | have a1 := in_u h2 | (have a1 := h2; unfold In at a1)); (first | have a2 := in_u i53 | (have a2 := i53; unfold In at a2)); (first | have a3 := in_u i53a | (have a3 := i53a; unfold In at a3)); (first | have a4 := in_u i73 | (have a4 := i73; unfold In at a4)))); have a5 := t_add e73 i53 (in_c 1 rfl) rfl; (first | have a6 := in_u ((in_c 1 rfl)) | (have a6 := (in_c 1 rfl); unfold In at a6)); have oc := oc_53_60_2; omega
          have n49b : L49 (s.1 9) (s.2.2.1 2 1).toNatClampNeg s s63 x2 (y49_4) (z73) := by first | exact l49_n g49_0 (in_w 0 31 i53 rfl) (hFc49.2.2.1 60 3 rfl) (show CLW (s.1 9) (s.2.2.1 2 1).toNatClampNeg (sc49.2.2.1 60 3).toInt (sc49.1 61) (s63.1 61) (x2).toNatClampNeg (y49_5).toNatClampNeg (z63).toInt from (by have h9 := p63a; rw [hFc49.1 9 rfl, hFc49.2.2.1 2 1 rfl] at h9; exact h9)) p63b c66 (by (first | have a0 := oa5 h3 h2 i53 i53a i73 | ((first | have a0 := in_u h3 | (have a0 := h3; unfold In at a0)); (first | have a1 := in_u h2 | (have a1 := h2; unfold In at a1)); (first | have a2 := in_u i53 | (have a2 := i53; unfold In at a2)); (first | have a3 := in_u i53a | (have a3 := i53a; unfold In at a3)); (first | have a4 := in_u i73 | (have a4 := i73; unfold In at a4)))); have a5 := t_add e73 i53 (in_c 1 rfl) rfl; (first | have a6 := in_u ((in_c 1 rfl)) | (have a6 := (in_c 1 rfl); unfold In at a6)); have oc := oc_53_60_2; omega) | exact l49_y g49_0 (in_w 0 31 i53 rfl) (by (first | have a0 := oa5 h3 h2 i53 i53a i73 | ((first | have a0 := in_u h3 | (have a0 := h3; unfold In at a0)); (first | have a1 := in_u h2 | (have a1 := h2; unfold In at a1)); (first | have a2 := in_u i53 | (have a2 := i53; unfold In at a2)); (first | have a3 := in_u i53a | (have a3 := i53a; unfold In at a3)); (first | have a4 := in_u i73 | (have a4 := i73; unfold In at a4)))); have a5 := t_add e73 i53 (in_c 1 rfl) rfl; (first | have a6 := in_u ((in_c 1 rfl)) | (have a6 := (in_c 1 rfl); unfold In at a6)); have oc := oc_53_60_2; omega) (hFc49.2.2.1 60 3 rfl) (show CLW (s.1 9) (s.2.2.1 2 1).toNatClampNeg (sc49.2.2.1 60 3).toInt (sc49.1 61) (s63.1 61) (x2).toNatClampNeg (y49_5).toNatClampNeg (z63).toInt from (by have h9 := p63a; rw [hFc49.1 9 rfl, hFc49.2.2.1 2 1 rfl] at h9; exact h9)) p63b c66 (by (first | have a0 := oa5 h3 h2 i53 i53a i73 | ((first | have a0 := in_u h3 | (have a0 := h3; unfold In at a0)); (first | have a1 := in_u h2 | (have a1 := h2; unfold In at a1)); (first | have a2 := in_u i53 | (have a2 := i53; unfold In at a2)); (first | have a3 := in_u i53a | (have a3 := i53a; unfold In at a3)); (first | have a4 := in_u i73 | (have a4 := i73; unfold In at a4)))); have a5 := t_add e73 i53 (in_c 1 rfl) rfl; (first | have a6 := in_u ((in_c 1 rfl)) | (have a6 := (in_c 1 rfl); unfold In at a6)); have oc := oc_53_60_2; omega)
          have m49 : 32 - (z73).toInt < ((k49 : Nat) : Int) := by (first | have a0 := oa5 h3 h2 i53 i53a i73 | ((first | have a0 := in_u h3 | (have a0 := h3; unfold In at a0)); (first | have a1 := in_u h2 | (have a1 := h2; unfold In at a1)); (first | have a2 := in_u i53 | (have a2 := i53; unfold In at a2)); (first | have a3 := in_u i53a | (have a3 := i53a; unfold In at a3)); (first | have a4 := in_u i73 | (have a4 := i73; unfold In at a4)))); have a5 := t_add e73 i53 (in_c 1 rfl) rfl; (first | have a6 := in_u ((in_c 1 rfl)) | (have a6 := (in_c 1 rfl); unfold In at a6)); have oc := oc_53_60_2; omega
          exact gg_w (by first | exact Nat.le_add_right _ _ | exact gw2 | exact gw3 | exact gwe rfl | exact gwf rfl | exact gwg rfl | exact gwh rfl | omega) (gg_f (gf_cons rfl (gf_cons rfl (gf_cons rfl (gf_cons rfl (gf_cons rfl (gf_cons rfl gf_nil)))))) (ih49  s63 y49_4 z73 hI63 (fr_tr rfl hFc49 hF63) (in_w 0 31 i53a rfl) (in_w 0 32 i73 rfl) n49 n49a n49b m49))
        · skip
          have i66 := z_ne 1 1 c66 i63 rfl
          refine g_iload 71 (gd rfl) rfl rfl ?_
          refine g_istore 73 (gd rfl) rfl (Nat.le_of_ble_eq_true rfl) ?_
          refine g_iinc 76 (gd rfl) rfl rfl (Nat.le_of_ble_eq_true rfl) (fun z73 e73 => ?_)
          have i73 := in_add 1 31 e73 i53 (in_c 1 rfl) rfl rfl
          refine g_goto 49 (gd rfl) rfl ?_
          have n49 : (y49_5).toInt ≤ (x3).toInt := by (first | have a0 := oa5 h3 h2 i53 i53a i73 | ((first | have a0 := in_u h3 | (have a0 := h3; unfold In at a0)); (first | have a1 := in_u h2 | (have a1 := h2; unfold In at a1)); (first | have a2 := in_u i53 | (have a2 := i53; unfold In at a2)); (first | have a3 := in_u i53a | (have a3 := i53a; unfold In at a3)); (first | have a4 := in_u i73 | (have a4 := i73; unfold In at a4)))); have a5 := t_add e73 i53 (in_c 1 rfl) rfl; (first | have a6 := in_u ((in_c 1 rfl)) | (have a6 := (in_c 1 rfl); unfold In at a6)); have oc := oc_53_60_2; omega
          have n49a : 0 ≤ (z73).toInt := by (first | have a0 := oa5 h3 h2 i53 i53a i73 | ((first | have a0 := in_u h3 | (have a0 := h3; unfold In at a0)); (first | have a1 := in_u h2 | (have a1 := h2; unfold In at a1)); (first | have a2 := in_u i53 | (have a2 := i53; unfold In at a2)); (first | have a3 := in_u i53a | (have a3 := i53a; unfold In at a3)); (first | have a4 := in_u i73 | (have a4 := i73; unfold In at a4)))); have a5 := t_add e73 i53 (in_c 1 rfl) rfl; (first | have a6 := in_u ((in_c 1 rfl)) | (have a6 := (in_c 1 rfl); unfold In at a6)); have oc := oc_53_60_2; omega
          have n49b : L49 (s.1 9) (s.2.2.1 2 1).toNatClampNeg s s63 x2 (y49_5) (z73) := by first | exact l49_n g49_0 (in_w 0 31 i53 rfl) (hFc49.2.2.1 60 3 rfl) (show CLW (s.1 9) (s.2.2.1 2 1).toNatClampNeg (sc49.2.2.1 60 3).toInt (sc49.1 61) (s63.1 61) (x2).toNatClampNeg (y49_5).toNatClampNeg (z63).toInt from (by have h9 := p63a; rw [hFc49.1 9 rfl, hFc49.2.2.1 2 1 rfl] at h9; exact h9)) p63b c66 (by (first | have a0 := oa5 h3 h2 i53 i53a i73 | ((first | have a0 := in_u h3 | (have a0 := h3; unfold In at a0)); (first | have a1 := in_u h2 | (have a1 := h2; unfold In at a1)); (first | have a2 := in_u i53 | (have a2 := i53; unfold In at a2)); (first | have a3 := in_u i53a | (have a3 := i53a; unfold In at a3)); (first | have a4 := in_u i73 | (have a4 := i73; unfold In at a4)))); have a5 := t_add e73 i53 (in_c 1 rfl) rfl; (first | have a6 := in_u ((in_c 1 rfl)) | (have a6 := (in_c 1 rfl); unfold In at a6)); have oc := oc_53_60_2; omega) | exact l49_y g49_0 (in_w 0 31 i53 rfl) (by (first | have a0 := oa5 h3 h2 i53 i53a i73 | ((first | have a0 := in_u h3 | (have a0 := h3; unfold In at a0)); (first | have a1 := in_u h2 | (have a1 := h2; unfold In at a1)); (first | have a2 := in_u i53 | (have a2 := i53; unfold In at a2)); (first | have a3 := in_u i53a | (have a3 := i53a; unfold In at a3)); (first | have a4 := in_u i73 | (have a4 := i73; unfold In at a4)))); have a5 := t_add e73 i53 (in_c 1 rfl) rfl; (first | have a6 := in_u ((in_c 1 rfl)) | (have a6 := (in_c 1 rfl); unfold In at a6)); have oc := oc_53_60_2; omega) (hFc49.2.2.1 60 3 rfl) (show CLW (s.1 9) (s.2.2.1 2 1).toNatClampNeg (sc49.2.2.1 60 3).toInt (sc49.1 61) (s63.1 61) (x2).toNatClampNeg (y49_5).toNatClampNeg (z63).toInt from (by have h9 := p63a; rw [hFc49.1 9 rfl, hFc49.2.2.1 2 1 rfl] at h9; exact h9)) p63b c66 (by (first | have a0 := oa5 h3 h2 i53 i53a i73 | ((first | have a0 := in_u h3 | (have a0 := h3; unfold In at a0)); (first | have a1 := in_u h2 | (have a1 := h2; unfold In at a1)); (first | have a2 := in_u i53 | (have a2 := i53; unfold In at a2)); (first | have a3 := in_u i53a | (have a3 := i53a; unfold In at a3)); (first | have a4 := in_u i73 | (have a4 := i73; unfold In at a4)))); have a5 := t_add e73 i53 (in_c 1 rfl) rfl; (first | have a6 := in_u ((in_c 1 rfl)) | (have a6 := (in_c 1 rfl); unfold In at a6)); have oc := oc_53_60_2; omega)
          have m49 : 32 - (z73).toInt < ((k49 : Nat) : Int) := by (first | have a0 := oa5 h3 h2 i53 i53a i73 | ((first | have a0 := in_u h3 | (have a0 := h3; unfold In at a0)); (first | have a1 := in_u h2 | (have a1 := h2; unfold In at a1)); (first | have a2 := in_u i53 | (have a2 := i53; unfold In at a2)); (first | have a3 := in_u i53a | (have a3 := i53a; unfold In at a3)); (first | have a4 := in_u i73 | (have a4 := i73; unfold In at a4)))); have a5 := t_add e73 i53 (in_c 1 rfl) rfl; (first | have a6 := in_u ((in_c 1 rfl)) | (have a6 := (in_c 1 rfl); unfold In at a6)); have oc := oc_53_60_2; omega
          exact gg_w (by first | exact Nat.le_add_right _ _ | exact gw2 | exact gw3 | exact gwe rfl | exact gwf rfl | exact gwg rfl | exact gwh rfl | omega) (gg_f (gf_cons rfl (gf_cons rfl (gf_cons rfl (gf_cons rfl (gf_cons rfl (gf_cons rfl gf_nil)))))) (ih49  s63 y49_5 z73 hI63 (fr_tr rfl hFc49 hF63) (in_w 0 31 i53 rfl) (in_w 0 32 i73 rfl) n49 n49a n49b m49))
  refine g_enter2 (k := 53) (N := 30601) (by first | exact dq1 hd rfl | exact dq0 hd rfl | exact dq2 hd rfl | exact dq3 hd rfl | omega) rfl (Nat.le_of_ble_eq_true rfl) ?_
  refine g_aload_n 1 (gd rfl) rfl rfl ?_
  refine g_iload_n 2 (gd rfl) rfl rfl ?_
  refine g_callv (X := _) (As := [.int x2]) (r := []) (b := A 60) (q := 60) 5 (gd rfl) rfl rfl rfl rfl rfl (ww_o rfl) (Nat.le_of_ble_eq_true rfl) (Nat.zero_le _) (Nat.zero_le _) (f_45_60 (by first | exact dq1 hd rfl | exact dq0 hd rfl | exact dq2 hd rfl | exact dq3 hd rfl | omega) hI (in_w 0 31 h2 rfl)) (fun e u h => h) (fun v u h => ?_)
  obtain ⟨z2, rfl, rfl, i2, p2⟩ := h
  show GG _ _ _ _ _ _ _ _ [.int z2] _ _ _
  refine g_istore 7 (gd rfl) rfl (Nat.le_of_ble_eq_true rfl) ?_
  refine g_iload 9 (gd rfl) rfl rfl ?_
  refine g_iload_n 10 (gd rfl) rfl rfl ?_
  refine g_cmp_le 13 46 (gd rfl) rfl rfl (fun c10 => ?_) (fun c10 => ?_)
  · skip
    refine g_iconst 0 47 (gd rfl) rfl rfl ?_
    refine g_istore 49 (gd rfl) rfl (Nat.le_of_ble_eq_true rfl) ?_
    have n49 : (z2).toInt ≤ (x3).toInt := by (first | have a0 := oa4 h3 h2 ((in_c 0 rfl)) i2 | ((first | have a0 := in_u h3 | (have a0 := h3; unfold In at a0)); (first | have a1 := in_u h2 | (have a1 := h2; unfold In at a1)); (first | have a2 := in_u ((in_c 0 rfl)) | (have a2 := (in_c 0 rfl); unfold In at a2)); (first | have a3 := in_u i2 | (have a3 := i2; unfold In at a3)))); have oc := oc_53_60_2; omega
    have n49a : 0 ≤ ((Int32.ofInt 0)).toInt := by (first | have a0 := oa4 h3 h2 ((in_c 0 rfl)) i2 | ((first | have a0 := in_u h3 | (have a0 := h3; unfold In at a0)); (first | have a1 := in_u h2 | (have a1 := h2; unfold In at a1)); (first | have a2 := in_u ((in_c 0 rfl)) | (have a2 := (in_c 0 rfl); unfold In at a2)); (first | have a3 := in_u i2 | (have a3 := i2; unfold In at a3)))); have oc := oc_53_60_2; omega
    have n49b : L49 (s.1 9) (s.2.2.1 2 1).toNatClampNeg s s x2 (z2) ((Int32.ofInt 0)) := by exact l49_0 q_0 i2 p2 rfl
    have m49 : 32 - ((Int32.ofInt 0)).toInt < ((33 : Nat) : Int) := by (first | have a0 := oa4 h3 h2 ((in_c 0 rfl)) i2 | ((first | have a0 := in_u h3 | (have a0 := h3; unfold In at a0)); (first | have a1 := in_u h2 | (have a1 := h2; unfold In at a1)); (first | have a2 := in_u ((in_c 0 rfl)) | (have a2 := (in_c 0 rfl); unfold In at a2)); (first | have a3 := in_u i2 | (have a3 := i2; unfold In at a3)))); have oc := oc_53_60_2; omega
    exact gg_w (by first | exact Nat.le_of_ble_eq_true rfl | omega) (gg_f (gf_cons rfl (gf_cons rfl (gf_cons rfl (gf_cons rfl (gf_cons rfl (gf_cons rfl gf_nil)))))) (ct49 33 s z2 (Int32.ofInt 0) hI fr_rf (in_w 0 31 i2 rfl) (in_w 0 32 (in_c 0 rfl) rfl) n49 n49a n49b m49))
  · skip
    have i10 := r_lt1 0 30 c10 h3 i2 rfl
    have i10a := r_lt2 1 31 c10 h3 i2 rfl
    refine g_aload_n 14 (gd rfl) rfl rfl ?_
    refine g_getA (q2 := 61) 17 (gd rfl) rfl rfl rfl rfl ?_
    refine g_iload 19 (gd rfl) rfl rfl ?_
    refine g_iaload 20 (gd rfl) rfl (n := 32) rfl (in_ix i10a rfl) (fun z19 e19 => ?_)
    refine g_istore 22 (gd rfl) rfl (Nat.le_of_ble_eq_true rfl) ?_
    refine g_aload_n 23 (gd rfl) rfl rfl ?_
    refine g_getA (q2 := 61) 26 (gd rfl) rfl rfl rfl rfl ?_
    refine g_iload 28 (gd rfl) rfl rfl ?_
    refine g_aload_n 29 (gd rfl) rfl rfl ?_
    refine g_getA (q2 := 61) 32 (gd rfl) rfl rfl rfl rfl ?_
    refine g_iload_n 33 (gd rfl) rfl rfl ?_
    refine g_iaload 34 (gd rfl) rfl (n := 32) rfl (in_ix i10 rfl) (fun z33 e33 => ?_)
    refine g_iastore 35 (gd rfl) rfl (n := 32) rfl (in_ix i10a rfl) ?_
    have hI34 := inv_sI (q := 61) (j := z2.toNatClampNeg) hI rfl (in_w (-2147483648) 2147483647 (i_rng z33) rfl)
    refine g_aload_n 36 (gd rfl) rfl rfl ?_
    refine g_getA (q2 := 61) 39 (gd rfl) rfl rfl rfl rfl ?_
    refine g_iload_n 40 (gd rfl) rfl rfl ?_
    refine g_iload 42 (gd rfl) rfl rfl ?_
    refine g_iastore 43 (gd rfl) rfl (n := 32) rfl (in_ix i10 rfl) ?_
    have hI42 := inv_sI (q := 61) (j := x3.toNatClampNeg) hI34 rfl (in_w (-2147483648) 2147483647 (i_rng z19) rfl)
    refine g_iload_n 44 (gd rfl) rfl rfl ?_
    refine g_istore 46 (gd rfl) rfl (Nat.le_of_ble_eq_true rfl) ?_
    refine g_iconst 0 47 (gd rfl) rfl rfl ?_
    refine g_istore 49 (gd rfl) rfl (Nat.le_of_ble_eq_true rfl) ?_
    have n49 : (x3).toInt ≤ (x3).toInt := by exact Int.le_refl _
    have n49a : 0 ≤ ((Int32.ofInt 0)).toInt := by (first | have a0 := oa3 i10 h2 ((in_c 0 rfl)) | ((first | have a0 := in_u i10 | (have a0 := i10; unfold In at a0)); (first | have a1 := in_u h2 | (have a1 := h2; unfold In at a1)); (first | have a2 := in_u ((in_c 0 rfl)) | (have a2 := (in_c 0 rfl); unfold In at a2)))); have oc := oc_53_60_2; omega
    have n49b : L49 (s.1 9) (s.2.2.1 2 1).toNatClampNeg s (sI (sI s 61 z2.toNatClampNeg z33) 61 x3.toNatClampNeg z19) x2 (x3) ((Int32.ofInt 0)) := by exact l49_w q_0 i2 h3 (by (first | have a0 := oa3 i10 h2 ((in_c 0 rfl)) | ((first | have a0 := in_u i10 | (have a0 := i10; unfold In at a0)); (first | have a1 := in_u h2 | (have a1 := h2; unfold In at a1)); (first | have a2 := in_u ((in_c 0 rfl)) | (have a2 := (in_c 0 rfl); unfold In at a2)))); have oc := oc_53_60_2; omega) p2 e33 e19 rfl
    have m49 : 32 - ((Int32.ofInt 0)).toInt < ((33 : Nat) : Int) := by (first | have a0 := oa3 i10 h2 ((in_c 0 rfl)) | ((first | have a0 := in_u i10 | (have a0 := i10; unfold In at a0)); (first | have a1 := in_u h2 | (have a1 := h2; unfold In at a1)); (first | have a2 := in_u ((in_c 0 rfl)) | (have a2 := (in_c 0 rfl); unfold In at a2)))); have oc := oc_53_60_2; omega
    exact gg_w (by first | exact Nat.le_of_ble_eq_true rfl | omega) (gg_f (gf_cons rfl (gf_cons rfl (gf_cons rfl (gf_cons rfl (gf_cons rfl (gf_cons rfl gf_nil)))))) (ct49 33 (sI (sI s 61 z2.toNatClampNeg z33) 61 x3.toNatClampNeg z19) x3 (Int32.ofInt 0) hI42 (fr_sI rfl (fr_sI rfl fr_rf)) (in_w 0 31 i10 rfl) (in_w 0 32 (in_c 0 rfl) rfl) n49 n49a n49b m49))

theorem oc_53_60_32 : (Int32.ofInt (-1)).toInt = (-1) ∧ (Int32.ofInt 0).toInt = 0 ∧ (Int32.ofInt 1).toInt = 1 := ⟨rfl, rfl, rfl⟩
/-- GraphHouse$Colours.lessen -/
theorem f_53_60_32 {Z : AmZ} {A : Nat → Nat} {s : GS} {ex : va_W} {d : Nat} {X : AmX} {x2 : Int32} {x3 : Int32} (hd : 382 ≤ d) (hI : Inv s) (h2 : In x2 0 31) (h3 : In x3 0 31) (q_0 : LSX (s.1 39) (s.2.2.1 32 1).toNatClampNeg s x2 x3) : GC Z d 53 [.ref (A 60), .ref (A 32), .int x2, .int x3] (WW Z A s ++ ex) 0 0 (fun v u => ∃ t : GS, Inv t ∧ Fr fm_53_60_32 s t ∧ ∃ z : Int32, v = some (.int z) ∧ u = WW Z A t ++ ex ∧ In z 0 31 ∧ ((z).toInt ≤ (x3).toInt) ∧ (LSE (s.1 39) (s.2.2.1 32 1).toNatClampNeg (s.2.2.1 60 3).toInt (s.1 61) ((t).1 61) (x2).toNatClampNeg (z).toInt) ∧ (((t).2.2.1 60 7).toInt = 0)) X := by
  intro post xp hP hX
  have ct49 : ∀ (k49 : Nat) (sc49 : GS) (y49_4 : Int32) (y49_5 : Int32), Inv sc49 → Fr fm_53_60_32 s sc49 → (In y49_4 0 31) → (In y49_5 0 32) → ((y49_4).toInt ≤ (x3).toInt) → (0 ≤ (y49_5).toInt) → (L49 (s.1 39) (s.2.2.1 32 1).toNatClampNeg s sc49 x2 (y49_4) (y49_5)) → 32 - (y49_5).toInt < (k49 : Int) → GG Z (d - 1) 53 post (gx xp) (1 + k49 * 900) 49 (fun j => xlook j [(0, .ref (A 60)), (1, .ref (A 32)), (2, .int x2), (3, .int x3), (4, .int y49_4), (5, .int y49_5)]) [] (WW Z A sc49 ++ ex) 0 0 := by
    intro k49
    induction k49 with
    | zero => intro sc49 y49_4 y49_5 hIc49 hFc49 j49_4 j49_5 n49_0 n49_1 g49_0 mm49; exfalso; (first | have a0 := oa2 h3 h2 | ((first | have a0 := in_u h3 | (have a0 := h3; unfold In at a0)); (first | have a1 := in_u h2 | (have a1 := h2; unfold In at a1)))); have a2 := j49_5; unfold In at a2; have a3 := j49_4; unfold In at a3; have oc := oc_53_60_32; omega
    | succ k49 ih49 =>
      intro sc49 y49_4 y49_5 hIc49 hFc49 j49_4 j49_5 n49_0 n49_1 g49_0 mm49
      refine gg_w (M := 1 + k49 * 900 + 900) gws ?_
      refine g_iload 51 (gd rfl) rfl rfl ?_
      refine g_iload 53 (gd rfl) rfl rfl ?_
      refine g_cmp_ge 56 79 (gd rfl) rfl rfl (fun c53 => ?_) (fun c53 => ?_)
      · skip
        refine g_iload 81 (gd rfl) rfl rfl ?_
        have n81 : (y49_4).toInt ≤ (x3).toInt := by first | exact n49_0 | ((first | have a0 := oa4 h3 h2 j49_5 j49_4 | ((first | have a0 := in_u h3 | (have a0 := h3; unfold In at a0)); (first | have a1 := in_u h2 | (have a1 := h2; unfold In at a1)); (first | have a2 := in_u j49_5 | (have a2 := j49_5; unfold In at a2)); (first | have a3 := in_u j49_4 | (have a3 := j49_4; unfold In at a3)))); have oc := oc_53_60_32; omega)
        have n81a : LSE (s.1 39) (s.2.2.1 32 1).toNatClampNeg (s.2.2.1 60 3).toInt (s.1 61) ((sc49).1 61) (x2).toNatClampNeg (y49_4).toInt := by exact lsi_e g49_0.1 (by (first | have a0 := oa4 h3 h2 j49_5 j49_4 | ((first | have a0 := in_u h3 | (have a0 := h3; unfold In at a0)); (first | have a1 := in_u h2 | (have a1 := h2; unfold In at a1)); (first | have a2 := in_u j49_5 | (have a2 := j49_5; unfold In at a2)); (first | have a3 := in_u j49_4 | (have a3 := j49_4; unfold In at a3)))); have oc := oc_53_60_32; omega)
        have n81b : ((sc49).2.2.1 60 7).toInt = 0 := by exact g49_0.2
        exact g_ireturn (gd rfl) rfl rfl (hP _ _ ⟨sc49, hIc49, hFc49, y49_4, rfl, rfl, in_w 0 31 j49_4 rfl, n81, n81a, n81b⟩)
      · skip
        have i53 := r_lt1 0 30 c53 j49_5 j49_4 rfl
        have i53a := r_lt2 1 31 c53 j49_5 j49_4 rfl
        refine g_aload_n 57 (gd rfl) rfl rfl ?_
        refine g_aload_n 58 (gd rfl) rfl rfl ?_
        refine g_iload_n 59 (gd rfl) rfl rfl ?_
        refine g_iload 61 (gd rfl) rfl rfl ?_
        refine g_iload 63 (gd rfl) rfl rfl ?_
        have p63 : CLX (sc49.1 39) (sc49.2.2.1 32 1).toNatClampNeg sc49 x2 y49_5 y49_4 := by rw [hFc49.1 39 rfl, hFc49.2.2.1 32 1 rfl]; exact l49_x q_0 g49_0 j49_4 (by (first | have a0 := oa4 h3 h2 i53 i53a | ((first | have a0 := in_u h3 | (have a0 := h3; unfold In at a0)); (first | have a1 := in_u h2 | (have a1 := h2; unfold In at a1)); (first | have a2 := in_u i53 | (have a2 := i53; unfold In at a2)); (first | have a3 := in_u i53a | (have a3 := i53a; unfold In at a3)))); have oc := oc_53_60_32; omega) (hFc49.2.2.1 60 3 rfl)
        refine g_callv (X := _) (As := [.ref (A 32), .int x2, .int y49_5, .int y49_4]) (r := []) (b := A 60) (q := 60) 66 (gd rfl) rfl rfl rfl rfl rfl (ww_o rfl) (Nat.le_of_ble_eq_true rfl) (Nat.zero_le _) (Nat.zero_le _) (f_54_60_32 (by first | exact dq1 hd rfl | exact dq0 hd rfl | exact dq2 hd rfl | exact dq3 hd rfl | omega) hIc49 (in_w 0 31 h2 rfl) (in_w 0 31 i53 rfl) (in_w 0 31 i53a rfl) p63) (fun e u h => h) (fun v u h => ?_)
        obtain ⟨s63, hI63, hF63, z63, rfl, rfl, i63, p63a, p63b⟩ := h
        show GG _ _ _ _ _ _ _ _ [.int z63] _ _ _
        refine g_if_eq 69 73 (gd rfl) rfl rfl (fun c66 => ?_) (fun c66 => ?_)
        · skip
          have i66 := z_eq 0 0 c66 i63 rfl
          refine g_iinc 76 (gd rfl) rfl rfl (Nat.le_of_ble_eq_true rfl) (fun z73 e73 => ?_)
          have i73 := in_add 1 31 e73 i53 (in_c 1 rfl) rfl rfl
          refine g_goto 49 (gd rfl) rfl ?_
          have n49 : (y49_4).toInt ≤ (x3).toInt := by first | exact n49_0 | ((first | have a0 := oa5 h3 h2 i53 i53a i73 | ((first | have a0 := in_u h3 | (have a0 := h3; unfold In at a0)); (first | have a1 := in_u h2 | (have a1 := h2; unfold In at a1)); (first | have a2 := in_u i53 | (have a2 := i53; unfold In at a2)); (first | have a3 := in_u i53a | (have a3 := i53a; unfold In at a3)); (first | have a4 := in_u i73 | (have a4 := i73; unfold In at a4)))); have a5 := t_add e73 i53 (in_c 1 rfl) rfl; (first | have a6 := in_u ((in_c 1 rfl)) | (have a6 := (in_c 1 rfl); unfold In at a6)); have oc := oc_53_60_32; omega)
          have n49a : 0 ≤ (z73).toInt := by (first | have a0 := oa5 h3 h2 i53 i53a i73 | ((first | have a0 := in_u h3 | (have a0 := h3; unfold In at a0)); (first | have a1 := in_u h2 | (have a1 := h2; unfold In at a1)); (first | have a2 := in_u i53 | (have a2 := i53; unfold In at a2)); (first | have a3 := in_u i53a | (have a3 := i53a; unfold In at a3)); (first | have a4 := in_u i73 | (have a4 := i73; unfold In at a4)))); have a5 := t_add e73 i53 (in_c 1 rfl) rfl; (first | have a6 := in_u ((in_c 1 rfl)) | (have a6 := (in_c 1 rfl); unfold In at a6)); have oc := oc_53_60_32; omega
          have n49b : L49 (s.1 39) (s.2.2.1 32 1).toNatClampNeg s s63 x2 (y49_4) (z73) := by first | exact l49_n g49_0 (in_w 0 31 i53 rfl) (hFc49.2.2.1 60 3 rfl) (show CLW (s.1 39) (s.2.2.1 32 1).toNatClampNeg (sc49.2.2.1 60 3).toInt (sc49.1 61) (s63.1 61) (x2).toNatClampNeg (y49_5).toNatClampNeg (z63).toInt from (by have h9 := p63a; rw [hFc49.1 39 rfl, hFc49.2.2.1 32 1 rfl] at h9; exact h9)) p63b c66 (by (first | have a0 := oa5 h3 h2 i53 i53a i73 | ((first | have a0 := in_u h3 | (have a0 := h3; unfold In at a0)); (first | have a1 := in_u h2 | (have a1 := h2; unfold In at a1)); (first | have a2 := in_u i53 | (have a2 := i53; unfold In at a2)); (first | have a3 := in_u i53a | (have a3 := i53a; unfold In at a3)); (first | have a4 := in_u i73 | (have a4 := i73; unfold In at a4)))); have a5 := t_add e73 i53 (in_c 1 rfl) rfl; (first | have a6 := in_u ((in_c 1 rfl)) | (have a6 := (in_c 1 rfl); unfold In at a6)); have oc := oc_53_60_32; omega) | exact l49_y g49_0 (in_w 0 31 i53 rfl) (by (first | have a0 := oa5 h3 h2 i53 i53a i73 | ((first | have a0 := in_u h3 | (have a0 := h3; unfold In at a0)); (first | have a1 := in_u h2 | (have a1 := h2; unfold In at a1)); (first | have a2 := in_u i53 | (have a2 := i53; unfold In at a2)); (first | have a3 := in_u i53a | (have a3 := i53a; unfold In at a3)); (first | have a4 := in_u i73 | (have a4 := i73; unfold In at a4)))); have a5 := t_add e73 i53 (in_c 1 rfl) rfl; (first | have a6 := in_u ((in_c 1 rfl)) | (have a6 := (in_c 1 rfl); unfold In at a6)); have oc := oc_53_60_32; omega) (hFc49.2.2.1 60 3 rfl) (show CLW (s.1 39) (s.2.2.1 32 1).toNatClampNeg (sc49.2.2.1 60 3).toInt (sc49.1 61) (s63.1 61) (x2).toNatClampNeg (y49_5).toNatClampNeg (z63).toInt from (by have h9 := p63a; rw [hFc49.1 39 rfl, hFc49.2.2.1 32 1 rfl] at h9; exact h9)) p63b c66 (by (first | have a0 := oa5 h3 h2 i53 i53a i73 | ((first | have a0 := in_u h3 | (have a0 := h3; unfold In at a0)); (first | have a1 := in_u h2 | (have a1 := h2; unfold In at a1)); (first | have a2 := in_u i53 | (have a2 := i53; unfold In at a2)); (first | have a3 := in_u i53a | (have a3 := i53a; unfold In at a3)); (first | have a4 := in_u i73 | (have a4 := i73; unfold In at a4)))); have a5 := t_add e73 i53 (in_c 1 rfl) rfl; (first | have a6 := in_u ((in_c 1 rfl)) | (have a6 := (in_c 1 rfl); unfold In at a6)); have oc := oc_53_60_32; omega)
          have m49 : 32 - (z73).toInt < ((k49 : Nat) : Int) := by (first | have a0 := oa5 h3 h2 i53 i53a i73 | ((first | have a0 := in_u h3 | (have a0 := h3; unfold In at a0)); (first | have a1 := in_u h2 | (have a1 := h2; unfold In at a1)); (first | have a2 := in_u i53 | (have a2 := i53; unfold In at a2)); (first | have a3 := in_u i53a | (have a3 := i53a; unfold In at a3)); (first | have a4 := in_u i73 | (have a4 := i73; unfold In at a4)))); have a5 := t_add e73 i53 (in_c 1 rfl) rfl; (first | have a6 := in_u ((in_c 1 rfl)) | (have a6 := (in_c 1 rfl); unfold In at a6)); have oc := oc_53_60_32; omega
          exact gg_w (by first | exact Nat.le_add_right _ _ | exact gw2 | exact gw3 | exact gwe rfl | exact gwf rfl | exact gwg rfl | exact gwh rfl | omega) (gg_f (gf_cons rfl (gf_cons rfl (gf_cons rfl (gf_cons rfl (gf_cons rfl (gf_cons rfl gf_nil)))))) (ih49  s63 y49_4 z73 hI63 (fr_tr rfl hFc49 hF63) (in_w 0 31 i53a rfl) (in_w 0 32 i73 rfl) n49 n49a n49b m49))
        · skip
          have i66 := z_ne 1 1 c66 i63 rfl
          refine g_iload 71 (gd rfl) rfl rfl ?_
          refine g_istore 73 (gd rfl) rfl (Nat.le_of_ble_eq_true rfl) ?_
          refine g_iinc 76 (gd rfl) rfl rfl (Nat.le_of_ble_eq_true rfl) (fun z73 e73 => ?_)
          have i73 := in_add 1 31 e73 i53 (in_c 1 rfl) rfl rfl
          refine g_goto 49 (gd rfl) rfl ?_
          have n49 : (y49_5).toInt ≤ (x3).toInt := by (first | have a0 := oa5 h3 h2 i53 i53a i73 | ((first | have a0 := in_u h3 | (have a0 := h3; unfold In at a0)); (first | have a1 := in_u h2 | (have a1 := h2; unfold In at a1)); (first | have a2 := in_u i53 | (have a2 := i53; unfold In at a2)); (first | have a3 := in_u i53a | (have a3 := i53a; unfold In at a3)); (first | have a4 := in_u i73 | (have a4 := i73; unfold In at a4)))); have a5 := t_add e73 i53 (in_c 1 rfl) rfl; (first | have a6 := in_u ((in_c 1 rfl)) | (have a6 := (in_c 1 rfl); unfold In at a6)); have oc := oc_53_60_32; omega
          have n49a : 0 ≤ (z73).toInt := by (first | have a0 := oa5 h3 h2 i53 i53a i73 | ((first | have a0 := in_u h3 | (have a0 := h3; unfold In at a0)); (first | have a1 := in_u h2 | (have a1 := h2; unfold In at a1)); (first | have a2 := in_u i53 | (have a2 := i53; unfold In at a2)); (first | have a3 := in_u i53a | (have a3 := i53a; unfold In at a3)); (first | have a4 := in_u i73 | (have a4 := i73; unfold In at a4)))); have a5 := t_add e73 i53 (in_c 1 rfl) rfl; (first | have a6 := in_u ((in_c 1 rfl)) | (have a6 := (in_c 1 rfl); unfold In at a6)); have oc := oc_53_60_32; omega
          have n49b : L49 (s.1 39) (s.2.2.1 32 1).toNatClampNeg s s63 x2 (y49_5) (z73) := by first | exact l49_n g49_0 (in_w 0 31 i53 rfl) (hFc49.2.2.1 60 3 rfl) (show CLW (s.1 39) (s.2.2.1 32 1).toNatClampNeg (sc49.2.2.1 60 3).toInt (sc49.1 61) (s63.1 61) (x2).toNatClampNeg (y49_5).toNatClampNeg (z63).toInt from (by have h9 := p63a; rw [hFc49.1 39 rfl, hFc49.2.2.1 32 1 rfl] at h9; exact h9)) p63b c66 (by (first | have a0 := oa5 h3 h2 i53 i53a i73 | ((first | have a0 := in_u h3 | (have a0 := h3; unfold In at a0)); (first | have a1 := in_u h2 | (have a1 := h2; unfold In at a1)); (first | have a2 := in_u i53 | (have a2 := i53; unfold In at a2)); (first | have a3 := in_u i53a | (have a3 := i53a; unfold In at a3)); (first | have a4 := in_u i73 | (have a4 := i73; unfold In at a4)))); have a5 := t_add e73 i53 (in_c 1 rfl) rfl; (first | have a6 := in_u ((in_c 1 rfl)) | (have a6 := (in_c 1 rfl); unfold In at a6)); have oc := oc_53_60_32; omega) | exact l49_y g49_0 (in_w 0 31 i53 rfl) (by (first | have a0 := oa5 h3 h2 i53 i53a i73 | ((first | have a0 := in_u h3 | (have a0 := h3; unfold In at a0)); (first | have a1 := in_u h2 | (have a1 := h2; unfold In at a1)); (first | have a2 := in_u i53 | (have a2 := i53; unfold In at a2)); (first | have a3 := in_u i53a | (have a3 := i53a; unfold In at a3)); (first | have a4 := in_u i73 | (have a4 := i73; unfold In at a4)))); have a5 := t_add e73 i53 (in_c 1 rfl) rfl; (first | have a6 := in_u ((in_c 1 rfl)) | (have a6 := (in_c 1 rfl); unfold In at a6)); have oc := oc_53_60_32; omega) (hFc49.2.2.1 60 3 rfl) (show CLW (s.1 39) (s.2.2.1 32 1).toNatClampNeg (sc49.2.2.1 60 3).toInt (sc49.1 61) (s63.1 61) (x2).toNatClampNeg (y49_5).toNatClampNeg (z63).toInt from (by have h9 := p63a; rw [hFc49.1 39 rfl, hFc49.2.2.1 32 1 rfl] at h9; exact h9)) p63b c66 (by (first | have a0 := oa5 h3 h2 i53 i53a i73 | ((first | have a0 := in_u h3 | (have a0 := h3; unfold In at a0)); (first | have a1 := in_u h2 | (have a1 := h2; unfold In at a1)); (first | have a2 := in_u i53 | (have a2 := i53; unfold In at a2)); (first | have a3 := in_u i53a | (have a3 := i53a; unfold In at a3)); (first | have a4 := in_u i73 | (have a4 := i73; unfold In at a4)))); have a5 := t_add e73 i53 (in_c 1 rfl) rfl; (first | have a6 := in_u ((in_c 1 rfl)) | (have a6 := (in_c 1 rfl); unfold In at a6)); have oc := oc_53_60_32; omega)
          have m49 : 32 - (z73).toInt < ((k49 : Nat) : Int) := by (first | have a0 := oa5 h3 h2 i53 i53a i73 | ((first | have a0 := in_u h3 | (have a0 := h3; unfold In at a0)); (first | have a1 := in_u h2 | (have a1 := h2; unfold In at a1)); (first | have a2 := in_u i53 | (have a2 := i53; unfold In at a2)); (first | have a3 := in_u i53a | (have a3 := i53a; unfold In at a3)); (first | have a4 := in_u i73 | (have a4 := i73; unfold In at a4)))); have a5 := t_add e73 i53 (in_c 1 rfl) rfl; (first | have a6 := in_u ((in_c 1 rfl)) | (have a6 := (in_c 1 rfl); unfold In at a6)); have oc := oc_53_60_32; omega
          exact gg_w (by first | exact Nat.le_add_right _ _ | exact gw2 | exact gw3 | exact gwe rfl | exact gwf rfl | exact gwg rfl | exact gwh rfl | omega) (gg_f (gf_cons rfl (gf_cons rfl (gf_cons rfl (gf_cons rfl (gf_cons rfl (gf_cons rfl gf_nil)))))) (ih49  s63 y49_5 z73 hI63 (fr_tr rfl hFc49 hF63) (in_w 0 31 i53 rfl) (in_w 0 32 i73 rfl) n49 n49a n49b m49))
  refine g_enter2 (k := 53) (N := 30601) (by first | exact dq1 hd rfl | exact dq0 hd rfl | exact dq2 hd rfl | exact dq3 hd rfl | omega) rfl (Nat.le_of_ble_eq_true rfl) ?_
  refine g_aload_n 1 (gd rfl) rfl rfl ?_
  refine g_iload_n 2 (gd rfl) rfl rfl ?_
  refine g_callv (X := _) (As := [.int x2]) (r := []) (b := A 60) (q := 60) 5 (gd rfl) rfl rfl rfl rfl rfl (ww_o rfl) (Nat.le_of_ble_eq_true rfl) (Nat.zero_le _) (Nat.zero_le _) (f_45_60 (by first | exact dq1 hd rfl | exact dq0 hd rfl | exact dq2 hd rfl | exact dq3 hd rfl | omega) hI (in_w 0 31 h2 rfl)) (fun e u h => h) (fun v u h => ?_)
  obtain ⟨z2, rfl, rfl, i2, p2⟩ := h
  show GG _ _ _ _ _ _ _ _ [.int z2] _ _ _
  refine g_istore 7 (gd rfl) rfl (Nat.le_of_ble_eq_true rfl) ?_
  refine g_iload 9 (gd rfl) rfl rfl ?_
  refine g_iload_n 10 (gd rfl) rfl rfl ?_
  refine g_cmp_le 13 46 (gd rfl) rfl rfl (fun c10 => ?_) (fun c10 => ?_)
  · skip
    refine g_iconst 0 47 (gd rfl) rfl rfl ?_
    refine g_istore 49 (gd rfl) rfl (Nat.le_of_ble_eq_true rfl) ?_
    have n49 : (z2).toInt ≤ (x3).toInt := by (first | have a0 := oa4 h3 h2 ((in_c 0 rfl)) i2 | ((first | have a0 := in_u h3 | (have a0 := h3; unfold In at a0)); (first | have a1 := in_u h2 | (have a1 := h2; unfold In at a1)); (first | have a2 := in_u ((in_c 0 rfl)) | (have a2 := (in_c 0 rfl); unfold In at a2)); (first | have a3 := in_u i2 | (have a3 := i2; unfold In at a3)))); have oc := oc_53_60_32; omega
    have n49a : 0 ≤ ((Int32.ofInt 0)).toInt := by (first | have a0 := oa4 h3 h2 ((in_c 0 rfl)) i2 | ((first | have a0 := in_u h3 | (have a0 := h3; unfold In at a0)); (first | have a1 := in_u h2 | (have a1 := h2; unfold In at a1)); (first | have a2 := in_u ((in_c 0 rfl)) | (have a2 := (in_c 0 rfl); unfold In at a2)); (first | have a3 := in_u i2 | (have a3 := i2; unfold In at a3)))); have oc := oc_53_60_32; omega
    have n49b : L49 (s.1 39) (s.2.2.1 32 1).toNatClampNeg s s x2 (z2) ((Int32.ofInt 0)) := by exact l49_0 q_0 i2 p2 rfl
    have m49 : 32 - ((Int32.ofInt 0)).toInt < ((33 : Nat) : Int) := by (first | have a0 := oa4 h3 h2 ((in_c 0 rfl)) i2 | ((first | have a0 := in_u h3 | (have a0 := h3; unfold In at a0)); (first | have a1 := in_u h2 | (have a1 := h2; unfold In at a1)); (first | have a2 := in_u ((in_c 0 rfl)) | (have a2 := (in_c 0 rfl); unfold In at a2)); (first | have a3 := in_u i2 | (have a3 := i2; unfold In at a3)))); have oc := oc_53_60_32; omega
    exact gg_w (by first | exact Nat.le_of_ble_eq_true rfl | omega) (gg_f (gf_cons rfl (gf_cons rfl (gf_cons rfl (gf_cons rfl (gf_cons rfl (gf_cons rfl gf_nil)))))) (ct49 33 s z2 (Int32.ofInt 0) hI fr_rf (in_w 0 31 i2 rfl) (in_w 0 32 (in_c 0 rfl) rfl) n49 n49a n49b m49))
  · skip
    have i10 := r_lt1 0 30 c10 h3 i2 rfl
    have i10a := r_lt2 1 31 c10 h3 i2 rfl
    refine g_aload_n 14 (gd rfl) rfl rfl ?_
    refine g_getA (q2 := 61) 17 (gd rfl) rfl rfl rfl rfl ?_
    refine g_iload 19 (gd rfl) rfl rfl ?_
    refine g_iaload 20 (gd rfl) rfl (n := 32) rfl (in_ix i10a rfl) (fun z19 e19 => ?_)
    refine g_istore 22 (gd rfl) rfl (Nat.le_of_ble_eq_true rfl) ?_
    refine g_aload_n 23 (gd rfl) rfl rfl ?_
    refine g_getA (q2 := 61) 26 (gd rfl) rfl rfl rfl rfl ?_
    refine g_iload 28 (gd rfl) rfl rfl ?_
    refine g_aload_n 29 (gd rfl) rfl rfl ?_
    refine g_getA (q2 := 61) 32 (gd rfl) rfl rfl rfl rfl ?_
    refine g_iload_n 33 (gd rfl) rfl rfl ?_
    refine g_iaload 34 (gd rfl) rfl (n := 32) rfl (in_ix i10 rfl) (fun z33 e33 => ?_)
    refine g_iastore 35 (gd rfl) rfl (n := 32) rfl (in_ix i10a rfl) ?_
    have hI34 := inv_sI (q := 61) (j := z2.toNatClampNeg) hI rfl (in_w (-2147483648) 2147483647 (i_rng z33) rfl)
    refine g_aload_n 36 (gd rfl) rfl rfl ?_
    refine g_getA (q2 := 61) 39 (gd rfl) rfl rfl rfl rfl ?_
    refine g_iload_n 40 (gd rfl) rfl rfl ?_
    refine g_iload 42 (gd rfl) rfl rfl ?_
    refine g_iastore 43 (gd rfl) rfl (n := 32) rfl (in_ix i10 rfl) ?_
    have hI42 := inv_sI (q := 61) (j := x3.toNatClampNeg) hI34 rfl (in_w (-2147483648) 2147483647 (i_rng z19) rfl)
    refine g_iload_n 44 (gd rfl) rfl rfl ?_
    refine g_istore 46 (gd rfl) rfl (Nat.le_of_ble_eq_true rfl) ?_
    refine g_iconst 0 47 (gd rfl) rfl rfl ?_
    refine g_istore 49 (gd rfl) rfl (Nat.le_of_ble_eq_true rfl) ?_
    have n49 : (x3).toInt ≤ (x3).toInt := by exact Int.le_refl _
    have n49a : 0 ≤ ((Int32.ofInt 0)).toInt := by (first | have a0 := oa3 i10 h2 ((in_c 0 rfl)) | ((first | have a0 := in_u i10 | (have a0 := i10; unfold In at a0)); (first | have a1 := in_u h2 | (have a1 := h2; unfold In at a1)); (first | have a2 := in_u ((in_c 0 rfl)) | (have a2 := (in_c 0 rfl); unfold In at a2)))); have oc := oc_53_60_32; omega
    have n49b : L49 (s.1 39) (s.2.2.1 32 1).toNatClampNeg s (sI (sI s 61 z2.toNatClampNeg z33) 61 x3.toNatClampNeg z19) x2 (x3) ((Int32.ofInt 0)) := by exact l49_w q_0 i2 h3 (by (first | have a0 := oa3 i10 h2 ((in_c 0 rfl)) | ((first | have a0 := in_u i10 | (have a0 := i10; unfold In at a0)); (first | have a1 := in_u h2 | (have a1 := h2; unfold In at a1)); (first | have a2 := in_u ((in_c 0 rfl)) | (have a2 := (in_c 0 rfl); unfold In at a2)))); have oc := oc_53_60_32; omega) p2 e33 e19 rfl
    have m49 : 32 - ((Int32.ofInt 0)).toInt < ((33 : Nat) : Int) := by (first | have a0 := oa3 i10 h2 ((in_c 0 rfl)) | ((first | have a0 := in_u i10 | (have a0 := i10; unfold In at a0)); (first | have a1 := in_u h2 | (have a1 := h2; unfold In at a1)); (first | have a2 := in_u ((in_c 0 rfl)) | (have a2 := (in_c 0 rfl); unfold In at a2)))); have oc := oc_53_60_32; omega
    exact gg_w (by first | exact Nat.le_of_ble_eq_true rfl | omega) (gg_f (gf_cons rfl (gf_cons rfl (gf_cons rfl (gf_cons rfl (gf_cons rfl (gf_cons rfl gf_nil)))))) (ct49 33 (sI (sI s 61 z2.toNatClampNeg z33) 61 x3.toNatClampNeg z19) x3 (Int32.ofInt 0) hI42 (fr_sI rfl (fr_sI rfl fr_rf)) (in_w 0 31 i10 rfl) (in_w 0 32 (in_c 0 rfl) rfl) n49 n49a n49b m49))

theorem oc_44_60_2 : (Int32.ofInt (-1)).toInt = (-1) ∧ (Int32.ofInt 0).toInt = 0 ∧ (Int32.ofInt 1).toInt = 1 ∧ (Int32.ofInt 32).toInt = 32 := ⟨rfl, rfl, rfl, rfl⟩
set_option maxHeartbeats 4000000 in
/-- GraphHouse$Colours.makeColours -/
theorem f_44_60_2 {Z : AmZ} {A : Nat → Nat} {s : GS} {ex : va_W} {d : Nat} {X : AmX}  (hd : 383 ≤ d) (hI : Inv s) (q_0 : TQ s) (q_1 : CQB (gvC s) s) : GC Z d 44 [.ref (A 60), .ref (A 2)] (WW Z A s ++ ex) 0 0 (fun v u => ∃ t : GS, Inv t ∧ Fr fm_44_60_2 s t ∧ v = none ∧ u = WW Z A t ++ ex ∧ (CQQ (gvC s) t) ∧ (COA (gvC s) t)) X := by
  intro post xp hP hX
  obtain ⟨u_2_0, e_2_0⟩ : ∃ w, w = s.2.2.1 2 0 := ⟨_, rfl⟩
  have ro_2_0 := inv_F hI 0 4000 rfl e_2_0
  obtain ⟨u_2_1, e_2_1⟩ : ∃ w, w = s.2.2.1 2 1 := ⟨_, rfl⟩
  have ro_2_1 := inv_F hI 0 32 rfl e_2_1
  have ct75 : ∀ (k75 : Nat) (sc75 : GS) (y75_2 : Int32) (y75_3 : Int32), Inv sc75 → Fr fm_44_60_2 s sc75 → (In y75_2 0 32) → (In y75_3 0 32) → ((y75_2).toInt ≤ (y75_3).toInt) → (0 ≤ (y75_2).toInt) → (CQQ (gvC s) sc75) → (((sc75).2.2.1 2 4).toInt = ((sc75).2.2.1 2 0).toInt) → (M75 ((sc75).1 9) (s.2.2.1 2 1).toNatClampNeg (KZ ((sc75).2.2.1 60 1)) sc75 (y75_3).toNatClampNeg (y75_2).toInt) → ((y75_3).toInt ≤ (s.2.2.1 2 1).toInt) → 32 - (y75_3).toInt < (k75 : Int) → GG Z (d - 1) 44 post (gx xp) (1 + k75 * 900) 75 (fun j => xlook j [(0, .ref (A 60)), (1, .ref (A 2)), (2, .int y75_2), (3, .int y75_3)]) [] (WW Z A sc75 ++ ex) 0 0 := by
    intro k75
    induction k75 with
    | zero => intro sc75 y75_2 y75_3 hIc75 hFc75 j75_2 j75_3 n75_0 n75_1 g75_0 g75_1 g75_2 g75_3 mm75; exact m_no mm75 j75_3 rfl
    | succ k75 ih75 =>
      intro sc75 y75_2 y75_3 hIc75 hFc75 j75_2 j75_3 n75_0 n75_1 g75_0 g75_1 g75_2 g75_3 mm75
      refine gg_w (M := 1 + k75 * 900 + 900) gws ?_
      refine g_iload_n 76 (gd rfl) rfl rfl ?_
      refine g_aload_n 77 (gd rfl) rfl rfl ?_
      refine g_getI 80 (gd rfl) rfl rfl rfl (fun z77 e77 => ?_)
      have q77 : u_2_1 = z77 := (fr_F e_2_1 hFc75 rfl).trans e77.symm
      subst q77
      refine g_cmp_ge 83 115 (gd rfl) rfl rfl (fun c80 => ?_) (fun c80 => ?_)
      · skip
        have n115 : CQQ (gvC s) sc75 := by exact g75_0
        have n115a : COA (gvC s) sc75 := by have h9 := g75_2; rw [(show (y75_3).toNatClampNeg = (s.2.2.1 2 1).toNatClampNeg from (by show (y75_3).toInt.toNat = (s.2.2.1 2 1).toInt.toNat; have h7 := g75_3; rw [← e_2_1] at h7 ⊢; (first | have a0 := oa4 ro_2_1 ro_2_0 j75_3 j75_2 | ((first | have a0 := in_u ro_2_1 | (have a0 := ro_2_1; unfold In at a0)); (first | have a1 := in_u ro_2_0 | (have a1 := ro_2_0; unfold In at a1)); (first | have a2 := in_u j75_3 | (have a2 := j75_3; unfold In at a2)); (first | have a3 := in_u j75_2 | (have a3 := j75_2; unfold In at a3)))); have oc := oc_44_60_2; omega))] at h9; exact m75_e h9 (bfr_of (fe_2 hIc75 hFc75 rfl rfl rfl g75_1 q_0).2.2 (show (s.2.2.1 2 1).toInt ≤ 32 from (by rw [← e_2_1]; (first | have a0 := oa4 ro_2_1 ro_2_0 j75_3 j75_2 | ((first | have a0 := in_u ro_2_1 | (have a0 := ro_2_1; unfold In at a0)); (first | have a1 := in_u ro_2_0 | (have a1 := ro_2_0; unfold In at a1)); (first | have a2 := in_u j75_3 | (have a2 := j75_3; unfold In at a2)); (first | have a3 := in_u j75_2 | (have a3 := j75_2; unfold In at a3)))); have oc := oc_44_60_2; omega))) g75_0.2 rfl
        exact g_return (gd rfl) rfl (hP _ _ ⟨sc75, hIc75, hFc75, rfl, rfl, n115, n115a⟩)
      · skip
        have i80 := r_lt1 0 31 c80 j75_3 ro_2_1 rfl
        have i80a := r_lt2 1 32 c80 j75_3 ro_2_1 rfl
        refine g_aload_n 84 (gd rfl) rfl rfl ?_
        refine g_getA (q2 := 64) 87 (gd rfl) rfl rfl rfl rfl ?_
        refine g_iload_n 88 (gd rfl) rfl rfl ?_
        have i88 : In y75_2 0 31 := by exact ⟨by (first | have a0 := oa4 i80a ro_2_0 i80 j75_2 | ((first | have a0 := in_u i80a | (have a0 := i80a; unfold In at a0)); (first | have a1 := in_u ro_2_0 | (have a1 := ro_2_0; unfold In at a1)); (first | have a2 := in_u i80 | (have a2 := i80; unfold In at a2)); (first | have a3 := in_u j75_2 | (have a3 := j75_2; unfold In at a3)))); have oc := oc_44_60_2; omega, by (first | have a0 := oa4 i80a ro_2_0 i80 j75_2 | ((first | have a0 := in_u i80a | (have a0 := i80a; unfold In at a0)); (first | have a1 := in_u ro_2_0 | (have a1 := ro_2_0; unfold In at a1)); (first | have a2 := in_u i80 | (have a2 := i80; unfold In at a2)); (first | have a3 := in_u j75_2 | (have a3 := j75_2; unfold In at a3)))); have oc := oc_44_60_2; omega⟩
        refine g_aload_n 89 (gd rfl) rfl rfl ?_
        refine g_aload_n 90 (gd rfl) rfl rfl ?_
        refine g_iload_n 91 (gd rfl) rfl rfl ?_
        refine g_iload_n 92 (gd rfl) rfl rfl ?_
        have p92 : LSX (sc75.1 9) (sc75.2.2.1 2 1).toNatClampNeg sc75 y75_3 y75_2 := by rw [hFc75.2.2.1 2 1 rfl]; exact m75_x g75_2 (syr_of (fe_2 hIc75 hFc75 rfl rfl rfl g75_1 q_0).2.2) (show (s.2.2.1 2 1).toNatClampNeg ≤ 32 from (by show (s.2.2.1 2 1).toInt.toNat ≤ 32; rw [← e_2_1]; (first | have a0 := oa4 i80a ro_2_0 i80 i88 | ((first | have a0 := in_u i80a | (have a0 := i80a; unfold In at a0)); (first | have a1 := in_u ro_2_0 | (have a1 := ro_2_0; unfold In at a1)); (first | have a2 := in_u i80 | (have a2 := i80; unfold In at a2)); (first | have a3 := in_u i88 | (have a3 := i88; unfold In at a3)))); have oc := oc_44_60_2; (first | exact zt_u (by omega) | omega))) (show (y75_3).toNatClampNeg < (s.2.2.1 2 1).toNatClampNeg from (by show (y75_3).toInt.toNat < (s.2.2.1 2 1).toInt.toNat; rw [← e_2_1]; (first | have a0 := oa4 i80a ro_2_0 i80 i88 | ((first | have a0 := in_u i80a | (have a0 := i80a; unfold In at a0)); (first | have a1 := in_u ro_2_0 | (have a1 := ro_2_0; unfold In at a1)); (first | have a2 := in_u i80 | (have a2 := i80; unfold In at a2)); (first | have a3 := in_u i88 | (have a3 := i88; unfold In at a3)))); have oc := oc_44_60_2; (first | exact zt_t (by omega) (by omega) | omega)))
        refine g_callv (X := _) (As := [.ref (A 2), .int y75_3, .int y75_2]) (r := [.int y75_3, .ref (A 64)]) (b := A 60) (q := 60) 95 (gd rfl) rfl rfl rfl rfl rfl (ww_o rfl) (Nat.le_of_ble_eq_true rfl) (Nat.zero_le _) (Nat.zero_le _) (f_53_60_2 (by first | exact dq1 hd rfl | exact dq0 hd rfl | exact dq2 hd rfl | exact dq3 hd rfl | omega) hIc75 (in_w 0 31 i80 rfl) (in_w 0 31 i88 rfl) p92) (fun e u h => h) (fun v u h => ?_)
        obtain ⟨s92, hI92, hF92, z92, rfl, rfl, i92, p92a, p92b, p92c⟩ := h
        show GG _ _ _ _ _ _ _ _ [.int z92, .int y75_3, .ref (A 64)] _ _ _
        refine g_iastore 96 (gd rfl) rfl (n := 32) rfl (in_ix i80 rfl) ?_
        have hI95 := inv_sI (q := 64) (j := y75_3.toNatClampNeg) hI92 rfl (in_w 0 31 i92 rfl)
        refine g_iload_n 97 (gd rfl) rfl rfl ?_
        refine g_aload_n 98 (gd rfl) rfl rfl ?_
        refine g_getA (q2 := 64) 101 (gd rfl) rfl rfl rfl rfl ?_
        refine g_iload_n 102 (gd rfl) rfl rfl ?_
        refine g_iaload 103 (gd rfl) rfl (n := 32) rfl (in_ix i80 rfl) (fun z102 e102 => ?_)
        have q102 : z92 = z102 := (sI_get).trans e102.symm
        subst q102
        refine g_iconst 1 104 (gd rfl) rfl rfl ?_
        refine g_iadd 105 (gd rfl) rfl (fun z104 e104 => ?_)
        have i104 := in_add 1 32 e104 i92 (in_c 1 rfl) rfl rfl
        refine g_calls (As := [.int y75_2, .int z104]) (r := []) 108 (gd rfl) rfl rfl rfl rfl rfl (Nat.le_of_ble_eq_true rfl) (mc := 0) (ms := 0) (Nat.zero_le _) (Nat.zero_le _) (P := fun v u => _) ?_ (fun v u h => h)
        intro po105 xx105 hp105 hx105
        refine g_enter2 (k := 422) (N := 300) (by first | exact dq1 hd rfl | exact dq0 hd rfl | exact dq2 hd rfl | exact dq3 hd rfl | omega) rfl (Nat.le_of_ble_eq_true rfl) ?_
        refine g_iload_n 1 (gd rfl) rfl rfl ?_
        refine g_iload_n 2 (gd rfl) rfl rfl ?_
        refine g_cmp_lt 5 9 (gd rfl) rfl rfl (fun c105x2 => ?_) (fun c105x2 => ?_)
        · skip
          refine g_iload_n 10 (gd rfl) rfl rfl ?_
          refine g_ireturn (gd rfl) rfl rfl (hp105 _ _ ?_)
          show GG _ _ _ _ _ _ _ _ [.int z104] _ _ _
          refine g_istore_n 109 (gd rfl) rfl (Nat.le_of_ble_eq_true rfl) ?_
          refine g_iinc 112 (gd rfl) rfl rfl (Nat.le_of_ble_eq_true rfl) (fun z109 e109 => ?_)
          have i109 := in_add 1 32 e109 i80 (in_c 1 rfl) rfl rfl
          refine g_goto 75 (gd rfl) rfl ?_
          have n75 : (z104).toInt ≤ (z109).toInt := by (first | have a0 := oa5 i80a ro_2_0 i80 i88 i109 | ((first | have a0 := in_u i80a | (have a0 := i80a; unfold In at a0)); (first | have a1 := in_u ro_2_0 | (have a1 := ro_2_0; unfold In at a1)); (first | have a2 := in_u i80 | (have a2 := i80; unfold In at a2)); (first | have a3 := in_u i88 | (have a3 := i88; unfold In at a3)); (first | have a4 := in_u i109 | (have a4 := i109; unfold In at a4)))); have a5 := t_add e109 i80 (in_c 1 rfl) rfl; (first | have a6 := oa2 ((in_c 1 rfl)) i104 | ((first | have a6 := in_u ((in_c 1 rfl)) | (have a6 := (in_c 1 rfl); unfold In at a6)); (first | have a7 := in_u i104 | (have a7 := i104; unfold In at a7)))); have a8 := t_add e104 i92 (in_c 1 rfl) rfl; (first | have a9 := in_u i92 | (have a9 := i92; unfold In at a9)); have oc := oc_44_60_2; omega
          have n75a : 0 ≤ (z104).toInt := by (first | have a0 := oa5 i80a ro_2_0 i80 i88 i109 | ((first | have a0 := in_u i80a | (have a0 := i80a; unfold In at a0)); (first | have a1 := in_u ro_2_0 | (have a1 := ro_2_0; unfold In at a1)); (first | have a2 := in_u i80 | (have a2 := i80; unfold In at a2)); (first | have a3 := in_u i88 | (have a3 := i88; unfold In at a3)); (first | have a4 := in_u i109 | (have a4 := i109; unfold In at a4)))); have a5 := t_add e109 i80 (in_c 1 rfl) rfl; (first | have a6 := oa2 ((in_c 1 rfl)) i104 | ((first | have a6 := in_u ((in_c 1 rfl)) | (have a6 := (in_c 1 rfl); unfold In at a6)); (first | have a7 := in_u i104 | (have a7 := i104; unfold In at a7)))); have a8 := t_add e104 i92 (in_c 1 rfl) rfl; (first | have a9 := in_u i92 | (have a9 := i92; unfold In at a9)); have oc := oc_44_60_2; omega
          have n75b : CQQ (gvC s) (sI s92 64 y75_3.toNatClampNeg z92) := by exact cqq_cg (cqq_cg g75_0 (hF92.2.2.1 60 0 rfl) (hF92.2.2.1 60 1 rfl)) rfl rfl
          have n75c : (((sI s92 64 y75_3.toNatClampNeg z92)).2.2.1 2 4).toInt = (((sI s92 64 y75_3.toNatClampNeg z92)).2.2.1 2 0).toInt := by rw [show (sI s92 64 y75_3.toNatClampNeg z92).2.2.1 2 4 = sc75.2.2.1 2 4 from hF92.2.2.1 2 4 rfl, show (sI s92 64 y75_3.toNatClampNeg z92).2.2.1 2 0 = sc75.2.2.1 2 0 from hF92.2.2.1 2 0 rfl]; exact g75_1
          have n75d : M75 (((sI s92 64 y75_3.toNatClampNeg z92)).1 9) (s.2.2.1 2 1).toNatClampNeg (KZ (((sI s92 64 y75_3.toNatClampNeg z92)).2.2.1 60 1)) (sI s92 64 y75_3.toNatClampNeg z92) (z109).toNatClampNeg (z104).toInt := by rw [sI_p (show Nat.beq 9 64 = false from rfl)]; exact (show M75 (s92.1 9) (s.2.2.1 2 1).toNatClampNeg (KZ (s92.2.2.1 60 1)) _ _ _ from (by rw [hF92.1 9 rfl, hF92.2.2.1 60 1 rfl]; exact m75_s g75_2 (show LSE (sc75.1 9) (s.2.2.1 2 1).toNatClampNeg (sc75.2.2.1 60 3).toInt (sc75.1 61) (s92.1 61) (y75_3).toNatClampNeg (z92).toInt from (by have h9 := p92b; rw [hFc75.2.2.1 2 1 rfl] at h9; exact h9)) p92c (hF92.2.2.1 60 3 rfl) (hF92.1 64 rfl) (show (z109).toNatClampNeg = (y75_3).toNatClampNeg + 1 from (by show (z109).toInt.toNat = (y75_3).toInt.toNat + 1; (first | have a0 := oa5 i80a ro_2_0 i80 i88 i109 | ((first | have a0 := in_u i80a | (have a0 := i80a; unfold In at a0)); (first | have a1 := in_u ro_2_0 | (have a1 := ro_2_0; unfold In at a1)); (first | have a2 := in_u i80 | (have a2 := i80; unfold In at a2)); (first | have a3 := in_u i88 | (have a3 := i88; unfold In at a3)); (first | have a4 := in_u i109 | (have a4 := i109; unfold In at a4)))); have a5 := t_add e109 i80 (in_c 1 rfl) rfl; (first | have a6 := oa2 ((in_c 1 rfl)) i104 | ((first | have a6 := in_u ((in_c 1 rfl)) | (have a6 := (in_c 1 rfl); unfold In at a6)); (first | have a7 := in_u i104 | (have a7 := i104; unfold In at a7)))); have a8 := t_add e104 i92 (in_c 1 rfl) rfl; (first | have a9 := in_u i92 | (have a9 := i92; unfold In at a9)); have oc := oc_44_60_2; (first | exact zt_s (by omega) (by omega) | omega))) (by (first | have a0 := oa5 i80a ro_2_0 i80 i88 i109 | ((first | have a0 := in_u i80a | (have a0 := i80a; unfold In at a0)); (first | have a1 := in_u ro_2_0 | (have a1 := ro_2_0; unfold In at a1)); (first | have a2 := in_u i80 | (have a2 := i80; unfold In at a2)); (first | have a3 := in_u i88 | (have a3 := i88; unfold In at a3)); (first | have a4 := in_u i109 | (have a4 := i109; unfold In at a4)))); have a5 := t_add e109 i80 (in_c 1 rfl) rfl; (first | have a6 := oa2 ((in_c 1 rfl)) i104 | ((first | have a6 := in_u ((in_c 1 rfl)) | (have a6 := (in_c 1 rfl); unfold In at a6)); (first | have a7 := in_u i104 | (have a7 := i104; unfold In at a7)))); have a8 := t_add e104 i92 (in_c 1 rfl) rfl; (first | have a9 := in_u i92 | (have a9 := i92; unfold In at a9)); have oc := oc_44_60_2; omega) (by (first | have a0 := oa5 i80a ro_2_0 i80 i88 i109 | ((first | have a0 := in_u i80a | (have a0 := i80a; unfold In at a0)); (first | have a1 := in_u ro_2_0 | (have a1 := ro_2_0; unfold In at a1)); (first | have a2 := in_u i80 | (have a2 := i80; unfold In at a2)); (first | have a3 := in_u i88 | (have a3 := i88; unfold In at a3)); (first | have a4 := in_u i109 | (have a4 := i109; unfold In at a4)))); have a5 := t_add e109 i80 (in_c 1 rfl) rfl; (first | have a6 := oa2 ((in_c 1 rfl)) i104 | ((first | have a6 := in_u ((in_c 1 rfl)) | (have a6 := (in_c 1 rfl); unfold In at a6)); (first | have a7 := in_u i104 | (have a7 := i104; unfold In at a7)))); have a8 := t_add e104 i92 (in_c 1 rfl) rfl; (first | have a9 := in_u i92 | (have a9 := i92; unfold In at a9)); have oc := oc_44_60_2; omega)))
          have n75e : (z109).toInt ≤ (s.2.2.1 2 1).toInt := by rw [← e_2_1]; (first | have a0 := oa5 i80a ro_2_0 i80 i88 i109 | ((first | have a0 := in_u i80a | (have a0 := i80a; unfold In at a0)); (first | have a1 := in_u ro_2_0 | (have a1 := ro_2_0; unfold In at a1)); (first | have a2 := in_u i80 | (have a2 := i80; unfold In at a2)); (first | have a3 := in_u i88 | (have a3 := i88; unfold In at a3)); (first | have a4 := in_u i109 | (have a4 := i109; unfold In at a4)))); have a5 := t_add e109 i80 (in_c 1 rfl) rfl; (first | have a6 := oa2 ((in_c 1 rfl)) i104 | ((first | have a6 := in_u ((in_c 1 rfl)) | (have a6 := (in_c 1 rfl); unfold In at a6)); (first | have a7 := in_u i104 | (have a7 := i104; unfold In at a7)))); have a8 := t_add e104 i92 (in_c 1 rfl) rfl; (first | have a9 := in_u i92 | (have a9 := i92; unfold In at a9)); have oc := oc_44_60_2; omega
          exact gg_w (by first | exact Nat.le_add_right _ _ | exact gw2 | exact gw3 | exact gwe rfl | exact gwf rfl | exact gwg rfl | exact gwh rfl | omega) (gg_f (gf_cons rfl (gf_cons rfl (gf_cons rfl (gf_cons rfl gf_nil)))) (ih75 (sI s92 64 y75_3.toNatClampNeg z92) z104 z109 hI95 (fr_sI rfl (fr_tr rfl hFc75 hF92)) (in_w 0 32 i104 rfl) (in_w 0 32 i109 rfl) n75 n75a n75b n75c n75d n75e (m_up mm75 (t_add e109 i80 (in_c 1 rfl) rfl) (in_w 1 1 (in_c 1 rfl) rfl))))
        · skip
          have i105x2 := r_le1 1 31 c105x2 i104 i88 rfl
          have i105x2a := r_le2 1 31 c105x2 i104 i88 rfl
          refine g_iload_n 6 (gd rfl) rfl rfl ?_
          refine g_goto 10 (gd rfl) rfl ?_
          refine g_ireturn (gd rfl) rfl rfl (hp105 _ _ ?_)
          show GG _ _ _ _ _ _ _ _ [.int y75_2] _ _ _
          refine g_istore_n 109 (gd rfl) rfl (Nat.le_of_ble_eq_true rfl) ?_
          refine g_iinc 112 (gd rfl) rfl rfl (Nat.le_of_ble_eq_true rfl) (fun z109 e109 => ?_)
          have i109 := in_add 1 32 e109 i80 (in_c 1 rfl) rfl rfl
          refine g_goto 75 (gd rfl) rfl ?_
          have n75 : (y75_2).toInt ≤ (z109).toInt := by (first | have a0 := oa5 i80a ro_2_0 i80 i105x2a i109 | ((first | have a0 := in_u i80a | (have a0 := i80a; unfold In at a0)); (first | have a1 := in_u ro_2_0 | (have a1 := ro_2_0; unfold In at a1)); (first | have a2 := in_u i80 | (have a2 := i80; unfold In at a2)); (first | have a3 := in_u i105x2a | (have a3 := i105x2a; unfold In at a3)); (first | have a4 := in_u i109 | (have a4 := i109; unfold In at a4)))); have a5 := t_add e109 i80 (in_c 1 rfl) rfl; (first | have a6 := oa2 ((in_c 1 rfl)) i105x2 | ((first | have a6 := in_u ((in_c 1 rfl)) | (have a6 := (in_c 1 rfl); unfold In at a6)); (first | have a7 := in_u i105x2 | (have a7 := i105x2; unfold In at a7)))); have a8 := t_add e104 i92 (in_c 1 rfl) rfl; (first | have a9 := in_u i92 | (have a9 := i92; unfold In at a9)); have oc := oc_44_60_2; omega
          have n75a : 0 ≤ (y75_2).toInt := by first | exact n75_1 | ((first | have a0 := oa5 i80a ro_2_0 i80 i105x2a i109 | ((first | have a0 := in_u i80a | (have a0 := i80a; unfold In at a0)); (first | have a1 := in_u ro_2_0 | (have a1 := ro_2_0; unfold In at a1)); (first | have a2 := in_u i80 | (have a2 := i80; unfold In at a2)); (first | have a3 := in_u i105x2a | (have a3 := i105x2a; unfold In at a3)); (first | have a4 := in_u i109 | (have a4 := i109; unfold In at a4)))); have a5 := t_add e109 i80 (in_c 1 rfl) rfl; (first | have a6 := oa2 ((in_c 1 rfl)) i105x2 | ((first | have a6 := in_u ((in_c 1 rfl)) | (have a6 := (in_c 1 rfl); unfold In at a6)); (first | have a7 := in_u i105x2 | (have a7 := i105x2; unfold In at a7)))); have a8 := t_add e104 i92 (in_c 1 rfl) rfl; (first | have a9 := in_u i92 | (have a9 := i92; unfold In at a9)); have oc := oc_44_60_2; omega)
          have n75b : CQQ (gvC s) (sI s92 64 y75_3.toNatClampNeg z92) := by exact cqq_cg (cqq_cg g75_0 (hF92.2.2.1 60 0 rfl) (hF92.2.2.1 60 1 rfl)) rfl rfl
          have n75c : (((sI s92 64 y75_3.toNatClampNeg z92)).2.2.1 2 4).toInt = (((sI s92 64 y75_3.toNatClampNeg z92)).2.2.1 2 0).toInt := by rw [show (sI s92 64 y75_3.toNatClampNeg z92).2.2.1 2 4 = sc75.2.2.1 2 4 from hF92.2.2.1 2 4 rfl, show (sI s92 64 y75_3.toNatClampNeg z92).2.2.1 2 0 = sc75.2.2.1 2 0 from hF92.2.2.1 2 0 rfl]; exact g75_1
          have n75d : M75 (((sI s92 64 y75_3.toNatClampNeg z92)).1 9) (s.2.2.1 2 1).toNatClampNeg (KZ (((sI s92 64 y75_3.toNatClampNeg z92)).2.2.1 60 1)) (sI s92 64 y75_3.toNatClampNeg z92) (z109).toNatClampNeg (y75_2).toInt := by rw [sI_p (show Nat.beq 9 64 = false from rfl)]; exact (show M75 (s92.1 9) (s.2.2.1 2 1).toNatClampNeg (KZ (s92.2.2.1 60 1)) _ _ _ from (by rw [hF92.1 9 rfl, hF92.2.2.1 60 1 rfl]; exact m75_s g75_2 (show LSE (sc75.1 9) (s.2.2.1 2 1).toNatClampNeg (sc75.2.2.1 60 3).toInt (sc75.1 61) (s92.1 61) (y75_3).toNatClampNeg (z92).toInt from (by have h9 := p92b; rw [hFc75.2.2.1 2 1 rfl] at h9; exact h9)) p92c (hF92.2.2.1 60 3 rfl) (hF92.1 64 rfl) (show (z109).toNatClampNeg = (y75_3).toNatClampNeg + 1 from (by show (z109).toInt.toNat = (y75_3).toInt.toNat + 1; (first | have a0 := oa5 i80a ro_2_0 i80 i105x2a i109 | ((first | have a0 := in_u i80a | (have a0 := i80a; unfold In at a0)); (first | have a1 := in_u ro_2_0 | (have a1 := ro_2_0; unfold In at a1)); (first | have a2 := in_u i80 | (have a2 := i80; unfold In at a2)); (first | have a3 := in_u i105x2a | (have a3 := i105x2a; unfold In at a3)); (first | have a4 := in_u i109 | (have a4 := i109; unfold In at a4)))); have a5 := t_add e109 i80 (in_c 1 rfl) rfl; (first | have a6 := oa2 ((in_c 1 rfl)) i105x2 | ((first | have a6 := in_u ((in_c 1 rfl)) | (have a6 := (in_c 1 rfl); unfold In at a6)); (first | have a7 := in_u i105x2 | (have a7 := i105x2; unfold In at a7)))); have a8 := t_add e104 i92 (in_c 1 rfl) rfl; (first | have a9 := in_u i92 | (have a9 := i92; unfold In at a9)); have oc := oc_44_60_2; (first | exact zt_s (by omega) (by omega) | omega))) (by (first | have a0 := oa5 i80a ro_2_0 i80 i105x2a i109 | ((first | have a0 := in_u i80a | (have a0 := i80a; unfold In at a0)); (first | have a1 := in_u ro_2_0 | (have a1 := ro_2_0; unfold In at a1)); (first | have a2 := in_u i80 | (have a2 := i80; unfold In at a2)); (first | have a3 := in_u i105x2a | (have a3 := i105x2a; unfold In at a3)); (first | have a4 := in_u i109 | (have a4 := i109; unfold In at a4)))); have a5 := t_add e109 i80 (in_c 1 rfl) rfl; (first | have a6 := oa2 ((in_c 1 rfl)) i105x2 | ((first | have a6 := in_u ((in_c 1 rfl)) | (have a6 := (in_c 1 rfl); unfold In at a6)); (first | have a7 := in_u i105x2 | (have a7 := i105x2; unfold In at a7)))); have a8 := t_add e104 i92 (in_c 1 rfl) rfl; (first | have a9 := in_u i92 | (have a9 := i92; unfold In at a9)); have oc := oc_44_60_2; omega) (by (first | have a0 := oa5 i80a ro_2_0 i80 i105x2a i109 | ((first | have a0 := in_u i80a | (have a0 := i80a; unfold In at a0)); (first | have a1 := in_u ro_2_0 | (have a1 := ro_2_0; unfold In at a1)); (first | have a2 := in_u i80 | (have a2 := i80; unfold In at a2)); (first | have a3 := in_u i105x2a | (have a3 := i105x2a; unfold In at a3)); (first | have a4 := in_u i109 | (have a4 := i109; unfold In at a4)))); have a5 := t_add e109 i80 (in_c 1 rfl) rfl; (first | have a6 := oa2 ((in_c 1 rfl)) i105x2 | ((first | have a6 := in_u ((in_c 1 rfl)) | (have a6 := (in_c 1 rfl); unfold In at a6)); (first | have a7 := in_u i105x2 | (have a7 := i105x2; unfold In at a7)))); have a8 := t_add e104 i92 (in_c 1 rfl) rfl; (first | have a9 := in_u i92 | (have a9 := i92; unfold In at a9)); have oc := oc_44_60_2; omega)))
          have n75e : (z109).toInt ≤ (s.2.2.1 2 1).toInt := by rw [← e_2_1]; (first | have a0 := oa5 i80a ro_2_0 i80 i105x2a i109 | ((first | have a0 := in_u i80a | (have a0 := i80a; unfold In at a0)); (first | have a1 := in_u ro_2_0 | (have a1 := ro_2_0; unfold In at a1)); (first | have a2 := in_u i80 | (have a2 := i80; unfold In at a2)); (first | have a3 := in_u i105x2a | (have a3 := i105x2a; unfold In at a3)); (first | have a4 := in_u i109 | (have a4 := i109; unfold In at a4)))); have a5 := t_add e109 i80 (in_c 1 rfl) rfl; (first | have a6 := oa2 ((in_c 1 rfl)) i105x2 | ((first | have a6 := in_u ((in_c 1 rfl)) | (have a6 := (in_c 1 rfl); unfold In at a6)); (first | have a7 := in_u i105x2 | (have a7 := i105x2; unfold In at a7)))); have a8 := t_add e104 i92 (in_c 1 rfl) rfl; (first | have a9 := in_u i92 | (have a9 := i92; unfold In at a9)); have oc := oc_44_60_2; omega
          exact gg_w (by first | exact Nat.le_add_right _ _ | exact gw2 | exact gw3 | exact gwe rfl | exact gwf rfl | exact gwg rfl | exact gwh rfl | omega) (gg_f (gf_cons rfl (gf_cons rfl (gf_cons rfl (gf_cons rfl gf_nil)))) (ih75 (sI s92 64 y75_3.toNatClampNeg z92) y75_2 z109 hI95 (fr_sI rfl (fr_tr rfl hFc75 hF92)) (in_w 0 32 i105x2a rfl) (in_w 0 32 i109 rfl) n75 n75a n75b n75c n75d n75e (m_up mm75 (t_add e109 i80 (in_c 1 rfl) rfl) (in_w 1 1 (in_c 1 rfl) rfl))))
  have ct33 : ∀ (k33 : Nat) (sc33 : GS) (w33_60_3 : Int32), Inv sc33 → Fr fm_44_60_2 s sc33 → (w33_60_3 = sc33.2.2.1 60 3) → (CQQ (gvC s) sc33) → (((sc33).2.2.1 2 4).toInt = ((sc33).2.2.1 2 0).toInt) → (M33 ((sc33).1 9) (s.2.2.1 2 1).toNatClampNeg (KZ ((sc33).2.2.1 60 1)) sc33) → 33 - (w33_60_3).toInt < (k33 : Int) → GG Z (d - 1) 44 post (gx xp) (29702 + k33 * 900) 33 (fun j => xlook j [(0, .ref (A 60)), (1, .ref (A 2))]) [] (WW Z A sc33 ++ ex) 0 0 := by
    intro k33
    induction k33 with
    | zero => intro sc33 w33_60_3 hIc33 hFc33 v33_60_3 g33_0 g33_1 g33_2 mm33; exfalso; (first | have a0 := oa3 ro_2_1 ro_2_0 ((inv_F hIc33 0 32 rfl v33_60_3)) | ((first | have a0 := in_u ro_2_1 | (have a0 := ro_2_1; unfold In at a0)); (first | have a1 := in_u ro_2_0 | (have a1 := ro_2_0; unfold In at a1)); (first | have a2 := in_u ((inv_F hIc33 0 32 rfl v33_60_3)) | (have a2 := (inv_F hIc33 0 32 rfl v33_60_3); unfold In at a2)))); have oc := oc_44_60_2; omega
    | succ k33 ih33 =>
      intro sc33 w33_60_3 hIc33 hFc33 v33_60_3 g33_0 g33_1 g33_2 mm33
      refine gg_w (M := 29702 + k33 * 900 + 900) gws ?_
      refine g_aload_n 34 (gd rfl) rfl rfl ?_
      refine g_getI 37 (gd rfl) rfl rfl rfl (fun z34 e34 => ?_)
      have q34 : w33_60_3 = z34 := (v33_60_3).trans e34.symm
      subst q34
      refine g_bipush 32 39 (gd rfl) rfl rfl ?_
      refine g_cmp_ge 42 71 (gd rfl) rfl rfl (fun c39 => ?_) (fun c39 => ?_)
      · skip
        have i39 := r_le2 32 32 c39 (in_c 32 rfl) (inv_F hIc33 0 32 rfl v33_60_3) rfl
        refine g_iconst 0 72 (gd rfl) rfl rfl ?_
        refine g_istore_n 73 (gd rfl) rfl (Nat.le_of_ble_eq_true rfl) ?_
        refine g_iconst 0 74 (gd rfl) rfl rfl ?_
        refine g_istore_n 75 (gd rfl) rfl (Nat.le_of_ble_eq_true rfl) ?_
        have n75 : ((Int32.ofInt 0)).toInt ≤ ((Int32.ofInt 0)).toInt := by exact Int.le_refl _
        have n75a : 0 ≤ ((Int32.ofInt 0)).toInt := by (first | have a0 := oa4 ro_2_1 ro_2_0 i39 ((in_c 0 rfl)) | ((first | have a0 := in_u ro_2_1 | (have a0 := ro_2_1; unfold In at a0)); (first | have a1 := in_u ro_2_0 | (have a1 := ro_2_0; unfold In at a1)); (first | have a2 := in_u i39 | (have a2 := i39; unfold In at a2)); (first | have a3 := in_u ((in_c 0 rfl)) | (have a3 := (in_c 0 rfl); unfold In at a3)))); have oc := oc_44_60_2; omega
        have n75b : CQQ (gvC s) sc33 := by exact g33_0
        have n75c : ((sc33).2.2.1 2 4).toInt = ((sc33).2.2.1 2 0).toInt := by exact g33_1
        have n75d : M75 ((sc33).1 9) (s.2.2.1 2 1).toNatClampNeg (KZ ((sc33).2.2.1 60 1)) sc33 ((Int32.ofInt 0)).toNatClampNeg ((Int32.ofInt 0)).toInt := by exfalso; have h9 := lim_32 g33_2.2.1 (kz_31 g33_0.2) (ful_g (fe_2 hIc33 hFc33 rfl rfl rfl g33_1 q_0).2.2 (show (s.2.2.1 2 1).toNatClampNeg ≤ 32 from (by show (s.2.2.1 2 1).toInt.toNat ≤ 32; rw [← e_2_1]; (first | have a0 := oa4 ro_2_1 ro_2_0 i39 ((in_c 0 rfl)) | ((first | have a0 := in_u ro_2_1 | (have a0 := ro_2_1; unfold In at a0)); (first | have a1 := in_u ro_2_0 | (have a1 := ro_2_0; unfold In at a1)); (first | have a2 := in_u i39 | (have a2 := i39; unfold In at a2)); (first | have a3 := in_u ((in_c 0 rfl)) | (have a3 := (in_c 0 rfl); unfold In at a3)))); have oc := oc_44_60_2; (first | exact zt_u (by omega) | omega)))); rw [← v33_60_3] at h9; (first | have a0 := oa4 ro_2_1 ro_2_0 i39 ((in_c 0 rfl)) | ((first | have a0 := in_u ro_2_1 | (have a0 := ro_2_1; unfold In at a0)); (first | have a1 := in_u ro_2_0 | (have a1 := ro_2_0; unfold In at a1)); (first | have a2 := in_u i39 | (have a2 := i39; unfold In at a2)); (first | have a3 := in_u ((in_c 0 rfl)) | (have a3 := (in_c 0 rfl); unfold In at a3)))); have oc := oc_44_60_2; omega
        have n75e : ((Int32.ofInt 0)).toInt ≤ (s.2.2.1 2 1).toInt := by rw [← e_2_1]; (first | have a0 := oa4 ro_2_1 ro_2_0 i39 ((in_c 0 rfl)) | ((first | have a0 := in_u ro_2_1 | (have a0 := ro_2_1; unfold In at a0)); (first | have a1 := in_u ro_2_0 | (have a1 := ro_2_0; unfold In at a1)); (first | have a2 := in_u i39 | (have a2 := i39; unfold In at a2)); (first | have a3 := in_u ((in_c 0 rfl)) | (have a3 := (in_c 0 rfl); unfold In at a3)))); have oc := oc_44_60_2; omega
        exact gg_w (by first | exact Nat.le_add_right _ _ | exact gw2 | exact gw3 | exact gwe rfl | exact gwf rfl | exact gwg rfl | exact gwh rfl | omega) (gg_f (gf_cons rfl (gf_cons rfl (gf_cons rfl (gf_cons rfl gf_nil)))) (ct75 33 sc33 (Int32.ofInt 0) (Int32.ofInt 0) hIc33 hFc33 (in_w 0 32 (in_c 0 rfl) rfl) (in_w 0 32 (in_c 0 rfl) rfl) n75 n75a n75b n75c n75d n75e (m_in 33 (in_w 0 32 (in_c 0 rfl) rfl) rfl)))
      · skip
        have i39 := r_lt1 0 31 c39 (inv_F hIc33 0 32 rfl v33_60_3) (in_c 32 rfl) rfl
        refine g_aload_n 43 (gd rfl) rfl rfl ?_
        refine g_aload_n 44 (gd rfl) rfl rfl ?_
        refine g_getA (q2 := 9) 47 (gd rfl) rfl rfl rfl rfl ?_
        refine g_aload_n 48 (gd rfl) rfl rfl ?_
        refine g_callv (X := _) (As := []) (r := [.ref (A 9), .ref (A 60)]) (b := A 2) (q := 2) 51 (gd rfl) rfl rfl rfl rfl rfl (ww_o rfl) (Nat.le_of_ble_eq_true rfl) (mc := 0) (ms := 0) (Nat.zero_le _) (Nat.zero_le _) (P := fun v u => _) ?_ (fun e u h => h) (fun v u h => h)
        intro po48 xx48 hp48 hx48
        refine g_enter2 (k := 102) (N := 300) (by first | exact dq1 hd rfl | exact dq0 hd rfl | exact dq2 hd rfl | exact dq3 hd rfl | omega) rfl (Nat.le_of_ble_eq_true rfl) ?_
        refine g_aload_n 1 (gd rfl) rfl rfl ?_
        refine g_getI 4 (gd rfl) rfl rfl rfl (fun z48x1 e48x1 => ?_)
        have q48x1 : u_2_1 = z48x1 := (fr_F e_2_1 hFc33 rfl).trans e48x1.symm
        subst q48x1
        refine g_bipush 32 6 (gd rfl) rfl rfl ?_
        refine g_cmp_lt 9 13 (gd rfl) rfl rfl (fun c48x6 => ?_) (fun c48x6 => ?_)
        · skip
          have i48x6 := r_lt1 0 31 c48x6 ro_2_1 (in_c 32 rfl) rfl
          refine g_iconst 1 14 (gd rfl) rfl rfl ?_
          refine g_aload_n 15 (gd rfl) rfl rfl ?_
          refine g_getI 18 (gd rfl) rfl rfl rfl (fun z48x15 e48x15 => ?_)
          have q48x15 : u_2_1 = z48x15 := (fr_F e_2_1 hFc33 rfl).trans e48x15.symm
          subst q48x15
          refine g_ishl 19 (gd rfl) rfl (fun z48x18 e48x18 => ?_)
          refine g_iconst 1 20 (gd rfl) rfl rfl ?_
          refine g_isub 21 (gd rfl) rfl (fun z48x20 e48x20 => ?_)
          refine g_ireturn (gd rfl) rfl rfl (hp48 _ _ ?_)
          show GG _ _ _ _ _ _ _ _ [.int z48x20, .ref (A 9), .ref (A 60)] _ _ _
          refine g_iconst 0 52 (gd rfl) rfl rfl ?_
          have p52 : FLX (sc33.1 9) sc33 z48x20 ((Int32.ofInt 0)).toInt := by exact m33_x g33_2 (syr_of (fe_2 hIc33 hFc33 rfl rfl rfl g33_1 q_0).2.2) rfl
          refine g_callv (X := _) (As := [.ref (A 9), .int z48x20, .int (Int32.ofInt 0)]) (r := []) (b := A 60) (q := 60) 55 (gd rfl) rfl rfl rfl rfl rfl (ww_o rfl) (Nat.le_of_ble_eq_true rfl) (Nat.zero_le _) (Nat.zero_le _) (f_46_60_9 (by first | exact dq1 hd rfl | exact dq0 hd rfl | exact dq2 hd rfl | exact dq3 hd rfl | omega) hIc33 (in_w 0 33 (in_c 0 rfl) rfl) p52) (fun e u h => h) (fun v u h => ?_)
          obtain ⟨s52, hI52, hF52, z52, rfl, rfl, i52, p52a, p52b⟩ := h
          show GG _ _ _ _ _ _ _ _ [.int z52] _ _ _
          refine g_if_ne 58 71 (gd rfl) rfl rfl (fun c55 => ?_) (fun c55 => ?_)
          · skip
            have i55 := z_ne 1 1 c55 i52 rfl
            refine g_iconst 0 72 (gd rfl) rfl rfl ?_
            refine g_istore_n 73 (gd rfl) rfl (Nat.le_of_ble_eq_true rfl) ?_
            refine g_iconst 0 74 (gd rfl) rfl rfl ?_
            refine g_istore_n 75 (gd rfl) rfl (Nat.le_of_ble_eq_true rfl) ?_
            have n75 : ((Int32.ofInt 0)).toInt ≤ ((Int32.ofInt 0)).toInt := by exact Int.le_refl _
            have n75a : 0 ≤ ((Int32.ofInt 0)).toInt := by (first | have a0 := oa4 i48x6 ro_2_0 i39 ((in_c 0 rfl)) | ((first | have a0 := in_u i48x6 | (have a0 := i48x6; unfold In at a0)); (first | have a1 := in_u ro_2_0 | (have a1 := ro_2_0; unfold In at a1)); (first | have a2 := in_u i39 | (have a2 := i39; unfold In at a2)); (first | have a3 := in_u ((in_c 0 rfl)) | (have a3 := (in_c 0 rfl); unfold In at a3)))); have oc := oc_44_60_2; omega
            have n75b : CQQ (gvC s) s52 := by exact (cqq_cg g33_0 (hF52.2.2.1 60 0 rfl) (hF52.2.2.1 60 1 rfl))
            have n75c : ((s52).2.2.1 2 4).toInt = ((s52).2.2.1 2 0).toInt := by rw [hF52.2.2.1 2 4 rfl, hF52.2.2.1 2 0 rfl]; exact g33_1
            have n75d : M75 ((s52).1 9) (s.2.2.1 2 1).toNatClampNeg (KZ ((s52).2.2.1 60 1)) s52 ((Int32.ofInt 0)).toNatClampNeg ((Int32.ofInt 0)).toInt := by rw [hF52.1 9 rfl, hF52.2.2.1 60 1 rfl]; exact (show M75 _ _ _ _ 0 _ from m75_0 g33_2 (fun u => Iff.trans (all_a e48x18 e48x20 i48x6 u) (show ((u : Int) < (u_2_1).toInt ↔ u < (s.2.2.1 2 1).toNatClampNeg) from (by show _ ↔ u < (s.2.2.1 2 1).toInt.toNat; rw [← e_2_1]; omega))) p52a p52b c55 (hF52.2.2.1 60 3 rfl))
            have n75e : ((Int32.ofInt 0)).toInt ≤ (s.2.2.1 2 1).toInt := by rw [← e_2_1]; (first | have a0 := oa4 i48x6 ro_2_0 i39 ((in_c 0 rfl)) | ((first | have a0 := in_u i48x6 | (have a0 := i48x6; unfold In at a0)); (first | have a1 := in_u ro_2_0 | (have a1 := ro_2_0; unfold In at a1)); (first | have a2 := in_u i39 | (have a2 := i39; unfold In at a2)); (first | have a3 := in_u ((in_c 0 rfl)) | (have a3 := (in_c 0 rfl); unfold In at a3)))); have oc := oc_44_60_2; omega
            exact gg_w (by first | exact Nat.le_add_right _ _ | exact gw2 | exact gw3 | exact gwe rfl | exact gwf rfl | exact gwg rfl | exact gwh rfl | omega) (gg_f (gf_cons rfl (gf_cons rfl (gf_cons rfl (gf_cons rfl gf_nil)))) (ct75 33 s52 (Int32.ofInt 0) (Int32.ofInt 0) hI52 (fr_tr rfl hFc33 hF52) (in_w 0 32 (in_c 0 rfl) rfl) (in_w 0 32 (in_c 0 rfl) rfl) n75 n75a n75b n75c n75d n75e (m_in 33 (in_w 0 32 (in_c 0 rfl) rfl) rfl)))
          · skip
            have i55 := z_eq 0 0 c55 i52 rfl
            refine g_aload_n 59 (gd rfl) rfl rfl ?_
            refine g_dup 60 (gd rfl) rfl rfl ?_
            refine g_getI 63 (gd rfl) rfl rfl rfl (fun z60 e60 => ?_)
            have q60 : w33_60_3 = z60 := (fr_F (v33_60_3) hF52 rfl).trans e60.symm
            subst q60
            refine g_iconst 1 64 (gd rfl) rfl rfl ?_
            refine g_iadd 65 (gd rfl) rfl (fun z64 e64 => ?_)
            have i64 := in_add 1 32 e64 i39 (in_c 1 rfl) rfl rfl
            refine g_putI 68 (gd rfl) rfl rfl rfl rfl ?_
            have hI65 := inv_sF (q := 60) (j := 3) hI52 rfl (in_w 0 32 i64 rfl)
            refine g_goto 33 (gd rfl) rfl ?_
            have v33 : z64 = (sF s52 60 3 z64).2.2.1 60 3 := sF_get
            have n33 : CQQ (gvC s) (sF s52 60 3 z64) := by exact cqq_cg (cqq_cg g33_0 (hF52.2.2.1 60 0 rfl) (hF52.2.2.1 60 1 rfl)) rfl rfl
            have n33a : (((sF s52 60 3 z64)).2.2.1 2 4).toInt = (((sF s52 60 3 z64)).2.2.1 2 0).toInt := by rw [(show (sF s52 60 3 z64).2.2.1 2 4 = sc33.2.2.1 2 4 from ((sF_ne rfl rfl).symm.trans (hF52.2.2.1 2 4 rfl))), (show (sF s52 60 3 z64).2.2.1 2 0 = sc33.2.2.1 2 0 from ((sF_ne rfl rfl).symm.trans (hF52.2.2.1 2 0 rfl)))]; exact g33_1
            have n33b : M33 (((sF s52 60 3 z64)).1 9) (s.2.2.1 2 1).toNatClampNeg (KZ (((sF s52 60 3 z64)).2.2.1 60 1)) (sF s52 60 3 z64) := by exact (show M33 (s52.1 9) (s.2.2.1 2 1).toNatClampNeg (KZ ((sF s52 60 3 z64).2.2.1 60 1)) (sF s52 60 3 z64) from (by rw [hF52.1 9 rfl, (show (sF s52 60 3 z64).2.2.1 60 1 = sc33.2.2.1 60 1 from ((sF_ne rfl rfl).symm.trans (hF52.2.2.1 60 1 rfl)))]; exact m33_s g33_2 (fun u => Iff.trans (all_a e48x18 e48x20 i48x6 u) (show ((u : Int) < (u_2_1).toInt ↔ u < (s.2.2.1 2 1).toNatClampNeg) from (by show _ ↔ u < (s.2.2.1 2 1).toInt.toNat; rw [← e_2_1]; omega))) p52a p52b c55 (by rw [← v33_60_3]; (first | have a0 := oa4 i48x6 ro_2_0 i39 i64 | ((first | have a0 := in_u i48x6 | (have a0 := i48x6; unfold In at a0)); (first | have a1 := in_u ro_2_0 | (have a1 := ro_2_0; unfold In at a1)); (first | have a2 := in_u i39 | (have a2 := i39; unfold In at a2)); (first | have a3 := in_u i64 | (have a3 := i64; unfold In at a3)))); have a4 := t_add e64 i39 (in_c 1 rfl) rfl; (first | have a5 := in_u ((in_c 1 rfl)) | (have a5 := (in_c 1 rfl); unfold In at a5)); have oc := oc_44_60_2; omega)))
            have m33 : 33 - (z64).toInt < ((k33 : Nat) : Int) := by (first | have a0 := oa4 i48x6 ro_2_0 i39 i64 | ((first | have a0 := in_u i48x6 | (have a0 := i48x6; unfold In at a0)); (first | have a1 := in_u ro_2_0 | (have a1 := ro_2_0; unfold In at a1)); (first | have a2 := in_u i39 | (have a2 := i39; unfold In at a2)); (first | have a3 := in_u i64 | (have a3 := i64; unfold In at a3)))); have a4 := t_add e64 i39 (in_c 1 rfl) rfl; (first | have a5 := in_u ((in_c 1 rfl)) | (have a5 := (in_c 1 rfl); unfold In at a5)); have oc := oc_44_60_2; omega
            exact gg_w (by first | exact Nat.le_add_right _ _ | exact gw2 | exact gw3 | exact gwe rfl | exact gwf rfl | exact gwg rfl | exact gwh rfl | omega) (gg_f (gf_cons rfl (gf_cons rfl gf_nil)) (ih33  (sF s52 60 3 z64) z64 hI65 (fr_sF rfl (fr_tr rfl hFc33 hF52)) v33 n33 n33a n33b m33))
        · skip
          have i48x6 := r_le2 32 32 c48x6 (in_c 32 rfl) ro_2_1 rfl
          refine g_iconst (-1) 10 (gd rfl) rfl rfl ?_
          refine g_goto 21 (gd rfl) rfl ?_
          refine g_ireturn (gd rfl) rfl rfl (hp48 _ _ ?_)
          show GG _ _ _ _ _ _ _ _ [.int (Int32.ofInt (-1)), .ref (A 9), .ref (A 60)] _ _ _
          refine g_iconst 0 52 (gd rfl) rfl rfl ?_
          have p52 : FLX (sc33.1 9) sc33 (Int32.ofInt (-1)) ((Int32.ofInt 0)).toInt := by exact m33_x g33_2 (syr_of (fe_2 hIc33 hFc33 rfl rfl rfl g33_1 q_0).2.2) rfl
          refine g_callv (X := _) (As := [.ref (A 9), .int (Int32.ofInt (-1)), .int (Int32.ofInt 0)]) (r := []) (b := A 60) (q := 60) 55 (gd rfl) rfl rfl rfl rfl rfl (ww_o rfl) (Nat.le_of_ble_eq_true rfl) (Nat.zero_le _) (Nat.zero_le _) (f_46_60_9 (by first | exact dq1 hd rfl | exact dq0 hd rfl | exact dq2 hd rfl | exact dq3 hd rfl | omega) hIc33 (in_w 0 33 (in_c 0 rfl) rfl) p52) (fun e u h => h) (fun v u h => ?_)
          obtain ⟨s52, hI52, hF52, z52, rfl, rfl, i52, p52a, p52b⟩ := h
          show GG _ _ _ _ _ _ _ _ [.int z52] _ _ _
          refine g_if_ne 58 71 (gd rfl) rfl rfl (fun c55 => ?_) (fun c55 => ?_)
          · skip
            have i55 := z_ne 1 1 c55 i52 rfl
            refine g_iconst 0 72 (gd rfl) rfl rfl ?_
            refine g_istore_n 73 (gd rfl) rfl (Nat.le_of_ble_eq_true rfl) ?_
            refine g_iconst 0 74 (gd rfl) rfl rfl ?_
            refine g_istore_n 75 (gd rfl) rfl (Nat.le_of_ble_eq_true rfl) ?_
            have n75 : ((Int32.ofInt 0)).toInt ≤ ((Int32.ofInt 0)).toInt := by exact Int.le_refl _
            have n75a : 0 ≤ ((Int32.ofInt 0)).toInt := by (first | have a0 := oa4 i48x6 ro_2_0 i39 ((in_c 0 rfl)) | ((first | have a0 := in_u i48x6 | (have a0 := i48x6; unfold In at a0)); (first | have a1 := in_u ro_2_0 | (have a1 := ro_2_0; unfold In at a1)); (first | have a2 := in_u i39 | (have a2 := i39; unfold In at a2)); (first | have a3 := in_u ((in_c 0 rfl)) | (have a3 := (in_c 0 rfl); unfold In at a3)))); have oc := oc_44_60_2; omega
            have n75b : CQQ (gvC s) s52 := by exact (cqq_cg g33_0 (hF52.2.2.1 60 0 rfl) (hF52.2.2.1 60 1 rfl))
            have n75c : ((s52).2.2.1 2 4).toInt = ((s52).2.2.1 2 0).toInt := by rw [hF52.2.2.1 2 4 rfl, hF52.2.2.1 2 0 rfl]; exact g33_1
            have n75d : M75 ((s52).1 9) (s.2.2.1 2 1).toNatClampNeg (KZ ((s52).2.2.1 60 1)) s52 ((Int32.ofInt 0)).toNatClampNeg ((Int32.ofInt 0)).toInt := by rw [hF52.1 9 rfl, hF52.2.2.1 60 1 rfl]; exact (show M75 _ _ _ _ 0 _ from m75_0 g33_2 (fun u => Iff.trans (all_b (show (u_2_1).toInt = 32 from (by (first | have a0 := oa4 i48x6 ro_2_0 i39 ((in_c 0 rfl)) | ((first | have a0 := in_u i48x6 | (have a0 := i48x6; unfold In at a0)); (first | have a1 := in_u ro_2_0 | (have a1 := ro_2_0; unfold In at a1)); (first | have a2 := in_u i39 | (have a2 := i39; unfold In at a2)); (first | have a3 := in_u ((in_c 0 rfl)) | (have a3 := (in_c 0 rfl); unfold In at a3)))); have oc := oc_44_60_2; omega)) u) (show ((u : Int) < (u_2_1).toInt ↔ u < (s.2.2.1 2 1).toNatClampNeg) from (by show _ ↔ u < (s.2.2.1 2 1).toInt.toNat; rw [← e_2_1]; omega))) p52a p52b c55 (hF52.2.2.1 60 3 rfl))
            have n75e : ((Int32.ofInt 0)).toInt ≤ (s.2.2.1 2 1).toInt := by rw [← e_2_1]; (first | have a0 := oa4 i48x6 ro_2_0 i39 ((in_c 0 rfl)) | ((first | have a0 := in_u i48x6 | (have a0 := i48x6; unfold In at a0)); (first | have a1 := in_u ro_2_0 | (have a1 := ro_2_0; unfold In at a1)); (first | have a2 := in_u i39 | (have a2 := i39; unfold In at a2)); (first | have a3 := in_u ((in_c 0 rfl)) | (have a3 := (in_c 0 rfl); unfold In at a3)))); have oc := oc_44_60_2; omega
            exact gg_w (by first | exact Nat.le_add_right _ _ | exact gw2 | exact gw3 | exact gwe rfl | exact gwf rfl | exact gwg rfl | exact gwh rfl | omega) (gg_f (gf_cons rfl (gf_cons rfl (gf_cons rfl (gf_cons rfl gf_nil)))) (ct75 33 s52 (Int32.ofInt 0) (Int32.ofInt 0) hI52 (fr_tr rfl hFc33 hF52) (in_w 0 32 (in_c 0 rfl) rfl) (in_w 0 32 (in_c 0 rfl) rfl) n75 n75a n75b n75c n75d n75e (m_in 33 (in_w 0 32 (in_c 0 rfl) rfl) rfl)))
          · skip
            have i55 := z_eq 0 0 c55 i52 rfl
            refine g_aload_n 59 (gd rfl) rfl rfl ?_
            refine g_dup 60 (gd rfl) rfl rfl ?_
            refine g_getI 63 (gd rfl) rfl rfl rfl (fun z60 e60 => ?_)
            have q60 : w33_60_3 = z60 := (fr_F (v33_60_3) hF52 rfl).trans e60.symm
            subst q60
            refine g_iconst 1 64 (gd rfl) rfl rfl ?_
            refine g_iadd 65 (gd rfl) rfl (fun z64 e64 => ?_)
            have i64 := in_add 1 32 e64 i39 (in_c 1 rfl) rfl rfl
            refine g_putI 68 (gd rfl) rfl rfl rfl rfl ?_
            have hI65 := inv_sF (q := 60) (j := 3) hI52 rfl (in_w 0 32 i64 rfl)
            refine g_goto 33 (gd rfl) rfl ?_
            have v33 : z64 = (sF s52 60 3 z64).2.2.1 60 3 := sF_get
            have n33 : CQQ (gvC s) (sF s52 60 3 z64) := by exact cqq_cg (cqq_cg g33_0 (hF52.2.2.1 60 0 rfl) (hF52.2.2.1 60 1 rfl)) rfl rfl
            have n33a : (((sF s52 60 3 z64)).2.2.1 2 4).toInt = (((sF s52 60 3 z64)).2.2.1 2 0).toInt := by rw [(show (sF s52 60 3 z64).2.2.1 2 4 = sc33.2.2.1 2 4 from ((sF_ne rfl rfl).symm.trans (hF52.2.2.1 2 4 rfl))), (show (sF s52 60 3 z64).2.2.1 2 0 = sc33.2.2.1 2 0 from ((sF_ne rfl rfl).symm.trans (hF52.2.2.1 2 0 rfl)))]; exact g33_1
            have n33b : M33 (((sF s52 60 3 z64)).1 9) (s.2.2.1 2 1).toNatClampNeg (KZ (((sF s52 60 3 z64)).2.2.1 60 1)) (sF s52 60 3 z64) := by exact (show M33 (s52.1 9) (s.2.2.1 2 1).toNatClampNeg (KZ ((sF s52 60 3 z64).2.2.1 60 1)) (sF s52 60 3 z64) from (by rw [hF52.1 9 rfl, (show (sF s52 60 3 z64).2.2.1 60 1 = sc33.2.2.1 60 1 from ((sF_ne rfl rfl).symm.trans (hF52.2.2.1 60 1 rfl)))]; exact m33_s g33_2 (fun u => Iff.trans (all_b (show (u_2_1).toInt = 32 from (by (first | have a0 := oa4 i48x6 ro_2_0 i39 i64 | ((first | have a0 := in_u i48x6 | (have a0 := i48x6; unfold In at a0)); (first | have a1 := in_u ro_2_0 | (have a1 := ro_2_0; unfold In at a1)); (first | have a2 := in_u i39 | (have a2 := i39; unfold In at a2)); (first | have a3 := in_u i64 | (have a3 := i64; unfold In at a3)))); have a4 := t_add e64 i39 (in_c 1 rfl) rfl; (first | have a5 := in_u ((in_c 1 rfl)) | (have a5 := (in_c 1 rfl); unfold In at a5)); have oc := oc_44_60_2; omega)) u) (show ((u : Int) < (u_2_1).toInt ↔ u < (s.2.2.1 2 1).toNatClampNeg) from (by show _ ↔ u < (s.2.2.1 2 1).toInt.toNat; rw [← e_2_1]; omega))) p52a p52b c55 (by rw [← v33_60_3]; (first | have a0 := oa4 i48x6 ro_2_0 i39 i64 | ((first | have a0 := in_u i48x6 | (have a0 := i48x6; unfold In at a0)); (first | have a1 := in_u ro_2_0 | (have a1 := ro_2_0; unfold In at a1)); (first | have a2 := in_u i39 | (have a2 := i39; unfold In at a2)); (first | have a3 := in_u i64 | (have a3 := i64; unfold In at a3)))); have a4 := t_add e64 i39 (in_c 1 rfl) rfl; (first | have a5 := in_u ((in_c 1 rfl)) | (have a5 := (in_c 1 rfl); unfold In at a5)); have oc := oc_44_60_2; omega)))
            have m33 : 33 - (z64).toInt < ((k33 : Nat) : Int) := by (first | have a0 := oa4 i48x6 ro_2_0 i39 i64 | ((first | have a0 := in_u i48x6 | (have a0 := i48x6; unfold In at a0)); (first | have a1 := in_u ro_2_0 | (have a1 := ro_2_0; unfold In at a1)); (first | have a2 := in_u i39 | (have a2 := i39; unfold In at a2)); (first | have a3 := in_u i64 | (have a3 := i64; unfold In at a3)))); have a4 := t_add e64 i39 (in_c 1 rfl) rfl; (first | have a5 := in_u ((in_c 1 rfl)) | (have a5 := (in_c 1 rfl); unfold In at a5)); have oc := oc_44_60_2; omega
            exact gg_w (by first | exact Nat.le_add_right _ _ | exact gw2 | exact gw3 | exact gwe rfl | exact gwf rfl | exact gwg rfl | exact gwh rfl | omega) (gg_f (gf_cons rfl (gf_cons rfl gf_nil)) (ih33  (sF s52 60 3 z64) z64 hI65 (fr_sF rfl (fr_tr rfl hFc33 hF52)) v33 n33 n33a n33b m33))
  refine g_enter2 (k := 44) (N := 66602) (by first | exact dq1 hd rfl | exact dq0 hd rfl | exact dq2 hd rfl | exact dq3 hd rfl | omega) rfl (Nat.le_of_ble_eq_true rfl) ?_
  refine g_aload_n 1 (gd rfl) rfl rfl ?_
  refine g_callv (X := _) (As := []) (r := []) (b := A 2) (q := 2) 4 (gd rfl) rfl rfl rfl rfl rfl (ww_o rfl) (Nat.le_of_ble_eq_true rfl) (Nat.zero_le _) (Nat.zero_le _) (k_106_2 (by first | exact dq1 hd rfl | exact dq0 hd rfl | exact dq2 hd rfl | exact dq3 hd rfl | omega) hI ) (fun e u h => h) (fun v u h => ?_)
  obtain ⟨s1, hI1, hF1, n1, rfl, rfl⟩ := h
  obtain ⟨z1a, e1⟩ : ∃ w, w = s1.2.2.1 2 4 := ⟨_, rfl⟩
  have i1a := inv_F hI1 (-1) 4000 rfl e1
  rw [← (show z1a = s1.2.2.1 2 4 from e1)] at n1
  rw [← (show u_2_0 = s1.2.2.1 2 0 from fr_F (e_2_0) hF1 rfl)] at n1
  show GG _ _ _ _ _ _ _ _ [] _ _ _
  refine g_aload_n 5 (gd rfl) rfl rfl ?_
  refine g_iconst 1 6 (gd rfl) rfl rfl ?_
  refine g_aload_n 7 (gd rfl) rfl rfl ?_
  refine g_aload_n 8 (gd rfl) rfl rfl ?_
  have p8 : TQ s1 := by exact tq_fr q_0 hF1 rfl
  have p8a : CQB (gvC s1) s1 := by rw [gvC_cg hF1 rfl]; exact cqb_cg q_1 (hF1.2.2.1 60 0 rfl) (hF1.2.2.1 60 1 rfl)
  refine g_callv (X := _) (As := [.ref (A 2)]) (r := [.int (Int32.ofInt 1), .ref (A 60)]) (b := A 60) (q := 60) 11 (gd rfl) rfl rfl rfl rfl rfl (ww_o rfl) (Nat.le_of_ble_eq_true rfl) (Nat.zero_le _) (Nat.zero_le _) (f_41_60_2 (by first | exact dq1 hd rfl | exact dq0 hd rfl | exact dq2 hd rfl | exact dq3 hd rfl | omega) hI1 p8 p8a) (fun e u h => h) (fun v u h => ?_)
  obtain ⟨s8, hI8, hF8, z8, rfl, rfl, i8, p8b, p8c, p8d⟩ := h
  show GG _ _ _ _ _ _ _ _ [.int z8, .int (Int32.ofInt 1), .ref (A 60)] _ _ _
  refine g_calls (As := [.int z8]) (r := [.int (Int32.ofInt 1), .ref (A 60)]) 14 (gd rfl) rfl rfl rfl rfl rfl (Nat.le_of_ble_eq_true rfl) (Nat.zero_le _) (Nat.zero_le _) (f_414 (by first | exact dq1 hd rfl | exact dq0 hd rfl | exact dq2 hd rfl | exact dq3 hd rfl | omega) hI8 ) (fun v u h => ?_)
  obtain ⟨z11, rfl, rfl, i11, p11⟩ := h
  show GG _ _ _ _ _ _ _ _ [.int z11, .int (Int32.ofInt 1), .ref (A 60)] _ _ _
  refine g_calls (As := [.int (Int32.ofInt 1), .int z11]) (r := [.ref (A 60)]) 17 (gd rfl) rfl rfl rfl rfl rfl (Nat.le_of_ble_eq_true rfl) (mc := 0) (ms := 0) (Nat.zero_le _) (Nat.zero_le _) (P := fun v u => _) ?_ (fun v u h => h)
  intro po14 xx14 hp14 hx14
  refine g_enter2 (k := 422) (N := 300) (by first | exact dq1 hd rfl | exact dq0 hd rfl | exact dq2 hd rfl | exact dq3 hd rfl | omega) rfl (Nat.le_of_ble_eq_true rfl) ?_
  refine g_iload_n 1 (gd rfl) rfl rfl ?_
  refine g_iload_n 2 (gd rfl) rfl rfl ?_
  refine g_cmp_lt 5 9 (gd rfl) rfl rfl (fun c14x2 => ?_) (fun c14x2 => ?_)
  · skip
    have i14x2 := r_lt2 2 32 c14x2 (in_c 1 rfl) i11 rfl
    refine g_iload_n 10 (gd rfl) rfl rfl ?_
    refine g_ireturn (gd rfl) rfl rfl (hp14 _ _ ?_)
    show GG _ _ _ _ _ _ _ _ [.int z11, .ref (A 60)] _ _ _
    refine g_putI 20 (gd rfl) rfl rfl rfl rfl ?_
    have hI17 := inv_sF (q := 60) (j := 3) hI8 rfl (in_w 0 32 i14x2 rfl)
    refine g_aload_n 21 (gd rfl) rfl rfl ?_
    refine g_iconst 0 22 (gd rfl) rfl rfl ?_
    refine g_putI 25 (gd rfl) rfl rfl rfl rfl ?_
    have hI22 := inv_sF (q := 60) (j := 7) hI17 rfl (in_w 0 32 (in_c 0 rfl) rfl)
    refine g_aload_n 26 (gd rfl) rfl rfl ?_
    refine g_getA (q2 := 61) 29 (gd rfl) rfl rfl rfl rfl ?_
    refine g_iconst 0 30 (gd rfl) rfl rfl ?_
    refine g_calls (As := [.ref (A 61), .int (Int32.ofInt 0)]) (r := []) 33 (gd rfl) rfl rfl rfl rfl rfl (Nat.le_of_ble_eq_true rfl) (Nat.zero_le _) (Nat.zero_le _) (k_fillI 61 (by first | exact dq1 hd rfl | exact dq0 hd rfl | exact dq2 hd rfl | exact dq3 hd rfl | omega) hI22 (in_c 0 rfl) (n := 32) rfl rfl rfl rfl) (fun v u h => ?_)
    obtain ⟨s30, hI30, hF30, rfl, rfl, fl30⟩ := h
    show GG _ _ _ _ _ _ _ _ [] _ _ _
    have v33 : z11 = s30.2.2.1 60 3 := fr_F (s := (sF (sF s8 60 3 z11) 60 7 (Int32.ofInt 0))) (sF_ne rfl (sF_get)) hF30 rfl
    have n33 : CQQ (gvC s) s30 := by exact (cqq_cg (show CQQ (gvC s) s8 from (by have h9 := p8b; rw [gvC_cg hF1 rfl] at h9; exact h9)) (hF30.2.2.1 60 0 rfl) (hF30.2.2.1 60 1 rfl))
    have n33a : ((s30).2.2.1 2 4).toInt = ((s30).2.2.1 2 0).toInt := by rw [(show s30.2.2.1 2 4 = s8.2.2.1 2 4 from (hF30.2.2.1 2 4 rfl).trans ((sF_ne rfl (sF_ne rfl rfl)).symm)), (show s30.2.2.1 2 0 = s8.2.2.1 2 0 from (hF30.2.2.1 2 0 rfl).trans ((sF_ne rfl (sF_ne rfl rfl)).symm))]; exact p8d (show (s1.2.2.1 2 4).toInt = (s1.2.2.1 2 0).toInt from (by rw [← (show z1a = s1.2.2.1 2 4 from e1), ← (show u_2_0 = s1.2.2.1 2 0 from fr_F (e_2_0) hF1 rfl)]; exact n1))
    have n33b : M33 ((s30).1 9) (s.2.2.1 2 1).toNatClampNeg (KZ ((s30).2.2.1 60 1)) s30 := by first | (exact m33_0 fl30 (by rw [(show s30.2.2.1 60 1 = s8.2.2.1 60 1 from (hF30.2.2.1 60 1 rfl).trans ((sF_ne rfl (sF_ne rfl rfl)).symm)), ← p8c, show s30.2.2.1 60 3 = z11 from (hF30.2.2.1 60 3 rfl).trans ((sF_ne rfl (sF_get)).symm)]; exact (kz_m p11).1 (by (first | have a0 := oa4 ro_2_1 ro_2_0 ((in_c 0 rfl)) i14x2 | ((first | have a0 := in_u ro_2_1 | (have a0 := ro_2_1; unfold In at a0)); (first | have a1 := in_u ro_2_0 | (have a1 := ro_2_0; unfold In at a1)); (first | have a2 := in_u ((in_c 0 rfl)) | (have a2 := (in_c 0 rfl); unfold In at a2)); (first | have a3 := in_u i14x2 | (have a3 := i14x2; unfold In at a3)))); have oc := oc_44_60_2; omega)) (by rw [show s30.2.2.1 60 7 = Int32.ofInt 0 from (hF30.2.2.1 60 7 rfl).trans (sF_get).symm]; rfl)) | (exact m33_0 fl30 (by rw [(show s30.2.2.1 60 1 = s8.2.2.1 60 1 from (hF30.2.2.1 60 1 rfl).trans ((sF_ne rfl (sF_ne rfl rfl)).symm)), ← p8c, show s30.2.2.1 60 3 = (Int32.ofInt 1) from (hF30.2.2.1 60 3 rfl).trans ((sF_ne rfl (sF_get)).symm)]; exact (kz_m p11).2 (by (first | have a0 := oa4 ro_2_1 ro_2_0 ((in_c 0 rfl)) i14x2 | ((first | have a0 := in_u ro_2_1 | (have a0 := ro_2_1; unfold In at a0)); (first | have a1 := in_u ro_2_0 | (have a1 := ro_2_0; unfold In at a1)); (first | have a2 := in_u ((in_c 0 rfl)) | (have a2 := (in_c 0 rfl); unfold In at a2)); (first | have a3 := in_u i14x2 | (have a3 := i14x2; unfold In at a3)))); have oc := oc_44_60_2; omega)) (by rw [show s30.2.2.1 60 7 = Int32.ofInt 0 from (hF30.2.2.1 60 7 rfl).trans (sF_get).symm]; rfl))
    have m33 : 33 - (z11).toInt < ((40 : Nat) : Int) := by (first | have a0 := oa4 ro_2_1 ro_2_0 ((in_c 0 rfl)) i14x2 | ((first | have a0 := in_u ro_2_1 | (have a0 := ro_2_1; unfold In at a0)); (first | have a1 := in_u ro_2_0 | (have a1 := ro_2_0; unfold In at a1)); (first | have a2 := in_u ((in_c 0 rfl)) | (have a2 := (in_c 0 rfl); unfold In at a2)); (first | have a3 := in_u i14x2 | (have a3 := i14x2; unfold In at a3)))); have oc := oc_44_60_2; omega
    exact gg_w (by first | exact Nat.le_of_ble_eq_true rfl | omega) (gg_f (gf_cons rfl (gf_cons rfl gf_nil)) (ct33 40 s30 z11 hI30 (fr_tr rfl (fr_sF rfl (fr_sF rfl (fr_tr rfl (fr_tr rfl fr_rf hF1) hF8))) hF30) v33 n33 n33a n33b m33))
  · skip
    have i14x2 := r_le1 0 1 c14x2 i11 (in_c 1 rfl) rfl
    refine g_iload_n 6 (gd rfl) rfl rfl ?_
    refine g_goto 10 (gd rfl) rfl ?_
    refine g_ireturn (gd rfl) rfl rfl (hp14 _ _ ?_)
    show GG _ _ _ _ _ _ _ _ [.int (Int32.ofInt 1), .ref (A 60)] _ _ _
    refine g_putI 20 (gd rfl) rfl rfl rfl rfl ?_
    have hI17 := inv_sF (q := 60) (j := 3) hI8 rfl (in_w 0 32 (in_c 1 rfl) rfl)
    refine g_aload_n 21 (gd rfl) rfl rfl ?_
    refine g_iconst 0 22 (gd rfl) rfl rfl ?_
    refine g_putI 25 (gd rfl) rfl rfl rfl rfl ?_
    have hI22 := inv_sF (q := 60) (j := 7) hI17 rfl (in_w 0 32 (in_c 0 rfl) rfl)
    refine g_aload_n 26 (gd rfl) rfl rfl ?_
    refine g_getA (q2 := 61) 29 (gd rfl) rfl rfl rfl rfl ?_
    refine g_iconst 0 30 (gd rfl) rfl rfl ?_
    refine g_calls (As := [.ref (A 61), .int (Int32.ofInt 0)]) (r := []) 33 (gd rfl) rfl rfl rfl rfl rfl (Nat.le_of_ble_eq_true rfl) (Nat.zero_le _) (Nat.zero_le _) (k_fillI 61 (by first | exact dq1 hd rfl | exact dq0 hd rfl | exact dq2 hd rfl | exact dq3 hd rfl | omega) hI22 (in_c 0 rfl) (n := 32) rfl rfl rfl rfl) (fun v u h => ?_)
    obtain ⟨s30, hI30, hF30, rfl, rfl, fl30⟩ := h
    show GG _ _ _ _ _ _ _ _ [] _ _ _
    have v33 : (Int32.ofInt 1) = s30.2.2.1 60 3 := fr_F (s := (sF (sF s8 60 3 (Int32.ofInt 1)) 60 7 (Int32.ofInt 0))) (sF_ne rfl (sF_get)) hF30 rfl
    have n33 : CQQ (gvC s) s30 := by exact (cqq_cg (show CQQ (gvC s) s8 from (by have h9 := p8b; rw [gvC_cg hF1 rfl] at h9; exact h9)) (hF30.2.2.1 60 0 rfl) (hF30.2.2.1 60 1 rfl))
    have n33a : ((s30).2.2.1 2 4).toInt = ((s30).2.2.1 2 0).toInt := by rw [(show s30.2.2.1 2 4 = s8.2.2.1 2 4 from (hF30.2.2.1 2 4 rfl).trans ((sF_ne rfl (sF_ne rfl rfl)).symm)), (show s30.2.2.1 2 0 = s8.2.2.1 2 0 from (hF30.2.2.1 2 0 rfl).trans ((sF_ne rfl (sF_ne rfl rfl)).symm))]; exact p8d (show (s1.2.2.1 2 4).toInt = (s1.2.2.1 2 0).toInt from (by rw [← (show z1a = s1.2.2.1 2 4 from e1), ← (show u_2_0 = s1.2.2.1 2 0 from fr_F (e_2_0) hF1 rfl)]; exact n1))
    have n33b : M33 ((s30).1 9) (s.2.2.1 2 1).toNatClampNeg (KZ ((s30).2.2.1 60 1)) s30 := by first | (exact m33_0 fl30 (by rw [(show s30.2.2.1 60 1 = s8.2.2.1 60 1 from (hF30.2.2.1 60 1 rfl).trans ((sF_ne rfl (sF_ne rfl rfl)).symm)), ← p8c, show s30.2.2.1 60 3 = z11 from (hF30.2.2.1 60 3 rfl).trans ((sF_ne rfl (sF_get)).symm)]; exact (kz_m p11).1 (by (first | have a0 := oa4 ro_2_1 ro_2_0 ((in_c 0 rfl)) ((in_c 1 rfl)) | ((first | have a0 := in_u ro_2_1 | (have a0 := ro_2_1; unfold In at a0)); (first | have a1 := in_u ro_2_0 | (have a1 := ro_2_0; unfold In at a1)); (first | have a2 := in_u ((in_c 0 rfl)) | (have a2 := (in_c 0 rfl); unfold In at a2)); (first | have a3 := in_u ((in_c 1 rfl)) | (have a3 := (in_c 1 rfl); unfold In at a3)))); have oc := oc_44_60_2; omega)) (by rw [show s30.2.2.1 60 7 = Int32.ofInt 0 from (hF30.2.2.1 60 7 rfl).trans (sF_get).symm]; rfl)) | (exact m33_0 fl30 (by rw [(show s30.2.2.1 60 1 = s8.2.2.1 60 1 from (hF30.2.2.1 60 1 rfl).trans ((sF_ne rfl (sF_ne rfl rfl)).symm)), ← p8c, show s30.2.2.1 60 3 = (Int32.ofInt 1) from (hF30.2.2.1 60 3 rfl).trans ((sF_ne rfl (sF_get)).symm)]; exact (kz_m p11).2 (by (first | have a0 := oa4 ro_2_1 ro_2_0 ((in_c 0 rfl)) ((in_c 1 rfl)) | ((first | have a0 := in_u ro_2_1 | (have a0 := ro_2_1; unfold In at a0)); (first | have a1 := in_u ro_2_0 | (have a1 := ro_2_0; unfold In at a1)); (first | have a2 := in_u ((in_c 0 rfl)) | (have a2 := (in_c 0 rfl); unfold In at a2)); (first | have a3 := in_u ((in_c 1 rfl)) | (have a3 := (in_c 1 rfl); unfold In at a3)))); have oc := oc_44_60_2; omega)) (by rw [show s30.2.2.1 60 7 = Int32.ofInt 0 from (hF30.2.2.1 60 7 rfl).trans (sF_get).symm]; rfl))
    have m33 : 33 - ((Int32.ofInt 1)).toInt < ((40 : Nat) : Int) := by (first | have a0 := oa4 ro_2_1 ro_2_0 ((in_c 0 rfl)) ((in_c 1 rfl)) | ((first | have a0 := in_u ro_2_1 | (have a0 := ro_2_1; unfold In at a0)); (first | have a1 := in_u ro_2_0 | (have a1 := ro_2_0; unfold In at a1)); (first | have a2 := in_u ((in_c 0 rfl)) | (have a2 := (in_c 0 rfl); unfold In at a2)); (first | have a3 := in_u ((in_c 1 rfl)) | (have a3 := (in_c 1 rfl); unfold In at a3)))); have oc := oc_44_60_2; omega
    exact gg_w (by first | exact Nat.le_of_ble_eq_true rfl | omega) (gg_f (gf_cons rfl (gf_cons rfl gf_nil)) (ct33 40 s30 (Int32.ofInt 1) hI30 (fr_tr rfl (fr_sF rfl (fr_sF rfl (fr_tr rfl (fr_tr rfl fr_rf hF1) hF8))) hF30) v33 n33 n33a n33b m33))

theorem oc_44_60_32 : (Int32.ofInt (-1)).toInt = (-1) ∧ (Int32.ofInt 0).toInt = 0 ∧ (Int32.ofInt 1).toInt = 1 ∧ (Int32.ofInt 32).toInt = 32 := ⟨rfl, rfl, rfl, rfl⟩
set_option maxHeartbeats 4000000 in
/-- GraphHouse$Colours.makeColours -/
theorem f_44_60_32 {Z : AmZ} {A : Nat → Nat} {s : GS} {ex : va_W} {d : Nat} {X : AmX}  (hd : 383 ≤ d) (hI : Inv s) (q_0 : TQD s) (q_1 : CQB (gvD s) s) : GC Z d 44 [.ref (A 60), .ref (A 32)] (WW Z A s ++ ex) 0 0 (fun v u => ∃ t : GS, Inv t ∧ Fr fm_44_60_32 s t ∧ v = none ∧ u = WW Z A t ++ ex ∧ (CQQ (gvD s) t) ∧ (COA (gvD s) t)) X := by
  intro post xp hP hX
  obtain ⟨u_32_0, e_32_0⟩ : ∃ w, w = s.2.2.1 32 0 := ⟨_, rfl⟩
  have ro_32_0 := inv_F hI 0 4000 rfl e_32_0
  obtain ⟨u_32_1, e_32_1⟩ : ∃ w, w = s.2.2.1 32 1 := ⟨_, rfl⟩
  have ro_32_1 := inv_F hI 0 32 rfl e_32_1
  have ct75 : ∀ (k75 : Nat) (sc75 : GS) (y75_2 : Int32) (y75_3 : Int32), Inv sc75 → Fr fm_44_60_32 s sc75 → (In y75_2 0 32) → (In y75_3 0 32) → ((y75_2).toInt ≤ (y75_3).toInt) → (0 ≤ (y75_2).toInt) → (CQQ (gvD s) sc75) → (((sc75).2.2.1 32 4).toInt = ((sc75).2.2.1 32 0).toInt) → (M75 ((sc75).1 39) (s.2.2.1 32 1).toNatClampNeg (KZ ((sc75).2.2.1 60 1)) sc75 (y75_3).toNatClampNeg (y75_2).toInt) → ((y75_3).toInt ≤ (s.2.2.1 32 1).toInt) → 32 - (y75_3).toInt < (k75 : Int) → GG Z (d - 1) 44 post (gx xp) (1 + k75 * 900) 75 (fun j => xlook j [(0, .ref (A 60)), (1, .ref (A 32)), (2, .int y75_2), (3, .int y75_3)]) [] (WW Z A sc75 ++ ex) 0 0 := by
    intro k75
    induction k75 with
    | zero => intro sc75 y75_2 y75_3 hIc75 hFc75 j75_2 j75_3 n75_0 n75_1 g75_0 g75_1 g75_2 g75_3 mm75; exact m_no mm75 j75_3 rfl
    | succ k75 ih75 =>
      intro sc75 y75_2 y75_3 hIc75 hFc75 j75_2 j75_3 n75_0 n75_1 g75_0 g75_1 g75_2 g75_3 mm75
      refine gg_w (M := 1 + k75 * 900 + 900) gws ?_
      refine g_iload_n 76 (gd rfl) rfl rfl ?_
      refine g_aload_n 77 (gd rfl) rfl rfl ?_
      refine g_getI 80 (gd rfl) rfl rfl rfl (fun z77 e77 => ?_)
      have q77 : u_32_1 = z77 := (fr_F e_32_1 hFc75 rfl).trans e77.symm
      subst q77
      refine g_cmp_ge 83 115 (gd rfl) rfl rfl (fun c80 => ?_) (fun c80 => ?_)
      · skip
        have n115 : CQQ (gvD s) sc75 := by exact g75_0
        have n115a : COA (gvD s) sc75 := by have h9 := g75_2; rw [(show (y75_3).toNatClampNeg = (s.2.2.1 32 1).toNatClampNeg from (by show (y75_3).toInt.toNat = (s.2.2.1 32 1).toInt.toNat; have h7 := g75_3; rw [← e_32_1] at h7 ⊢; (first | have a0 := oa4 ro_32_1 ro_32_0 j75_3 j75_2 | ((first | have a0 := in_u ro_32_1 | (have a0 := ro_32_1; unfold In at a0)); (first | have a1 := in_u ro_32_0 | (have a1 := ro_32_0; unfold In at a1)); (first | have a2 := in_u j75_3 | (have a2 := j75_3; unfold In at a2)); (first | have a3 := in_u j75_2 | (have a3 := j75_2; unfold In at a3)))); have oc := oc_44_60_32; omega))] at h9; exact m75_e h9 (bfr_of (fe_32 hIc75 hFc75 rfl rfl rfl g75_1 q_0).2.2 (show (s.2.2.1 32 1).toInt ≤ 32 from (by rw [← e_32_1]; (first | have a0 := oa4 ro_32_1 ro_32_0 j75_3 j75_2 | ((first | have a0 := in_u ro_32_1 | (have a0 := ro_32_1; unfold In at a0)); (first | have a1 := in_u ro_32_0 | (have a1 := ro_32_0; unfold In at a1)); (first | have a2 := in_u j75_3 | (have a2 := j75_3; unfold In at a2)); (first | have a3 := in_u j75_2 | (have a3 := j75_2; unfold In at a3)))); have oc := oc_44_60_32; omega))) g75_0.2 rfl
        exact g_return (gd rfl) rfl (hP _ _ ⟨sc75, hIc75, hFc75, rfl, rfl, n115, n115a⟩)
      · skip
        have i80 := r_lt1 0 31 c80 j75_3 ro_32_1 rfl
        have i80a := r_lt2 1 32 c80 j75_3 ro_32_1 rfl
        refine g_aload_n 84 (gd rfl) rfl rfl ?_
        refine g_getA (q2 := 64) 87 (gd rfl) rfl rfl rfl rfl ?_
        refine g_iload_n 88 (gd rfl) rfl rfl ?_
        have i88 : In y75_2 0 31 := by exact ⟨by (first | have a0 := oa4 i80a ro_32_0 i80 j75_2 | ((first | have a0 := in_u i80a | (have a0 := i80a; unfold In at a0)); (first | have a1 := in_u ro_32_0 | (have a1 := ro_32_0; unfold In at a1)); (first | have a2 := in_u i80 | (have a2 := i80; unfold In at a2)); (first | have a3 := in_u j75_2 | (have a3 := j75_2; unfold In at a3)))); have oc := oc_44_60_32; omega, by (first | have a0 := oa4 i80a ro_32_0 i80 j75_2 | ((first | have a0 := in_u i80a | (have a0 := i80a; unfold In at a0)); (first | have a1 := in_u ro_32_0 | (have a1 := ro_32_0; unfold In at a1)); (first | have a2 := in_u i80 | (have a2 := i80; unfold In at a2)); (first | have a3 := in_u j75_2 | (have a3 := j75_2; unfold In at a3)))); have oc := oc_44_60_32; omega⟩
        refine g_aload_n 89 (gd rfl) rfl rfl ?_
        refine g_aload_n 90 (gd rfl) rfl rfl ?_
        refine g_iload_n 91 (gd rfl) rfl rfl ?_
        refine g_iload_n 92 (gd rfl) rfl rfl ?_
        have p92 : LSX (sc75.1 39) (sc75.2.2.1 32 1).toNatClampNeg sc75 y75_3 y75_2 := by rw [hFc75.2.2.1 32 1 rfl]; exact m75_x g75_2 (syr_of (fe_32 hIc75 hFc75 rfl rfl rfl g75_1 q_0).2.2) (show (s.2.2.1 32 1).toNatClampNeg ≤ 32 from (by show (s.2.2.1 32 1).toInt.toNat ≤ 32; rw [← e_32_1]; (first | have a0 := oa4 i80a ro_32_0 i80 i88 | ((first | have a0 := in_u i80a | (have a0 := i80a; unfold In at a0)); (first | have a1 := in_u ro_32_0 | (have a1 := ro_32_0; unfold In at a1)); (first | have a2 := in_u i80 | (have a2 := i80; unfold In at a2)); (first | have a3 := in_u i88 | (have a3 := i88; unfold In at a3)))); have oc := oc_44_60_32; (first | exact zt_u (by omega) | omega))) (show (y75_3).toNatClampNeg < (s.2.2.1 32 1).toNatClampNeg from (by show (y75_3).toInt.toNat < (s.2.2.1 32 1).toInt.toNat; rw [← e_32_1]; (first | have a0 := oa4 i80a ro_32_0 i80 i88 | ((first | have a0 := in_u i80a | (have a0 := i80a; unfold In at a0)); (first | have a1 := in_u ro_32_0 | (have a1 := ro_32_0; unfold In at a1)); (first | have a2 := in_u i80 | (have a2 := i80; unfold In at a2)); (first | have a3 := in_u i88 | (have a3 := i88; unfold In at a3)))); have oc := oc_44_60_32; (first | exact zt_t (by omega) (by omega) | omega)))
        refine g_callv (X := _) (As := [.ref (A 32), .int y75_3, .int y75_2]) (r := [.int y75_3, .ref (A 64)]) (b := A 60) (q := 60) 95 (gd rfl) rfl rfl rfl rfl rfl (ww_o rfl) (Nat.le_of_ble_eq_true rfl) (Nat.zero_le _) (Nat.zero_le _) (f_53_60_32 (by first | exact dq1 hd rfl | exact dq0 hd rfl | exact dq2 hd rfl | exact dq3 hd rfl | omega) hIc75 (in_w 0 31 i80 rfl) (in_w 0 31 i88 rfl) p92) (fun e u h => h) (fun v u h => ?_)
        obtain ⟨s92, hI92, hF92, z92, rfl, rfl, i92, p92a, p92b, p92c⟩ := h
        show GG _ _ _ _ _ _ _ _ [.int z92, .int y75_3, .ref (A 64)] _ _ _
        refine g_iastore 96 (gd rfl) rfl (n := 32) rfl (in_ix i80 rfl) ?_
        have hI95 := inv_sI (q := 64) (j := y75_3.toNatClampNeg) hI92 rfl (in_w 0 31 i92 rfl)
        refine g_iload_n 97 (gd rfl) rfl rfl ?_
        refine g_aload_n 98 (gd rfl) rfl rfl ?_
        refine g_getA (q2 := 64) 101 (gd rfl) rfl rfl rfl rfl ?_
        refine g_iload_n 102 (gd rfl) rfl rfl ?_
        refine g_iaload 103 (gd rfl) rfl (n := 32) rfl (in_ix i80 rfl) (fun z102 e102 => ?_)
        have q102 : z92 = z102 := (sI_get).trans e102.symm
        subst q102
        refine g_iconst 1 104 (gd rfl) rfl rfl ?_
        refine g_iadd 105 (gd rfl) rfl (fun z104 e104 => ?_)
        have i104 := in_add 1 32 e104 i92 (in_c 1 rfl) rfl rfl
        refine g_calls (As := [.int y75_2, .int z104]) (r := []) 108 (gd rfl) rfl rfl rfl rfl rfl (Nat.le_of_ble_eq_true rfl) (mc := 0) (ms := 0) (Nat.zero_le _) (Nat.zero_le _) (P := fun v u => _) ?_ (fun v u h => h)
        intro po105 xx105 hp105 hx105
        refine g_enter2 (k := 422) (N := 300) (by first | exact dq1 hd rfl | exact dq0 hd rfl | exact dq2 hd rfl | exact dq3 hd rfl | omega) rfl (Nat.le_of_ble_eq_true rfl) ?_
        refine g_iload_n 1 (gd rfl) rfl rfl ?_
        refine g_iload_n 2 (gd rfl) rfl rfl ?_
        refine g_cmp_lt 5 9 (gd rfl) rfl rfl (fun c105x2 => ?_) (fun c105x2 => ?_)
        · skip
          refine g_iload_n 10 (gd rfl) rfl rfl ?_
          refine g_ireturn (gd rfl) rfl rfl (hp105 _ _ ?_)
          show GG _ _ _ _ _ _ _ _ [.int z104] _ _ _
          refine g_istore_n 109 (gd rfl) rfl (Nat.le_of_ble_eq_true rfl) ?_
          refine g_iinc 112 (gd rfl) rfl rfl (Nat.le_of_ble_eq_true rfl) (fun z109 e109 => ?_)
          have i109 := in_add 1 32 e109 i80 (in_c 1 rfl) rfl rfl
          refine g_goto 75 (gd rfl) rfl ?_
          have n75 : (z104).toInt ≤ (z109).toInt := by (first | have a0 := oa5 i80a ro_32_0 i80 i88 i109 | ((first | have a0 := in_u i80a | (have a0 := i80a; unfold In at a0)); (first | have a1 := in_u ro_32_0 | (have a1 := ro_32_0; unfold In at a1)); (first | have a2 := in_u i80 | (have a2 := i80; unfold In at a2)); (first | have a3 := in_u i88 | (have a3 := i88; unfold In at a3)); (first | have a4 := in_u i109 | (have a4 := i109; unfold In at a4)))); have a5 := t_add e109 i80 (in_c 1 rfl) rfl; (first | have a6 := oa2 ((in_c 1 rfl)) i104 | ((first | have a6 := in_u ((in_c 1 rfl)) | (have a6 := (in_c 1 rfl); unfold In at a6)); (first | have a7 := in_u i104 | (have a7 := i104; unfold In at a7)))); have a8 := t_add e104 i92 (in_c 1 rfl) rfl; (first | have a9 := in_u i92 | (have a9 := i92; unfold In at a9)); have oc := oc_44_60_32; omega
          have n75a : 0 ≤ (z104).toInt := by (first | have a0 := oa5 i80a ro_32_0 i80 i88 i109 | ((first | have a0 := in_u i80a | (have a0 := i80a; unfold In at a0)); (first | have a1 := in_u ro_32_0 | (have a1 := ro_32_0; unfold In at a1)); (first | have a2 := in_u i80 | (have a2 := i80; unfold In at a2)); (first | have a3 := in_u i88 | (have a3 := i88; unfold In at a3)); (first | have a4 := in_u i109 | (have a4 := i109; unfold In at a4)))); have a5 := t_add e109 i80 (in_c 1 rfl) rfl; (first | have a6 := oa2 ((in_c 1 rfl)) i104 | ((first | have a6 := in_u ((in_c 1 rfl)) | (have a6 := (in_c 1 rfl); unfold In at a6)); (first | have a7 := in_u i104 | (have a7 := i104; unfold In at a7)))); have a8 := t_add e104 i92 (in_c 1 rfl) rfl; (first | have a9 := in_u i92 | (have a9 := i92; unfold In at a9)); have oc := oc_44_60_32; omega
          have n75b : CQQ (gvD s) (sI s92 64 y75_3.toNatClampNeg z92) := by exact cqq_cg (cqq_cg g75_0 (hF92.2.2.1 60 0 rfl) (hF92.2.2.1 60 1 rfl)) rfl rfl
          have n75c : (((sI s92 64 y75_3.toNatClampNeg z92)).2.2.1 32 4).toInt = (((sI s92 64 y75_3.toNatClampNeg z92)).2.2.1 32 0).toInt := by rw [show (sI s92 64 y75_3.toNatClampNeg z92).2.2.1 32 4 = sc75.2.2.1 32 4 from hF92.2.2.1 32 4 rfl, show (sI s92 64 y75_3.toNatClampNeg z92).2.2.1 32 0 = sc75.2.2.1 32 0 from hF92.2.2.1 32 0 rfl]; exact g75_1
          have n75d : M75 (((sI s92 64 y75_3.toNatClampNeg z92)).1 39) (s.2.2.1 32 1).toNatClampNeg (KZ (((sI s92 64 y75_3.toNatClampNeg z92)).2.2.1 60 1)) (sI s92 64 y75_3.toNatClampNeg z92) (z109).toNatClampNeg (z104).toInt := by rw [sI_p (show Nat.beq 39 64 = false from rfl)]; exact (show M75 (s92.1 39) (s.2.2.1 32 1).toNatClampNeg (KZ (s92.2.2.1 60 1)) _ _ _ from (by rw [hF92.1 39 rfl, hF92.2.2.1 60 1 rfl]; exact m75_s g75_2 (show LSE (sc75.1 39) (s.2.2.1 32 1).toNatClampNeg (sc75.2.2.1 60 3).toInt (sc75.1 61) (s92.1 61) (y75_3).toNatClampNeg (z92).toInt from (by have h9 := p92b; rw [hFc75.2.2.1 32 1 rfl] at h9; exact h9)) p92c (hF92.2.2.1 60 3 rfl) (hF92.1 64 rfl) (show (z109).toNatClampNeg = (y75_3).toNatClampNeg + 1 from (by show (z109).toInt.toNat = (y75_3).toInt.toNat + 1; (first | have a0 := oa5 i80a ro_32_0 i80 i88 i109 | ((first | have a0 := in_u i80a | (have a0 := i80a; unfold In at a0)); (first | have a1 := in_u ro_32_0 | (have a1 := ro_32_0; unfold In at a1)); (first | have a2 := in_u i80 | (have a2 := i80; unfold In at a2)); (first | have a3 := in_u i88 | (have a3 := i88; unfold In at a3)); (first | have a4 := in_u i109 | (have a4 := i109; unfold In at a4)))); have a5 := t_add e109 i80 (in_c 1 rfl) rfl; (first | have a6 := oa2 ((in_c 1 rfl)) i104 | ((first | have a6 := in_u ((in_c 1 rfl)) | (have a6 := (in_c 1 rfl); unfold In at a6)); (first | have a7 := in_u i104 | (have a7 := i104; unfold In at a7)))); have a8 := t_add e104 i92 (in_c 1 rfl) rfl; (first | have a9 := in_u i92 | (have a9 := i92; unfold In at a9)); have oc := oc_44_60_32; (first | exact zt_s (by omega) (by omega) | omega))) (by (first | have a0 := oa5 i80a ro_32_0 i80 i88 i109 | ((first | have a0 := in_u i80a | (have a0 := i80a; unfold In at a0)); (first | have a1 := in_u ro_32_0 | (have a1 := ro_32_0; unfold In at a1)); (first | have a2 := in_u i80 | (have a2 := i80; unfold In at a2)); (first | have a3 := in_u i88 | (have a3 := i88; unfold In at a3)); (first | have a4 := in_u i109 | (have a4 := i109; unfold In at a4)))); have a5 := t_add e109 i80 (in_c 1 rfl) rfl; (first | have a6 := oa2 ((in_c 1 rfl)) i104 | ((first | have a6 := in_u ((in_c 1 rfl)) | (have a6 := (in_c 1 rfl); unfold In at a6)); (first | have a7 := in_u i104 | (have a7 := i104; unfold In at a7)))); have a8 := t_add e104 i92 (in_c 1 rfl) rfl; (first | have a9 := in_u i92 | (have a9 := i92; unfold In at a9)); have oc := oc_44_60_32; omega) (by (first | have a0 := oa5 i80a ro_32_0 i80 i88 i109 | ((first | have a0 := in_u i80a | (have a0 := i80a; unfold In at a0)); (first | have a1 := in_u ro_32_0 | (have a1 := ro_32_0; unfold In at a1)); (first | have a2 := in_u i80 | (have a2 := i80; unfold In at a2)); (first | have a3 := in_u i88 | (have a3 := i88; unfold In at a3)); (first | have a4 := in_u i109 | (have a4 := i109; unfold In at a4)))); have a5 := t_add e109 i80 (in_c 1 rfl) rfl; (first | have a6 := oa2 ((in_c 1 rfl)) i104 | ((first | have a6 := in_u ((in_c 1 rfl)) | (have a6 := (in_c 1 rfl); unfold In at a6)); (first | have a7 := in_u i104 | (have a7 := i104; unfold In at a7)))); have a8 := t_add e104 i92 (in_c 1 rfl) rfl; (first | have a9 := in_u i92 | (have a9 := i92; unfold In at a9)); have oc := oc_44_60_32; omega)))
          have n75e : (z109).toInt ≤ (s.2.2.1 32 1).toInt := by rw [← e_32_1]; (first | have a0 := oa5 i80a ro_32_0 i80 i88 i109 | ((first | have a0 := in_u i80a | (have a0 := i80a; unfold In at a0)); (first | have a1 := in_u ro_32_0 | (have a1 := ro_32_0; unfold In at a1)); (first | have a2 := in_u i80 | (have a2 := i80; unfold In at a2)); (first | have a3 := in_u i88 | (have a3 := i88; unfold In at a3)); (first | have a4 := in_u i109 | (have a4 := i109; unfold In at a4)))); have a5 := t_add e109 i80 (in_c 1 rfl) rfl; (first | have a6 := oa2 ((in_c 1 rfl)) i104 | ((first | have a6 := in_u ((in_c 1 rfl)) | (have a6 := (in_c 1 rfl); unfold In at a6)); (first | have a7 := in_u i104 | (have a7 := i104; unfold In at a7)))); have a8 := t_add e104 i92 (in_c 1 rfl) rfl; (first | have a9 := in_u i92 | (have a9 := i92; unfold In at a9)); have oc := oc_44_60_32; omega
          exact gg_w (by first | exact Nat.le_add_right _ _ | exact gw2 | exact gw3 | exact gwe rfl | exact gwf rfl | exact gwg rfl | exact gwh rfl | omega) (gg_f (gf_cons rfl (gf_cons rfl (gf_cons rfl (gf_cons rfl gf_nil)))) (ih75 (sI s92 64 y75_3.toNatClampNeg z92) z104 z109 hI95 (fr_sI rfl (fr_tr rfl hFc75 hF92)) (in_w 0 32 i104 rfl) (in_w 0 32 i109 rfl) n75 n75a n75b n75c n75d n75e (m_up mm75 (t_add e109 i80 (in_c 1 rfl) rfl) (in_w 1 1 (in_c 1 rfl) rfl))))
        · skip
          have i105x2 := r_le1 1 31 c105x2 i104 i88 rfl
          have i105x2a := r_le2 1 31 c105x2 i104 i88 rfl
          refine g_iload_n 6 (gd rfl) rfl rfl ?_
          refine g_goto 10 (gd rfl) rfl ?_
          refine g_ireturn (gd rfl) rfl rfl (hp105 _ _ ?_)
          show GG _ _ _ _ _ _ _ _ [.int y75_2] _ _ _
          refine g_istore_n 109 (gd rfl) rfl (Nat.le_of_ble_eq_true rfl) ?_
          refine g_iinc 112 (gd rfl) rfl rfl (Nat.le_of_ble_eq_true rfl) (fun z109 e109 => ?_)
          have i109 := in_add 1 32 e109 i80 (in_c 1 rfl) rfl rfl
          refine g_goto 75 (gd rfl) rfl ?_
          have n75 : (y75_2).toInt ≤ (z109).toInt := by (first | have a0 := oa5 i80a ro_32_0 i80 i105x2a i109 | ((first | have a0 := in_u i80a | (have a0 := i80a; unfold In at a0)); (first | have a1 := in_u ro_32_0 | (have a1 := ro_32_0; unfold In at a1)); (first | have a2 := in_u i80 | (have a2 := i80; unfold In at a2)); (first | have a3 := in_u i105x2a | (have a3 := i105x2a; unfold In at a3)); (first | have a4 := in_u i109 | (have a4 := i109; unfold In at a4)))); have a5 := t_add e109 i80 (in_c 1 rfl) rfl; (first | have a6 := oa2 ((in_c 1 rfl)) i105x2 | ((first | have a6 := in_u ((in_c 1 rfl)) | (have a6 := (in_c 1 rfl); unfold In at a6)); (first | have a7 := in_u i105x2 | (have a7 := i105x2; unfold In at a7)))); have a8 := t_add e104 i92 (in_c 1 rfl) rfl; (first | have a9 := in_u i92 | (have a9 := i92; unfold In at a9)); have oc := oc_44_60_32; omega
          have n75a : 0 ≤ (y75_2).toInt := by first | exact n75_1 | ((first | have a0 := oa5 i80a ro_32_0 i80 i105x2a i109 | ((first | have a0 := in_u i80a | (have a0 := i80a; unfold In at a0)); (first | have a1 := in_u ro_32_0 | (have a1 := ro_32_0; unfold In at a1)); (first | have a2 := in_u i80 | (have a2 := i80; unfold In at a2)); (first | have a3 := in_u i105x2a | (have a3 := i105x2a; unfold In at a3)); (first | have a4 := in_u i109 | (have a4 := i109; unfold In at a4)))); have a5 := t_add e109 i80 (in_c 1 rfl) rfl; (first | have a6 := oa2 ((in_c 1 rfl)) i105x2 | ((first | have a6 := in_u ((in_c 1 rfl)) | (have a6 := (in_c 1 rfl); unfold In at a6)); (first | have a7 := in_u i105x2 | (have a7 := i105x2; unfold In at a7)))); have a8 := t_add e104 i92 (in_c 1 rfl) rfl; (first | have a9 := in_u i92 | (have a9 := i92; unfold In at a9)); have oc := oc_44_60_32; omega)
          have n75b : CQQ (gvD s) (sI s92 64 y75_3.toNatClampNeg z92) := by exact cqq_cg (cqq_cg g75_0 (hF92.2.2.1 60 0 rfl) (hF92.2.2.1 60 1 rfl)) rfl rfl
          have n75c : (((sI s92 64 y75_3.toNatClampNeg z92)).2.2.1 32 4).toInt = (((sI s92 64 y75_3.toNatClampNeg z92)).2.2.1 32 0).toInt := by rw [show (sI s92 64 y75_3.toNatClampNeg z92).2.2.1 32 4 = sc75.2.2.1 32 4 from hF92.2.2.1 32 4 rfl, show (sI s92 64 y75_3.toNatClampNeg z92).2.2.1 32 0 = sc75.2.2.1 32 0 from hF92.2.2.1 32 0 rfl]; exact g75_1
          have n75d : M75 (((sI s92 64 y75_3.toNatClampNeg z92)).1 39) (s.2.2.1 32 1).toNatClampNeg (KZ (((sI s92 64 y75_3.toNatClampNeg z92)).2.2.1 60 1)) (sI s92 64 y75_3.toNatClampNeg z92) (z109).toNatClampNeg (y75_2).toInt := by rw [sI_p (show Nat.beq 39 64 = false from rfl)]; exact (show M75 (s92.1 39) (s.2.2.1 32 1).toNatClampNeg (KZ (s92.2.2.1 60 1)) _ _ _ from (by rw [hF92.1 39 rfl, hF92.2.2.1 60 1 rfl]; exact m75_s g75_2 (show LSE (sc75.1 39) (s.2.2.1 32 1).toNatClampNeg (sc75.2.2.1 60 3).toInt (sc75.1 61) (s92.1 61) (y75_3).toNatClampNeg (z92).toInt from (by have h9 := p92b; rw [hFc75.2.2.1 32 1 rfl] at h9; exact h9)) p92c (hF92.2.2.1 60 3 rfl) (hF92.1 64 rfl) (show (z109).toNatClampNeg = (y75_3).toNatClampNeg + 1 from (by show (z109).toInt.toNat = (y75_3).toInt.toNat + 1; (first | have a0 := oa5 i80a ro_32_0 i80 i105x2a i109 | ((first | have a0 := in_u i80a | (have a0 := i80a; unfold In at a0)); (first | have a1 := in_u ro_32_0 | (have a1 := ro_32_0; unfold In at a1)); (first | have a2 := in_u i80 | (have a2 := i80; unfold In at a2)); (first | have a3 := in_u i105x2a | (have a3 := i105x2a; unfold In at a3)); (first | have a4 := in_u i109 | (have a4 := i109; unfold In at a4)))); have a5 := t_add e109 i80 (in_c 1 rfl) rfl; (first | have a6 := oa2 ((in_c 1 rfl)) i105x2 | ((first | have a6 := in_u ((in_c 1 rfl)) | (have a6 := (in_c 1 rfl); unfold In at a6)); (first | have a7 := in_u i105x2 | (have a7 := i105x2; unfold In at a7)))); have a8 := t_add e104 i92 (in_c 1 rfl) rfl; (first | have a9 := in_u i92 | (have a9 := i92; unfold In at a9)); have oc := oc_44_60_32; (first | exact zt_s (by omega) (by omega) | omega))) (by (first | have a0 := oa5 i80a ro_32_0 i80 i105x2a i109 | ((first | have a0 := in_u i80a | (have a0 := i80a; unfold In at a0)); (first | have a1 := in_u ro_32_0 | (have a1 := ro_32_0; unfold In at a1)); (first | have a2 := in_u i80 | (have a2 := i80; unfold In at a2)); (first | have a3 := in_u i105x2a | (have a3 := i105x2a; unfold In at a3)); (first | have a4 := in_u i109 | (have a4 := i109; unfold In at a4)))); have a5 := t_add e109 i80 (in_c 1 rfl) rfl; (first | have a6 := oa2 ((in_c 1 rfl)) i105x2 | ((first | have a6 := in_u ((in_c 1 rfl)) | (have a6 := (in_c 1 rfl); unfold In at a6)); (first | have a7 := in_u i105x2 | (have a7 := i105x2; unfold In at a7)))); have a8 := t_add e104 i92 (in_c 1 rfl) rfl; (first | have a9 := in_u i92 | (have a9 := i92; unfold In at a9)); have oc := oc_44_60_32; omega) (by (first | have a0 := oa5 i80a ro_32_0 i80 i105x2a i109 | ((first | have a0 := in_u i80a | (have a0 := i80a; unfold In at a0)); (first | have a1 := in_u ro_32_0 | (have a1 := ro_32_0; unfold In at a1)); (first | have a2 := in_u i80 | (have a2 := i80; unfold In at a2)); (first | have a3 := in_u i105x2a | (have a3 := i105x2a; unfold In at a3)); (first | have a4 := in_u i109 | (have a4 := i109; unfold In at a4)))); have a5 := t_add e109 i80 (in_c 1 rfl) rfl; (first | have a6 := oa2 ((in_c 1 rfl)) i105x2 | ((first | have a6 := in_u ((in_c 1 rfl)) | (have a6 := (in_c 1 rfl); unfold In at a6)); (first | have a7 := in_u i105x2 | (have a7 := i105x2; unfold In at a7)))); have a8 := t_add e104 i92 (in_c 1 rfl) rfl; (first | have a9 := in_u i92 | (have a9 := i92; unfold In at a9)); have oc := oc_44_60_32; omega)))
          have n75e : (z109).toInt ≤ (s.2.2.1 32 1).toInt := by rw [← e_32_1]; (first | have a0 := oa5 i80a ro_32_0 i80 i105x2a i109 | ((first | have a0 := in_u i80a | (have a0 := i80a; unfold In at a0)); (first | have a1 := in_u ro_32_0 | (have a1 := ro_32_0; unfold In at a1)); (first | have a2 := in_u i80 | (have a2 := i80; unfold In at a2)); (first | have a3 := in_u i105x2a | (have a3 := i105x2a; unfold In at a3)); (first | have a4 := in_u i109 | (have a4 := i109; unfold In at a4)))); have a5 := t_add e109 i80 (in_c 1 rfl) rfl; (first | have a6 := oa2 ((in_c 1 rfl)) i105x2 | ((first | have a6 := in_u ((in_c 1 rfl)) | (have a6 := (in_c 1 rfl); unfold In at a6)); (first | have a7 := in_u i105x2 | (have a7 := i105x2; unfold In at a7)))); have a8 := t_add e104 i92 (in_c 1 rfl) rfl; (first | have a9 := in_u i92 | (have a9 := i92; unfold In at a9)); have oc := oc_44_60_32; omega
          exact gg_w (by first | exact Nat.le_add_right _ _ | exact gw2 | exact gw3 | exact gwe rfl | exact gwf rfl | exact gwg rfl | exact gwh rfl | omega) (gg_f (gf_cons rfl (gf_cons rfl (gf_cons rfl (gf_cons rfl gf_nil)))) (ih75 (sI s92 64 y75_3.toNatClampNeg z92) y75_2 z109 hI95 (fr_sI rfl (fr_tr rfl hFc75 hF92)) (in_w 0 32 i105x2a rfl) (in_w 0 32 i109 rfl) n75 n75a n75b n75c n75d n75e (m_up mm75 (t_add e109 i80 (in_c 1 rfl) rfl) (in_w 1 1 (in_c 1 rfl) rfl))))
  have ct33 : ∀ (k33 : Nat) (sc33 : GS) (w33_60_3 : Int32), Inv sc33 → Fr fm_44_60_32 s sc33 → (w33_60_3 = sc33.2.2.1 60 3) → (CQQ (gvD s) sc33) → (((sc33).2.2.1 32 4).toInt = ((sc33).2.2.1 32 0).toInt) → (M33 ((sc33).1 39) (s.2.2.1 32 1).toNatClampNeg (KZ ((sc33).2.2.1 60 1)) sc33) → 33 - (w33_60_3).toInt < (k33 : Int) → GG Z (d - 1) 44 post (gx xp) (29702 + k33 * 900) 33 (fun j => xlook j [(0, .ref (A 60)), (1, .ref (A 32))]) [] (WW Z A sc33 ++ ex) 0 0 := by
    intro k33
    induction k33 with
    | zero => intro sc33 w33_60_3 hIc33 hFc33 v33_60_3 g33_0 g33_1 g33_2 mm33; exfalso; (first | have a0 := oa3 ro_32_1 ro_32_0 ((inv_F hIc33 0 32 rfl v33_60_3)) | ((first | have a0 := in_u ro_32_1 | (have a0 := ro_32_1; unfold In at a0)); (first | have a1 := in_u ro_32_0 | (have a1 := ro_32_0; unfold In at a1)); (first | have a2 := in_u ((inv_F hIc33 0 32 rfl v33_60_3)) | (have a2 := (inv_F hIc33 0 32 rfl v33_60_3); unfold In at a2)))); have oc := oc_44_60_32; omega
    | succ k33 ih33 =>
      intro sc33 w33_60_3 hIc33 hFc33 v33_60_3 g33_0 g33_1 g33_2 mm33
      refine gg_w (M := 29702 + k33 * 900 + 900) gws ?_
      refine g_aload_n 34 (gd rfl) rfl rfl ?_
      refine g_getI 37 (gd rfl) rfl rfl rfl (fun z34 e34 => ?_)
      have q34 : w33_60_3 = z34 := (v33_60_3).trans e34.symm
      subst q34
      refine g_bipush 32 39 (gd rfl) rfl rfl ?_
      refine g_cmp_ge 42 71 (gd rfl) rfl rfl (fun c39 => ?_) (fun c39 => ?_)
      · skip
        have i39 := r_le2 32 32 c39 (in_c 32 rfl) (inv_F hIc33 0 32 rfl v33_60_3) rfl
        refine g_iconst 0 72 (gd rfl) rfl rfl ?_
        refine g_istore_n 73 (gd rfl) rfl (Nat.le_of_ble_eq_true rfl) ?_
        refine g_iconst 0 74 (gd rfl) rfl rfl ?_
        refine g_istore_n 75 (gd rfl) rfl (Nat.le_of_ble_eq_true rfl) ?_
        have n75 : ((Int32.ofInt 0)).toInt ≤ ((Int32.ofInt 0)).toInt := by exact Int.le_refl _
        have n75a : 0 ≤ ((Int32.ofInt 0)).toInt := by (first | have a0 := oa4 ro_32_1 ro_32_0 i39 ((in_c 0 rfl)) | ((first | have a0 := in_u ro_32_1 | (have a0 := ro_32_1; unfold In at a0)); (first | have a1 := in_u ro_32_0 | (have a1 := ro_32_0; unfold In at a1)); (first | have a2 := in_u i39 | (have a2 := i39; unfold In at a2)); (first | have a3 := in_u ((in_c 0 rfl)) | (have a3 := (in_c 0 rfl); unfold In at a3)))); have oc := oc_44_60_32; omega
        have n75b : CQQ (gvD s) sc33 := by exact g33_0
        have n75c : ((sc33).2.2.1 32 4).toInt = ((sc33).2.2.1 32 0).toInt := by exact g33_1
        have n75d : M75 ((sc33).1 39) (s.2.2.1 32 1).toNatClampNeg (KZ ((sc33).2.2.1 60 1)) sc33 ((Int32.ofInt 0)).toNatClampNeg ((Int32.ofInt 0)).toInt := by exfalso; have h9 := lim_32 g33_2.2.1 (kz_31 g33_0.2) (ful_g (fe_32 hIc33 hFc33 rfl rfl rfl g33_1 q_0).2.2 (show (s.2.2.1 32 1).toNatClampNeg ≤ 32 from (by show (s.2.2.1 32 1).toInt.toNat ≤ 32; rw [← e_32_1]; (first | have a0 := oa4 ro_32_1 ro_32_0 i39 ((in_c 0 rfl)) | ((first | have a0 := in_u ro_32_1 | (have a0 := ro_32_1; unfold In at a0)); (first | have a1 := in_u ro_32_0 | (have a1 := ro_32_0; unfold In at a1)); (first | have a2 := in_u i39 | (have a2 := i39; unfold In at a2)); (first | have a3 := in_u ((in_c 0 rfl)) | (have a3 := (in_c 0 rfl); unfold In at a3)))); have oc := oc_44_60_32; (first | exact zt_u (by omega) | omega)))); rw [← v33_60_3] at h9; (first | have a0 := oa4 ro_32_1 ro_32_0 i39 ((in_c 0 rfl)) | ((first | have a0 := in_u ro_32_1 | (have a0 := ro_32_1; unfold In at a0)); (first | have a1 := in_u ro_32_0 | (have a1 := ro_32_0; unfold In at a1)); (first | have a2 := in_u i39 | (have a2 := i39; unfold In at a2)); (first | have a3 := in_u ((in_c 0 rfl)) | (have a3 := (in_c 0 rfl); unfold In at a3)))); have oc := oc_44_60_32; omega
        have n75e : ((Int32.ofInt 0)).toInt ≤ (s.2.2.1 32 1).toInt := by rw [← e_32_1]; (first | have a0 := oa4 ro_32_1 ro_32_0 i39 ((in_c 0 rfl)) | ((first | have a0 := in_u ro_32_1 | (have a0 := ro_32_1; unfold In at a0)); (first | have a1 := in_u ro_32_0 | (have a1 := ro_32_0; unfold In at a1)); (first | have a2 := in_u i39 | (have a2 := i39; unfold In at a2)); (first | have a3 := in_u ((in_c 0 rfl)) | (have a3 := (in_c 0 rfl); unfold In at a3)))); have oc := oc_44_60_32; omega
        exact gg_w (by first | exact Nat.le_add_right _ _ | exact gw2 | exact gw3 | exact gwe rfl | exact gwf rfl | exact gwg rfl | exact gwh rfl | omega) (gg_f (gf_cons rfl (gf_cons rfl (gf_cons rfl (gf_cons rfl gf_nil)))) (ct75 33 sc33 (Int32.ofInt 0) (Int32.ofInt 0) hIc33 hFc33 (in_w 0 32 (in_c 0 rfl) rfl) (in_w 0 32 (in_c 0 rfl) rfl) n75 n75a n75b n75c n75d n75e (m_in 33 (in_w 0 32 (in_c 0 rfl) rfl) rfl)))
      · skip
        have i39 := r_lt1 0 31 c39 (inv_F hIc33 0 32 rfl v33_60_3) (in_c 32 rfl) rfl
        refine g_aload_n 43 (gd rfl) rfl rfl ?_
        refine g_aload_n 44 (gd rfl) rfl rfl ?_
        refine g_getA (q2 := 39) 47 (gd rfl) rfl rfl rfl rfl ?_
        refine g_aload_n 48 (gd rfl) rfl rfl ?_
        refine g_callv (X := _) (As := []) (r := [.ref (A 39), .ref (A 60)]) (b := A 32) (q := 32) 51 (gd rfl) rfl rfl rfl rfl rfl (ww_o rfl) (Nat.le_of_ble_eq_true rfl) (mc := 0) (ms := 0) (Nat.zero_le _) (Nat.zero_le _) (P := fun v u => _) ?_ (fun e u h => h) (fun v u h => h)
        intro po48 xx48 hp48 hx48
        refine g_enter2 (k := 102) (N := 300) (by first | exact dq1 hd rfl | exact dq0 hd rfl | exact dq2 hd rfl | exact dq3 hd rfl | omega) rfl (Nat.le_of_ble_eq_true rfl) ?_
        refine g_aload_n 1 (gd rfl) rfl rfl ?_
        refine g_getI 4 (gd rfl) rfl rfl rfl (fun z48x1 e48x1 => ?_)
        have q48x1 : u_32_1 = z48x1 := (fr_F e_32_1 hFc33 rfl).trans e48x1.symm
        subst q48x1
        refine g_bipush 32 6 (gd rfl) rfl rfl ?_
        refine g_cmp_lt 9 13 (gd rfl) rfl rfl (fun c48x6 => ?_) (fun c48x6 => ?_)
        · skip
          have i48x6 := r_lt1 0 31 c48x6 ro_32_1 (in_c 32 rfl) rfl
          refine g_iconst 1 14 (gd rfl) rfl rfl ?_
          refine g_aload_n 15 (gd rfl) rfl rfl ?_
          refine g_getI 18 (gd rfl) rfl rfl rfl (fun z48x15 e48x15 => ?_)
          have q48x15 : u_32_1 = z48x15 := (fr_F e_32_1 hFc33 rfl).trans e48x15.symm
          subst q48x15
          refine g_ishl 19 (gd rfl) rfl (fun z48x18 e48x18 => ?_)
          refine g_iconst 1 20 (gd rfl) rfl rfl ?_
          refine g_isub 21 (gd rfl) rfl (fun z48x20 e48x20 => ?_)
          refine g_ireturn (gd rfl) rfl rfl (hp48 _ _ ?_)
          show GG _ _ _ _ _ _ _ _ [.int z48x20, .ref (A 39), .ref (A 60)] _ _ _
          refine g_iconst 0 52 (gd rfl) rfl rfl ?_
          have p52 : FLX (sc33.1 39) sc33 z48x20 ((Int32.ofInt 0)).toInt := by exact m33_x g33_2 (syr_of (fe_32 hIc33 hFc33 rfl rfl rfl g33_1 q_0).2.2) rfl
          refine g_callv (X := _) (As := [.ref (A 39), .int z48x20, .int (Int32.ofInt 0)]) (r := []) (b := A 60) (q := 60) 55 (gd rfl) rfl rfl rfl rfl rfl (ww_o rfl) (Nat.le_of_ble_eq_true rfl) (Nat.zero_le _) (Nat.zero_le _) (f_46_60_39 (by first | exact dq1 hd rfl | exact dq0 hd rfl | exact dq2 hd rfl | exact dq3 hd rfl | omega) hIc33 (in_w 0 33 (in_c 0 rfl) rfl) p52) (fun e u h => h) (fun v u h => ?_)
          obtain ⟨s52, hI52, hF52, z52, rfl, rfl, i52, p52a, p52b⟩ := h
          show GG _ _ _ _ _ _ _ _ [.int z52] _ _ _
          refine g_if_ne 58 71 (gd rfl) rfl rfl (fun c55 => ?_) (fun c55 => ?_)
          · skip
            have i55 := z_ne 1 1 c55 i52 rfl
            refine g_iconst 0 72 (gd rfl) rfl rfl ?_
            refine g_istore_n 73 (gd rfl) rfl (Nat.le_of_ble_eq_true rfl) ?_
            refine g_iconst 0 74 (gd rfl) rfl rfl ?_
            refine g_istore_n 75 (gd rfl) rfl (Nat.le_of_ble_eq_true rfl) ?_
            have n75 : ((Int32.ofInt 0)).toInt ≤ ((Int32.ofInt 0)).toInt := by exact Int.le_refl _
            have n75a : 0 ≤ ((Int32.ofInt 0)).toInt := by (first | have a0 := oa4 i48x6 ro_32_0 i39 ((in_c 0 rfl)) | ((first | have a0 := in_u i48x6 | (have a0 := i48x6; unfold In at a0)); (first | have a1 := in_u ro_32_0 | (have a1 := ro_32_0; unfold In at a1)); (first | have a2 := in_u i39 | (have a2 := i39; unfold In at a2)); (first | have a3 := in_u ((in_c 0 rfl)) | (have a3 := (in_c 0 rfl); unfold In at a3)))); have oc := oc_44_60_32; omega
            have n75b : CQQ (gvD s) s52 := by exact (cqq_cg g33_0 (hF52.2.2.1 60 0 rfl) (hF52.2.2.1 60 1 rfl))
            have n75c : ((s52).2.2.1 32 4).toInt = ((s52).2.2.1 32 0).toInt := by rw [hF52.2.2.1 32 4 rfl, hF52.2.2.1 32 0 rfl]; exact g33_1
            have n75d : M75 ((s52).1 39) (s.2.2.1 32 1).toNatClampNeg (KZ ((s52).2.2.1 60 1)) s52 ((Int32.ofInt 0)).toNatClampNeg ((Int32.ofInt 0)).toInt := by rw [hF52.1 39 rfl, hF52.2.2.1 60 1 rfl]; exact (show M75 _ _ _ _ 0 _ from m75_0 g33_2 (fun u => Iff.trans (all_a e48x18 e48x20 i48x6 u) (show ((u : Int) < (u_32_1).toInt ↔ u < (s.2.2.1 32 1).toNatClampNeg) from (by show _ ↔ u < (s.2.2.1 32 1).toInt.toNat; rw [← e_32_1]; omega))) p52a p52b c55 (hF52.2.2.1 60 3 rfl))
            have n75e : ((Int32.ofInt 0)).toInt ≤ (s.2.2.1 32 1).toInt := by rw [← e_32_1]; (first | have a0 := oa4 i48x6 ro_32_0 i39 ((in_c 0 rfl)) | ((first | have a0 := in_u i48x6 | (have a0 := i48x6; unfold In at a0)); (first | have a1 := in_u ro_32_0 | (have a1 := ro_32_0; unfold In at a1)); (first | have a2 := in_u i39 | (have a2 := i39; unfold In at a2)); (first | have a3 := in_u ((in_c 0 rfl)) | (have a3 := (in_c 0 rfl); unfold In at a3)))); have oc := oc_44_60_32; omega
            exact gg_w (by first | exact Nat.le_add_right _ _ | exact gw2 | exact gw3 | exact gwe rfl | exact gwf rfl | exact gwg rfl | exact gwh rfl | omega) (gg_f (gf_cons rfl (gf_cons rfl (gf_cons rfl (gf_cons rfl gf_nil)))) (ct75 33 s52 (Int32.ofInt 0) (Int32.ofInt 0) hI52 (fr_tr rfl hFc33 hF52) (in_w 0 32 (in_c 0 rfl) rfl) (in_w 0 32 (in_c 0 rfl) rfl) n75 n75a n75b n75c n75d n75e (m_in 33 (in_w 0 32 (in_c 0 rfl) rfl) rfl)))
          · skip
            have i55 := z_eq 0 0 c55 i52 rfl
            refine g_aload_n 59 (gd rfl) rfl rfl ?_
            refine g_dup 60 (gd rfl) rfl rfl ?_
            refine g_getI 63 (gd rfl) rfl rfl rfl (fun z60 e60 => ?_)
            have q60 : w33_60_3 = z60 := (fr_F (v33_60_3) hF52 rfl).trans e60.symm
            subst q60
            refine g_iconst 1 64 (gd rfl) rfl rfl ?_
            refine g_iadd 65 (gd rfl) rfl (fun z64 e64 => ?_)
            have i64 := in_add 1 32 e64 i39 (in_c 1 rfl) rfl rfl
            refine g_putI 68 (gd rfl) rfl rfl rfl rfl ?_
            have hI65 := inv_sF (q := 60) (j := 3) hI52 rfl (in_w 0 32 i64 rfl)
            refine g_goto 33 (gd rfl) rfl ?_
            have v33 : z64 = (sF s52 60 3 z64).2.2.1 60 3 := sF_get
            have n33 : CQQ (gvD s) (sF s52 60 3 z64) := by exact cqq_cg (cqq_cg g33_0 (hF52.2.2.1 60 0 rfl) (hF52.2.2.1 60 1 rfl)) rfl rfl
            have n33a : (((sF s52 60 3 z64)).2.2.1 32 4).toInt = (((sF s52 60 3 z64)).2.2.1 32 0).toInt := by rw [(show (sF s52 60 3 z64).2.2.1 32 4 = sc33.2.2.1 32 4 from ((sF_ne rfl rfl).symm.trans (hF52.2.2.1 32 4 rfl))), (show (sF s52 60 3 z64).2.2.1 32 0 = sc33.2.2.1 32 0 from ((sF_ne rfl rfl).symm.trans (hF52.2.2.1 32 0 rfl)))]; exact g33_1
            have n33b : M33 (((sF s52 60 3 z64)).1 39) (s.2.2.1 32 1).toNatClampNeg (KZ (((sF s52 60 3 z64)).2.2.1 60 1)) (sF s52 60 3 z64) := by exact (show M33 (s52.1 39) (s.2.2.1 32 1).toNatClampNeg (KZ ((sF s52 60 3 z64).2.2.1 60 1)) (sF s52 60 3 z64) from (by rw [hF52.1 39 rfl, (show (sF s52 60 3 z64).2.2.1 60 1 = sc33.2.2.1 60 1 from ((sF_ne rfl rfl).symm.trans (hF52.2.2.1 60 1 rfl)))]; exact m33_s g33_2 (fun u => Iff.trans (all_a e48x18 e48x20 i48x6 u) (show ((u : Int) < (u_32_1).toInt ↔ u < (s.2.2.1 32 1).toNatClampNeg) from (by show _ ↔ u < (s.2.2.1 32 1).toInt.toNat; rw [← e_32_1]; omega))) p52a p52b c55 (by rw [← v33_60_3]; (first | have a0 := oa4 i48x6 ro_32_0 i39 i64 | ((first | have a0 := in_u i48x6 | (have a0 := i48x6; unfold In at a0)); (first | have a1 := in_u ro_32_0 | (have a1 := ro_32_0; unfold In at a1)); (first | have a2 := in_u i39 | (have a2 := i39; unfold In at a2)); (first | have a3 := in_u i64 | (have a3 := i64; unfold In at a3)))); have a4 := t_add e64 i39 (in_c 1 rfl) rfl; (first | have a5 := in_u ((in_c 1 rfl)) | (have a5 := (in_c 1 rfl); unfold In at a5)); have oc := oc_44_60_32; omega)))
            have m33 : 33 - (z64).toInt < ((k33 : Nat) : Int) := by (first | have a0 := oa4 i48x6 ro_32_0 i39 i64 | ((first | have a0 := in_u i48x6 | (have a0 := i48x6; unfold In at a0)); (first | have a1 := in_u ro_32_0 | (have a1 := ro_32_0; unfold In at a1)); (first | have a2 := in_u i39 | (have a2 := i39; unfold In at a2)); (first | have a3 := in_u i64 | (have a3 := i64; unfold In at a3)))); have a4 := t_add e64 i39 (in_c 1 rfl) rfl; (first | have a5 := in_u ((in_c 1 rfl)) | (have a5 := (in_c 1 rfl); unfold In at a5)); have oc := oc_44_60_32; omega
            exact gg_w (by first | exact Nat.le_add_right _ _ | exact gw2 | exact gw3 | exact gwe rfl | exact gwf rfl | exact gwg rfl | exact gwh rfl | omega) (gg_f (gf_cons rfl (gf_cons rfl gf_nil)) (ih33  (sF s52 60 3 z64) z64 hI65 (fr_sF rfl (fr_tr rfl hFc33 hF52)) v33 n33 n33a n33b m33))
        · skip
          have i48x6 := r_le2 32 32 c48x6 (in_c 32 rfl) ro_32_1 rfl
          refine g_iconst (-1) 10 (gd rfl) rfl rfl ?_
          refine g_goto 21 (gd rfl) rfl ?_
          refine g_ireturn (gd rfl) rfl rfl (hp48 _ _ ?_)
          show GG _ _ _ _ _ _ _ _ [.int (Int32.ofInt (-1)), .ref (A 39), .ref (A 60)] _ _ _
          refine g_iconst 0 52 (gd rfl) rfl rfl ?_
          have p52 : FLX (sc33.1 39) sc33 (Int32.ofInt (-1)) ((Int32.ofInt 0)).toInt := by exact m33_x g33_2 (syr_of (fe_32 hIc33 hFc33 rfl rfl rfl g33_1 q_0).2.2) rfl
          refine g_callv (X := _) (As := [.ref (A 39), .int (Int32.ofInt (-1)), .int (Int32.ofInt 0)]) (r := []) (b := A 60) (q := 60) 55 (gd rfl) rfl rfl rfl rfl rfl (ww_o rfl) (Nat.le_of_ble_eq_true rfl) (Nat.zero_le _) (Nat.zero_le _) (f_46_60_39 (by first | exact dq1 hd rfl | exact dq0 hd rfl | exact dq2 hd rfl | exact dq3 hd rfl | omega) hIc33 (in_w 0 33 (in_c 0 rfl) rfl) p52) (fun e u h => h) (fun v u h => ?_)
          obtain ⟨s52, hI52, hF52, z52, rfl, rfl, i52, p52a, p52b⟩ := h
          show GG _ _ _ _ _ _ _ _ [.int z52] _ _ _
          refine g_if_ne 58 71 (gd rfl) rfl rfl (fun c55 => ?_) (fun c55 => ?_)
          · skip
            have i55 := z_ne 1 1 c55 i52 rfl
            refine g_iconst 0 72 (gd rfl) rfl rfl ?_
            refine g_istore_n 73 (gd rfl) rfl (Nat.le_of_ble_eq_true rfl) ?_
            refine g_iconst 0 74 (gd rfl) rfl rfl ?_
            refine g_istore_n 75 (gd rfl) rfl (Nat.le_of_ble_eq_true rfl) ?_
            have n75 : ((Int32.ofInt 0)).toInt ≤ ((Int32.ofInt 0)).toInt := by exact Int.le_refl _
            have n75a : 0 ≤ ((Int32.ofInt 0)).toInt := by (first | have a0 := oa4 i48x6 ro_32_0 i39 ((in_c 0 rfl)) | ((first | have a0 := in_u i48x6 | (have a0 := i48x6; unfold In at a0)); (first | have a1 := in_u ro_32_0 | (have a1 := ro_32_0; unfold In at a1)); (first | have a2 := in_u i39 | (have a2 := i39; unfold In at a2)); (first | have a3 := in_u ((in_c 0 rfl)) | (have a3 := (in_c 0 rfl); unfold In at a3)))); have oc := oc_44_60_32; omega
            have n75b : CQQ (gvD s) s52 := by exact (cqq_cg g33_0 (hF52.2.2.1 60 0 rfl) (hF52.2.2.1 60 1 rfl))
            have n75c : ((s52).2.2.1 32 4).toInt = ((s52).2.2.1 32 0).toInt := by rw [hF52.2.2.1 32 4 rfl, hF52.2.2.1 32 0 rfl]; exact g33_1
            have n75d : M75 ((s52).1 39) (s.2.2.1 32 1).toNatClampNeg (KZ ((s52).2.2.1 60 1)) s52 ((Int32.ofInt 0)).toNatClampNeg ((Int32.ofInt 0)).toInt := by rw [hF52.1 39 rfl, hF52.2.2.1 60 1 rfl]; exact (show M75 _ _ _ _ 0 _ from m75_0 g33_2 (fun u => Iff.trans (all_b (show (u_32_1).toInt = 32 from (by (first | have a0 := oa4 i48x6 ro_32_0 i39 ((in_c 0 rfl)) | ((first | have a0 := in_u i48x6 | (have a0 := i48x6; unfold In at a0)); (first | have a1 := in_u ro_32_0 | (have a1 := ro_32_0; unfold In at a1)); (first | have a2 := in_u i39 | (have a2 := i39; unfold In at a2)); (first | have a3 := in_u ((in_c 0 rfl)) | (have a3 := (in_c 0 rfl); unfold In at a3)))); have oc := oc_44_60_32; omega)) u) (show ((u : Int) < (u_32_1).toInt ↔ u < (s.2.2.1 32 1).toNatClampNeg) from (by show _ ↔ u < (s.2.2.1 32 1).toInt.toNat; rw [← e_32_1]; omega))) p52a p52b c55 (hF52.2.2.1 60 3 rfl))
            have n75e : ((Int32.ofInt 0)).toInt ≤ (s.2.2.1 32 1).toInt := by rw [← e_32_1]; (first | have a0 := oa4 i48x6 ro_32_0 i39 ((in_c 0 rfl)) | ((first | have a0 := in_u i48x6 | (have a0 := i48x6; unfold In at a0)); (first | have a1 := in_u ro_32_0 | (have a1 := ro_32_0; unfold In at a1)); (first | have a2 := in_u i39 | (have a2 := i39; unfold In at a2)); (first | have a3 := in_u ((in_c 0 rfl)) | (have a3 := (in_c 0 rfl); unfold In at a3)))); have oc := oc_44_60_32; omega
            exact gg_w (by first | exact Nat.le_add_right _ _ | exact gw2 | exact gw3 | exact gwe rfl | exact gwf rfl | exact gwg rfl | exact gwh rfl | omega) (gg_f (gf_cons rfl (gf_cons rfl (gf_cons rfl (gf_cons rfl gf_nil)))) (ct75 33 s52 (Int32.ofInt 0) (Int32.ofInt 0) hI52 (fr_tr rfl hFc33 hF52) (in_w 0 32 (in_c 0 rfl) rfl) (in_w 0 32 (in_c 0 rfl) rfl) n75 n75a n75b n75c n75d n75e (m_in 33 (in_w 0 32 (in_c 0 rfl) rfl) rfl)))
          · skip
            have i55 := z_eq 0 0 c55 i52 rfl
            refine g_aload_n 59 (gd rfl) rfl rfl ?_
            refine g_dup 60 (gd rfl) rfl rfl ?_
            refine g_getI 63 (gd rfl) rfl rfl rfl (fun z60 e60 => ?_)
            have q60 : w33_60_3 = z60 := (fr_F (v33_60_3) hF52 rfl).trans e60.symm
            subst q60
            refine g_iconst 1 64 (gd rfl) rfl rfl ?_
            refine g_iadd 65 (gd rfl) rfl (fun z64 e64 => ?_)
            have i64 := in_add 1 32 e64 i39 (in_c 1 rfl) rfl rfl
            refine g_putI 68 (gd rfl) rfl rfl rfl rfl ?_
            have hI65 := inv_sF (q := 60) (j := 3) hI52 rfl (in_w 0 32 i64 rfl)
            refine g_goto 33 (gd rfl) rfl ?_
            have v33 : z64 = (sF s52 60 3 z64).2.2.1 60 3 := sF_get
            have n33 : CQQ (gvD s) (sF s52 60 3 z64) := by exact cqq_cg (cqq_cg g33_0 (hF52.2.2.1 60 0 rfl) (hF52.2.2.1 60 1 rfl)) rfl rfl
            have n33a : (((sF s52 60 3 z64)).2.2.1 32 4).toInt = (((sF s52 60 3 z64)).2.2.1 32 0).toInt := by rw [(show (sF s52 60 3 z64).2.2.1 32 4 = sc33.2.2.1 32 4 from ((sF_ne rfl rfl).symm.trans (hF52.2.2.1 32 4 rfl))), (show (sF s52 60 3 z64).2.2.1 32 0 = sc33.2.2.1 32 0 from ((sF_ne rfl rfl).symm.trans (hF52.2.2.1 32 0 rfl)))]; exact g33_1
            have n33b : M33 (((sF s52 60 3 z64)).1 39) (s.2.2.1 32 1).toNatClampNeg (KZ (((sF s52 60 3 z64)).2.2.1 60 1)) (sF s52 60 3 z64) := by exact (show M33 (s52.1 39) (s.2.2.1 32 1).toNatClampNeg (KZ ((sF s52 60 3 z64).2.2.1 60 1)) (sF s52 60 3 z64) from (by rw [hF52.1 39 rfl, (show (sF s52 60 3 z64).2.2.1 60 1 = sc33.2.2.1 60 1 from ((sF_ne rfl rfl).symm.trans (hF52.2.2.1 60 1 rfl)))]; exact m33_s g33_2 (fun u => Iff.trans (all_b (show (u_32_1).toInt = 32 from (by (first | have a0 := oa4 i48x6 ro_32_0 i39 i64 | ((first | have a0 := in_u i48x6 | (have a0 := i48x6; unfold In at a0)); (first | have a1 := in_u ro_32_0 | (have a1 := ro_32_0; unfold In at a1)); (first | have a2 := in_u i39 | (have a2 := i39; unfold In at a2)); (first | have a3 := in_u i64 | (have a3 := i64; unfold In at a3)))); have a4 := t_add e64 i39 (in_c 1 rfl) rfl; (first | have a5 := in_u ((in_c 1 rfl)) | (have a5 := (in_c 1 rfl); unfold In at a5)); have oc := oc_44_60_32; omega)) u) (show ((u : Int) < (u_32_1).toInt ↔ u < (s.2.2.1 32 1).toNatClampNeg) from (by show _ ↔ u < (s.2.2.1 32 1).toInt.toNat; rw [← e_32_1]; omega))) p52a p52b c55 (by rw [← v33_60_3]; (first | have a0 := oa4 i48x6 ro_32_0 i39 i64 | ((first | have a0 := in_u i48x6 | (have a0 := i48x6; unfold In at a0)); (first | have a1 := in_u ro_32_0 | (have a1 := ro_32_0; unfold In at a1)); (first | have a2 := in_u i39 | (have a2 := i39; unfold In at a2)); (first | have a3 := in_u i64 | (have a3 := i64; unfold In at a3)))); have a4 := t_add e64 i39 (in_c 1 rfl) rfl; (first | have a5 := in_u ((in_c 1 rfl)) | (have a5 := (in_c 1 rfl); unfold In at a5)); have oc := oc_44_60_32; omega)))
            have m33 : 33 - (z64).toInt < ((k33 : Nat) : Int) := by (first | have a0 := oa4 i48x6 ro_32_0 i39 i64 | ((first | have a0 := in_u i48x6 | (have a0 := i48x6; unfold In at a0)); (first | have a1 := in_u ro_32_0 | (have a1 := ro_32_0; unfold In at a1)); (first | have a2 := in_u i39 | (have a2 := i39; unfold In at a2)); (first | have a3 := in_u i64 | (have a3 := i64; unfold In at a3)))); have a4 := t_add e64 i39 (in_c 1 rfl) rfl; (first | have a5 := in_u ((in_c 1 rfl)) | (have a5 := (in_c 1 rfl); unfold In at a5)); have oc := oc_44_60_32; omega
            exact gg_w (by first | exact Nat.le_add_right _ _ | exact gw2 | exact gw3 | exact gwe rfl | exact gwf rfl | exact gwg rfl | exact gwh rfl | omega) (gg_f (gf_cons rfl (gf_cons rfl gf_nil)) (ih33  (sF s52 60 3 z64) z64 hI65 (fr_sF rfl (fr_tr rfl hFc33 hF52)) v33 n33 n33a n33b m33))
  refine g_enter2 (k := 44) (N := 66602) (by first | exact dq1 hd rfl | exact dq0 hd rfl | exact dq2 hd rfl | exact dq3 hd rfl | omega) rfl (Nat.le_of_ble_eq_true rfl) ?_
  refine g_aload_n 1 (gd rfl) rfl rfl ?_
  refine g_callv (X := _) (As := []) (r := []) (b := A 32) (q := 32) 4 (gd rfl) rfl rfl rfl rfl rfl (ww_o rfl) (Nat.le_of_ble_eq_true rfl) (Nat.zero_le _) (Nat.zero_le _) (k_106_32 (by first | exact dq1 hd rfl | exact dq0 hd rfl | exact dq2 hd rfl | exact dq3 hd rfl | omega) hI ) (fun e u h => h) (fun v u h => ?_)
  obtain ⟨s1, hI1, hF1, n1, rfl, rfl⟩ := h
  obtain ⟨z1a, e1⟩ : ∃ w, w = s1.2.2.1 32 4 := ⟨_, rfl⟩
  have i1a := inv_F hI1 (-1) 4000 rfl e1
  rw [← (show z1a = s1.2.2.1 32 4 from e1)] at n1
  rw [← (show u_32_0 = s1.2.2.1 32 0 from fr_F (e_32_0) hF1 rfl)] at n1
  show GG _ _ _ _ _ _ _ _ [] _ _ _
  refine g_aload_n 5 (gd rfl) rfl rfl ?_
  refine g_iconst 1 6 (gd rfl) rfl rfl ?_
  refine g_aload_n 7 (gd rfl) rfl rfl ?_
  refine g_aload_n 8 (gd rfl) rfl rfl ?_
  have p8 : TQD s1 := by exact tqd_fr q_0 hF1 rfl
  have p8a : CQB (gvD s1) s1 := by rw [gvD_fr hF1 rfl]; exact cqb_cg q_1 (hF1.2.2.1 60 0 rfl) (hF1.2.2.1 60 1 rfl)
  refine g_callv (X := _) (As := [.ref (A 32)]) (r := [.int (Int32.ofInt 1), .ref (A 60)]) (b := A 60) (q := 60) 11 (gd rfl) rfl rfl rfl rfl rfl (ww_o rfl) (Nat.le_of_ble_eq_true rfl) (Nat.zero_le _) (Nat.zero_le _) (f_41_60_32 (by first | exact dq1 hd rfl | exact dq0 hd rfl | exact dq2 hd rfl | exact dq3 hd rfl | omega) hI1 p8 p8a) (fun e u h => h) (fun v u h => ?_)
  obtain ⟨s8, hI8, hF8, z8, rfl, rfl, i8, p8b, p8c, p8d⟩ := h
  show GG _ _ _ _ _ _ _ _ [.int z8, .int (Int32.ofInt 1), .ref (A 60)] _ _ _
  refine g_calls (As := [.int z8]) (r := [.int (Int32.ofInt 1), .ref (A 60)]) 14 (gd rfl) rfl rfl rfl rfl rfl (Nat.le_of_ble_eq_true rfl) (Nat.zero_le _) (Nat.zero_le _) (f_414 (by first | exact dq1 hd rfl | exact dq0 hd rfl | exact dq2 hd rfl | exact dq3 hd rfl | omega) hI8 ) (fun v u h => ?_)
  obtain ⟨z11, rfl, rfl, i11, p11⟩ := h
  show GG _ _ _ _ _ _ _ _ [.int z11, .int (Int32.ofInt 1), .ref (A 60)] _ _ _
  refine g_calls (As := [.int (Int32.ofInt 1), .int z11]) (r := [.ref (A 60)]) 17 (gd rfl) rfl rfl rfl rfl rfl (Nat.le_of_ble_eq_true rfl) (mc := 0) (ms := 0) (Nat.zero_le _) (Nat.zero_le _) (P := fun v u => _) ?_ (fun v u h => h)
  intro po14 xx14 hp14 hx14
  refine g_enter2 (k := 422) (N := 300) (by first | exact dq1 hd rfl | exact dq0 hd rfl | exact dq2 hd rfl | exact dq3 hd rfl | omega) rfl (Nat.le_of_ble_eq_true rfl) ?_
  refine g_iload_n 1 (gd rfl) rfl rfl ?_
  refine g_iload_n 2 (gd rfl) rfl rfl ?_
  refine g_cmp_lt 5 9 (gd rfl) rfl rfl (fun c14x2 => ?_) (fun c14x2 => ?_)
  · skip
    have i14x2 := r_lt2 2 32 c14x2 (in_c 1 rfl) i11 rfl
    refine g_iload_n 10 (gd rfl) rfl rfl ?_
    refine g_ireturn (gd rfl) rfl rfl (hp14 _ _ ?_)
    show GG _ _ _ _ _ _ _ _ [.int z11, .ref (A 60)] _ _ _
    refine g_putI 20 (gd rfl) rfl rfl rfl rfl ?_
    have hI17 := inv_sF (q := 60) (j := 3) hI8 rfl (in_w 0 32 i14x2 rfl)
    refine g_aload_n 21 (gd rfl) rfl rfl ?_
    refine g_iconst 0 22 (gd rfl) rfl rfl ?_
    refine g_putI 25 (gd rfl) rfl rfl rfl rfl ?_
    have hI22 := inv_sF (q := 60) (j := 7) hI17 rfl (in_w 0 32 (in_c 0 rfl) rfl)
    refine g_aload_n 26 (gd rfl) rfl rfl ?_
    refine g_getA (q2 := 61) 29 (gd rfl) rfl rfl rfl rfl ?_
    refine g_iconst 0 30 (gd rfl) rfl rfl ?_
    refine g_calls (As := [.ref (A 61), .int (Int32.ofInt 0)]) (r := []) 33 (gd rfl) rfl rfl rfl rfl rfl (Nat.le_of_ble_eq_true rfl) (Nat.zero_le _) (Nat.zero_le _) (k_fillI 61 (by first | exact dq1 hd rfl | exact dq0 hd rfl | exact dq2 hd rfl | exact dq3 hd rfl | omega) hI22 (in_c 0 rfl) (n := 32) rfl rfl rfl rfl) (fun v u h => ?_)
    obtain ⟨s30, hI30, hF30, rfl, rfl, fl30⟩ := h
    show GG _ _ _ _ _ _ _ _ [] _ _ _
    have v33 : z11 = s30.2.2.1 60 3 := fr_F (s := (sF (sF s8 60 3 z11) 60 7 (Int32.ofInt 0))) (sF_ne rfl (sF_get)) hF30 rfl
    have n33 : CQQ (gvD s) s30 := by exact (cqq_cg (show CQQ (gvD s) s8 from (by have h9 := p8b; rw [gvD_fr hF1 rfl] at h9; exact h9)) (hF30.2.2.1 60 0 rfl) (hF30.2.2.1 60 1 rfl))
    have n33a : ((s30).2.2.1 32 4).toInt = ((s30).2.2.1 32 0).toInt := by rw [(show s30.2.2.1 32 4 = s8.2.2.1 32 4 from (hF30.2.2.1 32 4 rfl).trans ((sF_ne rfl (sF_ne rfl rfl)).symm)), (show s30.2.2.1 32 0 = s8.2.2.1 32 0 from (hF30.2.2.1 32 0 rfl).trans ((sF_ne rfl (sF_ne rfl rfl)).symm))]; exact p8d (show (s1.2.2.1 32 4).toInt = (s1.2.2.1 32 0).toInt from (by rw [← (show z1a = s1.2.2.1 32 4 from e1), ← (show u_32_0 = s1.2.2.1 32 0 from fr_F (e_32_0) hF1 rfl)]; exact n1))
    have n33b : M33 ((s30).1 39) (s.2.2.1 32 1).toNatClampNeg (KZ ((s30).2.2.1 60 1)) s30 := by first | (exact m33_0 fl30 (by rw [(show s30.2.2.1 60 1 = s8.2.2.1 60 1 from (hF30.2.2.1 60 1 rfl).trans ((sF_ne rfl (sF_ne rfl rfl)).symm)), ← p8c, show s30.2.2.1 60 3 = z11 from (hF30.2.2.1 60 3 rfl).trans ((sF_ne rfl (sF_get)).symm)]; exact (kz_m p11).1 (by (first | have a0 := oa4 ro_32_1 ro_32_0 ((in_c 0 rfl)) i14x2 | ((first | have a0 := in_u ro_32_1 | (have a0 := ro_32_1; unfold In at a0)); (first | have a1 := in_u ro_32_0 | (have a1 := ro_32_0; unfold In at a1)); (first | have a2 := in_u ((in_c 0 rfl)) | (have a2 := (in_c 0 rfl); unfold In at a2)); (first | have a3 := in_u i14x2 | (have a3 := i14x2; unfold In at a3)))); have oc := oc_44_60_32; omega)) (by rw [show s30.2.2.1 60 7 = Int32.ofInt 0 from (hF30.2.2.1 60 7 rfl).trans (sF_get).symm]; rfl)) | (exact m33_0 fl30 (by rw [(show s30.2.2.1 60 1 = s8.2.2.1 60 1 from (hF30.2.2.1 60 1 rfl).trans ((sF_ne rfl (sF_ne rfl rfl)).symm)), ← p8c, show s30.2.2.1 60 3 = (Int32.ofInt 1) from (hF30.2.2.1 60 3 rfl).trans ((sF_ne rfl (sF_get)).symm)]; exact (kz_m p11).2 (by (first | have a0 := oa4 ro_32_1 ro_32_0 ((in_c 0 rfl)) i14x2 | ((first | have a0 := in_u ro_32_1 | (have a0 := ro_32_1; unfold In at a0)); (first | have a1 := in_u ro_32_0 | (have a1 := ro_32_0; unfold In at a1)); (first | have a2 := in_u ((in_c 0 rfl)) | (have a2 := (in_c 0 rfl); unfold In at a2)); (first | have a3 := in_u i14x2 | (have a3 := i14x2; unfold In at a3)))); have oc := oc_44_60_32; omega)) (by rw [show s30.2.2.1 60 7 = Int32.ofInt 0 from (hF30.2.2.1 60 7 rfl).trans (sF_get).symm]; rfl))
    have m33 : 33 - (z11).toInt < ((40 : Nat) : Int) := by (first | have a0 := oa4 ro_32_1 ro_32_0 ((in_c 0 rfl)) i14x2 | ((first | have a0 := in_u ro_32_1 | (have a0 := ro_32_1; unfold In at a0)); (first | have a1 := in_u ro_32_0 | (have a1 := ro_32_0; unfold In at a1)); (first | have a2 := in_u ((in_c 0 rfl)) | (have a2 := (in_c 0 rfl); unfold In at a2)); (first | have a3 := in_u i14x2 | (have a3 := i14x2; unfold In at a3)))); have oc := oc_44_60_32; omega
    exact gg_w (by first | exact Nat.le_of_ble_eq_true rfl | omega) (gg_f (gf_cons rfl (gf_cons rfl gf_nil)) (ct33 40 s30 z11 hI30 (fr_tr rfl (fr_sF rfl (fr_sF rfl (fr_tr rfl (fr_tr rfl fr_rf hF1) hF8))) hF30) v33 n33 n33a n33b m33))
  · skip
    have i14x2 := r_le1 0 1 c14x2 i11 (in_c 1 rfl) rfl
    refine g_iload_n 6 (gd rfl) rfl rfl ?_
    refine g_goto 10 (gd rfl) rfl ?_
    refine g_ireturn (gd rfl) rfl rfl (hp14 _ _ ?_)
    show GG _ _ _ _ _ _ _ _ [.int (Int32.ofInt 1), .ref (A 60)] _ _ _
    refine g_putI 20 (gd rfl) rfl rfl rfl rfl ?_
    have hI17 := inv_sF (q := 60) (j := 3) hI8 rfl (in_w 0 32 (in_c 1 rfl) rfl)
    refine g_aload_n 21 (gd rfl) rfl rfl ?_
    refine g_iconst 0 22 (gd rfl) rfl rfl ?_
    refine g_putI 25 (gd rfl) rfl rfl rfl rfl ?_
    have hI22 := inv_sF (q := 60) (j := 7) hI17 rfl (in_w 0 32 (in_c 0 rfl) rfl)
    refine g_aload_n 26 (gd rfl) rfl rfl ?_
    refine g_getA (q2 := 61) 29 (gd rfl) rfl rfl rfl rfl ?_
    refine g_iconst 0 30 (gd rfl) rfl rfl ?_
    refine g_calls (As := [.ref (A 61), .int (Int32.ofInt 0)]) (r := []) 33 (gd rfl) rfl rfl rfl rfl rfl (Nat.le_of_ble_eq_true rfl) (Nat.zero_le _) (Nat.zero_le _) (k_fillI 61 (by first | exact dq1 hd rfl | exact dq0 hd rfl | exact dq2 hd rfl | exact dq3 hd rfl | omega) hI22 (in_c 0 rfl) (n := 32) rfl rfl rfl rfl) (fun v u h => ?_)
    obtain ⟨s30, hI30, hF30, rfl, rfl, fl30⟩ := h
    show GG _ _ _ _ _ _ _ _ [] _ _ _
    have v33 : (Int32.ofInt 1) = s30.2.2.1 60 3 := fr_F (s := (sF (sF s8 60 3 (Int32.ofInt 1)) 60 7 (Int32.ofInt 0))) (sF_ne rfl (sF_get)) hF30 rfl
    have n33 : CQQ (gvD s) s30 := by exact (cqq_cg (show CQQ (gvD s) s8 from (by have h9 := p8b; rw [gvD_fr hF1 rfl] at h9; exact h9)) (hF30.2.2.1 60 0 rfl) (hF30.2.2.1 60 1 rfl))
    have n33a : ((s30).2.2.1 32 4).toInt = ((s30).2.2.1 32 0).toInt := by rw [(show s30.2.2.1 32 4 = s8.2.2.1 32 4 from (hF30.2.2.1 32 4 rfl).trans ((sF_ne rfl (sF_ne rfl rfl)).symm)), (show s30.2.2.1 32 0 = s8.2.2.1 32 0 from (hF30.2.2.1 32 0 rfl).trans ((sF_ne rfl (sF_ne rfl rfl)).symm))]; exact p8d (show (s1.2.2.1 32 4).toInt = (s1.2.2.1 32 0).toInt from (by rw [← (show z1a = s1.2.2.1 32 4 from e1), ← (show u_32_0 = s1.2.2.1 32 0 from fr_F (e_32_0) hF1 rfl)]; exact n1))
    have n33b : M33 ((s30).1 39) (s.2.2.1 32 1).toNatClampNeg (KZ ((s30).2.2.1 60 1)) s30 := by first | (exact m33_0 fl30 (by rw [(show s30.2.2.1 60 1 = s8.2.2.1 60 1 from (hF30.2.2.1 60 1 rfl).trans ((sF_ne rfl (sF_ne rfl rfl)).symm)), ← p8c, show s30.2.2.1 60 3 = z11 from (hF30.2.2.1 60 3 rfl).trans ((sF_ne rfl (sF_get)).symm)]; exact (kz_m p11).1 (by (first | have a0 := oa4 ro_32_1 ro_32_0 ((in_c 0 rfl)) ((in_c 1 rfl)) | ((first | have a0 := in_u ro_32_1 | (have a0 := ro_32_1; unfold In at a0)); (first | have a1 := in_u ro_32_0 | (have a1 := ro_32_0; unfold In at a1)); (first | have a2 := in_u ((in_c 0 rfl)) | (have a2 := (in_c 0 rfl); unfold In at a2)); (first | have a3 := in_u ((in_c 1 rfl)) | (have a3 := (in_c 1 rfl); unfold In at a3)))); have oc := oc_44_60_32; omega)) (by rw [show s30.2.2.1 60 7 = Int32.ofInt 0 from (hF30.2.2.1 60 7 rfl).trans (sF_get).symm]; rfl)) | (exact m33_0 fl30 (by rw [(show s30.2.2.1 60 1 = s8.2.2.1 60 1 from (hF30.2.2.1 60 1 rfl).trans ((sF_ne rfl (sF_ne rfl rfl)).symm)), ← p8c, show s30.2.2.1 60 3 = (Int32.ofInt 1) from (hF30.2.2.1 60 3 rfl).trans ((sF_ne rfl (sF_get)).symm)]; exact (kz_m p11).2 (by (first | have a0 := oa4 ro_32_1 ro_32_0 ((in_c 0 rfl)) ((in_c 1 rfl)) | ((first | have a0 := in_u ro_32_1 | (have a0 := ro_32_1; unfold In at a0)); (first | have a1 := in_u ro_32_0 | (have a1 := ro_32_0; unfold In at a1)); (first | have a2 := in_u ((in_c 0 rfl)) | (have a2 := (in_c 0 rfl); unfold In at a2)); (first | have a3 := in_u ((in_c 1 rfl)) | (have a3 := (in_c 1 rfl); unfold In at a3)))); have oc := oc_44_60_32; omega)) (by rw [show s30.2.2.1 60 7 = Int32.ofInt 0 from (hF30.2.2.1 60 7 rfl).trans (sF_get).symm]; rfl))
    have m33 : 33 - ((Int32.ofInt 1)).toInt < ((40 : Nat) : Int) := by (first | have a0 := oa4 ro_32_1 ro_32_0 ((in_c 0 rfl)) ((in_c 1 rfl)) | ((first | have a0 := in_u ro_32_1 | (have a0 := ro_32_1; unfold In at a0)); (first | have a1 := in_u ro_32_0 | (have a1 := ro_32_0; unfold In at a1)); (first | have a2 := in_u ((in_c 0 rfl)) | (have a2 := (in_c 0 rfl); unfold In at a2)); (first | have a3 := in_u ((in_c 1 rfl)) | (have a3 := (in_c 1 rfl); unfold In at a3)))); have oc := oc_44_60_32; omega
    exact gg_w (by first | exact Nat.le_of_ble_eq_true rfl | omega) (gg_f (gf_cons rfl (gf_cons rfl gf_nil)) (ct33 40 s30 (Int32.ofInt 1) hI30 (fr_tr rfl (fr_sF rfl (fr_sF rfl (fr_tr rfl (fr_tr rfl fr_rf hF1) hF8))) hF30) v33 n33 n33a n33b m33))

def fm_43_60_2 : FM := ([9, 10, 11, 12, 13, 14, 15, 61, 62, 63, 64], [], [(2, 4), (60, 0), (60, 1), (60, 2), (60, 3), (60, 7)], [])
/-- GraphHouse$Colours.colourOf -/
theorem f_43_60_2 {Z : AmZ} {A : Nat → Nat} {s : GS} {ex : va_W} {d : Nat} {X : AmX} {x2 : Int32} (hd : 384 ≤ d) (hI : Inv s) (h2 : In x2 0 31) (q_0 : TQ s) (q_1 : CQB (gvC s) s) (q_2 : COB (gvC s) s) : GC Z d 43 [.ref (A 60), .ref (A 2), .int x2] (WW Z A s ++ ex) 0 0 (fun v u => ∃ t : GS, Inv t ∧ Fr fm_43_60_2 s t ∧ ∃ z : Int32, v = some (.int z) ∧ u = WW Z A t ++ ex ∧ In z 0 31 ∧ (KPG (gvC s) s t) ∧ (COV (gvC s) t) ∧ ((z) = (t).1 64 (x2).toNatClampNeg)) X := by
  intro post xp hP hX
  obtain ⟨u_2_0, e_2_0⟩ : ∃ w, w = s.2.2.1 2 0 := ⟨_, rfl⟩
  have ro_2_0 := inv_F hI 0 4000 rfl e_2_0
  refine g_enter2 (k := 43) (N := 900) (by first | exact dq1 hd rfl | exact dq0 hd rfl | exact dq2 hd rfl | exact dq3 hd rfl | omega) rfl (Nat.le_of_ble_eq_true rfl) ?_
  refine g_aload_n 1 (gd rfl) rfl rfl ?_
  refine g_getI 4 (gd rfl) rfl rfl rfl (fun z1 e1 => ?_)
  have i1 := inv_F hI (-1) 4000 rfl e1
  refine g_aload_n 5 (gd rfl) rfl rfl ?_
  refine g_getI 8 (gd rfl) rfl rfl rfl (fun z5 e5 => ?_)
  have q5 : u_2_0 = z5 := (e_2_0).trans e5.symm
  subst q5
  refine g_cmp_eq 11 24 (gd rfl) rfl rfl (fun c8 => ?_) (fun c8 => ?_)
  · skip
    have i8 := r_eq1 0 4000 c8 i1 ro_2_0 rfl
    refine g_aload_n 25 (gd rfl) rfl rfl ?_
    refine g_getA (q2 := 64) 28 (gd rfl) rfl rfl rfl rfl ?_
    refine g_iload_n 29 (gd rfl) rfl rfl ?_
    refine g_iaload 30 (gd rfl) rfl (n := 32) rfl (in_ix h2 rfl) (fun z29 e29 => ?_)
    have i29 := inv_I hI (n := 32) (t := 0) 0 31 rfl (in_ix h2 rfl) rfl e29
    have n30 : KPG (gvC s) s s := by exact Or.inr ⟨rfl, rfl⟩
    have n30a : COV (gvC s) s := by exact ⟨(show (s.2.2.1 60 2).toInt = (s.2.2.1 2 0).toInt from (by rw [← e1, ← e_2_0]; exact c8)), q_2 (show (s.2.2.1 60 2).toInt = (s.2.2.1 2 0).toInt from (by rw [← e1, ← e_2_0]; exact c8))⟩
    have n30b : (z29) = (s).1 64 (x2).toNatClampNeg := by first | exact e27 | exact e26 | exact e25 | exact e24 | exact e28 | exact e29
    exact g_ireturn (gd rfl) rfl rfl (hP _ _ ⟨s, hI, fr_rf, z29, rfl, rfl, in_w 0 31 i29 rfl, n30, n30a, n30b⟩)
  · skip
    refine g_aload_n 12 (gd rfl) rfl rfl ?_
    refine g_aload_n 13 (gd rfl) rfl rfl ?_
    refine g_getI 16 (gd rfl) rfl rfl rfl (fun z13 e13 => ?_)
    have q13 : u_2_0 = z13 := (e_2_0).trans e13.symm
    subst q13
    refine g_putI 19 (gd rfl) rfl rfl rfl rfl ?_
    have hI16 := inv_sF (q := 60) (j := 2) hI rfl (in_w (-1) 4000 ro_2_0 rfl)
    refine g_aload_n 20 (gd rfl) rfl rfl ?_
    refine g_aload_n 21 (gd rfl) rfl rfl ?_
    have p21 : TQ (sF s 60 2 u_2_0) := by exact tq_fr q_0 (show Fr ([], [], [(60, 2)], []) s (sF s 60 2 u_2_0) from (fr_sF rfl fr_rf)) rfl
    have p21a : CQB (gvC (sF s 60 2 u_2_0)) (sF s 60 2 u_2_0) := by rw [gvC_cg (show Fr ([], [], [(60, 2)], []) s (sF s 60 2 u_2_0) from (fr_sF rfl fr_rf)) rfl]; exact cqb_cg q_1 rfl rfl
    refine g_callv (X := _) (As := [.ref (A 2)]) (r := []) (b := A 60) (q := 60) 24 (gd rfl) rfl rfl rfl rfl rfl (ww_o rfl) (Nat.le_of_ble_eq_true rfl) (Nat.zero_le _) (Nat.zero_le _) (f_44_60_2 (by first | exact dq1 hd rfl | exact dq0 hd rfl | exact dq2 hd rfl | exact dq3 hd rfl | omega) hI16 p21 p21a) (fun e u h => h) (fun v u h => ?_)
    obtain ⟨s21, hI21, hF21, rfl, rfl, p21b, p21c⟩ := h
    show GG _ _ _ _ _ _ _ _ [] _ _ _
    refine g_aload_n 25 (gd rfl) rfl rfl ?_
    refine g_getA (q2 := 64) 28 (gd rfl) rfl rfl rfl rfl ?_
    refine g_iload_n 29 (gd rfl) rfl rfl ?_
    refine g_iaload 30 (gd rfl) rfl (n := 32) rfl (in_ix h2 rfl) (fun z29 e29 => ?_)
    have i29 := inv_I hI21 (n := 32) (t := 0) 0 31 rfl (in_ix h2 rfl) rfl e29
    have n30 : KPG (gvC s) s s21 := by exact Or.inl (by have h9 := p21b; rw [gvC_cg (show Fr ([], [], [(60, 2)], []) s (sF s 60 2 u_2_0) from fr_sF rfl fr_rf) rfl] at h9; exact h9)
    have n30a : COV (gvC s) s21 := by exact ⟨(show (s21.2.2.1 60 2).toInt = (s.2.2.1 2 0).toInt from (by rw [hF21.2.2.1 60 2 rfl, ← (show u_2_0 = (sF s 60 2 u_2_0).2.2.1 60 2 from sF_get), e_2_0])), by have h9 := p21c; rw [gvC_cg (show Fr ([], [], [(60, 2)], []) s (sF s 60 2 u_2_0) from fr_sF rfl fr_rf) rfl] at h9; exact h9⟩
    have n30b : (z29) = (s21).1 64 (x2).toNatClampNeg := by first | exact e27 | exact e26 | exact e25 | exact e24 | exact e28 | exact e29
    exact g_ireturn (gd rfl) rfl rfl (hP _ _ ⟨s21, hI21, (fr_tr rfl (fr_sF rfl fr_rf) hF21), z29, rfl, rfl, in_w 0 31 i29 rfl, n30, n30a, n30b⟩)

def fm_43_60_32 : FM := ([39, 40, 41, 42, 43, 44, 45, 61, 62, 63, 64], [], [(32, 4), (60, 0), (60, 1), (60, 2), (60, 3), (60, 7)], [])
/-- GraphHouse$Colours.colourOf -/
theorem f_43_60_32 {Z : AmZ} {A : Nat → Nat} {s : GS} {ex : va_W} {d : Nat} {X : AmX} {x2 : Int32} (hd : 384 ≤ d) (hI : Inv s) (h2 : In x2 0 31) (q_0 : TQD s) (q_1 : CQB (gvD s) s) (q_2 : COB (gvD s) s) : GC Z d 43 [.ref (A 60), .ref (A 32), .int x2] (WW Z A s ++ ex) 0 0 (fun v u => ∃ t : GS, Inv t ∧ Fr fm_43_60_32 s t ∧ ∃ z : Int32, v = some (.int z) ∧ u = WW Z A t ++ ex ∧ In z 0 31 ∧ (KPG (gvD s) s t) ∧ (COV (gvD s) t) ∧ ((z) = (t).1 64 (x2).toNatClampNeg)) X := by
  intro post xp hP hX
  obtain ⟨u_32_0, e_32_0⟩ : ∃ w, w = s.2.2.1 32 0 := ⟨_, rfl⟩
  have ro_32_0 := inv_F hI 0 4000 rfl e_32_0
  refine g_enter2 (k := 43) (N := 900) (by first | exact dq1 hd rfl | exact dq0 hd rfl | exact dq2 hd rfl | exact dq3 hd rfl | omega) rfl (Nat.le_of_ble_eq_true rfl) ?_
  refine g_aload_n 1 (gd rfl) rfl rfl ?_
  refine g_getI 4 (gd rfl) rfl rfl rfl (fun z1 e1 => ?_)
  have i1 := inv_F hI (-1) 4000 rfl e1
  refine g_aload_n 5 (gd rfl) rfl rfl ?_
  refine g_getI 8 (gd rfl) rfl rfl rfl (fun z5 e5 => ?_)
  have q5 : u_32_0 = z5 := (e_32_0).trans e5.symm
  subst q5
  refine g_cmp_eq 11 24 (gd rfl) rfl rfl (fun c8 => ?_) (fun c8 => ?_)
  · skip
    have i8 := r_eq1 0 4000 c8 i1 ro_32_0 rfl
    refine g_aload_n 25 (gd rfl) rfl rfl ?_
    refine g_getA (q2 := 64) 28 (gd rfl) rfl rfl rfl rfl ?_
    refine g_iload_n 29 (gd rfl) rfl rfl ?_
    refine g_iaload 30 (gd rfl) rfl (n := 32) rfl (in_ix h2 rfl) (fun z29 e29 => ?_)
    have i29 := inv_I hI (n := 32) (t := 0) 0 31 rfl (in_ix h2 rfl) rfl e29
    have n30 : KPG (gvD s) s s := by exact Or.inr ⟨rfl, rfl⟩
    have n30a : COV (gvD s) s := by exact ⟨(show (s.2.2.1 60 2).toInt = (s.2.2.1 32 0).toInt from (by rw [← e1, ← e_32_0]; exact c8)), q_2 (show (s.2.2.1 60 2).toInt = (s.2.2.1 32 0).toInt from (by rw [← e1, ← e_32_0]; exact c8))⟩
    have n30b : (z29) = (s).1 64 (x2).toNatClampNeg := by first | exact e27 | exact e26 | exact e25 | exact e24 | exact e28 | exact e29
    exact g_ireturn (gd rfl) rfl rfl (hP _ _ ⟨s, hI, fr_rf, z29, rfl, rfl, in_w 0 31 i29 rfl, n30, n30a, n30b⟩)
  · skip
    refine g_aload_n 12 (gd rfl) rfl rfl ?_
    refine g_aload_n 13 (gd rfl) rfl rfl ?_
    refine g_getI 16 (gd rfl) rfl rfl rfl (fun z13 e13 => ?_)
    have q13 : u_32_0 = z13 := (e_32_0).trans e13.symm
    subst q13
    refine g_putI 19 (gd rfl) rfl rfl rfl rfl ?_
    have hI16 := inv_sF (q := 60) (j := 2) hI rfl (in_w (-1) 4000 ro_32_0 rfl)
    refine g_aload_n 20 (gd rfl) rfl rfl ?_
    refine g_aload_n 21 (gd rfl) rfl rfl ?_
    have p21 : TQD (sF s 60 2 u_32_0) := by exact tqd_fr q_0 (show Fr ([], [], [(60, 2)], []) s (sF s 60 2 u_32_0) from (fr_sF rfl fr_rf)) rfl
    have p21a : CQB (gvD (sF s 60 2 u_32_0)) (sF s 60 2 u_32_0) := by rw [gvD_fr (show Fr ([], [], [(60, 2)], []) s (sF s 60 2 u_32_0) from (fr_sF rfl fr_rf)) rfl]; exact cqb_cg q_1 rfl rfl
    refine g_callv (X := _) (As := [.ref (A 32)]) (r := []) (b := A 60) (q := 60) 24 (gd rfl) rfl rfl rfl rfl rfl (ww_o rfl) (Nat.le_of_ble_eq_true rfl) (Nat.zero_le _) (Nat.zero_le _) (f_44_60_32 (by first | exact dq1 hd rfl | exact dq0 hd rfl | exact dq2 hd rfl | exact dq3 hd rfl | omega) hI16 p21 p21a) (fun e u h => h) (fun v u h => ?_)
    obtain ⟨s21, hI21, hF21, rfl, rfl, p21b, p21c⟩ := h
    show GG _ _ _ _ _ _ _ _ [] _ _ _
    refine g_aload_n 25 (gd rfl) rfl rfl ?_
    refine g_getA (q2 := 64) 28 (gd rfl) rfl rfl rfl rfl ?_
    refine g_iload_n 29 (gd rfl) rfl rfl ?_
    refine g_iaload 30 (gd rfl) rfl (n := 32) rfl (in_ix h2 rfl) (fun z29 e29 => ?_)
    have i29 := inv_I hI21 (n := 32) (t := 0) 0 31 rfl (in_ix h2 rfl) rfl e29
    have n30 : KPG (gvD s) s s21 := by exact Or.inl (by have h9 := p21b; rw [gvD_fr (show Fr ([], [], [(60, 2)], []) s (sF s 60 2 u_32_0) from fr_sF rfl fr_rf) rfl] at h9; exact h9)
    have n30a : COV (gvD s) s21 := by exact ⟨(show (s21.2.2.1 60 2).toInt = (s.2.2.1 32 0).toInt from (by rw [hF21.2.2.1 60 2 rfl, ← (show u_32_0 = (sF s 60 2 u_32_0).2.2.1 60 2 from sF_get), e_32_0])), by have h9 := p21c; rw [gvD_fr (show Fr ([], [], [(60, 2)], []) s (sF s 60 2 u_32_0) from fr_sF rfl fr_rf) rfl] at h9; exact h9⟩
    have n30b : (z29) = (s21).1 64 (x2).toNatClampNeg := by first | exact e27 | exact e26 | exact e25 | exact e24 | exact e28 | exact e29
    exact g_ireturn (gd rfl) rfl rfl (hP _ _ ⟨s21, hI21, (fr_tr rfl (fr_sF rfl fr_rf) hF21), z29, rfl, rfl, in_w 0 31 i29 rfl, n30, n30a, n30b⟩)

theorem oc_240_0 : (Int32.ofInt (-1)).toInt = (-1) ∧ (Int32.ofInt 0).toInt = 0 ∧ (Int32.ofInt 1).toInt = 1 := ⟨rfl, rfl, rfl⟩
/-- GraphHouse.colour -/
theorem f_240_0 {Z : AmZ} {A : Nat → Nat} {s : GS} {ex : va_W} {d : Nat} {x1 : Int32} (hd : 385 ≤ d) (hI : Inv s) (q_0 : TQ s) (q_1 : TQD s) (q_2 : COC s) : GC Z d 240 [.ref (A 0), .int x1] (WW Z A s ++ ex) 3 18 (fun v u => ∃ t : GS, Inv t ∧ Fr fm_240_0 s t ∧ ∃ z : Int32, v = some (.int z) ∧ u = WW Z A t ++ ex ∧ In z 0 31 ∧ ((0 ≤ x1.toInt ∧ x1.toInt < (shC s).2.2.2.2.2.2.1) ∧ COL (shC s) x1.toNatClampNeg (z).toInt) ∧ (KCG (shC s) s t)) (gEx Z A ex ([], [], [], []) s (¬ (0 ≤ x1.toInt ∧ x1.toInt < (shC s).2.2.2.2.2.2.1)) (False)) := by
  intro post xp hP hX
  obtain ⟨u_0_2, e_0_2⟩ : ∃ w, w = s.2.2.1 0 2 := ⟨_, rfl⟩
  have ro_0_2 := inv_F hI (-1) 4000 rfl e_0_2
  obtain ⟨u_2_0, e_2_0⟩ : ∃ w, w = s.2.2.1 2 0 := ⟨_, rfl⟩
  have ro_2_0 := inv_F hI 0 4000 rfl e_2_0
  obtain ⟨u_2_1, e_2_1⟩ : ∃ w, w = s.2.2.1 2 1 := ⟨_, rfl⟩
  have ro_2_1 := inv_F hI 0 32 rfl e_2_1
  obtain ⟨u_32_0, e_32_0⟩ : ∃ w, w = s.2.2.1 32 0 := ⟨_, rfl⟩
  have ro_32_0 := inv_F hI 0 4000 rfl e_32_0
  obtain ⟨u_32_1, e_32_1⟩ : ∃ w, w = s.2.2.1 32 1 := ⟨_, rfl⟩
  have ro_32_1 := inv_F hI 0 32 rfl e_32_1
  refine g_enter2 (k := 240) (N := 900) (by first | exact dq1 hd rfl | exact dq0 hd rfl | exact dq2 hd rfl | exact dq3 hd rfl | omega) rfl (Nat.le_of_ble_eq_true rfl) ?_
  refine g_aload_n 1 (gd rfl) rfl rfl ?_
  refine g_callv (X := _) (As := []) (r := []) (b := A 0) (q := 0) 4 (gd rfl) rfl rfl rfl rfl rfl (ww_o rfl) (Nat.le_of_ble_eq_true rfl) (mc := 0) (ms := 0) (Nat.zero_le _) (Nat.zero_le _) (P := fun v u => _) ?_ (fun e u h => h) (fun v u h => h)
  intro po1 xx1 hp1 hx1
  refine g_enter2 (k := 259) (N := 300) (by first | exact dq1 hd rfl | exact dq0 hd rfl | exact dq2 hd rfl | exact dq3 hd rfl | omega) rfl (Nat.le_of_ble_eq_true rfl) ?_
  refine g_aload_n 1 (gd rfl) rfl rfl ?_
  refine g_getI 4 (gd rfl) rfl rfl rfl (fun z1x1 e1x1 => ?_)
  have q1x1 : u_0_2 = z1x1 := (e_0_2).trans e1x1.symm
  subst q1x1
  refine g_iconst (-1) 5 (gd rfl) rfl rfl ?_
  refine g_cmp_ne 8 18 (gd rfl) rfl rfl (fun c1x5 => ?_) (fun c1x5 => ?_)
  · skip
    have i1x5 := r_ne1 0 4000 c1x5 ro_0_2 (in_c (-1) rfl) rfl
    refine g_aload_n 19 (gd rfl) rfl rfl ?_
    refine g_getA (q2 := 32) 22 (gd rfl) rfl rfl rfl rfl ?_
    refine g_areturn (gd rfl) rfl (hp1 _ _ ?_)
    show GG _ _ _ _ _ _ _ _ [.ref (A 32)] _ _ _
    refine g_astore_n 5 (gd rfl) rfl (Nat.le_of_ble_eq_true rfl) ?_
    refine g_aload_n 6 (gd rfl) rfl rfl ?_
    refine g_iload_n 7 (gd rfl) rfl rfl ?_
    refine g_callv (X := _) (As := [.int x1]) (r := []) (b := A 32) (q := 32) 10 (gd rfl) rfl rfl rfl rfl rfl (ww_o rfl) (Nat.le_of_ble_eq_true rfl) (mc := 0) (ms := 0) (Nat.zero_le _) (Nat.zero_le _) (P := fun v u => _) ?_ (fun e u h => h) (fun v u h => h)
    intro po7 xx7 hp7 hx7
    refine g_enter2 (k := 94) (N := 300) (by first | exact dq1 hd rfl | exact dq0 hd rfl | exact dq2 hd rfl | exact dq3 hd rfl | omega) rfl (Nat.le_of_ble_eq_true rfl) ?_
    refine g_iload_n 1 (gd rfl) rfl rfl ?_
    refine g_if_lt 4 16 (gd rfl) rfl rfl (fun c7x1 => ?_) (fun c7x1 => ?_)
    · skip
      have i7x1 := z_lt (-2147483648) (-1) c7x1 (i_rng x1) rfl
      refine g_iconst 0 17 (gd rfl) rfl rfl ?_
      refine g_ireturn (gd rfl) rfl (nb01 (in_w 0 1 (in_c 0 rfl) rfl)) (hp7 _ _ ?_)
      show GG _ _ _ _ _ _ _ _ [.int (Int32.ofInt 0)] _ _ _
      refine g_thr (E := am_IA) (y := yX11_allow) 13 (gd rfl) rfl rfl (Or.inl ⟨rfl, rfl, rfl⟩) (by first | exact dq1 hd rfl | exact dq0 hd rfl | exact dq2 hd rfl | exact dq3 hd rfl | omega) (Nat.le_of_ble_eq_true rfl) (Nat.le_of_ble_eq_true rfl) (Nat.le_of_ble_eq_true rfl) (fun c10 => ?_) (fun c10 => ?_)
      · skip
        exact zn_ne c10 (in_c 0 rfl) rfl
      · skip
        have n10 : ¬ (0 ≤ x1.toInt ∧ x1.toInt < (shC s).2.2.2.2.2.2.1) := by first | (rw [shC_n (by rw [← e1x1]; exact c1x5)]; show ¬ (0 ≤ x1.toInt ∧ x1.toInt < (s.2.2.1 2 1).toInt); rw [← e_2_1]; (first | have a0 := oa6 ro_32_1 ro_32_0 ro_2_1 ro_2_0 i1x5 i7x1 | ((first | have a0 := in_u ro_32_1 | (have a0 := ro_32_1; unfold In at a0)); (first | have a1 := in_u ro_32_0 | (have a1 := ro_32_0; unfold In at a1)); (first | have a2 := in_u ro_2_1 | (have a2 := ro_2_1; unfold In at a2)); (first | have a3 := in_u ro_2_0 | (have a3 := ro_2_0; unfold In at a3)); (first | have a4 := in_u i1x5 | (have a4 := i1x5; unfold In at a4)); (first | have a5 := in_u i7x1 | (have a5 := i7x1; unfold In at a5)))); have oc := oc_240_0; omega) | (rw [shC_d (by rw [← e1x1]; exact c1x5)]; show ¬ (0 ≤ x1.toInt ∧ x1.toInt < (s.2.2.1 32 1).toInt); rw [← e_32_1]; (first | have a0 := oa6 ro_32_1 ro_32_0 ro_2_1 ro_2_0 i1x5 i7x1 | ((first | have a0 := in_u ro_32_1 | (have a0 := ro_32_1; unfold In at a0)); (first | have a1 := in_u ro_32_0 | (have a1 := ro_32_0; unfold In at a1)); (first | have a2 := in_u ro_2_1 | (have a2 := ro_2_1; unfold In at a2)); (first | have a3 := in_u ro_2_0 | (have a3 := ro_2_0; unfold In at a3)); (first | have a4 := in_u i1x5 | (have a4 := i1x5; unfold In at a4)); (first | have a5 := in_u i7x1 | (have a5 := i7x1; unfold In at a5)))); have oc := oc_240_0; omega)
        exact (hX _ _ ⟨Or.inl ⟨rfl, n10⟩, s, hI, fr_rf, rfl⟩)
    · skip
      have i7x1 := z_ge 0 2147483647 c7x1 (i_rng x1) rfl
      refine g_iload_n 5 (gd rfl) rfl rfl ?_
      refine g_aload_n 6 (gd rfl) rfl rfl ?_
      refine g_getI 9 (gd rfl) rfl rfl rfl (fun z7x6 e7x6 => ?_)
      have q7x6 : u_32_1 = z7x6 := (e_32_1).trans e7x6.symm
      subst q7x6
      refine g_cmp_ge 12 16 (gd rfl) rfl rfl (fun c7x9 => ?_) (fun c7x9 => ?_)
      · skip
        refine g_iconst 0 17 (gd rfl) rfl rfl ?_
        refine g_ireturn (gd rfl) rfl (nb01 (in_w 0 1 (in_c 0 rfl) rfl)) (hp7 _ _ ?_)
        show GG _ _ _ _ _ _ _ _ [.int (Int32.ofInt 0)] _ _ _
        refine g_thr (E := am_IA) (y := yX11_allow) 13 (gd rfl) rfl rfl (Or.inl ⟨rfl, rfl, rfl⟩) (by first | exact dq1 hd rfl | exact dq0 hd rfl | exact dq2 hd rfl | exact dq3 hd rfl | omega) (Nat.le_of_ble_eq_true rfl) (Nat.le_of_ble_eq_true rfl) (Nat.le_of_ble_eq_true rfl) (fun c10 => ?_) (fun c10 => ?_)
        · skip
          exact zn_ne c10 (in_c 0 rfl) rfl
        · skip
          have n10 : ¬ (0 ≤ x1.toInt ∧ x1.toInt < (shC s).2.2.2.2.2.2.1) := by first | (rw [shC_n (by rw [← e1x1]; exact c1x5)]; show ¬ (0 ≤ x1.toInt ∧ x1.toInt < (s.2.2.1 2 1).toInt); rw [← e_2_1]; (first | have a0 := oa6 ro_32_1 ro_32_0 ro_2_1 ro_2_0 i1x5 i7x1 | ((first | have a0 := in_u ro_32_1 | (have a0 := ro_32_1; unfold In at a0)); (first | have a1 := in_u ro_32_0 | (have a1 := ro_32_0; unfold In at a1)); (first | have a2 := in_u ro_2_1 | (have a2 := ro_2_1; unfold In at a2)); (first | have a3 := in_u ro_2_0 | (have a3 := ro_2_0; unfold In at a3)); (first | have a4 := in_u i1x5 | (have a4 := i1x5; unfold In at a4)); (first | have a5 := in_u i7x1 | (have a5 := i7x1; unfold In at a5)))); have oc := oc_240_0; omega) | (rw [shC_d (by rw [← e1x1]; exact c1x5)]; show ¬ (0 ≤ x1.toInt ∧ x1.toInt < (s.2.2.1 32 1).toInt); rw [← e_32_1]; (first | have a0 := oa6 ro_32_1 ro_32_0 ro_2_1 ro_2_0 i1x5 i7x1 | ((first | have a0 := in_u ro_32_1 | (have a0 := ro_32_1; unfold In at a0)); (first | have a1 := in_u ro_32_0 | (have a1 := ro_32_0; unfold In at a1)); (first | have a2 := in_u ro_2_1 | (have a2 := ro_2_1; unfold In at a2)); (first | have a3 := in_u ro_2_0 | (have a3 := ro_2_0; unfold In at a3)); (first | have a4 := in_u i1x5 | (have a4 := i1x5; unfold In at a4)); (first | have a5 := in_u i7x1 | (have a5 := i7x1; unfold In at a5)))); have oc := oc_240_0; omega)
          exact (hX _ _ ⟨Or.inl ⟨rfl, n10⟩, s, hI, fr_rf, rfl⟩)
      · skip
        have i7x9 := r_lt1 0 31 c7x9 i7x1 ro_32_1 rfl
        have i7x9a := r_lt2 1 32 c7x9 i7x1 ro_32_1 rfl
        refine g_iconst 1 13 (gd rfl) rfl rfl ?_
        refine g_goto 17 (gd rfl) rfl ?_
        refine g_ireturn (gd rfl) rfl (nb01 (in_w 0 1 (in_c 1 rfl) rfl)) (hp7 _ _ ?_)
        show GG _ _ _ _ _ _ _ _ [.int (Int32.ofInt 1)] _ _ _
        refine g_thr (E := am_IA) (y := yX11_allow) 13 (gd rfl) rfl rfl (Or.inl ⟨rfl, rfl, rfl⟩) (by first | exact dq1 hd rfl | exact dq0 hd rfl | exact dq2 hd rfl | exact dq3 hd rfl | omega) (Nat.le_of_ble_eq_true rfl) (Nat.le_of_ble_eq_true rfl) (Nat.le_of_ble_eq_true rfl) (fun c10 => ?_) (fun c10 => ?_)
        · skip
          refine g_aload_n 14 (gd rfl) rfl rfl ?_
          refine g_getA (q2 := 60) 17 (gd rfl) rfl rfl rfl rfl ?_
          refine g_aload_n 18 (gd rfl) rfl rfl ?_
          refine g_iload_n 19 (gd rfl) rfl rfl ?_
          have p19 : TQD s := by first | exact q_0 | exact q_1
          have p19a : CQB (gvD s) s := by first | (rw [← shC_n (by rw [← e1x1]; exact c1x5)]; exact q_2.1) | (rw [← shC_d (by rw [← e1x1]; exact c1x5)]; exact q_2.1)
          have p19b : COB (gvD s) s := by first | (rw [← shC_n (by rw [← e1x1]; exact c1x5)]; exact q_2.2) | (rw [← shC_d (by rw [← e1x1]; exact c1x5)]; exact q_2.2)
          refine g_callv (X := _) (As := [.ref (A 32), .int x1]) (r := []) (b := A 60) (q := 60) 22 (gd rfl) rfl rfl rfl rfl rfl (ww_o rfl) (Nat.le_of_ble_eq_true rfl) (Nat.zero_le _) (Nat.zero_le _) (f_43_60_32 (by first | exact dq1 hd rfl | exact dq0 hd rfl | exact dq2 hd rfl | exact dq3 hd rfl | omega) hI (in_w 0 31 i7x9 rfl) p19 p19a p19b) (fun e u h => h) (fun v u h => ?_)
          obtain ⟨s19, hI19, hF19, z19, rfl, rfl, i19, p19c, p19d, p19e⟩ := h
          show GG _ _ _ _ _ _ _ _ [.int z19] _ _ _
          have n22 : (0 ≤ x1.toInt ∧ x1.toInt < (shC s).2.2.2.2.2.2.1) ∧ COL (shC s) x1.toNatClampNeg (z19).toInt := by first | (rw [shC_n (by rw [← e1x1]; exact c1x5)]; have h7 : 0 ≤ x1.toInt ∧ x1.toInt < (s.2.2.1 2 1).toInt := (by rw [← e_2_1]; (first | have a0 := oa6 i7x9 i7x9a ro_32_0 ro_2_1 ro_2_0 i1x5 | ((first | have a0 := in_u i7x9 | (have a0 := i7x9; unfold In at a0)); (first | have a1 := in_u i7x9a | (have a1 := i7x9a; unfold In at a1)); (first | have a2 := in_u ro_32_0 | (have a2 := ro_32_0; unfold In at a2)); (first | have a3 := in_u ro_2_1 | (have a3 := ro_2_1; unfold In at a3)); (first | have a4 := in_u ro_2_0 | (have a4 := ro_2_0; unfold In at a4)); (first | have a5 := in_u i1x5 | (have a5 := i1x5; unfold In at a5)))); have oc := oc_240_0; omega); exact ⟨h7, by rw [p19e]; exact p19d.2 _ (by show ((x1.toInt.toNat : Nat) : Int) < (s.2.2.1 2 1).toInt; omega)⟩) | (rw [shC_d (by rw [← e1x1]; exact c1x5)]; have h7 : 0 ≤ x1.toInt ∧ x1.toInt < (s.2.2.1 32 1).toInt := (by rw [← e_32_1]; (first | have a0 := oa6 i7x9 i7x9a ro_32_0 ro_2_1 ro_2_0 i1x5 | ((first | have a0 := in_u i7x9 | (have a0 := i7x9; unfold In at a0)); (first | have a1 := in_u i7x9a | (have a1 := i7x9a; unfold In at a1)); (first | have a2 := in_u ro_32_0 | (have a2 := ro_32_0; unfold In at a2)); (first | have a3 := in_u ro_2_1 | (have a3 := ro_2_1; unfold In at a3)); (first | have a4 := in_u ro_2_0 | (have a4 := ro_2_0; unfold In at a4)); (first | have a5 := in_u i1x5 | (have a5 := i1x5; unfold In at a5)))); have oc := oc_240_0; omega); exact ⟨h7, by rw [p19e]; exact p19d.2 _ (by show ((x1.toInt.toNat : Nat) : Int) < (s.2.2.1 32 1).toInt; omega)⟩)
          have n22a : KCG (shC s) s s19 := by first | (rw [shC_n (by rw [← e1x1]; exact c1x5)]; exact ⟨p19c, p19d⟩) | (rw [shC_d (by rw [← e1x1]; exact c1x5)]; exact ⟨p19c, p19d⟩)
          exact g_ireturn (gd rfl) rfl rfl (hP _ _ ⟨s19, hI19, (fr_tr rfl fr_rf hF19), z19, rfl, rfl, in_w 0 31 i19 rfl, n22, n22a⟩)
        · skip
          exact zn_eq c10 (in_c 1 rfl) rfl
  · skip
    have i1x5 := r_eq1 (-1) (-1) c1x5 ro_0_2 (in_c (-1) rfl) rfl
    refine g_aload_n 9 (gd rfl) rfl rfl ?_
    refine g_getA (q2 := 1) 12 (gd rfl) rfl rfl rfl rfl ?_
    refine g_getA (q2 := 2) 15 (gd rfl) rfl rfl rfl rfl ?_
    refine g_goto 22 (gd rfl) rfl ?_
    refine g_areturn (gd rfl) rfl (hp1 _ _ ?_)
    show GG _ _ _ _ _ _ _ _ [.ref (A 2)] _ _ _
    refine g_astore_n 5 (gd rfl) rfl (Nat.le_of_ble_eq_true rfl) ?_
    refine g_aload_n 6 (gd rfl) rfl rfl ?_
    refine g_iload_n 7 (gd rfl) rfl rfl ?_
    refine g_callv (X := _) (As := [.int x1]) (r := []) (b := A 2) (q := 2) 10 (gd rfl) rfl rfl rfl rfl rfl (ww_o rfl) (Nat.le_of_ble_eq_true rfl) (mc := 0) (ms := 0) (Nat.zero_le _) (Nat.zero_le _) (P := fun v u => _) ?_ (fun e u h => h) (fun v u h => h)
    intro po7 xx7 hp7 hx7
    refine g_enter2 (k := 94) (N := 300) (by first | exact dq1 hd rfl | exact dq0 hd rfl | exact dq2 hd rfl | exact dq3 hd rfl | omega) rfl (Nat.le_of_ble_eq_true rfl) ?_
    refine g_iload_n 1 (gd rfl) rfl rfl ?_
    refine g_if_lt 4 16 (gd rfl) rfl rfl (fun c7x1 => ?_) (fun c7x1 => ?_)
    · skip
      have i7x1 := z_lt (-2147483648) (-1) c7x1 (i_rng x1) rfl
      refine g_iconst 0 17 (gd rfl) rfl rfl ?_
      refine g_ireturn (gd rfl) rfl (nb01 (in_w 0 1 (in_c 0 rfl) rfl)) (hp7 _ _ ?_)
      show GG _ _ _ _ _ _ _ _ [.int (Int32.ofInt 0)] _ _ _
      refine g_thr (E := am_IA) (y := yX11_allow) 13 (gd rfl) rfl rfl (Or.inl ⟨rfl, rfl, rfl⟩) (by first | exact dq1 hd rfl | exact dq0 hd rfl | exact dq2 hd rfl | exact dq3 hd rfl | omega) (Nat.le_of_ble_eq_true rfl) (Nat.le_of_ble_eq_true rfl) (Nat.le_of_ble_eq_true rfl) (fun c10 => ?_) (fun c10 => ?_)
      · skip
        exact zn_ne c10 (in_c 0 rfl) rfl
      · skip
        have n10 : ¬ (0 ≤ x1.toInt ∧ x1.toInt < (shC s).2.2.2.2.2.2.1) := by first | (rw [shC_n (by rw [← e1x1]; exact c1x5)]; show ¬ (0 ≤ x1.toInt ∧ x1.toInt < (s.2.2.1 2 1).toInt); rw [← e_2_1]; (first | have a0 := oa6 ro_32_1 ro_32_0 ro_2_1 ro_2_0 i1x5 i7x1 | ((first | have a0 := in_u ro_32_1 | (have a0 := ro_32_1; unfold In at a0)); (first | have a1 := in_u ro_32_0 | (have a1 := ro_32_0; unfold In at a1)); (first | have a2 := in_u ro_2_1 | (have a2 := ro_2_1; unfold In at a2)); (first | have a3 := in_u ro_2_0 | (have a3 := ro_2_0; unfold In at a3)); (first | have a4 := in_u i1x5 | (have a4 := i1x5; unfold In at a4)); (first | have a5 := in_u i7x1 | (have a5 := i7x1; unfold In at a5)))); have oc := oc_240_0; omega) | (rw [shC_d (by rw [← e1x1]; exact c1x5)]; show ¬ (0 ≤ x1.toInt ∧ x1.toInt < (s.2.2.1 32 1).toInt); rw [← e_32_1]; (first | have a0 := oa6 ro_32_1 ro_32_0 ro_2_1 ro_2_0 i1x5 i7x1 | ((first | have a0 := in_u ro_32_1 | (have a0 := ro_32_1; unfold In at a0)); (first | have a1 := in_u ro_32_0 | (have a1 := ro_32_0; unfold In at a1)); (first | have a2 := in_u ro_2_1 | (have a2 := ro_2_1; unfold In at a2)); (first | have a3 := in_u ro_2_0 | (have a3 := ro_2_0; unfold In at a3)); (first | have a4 := in_u i1x5 | (have a4 := i1x5; unfold In at a4)); (first | have a5 := in_u i7x1 | (have a5 := i7x1; unfold In at a5)))); have oc := oc_240_0; omega)
        exact (hX _ _ ⟨Or.inl ⟨rfl, n10⟩, s, hI, fr_rf, rfl⟩)
    · skip
      have i7x1 := z_ge 0 2147483647 c7x1 (i_rng x1) rfl
      refine g_iload_n 5 (gd rfl) rfl rfl ?_
      refine g_aload_n 6 (gd rfl) rfl rfl ?_
      refine g_getI 9 (gd rfl) rfl rfl rfl (fun z7x6 e7x6 => ?_)
      have q7x6 : u_2_1 = z7x6 := (e_2_1).trans e7x6.symm
      subst q7x6
      refine g_cmp_ge 12 16 (gd rfl) rfl rfl (fun c7x9 => ?_) (fun c7x9 => ?_)
      · skip
        refine g_iconst 0 17 (gd rfl) rfl rfl ?_
        refine g_ireturn (gd rfl) rfl (nb01 (in_w 0 1 (in_c 0 rfl) rfl)) (hp7 _ _ ?_)
        show GG _ _ _ _ _ _ _ _ [.int (Int32.ofInt 0)] _ _ _
        refine g_thr (E := am_IA) (y := yX11_allow) 13 (gd rfl) rfl rfl (Or.inl ⟨rfl, rfl, rfl⟩) (by first | exact dq1 hd rfl | exact dq0 hd rfl | exact dq2 hd rfl | exact dq3 hd rfl | omega) (Nat.le_of_ble_eq_true rfl) (Nat.le_of_ble_eq_true rfl) (Nat.le_of_ble_eq_true rfl) (fun c10 => ?_) (fun c10 => ?_)
        · skip
          exact zn_ne c10 (in_c 0 rfl) rfl
        · skip
          have n10 : ¬ (0 ≤ x1.toInt ∧ x1.toInt < (shC s).2.2.2.2.2.2.1) := by first | (rw [shC_n (by rw [← e1x1]; exact c1x5)]; show ¬ (0 ≤ x1.toInt ∧ x1.toInt < (s.2.2.1 2 1).toInt); rw [← e_2_1]; (first | have a0 := oa6 ro_32_1 ro_32_0 ro_2_1 ro_2_0 i1x5 i7x1 | ((first | have a0 := in_u ro_32_1 | (have a0 := ro_32_1; unfold In at a0)); (first | have a1 := in_u ro_32_0 | (have a1 := ro_32_0; unfold In at a1)); (first | have a2 := in_u ro_2_1 | (have a2 := ro_2_1; unfold In at a2)); (first | have a3 := in_u ro_2_0 | (have a3 := ro_2_0; unfold In at a3)); (first | have a4 := in_u i1x5 | (have a4 := i1x5; unfold In at a4)); (first | have a5 := in_u i7x1 | (have a5 := i7x1; unfold In at a5)))); have oc := oc_240_0; omega) | (rw [shC_d (by rw [← e1x1]; exact c1x5)]; show ¬ (0 ≤ x1.toInt ∧ x1.toInt < (s.2.2.1 32 1).toInt); rw [← e_32_1]; (first | have a0 := oa6 ro_32_1 ro_32_0 ro_2_1 ro_2_0 i1x5 i7x1 | ((first | have a0 := in_u ro_32_1 | (have a0 := ro_32_1; unfold In at a0)); (first | have a1 := in_u ro_32_0 | (have a1 := ro_32_0; unfold In at a1)); (first | have a2 := in_u ro_2_1 | (have a2 := ro_2_1; unfold In at a2)); (first | have a3 := in_u ro_2_0 | (have a3 := ro_2_0; unfold In at a3)); (first | have a4 := in_u i1x5 | (have a4 := i1x5; unfold In at a4)); (first | have a5 := in_u i7x1 | (have a5 := i7x1; unfold In at a5)))); have oc := oc_240_0; omega)
          exact (hX _ _ ⟨Or.inl ⟨rfl, n10⟩, s, hI, fr_rf, rfl⟩)
      · skip
        have i7x9 := r_lt1 0 31 c7x9 i7x1 ro_2_1 rfl
        have i7x9a := r_lt2 1 32 c7x9 i7x1 ro_2_1 rfl
        refine g_iconst 1 13 (gd rfl) rfl rfl ?_
        refine g_goto 17 (gd rfl) rfl ?_
        refine g_ireturn (gd rfl) rfl (nb01 (in_w 0 1 (in_c 1 rfl) rfl)) (hp7 _ _ ?_)
        show GG _ _ _ _ _ _ _ _ [.int (Int32.ofInt 1)] _ _ _
        refine g_thr (E := am_IA) (y := yX11_allow) 13 (gd rfl) rfl rfl (Or.inl ⟨rfl, rfl, rfl⟩) (by first | exact dq1 hd rfl | exact dq0 hd rfl | exact dq2 hd rfl | exact dq3 hd rfl | omega) (Nat.le_of_ble_eq_true rfl) (Nat.le_of_ble_eq_true rfl) (Nat.le_of_ble_eq_true rfl) (fun c10 => ?_) (fun c10 => ?_)
        · skip
          refine g_aload_n 14 (gd rfl) rfl rfl ?_
          refine g_getA (q2 := 60) 17 (gd rfl) rfl rfl rfl rfl ?_
          refine g_aload_n 18 (gd rfl) rfl rfl ?_
          refine g_iload_n 19 (gd rfl) rfl rfl ?_
          have p19 : TQ s := by first | exact q_0 | exact q_1
          have p19a : CQB (gvC s) s := by first | (rw [← shC_n (by rw [← e1x1]; exact c1x5)]; exact q_2.1) | (rw [← shC_d (by rw [← e1x1]; exact c1x5)]; exact q_2.1)
          have p19b : COB (gvC s) s := by first | (rw [← shC_n (by rw [← e1x1]; exact c1x5)]; exact q_2.2) | (rw [← shC_d (by rw [← e1x1]; exact c1x5)]; exact q_2.2)
          refine g_callv (X := _) (As := [.ref (A 2), .int x1]) (r := []) (b := A 60) (q := 60) 22 (gd rfl) rfl rfl rfl rfl rfl (ww_o rfl) (Nat.le_of_ble_eq_true rfl) (Nat.zero_le _) (Nat.zero_le _) (f_43_60_2 (by first | exact dq1 hd rfl | exact dq0 hd rfl | exact dq2 hd rfl | exact dq3 hd rfl | omega) hI (in_w 0 31 i7x9 rfl) p19 p19a p19b) (fun e u h => h) (fun v u h => ?_)
          obtain ⟨s19, hI19, hF19, z19, rfl, rfl, i19, p19c, p19d, p19e⟩ := h
          show GG _ _ _ _ _ _ _ _ [.int z19] _ _ _
          have n22 : (0 ≤ x1.toInt ∧ x1.toInt < (shC s).2.2.2.2.2.2.1) ∧ COL (shC s) x1.toNatClampNeg (z19).toInt := by first | (rw [shC_n (by rw [← e1x1]; exact c1x5)]; have h7 : 0 ≤ x1.toInt ∧ x1.toInt < (s.2.2.1 2 1).toInt := (by rw [← e_2_1]; (first | have a0 := oa6 i7x9 ro_32_1 ro_32_0 i7x9a ro_2_0 i1x5 | ((first | have a0 := in_u i7x9 | (have a0 := i7x9; unfold In at a0)); (first | have a1 := in_u ro_32_1 | (have a1 := ro_32_1; unfold In at a1)); (first | have a2 := in_u ro_32_0 | (have a2 := ro_32_0; unfold In at a2)); (first | have a3 := in_u i7x9a | (have a3 := i7x9a; unfold In at a3)); (first | have a4 := in_u ro_2_0 | (have a4 := ro_2_0; unfold In at a4)); (first | have a5 := in_u i1x5 | (have a5 := i1x5; unfold In at a5)))); have oc := oc_240_0; omega); exact ⟨h7, by rw [p19e]; exact p19d.2 _ (by show ((x1.toInt.toNat : Nat) : Int) < (s.2.2.1 2 1).toInt; omega)⟩) | (rw [shC_d (by rw [← e1x1]; exact c1x5)]; have h7 : 0 ≤ x1.toInt ∧ x1.toInt < (s.2.2.1 32 1).toInt := (by rw [← e_32_1]; (first | have a0 := oa6 i7x9 ro_32_1 ro_32_0 i7x9a ro_2_0 i1x5 | ((first | have a0 := in_u i7x9 | (have a0 := i7x9; unfold In at a0)); (first | have a1 := in_u ro_32_1 | (have a1 := ro_32_1; unfold In at a1)); (first | have a2 := in_u ro_32_0 | (have a2 := ro_32_0; unfold In at a2)); (first | have a3 := in_u i7x9a | (have a3 := i7x9a; unfold In at a3)); (first | have a4 := in_u ro_2_0 | (have a4 := ro_2_0; unfold In at a4)); (first | have a5 := in_u i1x5 | (have a5 := i1x5; unfold In at a5)))); have oc := oc_240_0; omega); exact ⟨h7, by rw [p19e]; exact p19d.2 _ (by show ((x1.toInt.toNat : Nat) : Int) < (s.2.2.1 32 1).toInt; omega)⟩)
          have n22a : KCG (shC s) s s19 := by first | (rw [shC_n (by rw [← e1x1]; exact c1x5)]; exact ⟨p19c, p19d⟩) | (rw [shC_d (by rw [← e1x1]; exact c1x5)]; exact ⟨p19c, p19d⟩)
          exact g_ireturn (gd rfl) rfl rfl (hP _ _ ⟨s19, hI19, (fr_tr rfl fr_rf hF19), z19, rfl, rfl, in_w 0 31 i19 rfl, n22, n22a⟩)
        · skip
          exact zn_eq c10 (in_c 1 rfl) rfl

theorem oc_337_109 : (Int32.ofInt (-1)).toInt = (-1) ∧ (Int32.ofInt 0).toInt = 0 ∧ (Int32.ofInt 1).toInt = 1 ∧ (Int32.ofInt 32).toInt = 32 := ⟨rfl, rfl, rfl, rfl⟩
set_option maxHeartbeats 4000000 in
/-- GraphHouseModel.findClique -/
theorem f_337 {Z : AmZ} {A : Nat → Nat} {s : GS} {ex : va_W} {d : Nat} {X : AmX}  (hd : 4 ≤ d) (hI : Inv s)  : GC Z d 337 [.ref (A 109)] (WW Z A s ++ ex) 0 0 (fun v u => ∃ t : GS, Inv t ∧ Fr fm_337 s t ∧ ∃ z : Int32, v = some (.int z) ∧ u = WW Z A t ++ ex ∧ In z (-2147483648) 2147483647 ∧ (BSD t) ∧ (CLG (gvZ s) z) ∧ (BFR (gvZ s) (s.2.2.1 109 20).toInt ((t).1 138))) X := by
  intro post xp hP hX
  obtain ⟨u_109_20, e_109_20⟩ : ∃ w, w = s.2.2.1 109 20 := ⟨_, rfl⟩
  have ro_109_20 := inv_F hI 0 32 rfl e_109_20
  have ct44 : ∀ (k44 : Nat) (sc44 : GS) (y44_1 : Int32) (y44_2 : Int32) (y44_3 : Int32), Inv sc44 → Fr fm_337 s sc44 → (In y44_2 0 32) → (In y44_3 (-1) 32) → (∀ d : Nat, (d : Int) ≤ (y44_3).toInt → cb (sc44.1 140 d) + d ≤ 32) → (BSD sc44) → (RCQ2 ((sc44).1 138) (s.2.2.1 109 20).toInt ((sc44).1 140) ((sc44).1 139) (y44_3).toInt (y44_1) (y44_2).toInt) → (BFR (gvZ s) (s.2.2.1 109 20).toInt ((sc44).1 138)) → sW (sc44.1 140) ((y44_3).toInt + 1).toNat < k44 → GG Z (d - 1) 337 post (gx xp) (1 + k44 * 900) 44 (fun j => xlook j [(0, .ref (A 109)), (1, .int y44_1), (2, .int y44_2), (3, .int y44_3)]) [] (WW Z A sc44 ++ ex) 0 0 := by
    intro k44
    induction k44 with
    | zero => intro sc44 y44_1 y44_2 y44_3 hIc44 hFc44 j44_2 j44_3 g44_0 g44_1 g44_2 g44_3 mm44; exact absurd mm44 (Nat.not_lt_zero _)
    | succ k44 ih44 =>
      intro sc44 y44_1 y44_2 y44_3 hIc44 hFc44 j44_2 j44_3 g44_0 g44_1 g44_2 g44_3 mm44
      refine gg_w (M := 1 + k44 * 900 + 900) gws ?_
      refine g_iload_n 45 (gd rfl) rfl rfl ?_
      refine g_if_lt 48 165 (gd rfl) rfl rfl (fun c45 => ?_) (fun c45 => ?_)
      · skip
        have i45 := z_lt (-1) (-1) c45 j44_3 rfl
        refine g_iload_n 166 (gd rfl) rfl rfl ?_
        have n166 : BSD sc44 := by exact g44_1
        have n166a : CLG (gvZ s) y44_1 := by exact ⟨_, by rw [gvz_n hI]; exact g44_3, by rw [gvz_n hI]; exact rcq_e g44_2 (by (first | have a0 := oa3 ro_109_20 i45 j44_2 | ((first | have a0 := in_u ro_109_20 | (have a0 := ro_109_20; unfold In at a0)); (first | have a1 := in_u i45 | (have a1 := i45; unfold In at a1)); (first | have a2 := in_u j44_2 | (have a2 := j44_2; unfold In at a2)))); have oc := oc_337_109; omega)⟩
        have n166b : BFR (gvZ s) (s.2.2.1 109 20).toInt ((sc44).1 138) := by exact g44_3
        exact g_ireturn (gd rfl) rfl rfl (hP _ _ ⟨sc44, hIc44, hFc44, y44_1, rfl, rfl, in_w (-2147483648) 2147483647 (i_rng y44_1) rfl, n166, n166a, n166b⟩)
      · skip
        have i45 := z_ge 0 32 c45 j44_3 rfl
        refine g_iload_n 49 (gd rfl) rfl rfl ?_
        refine g_iload_n 50 (gd rfl) rfl rfl ?_
        refine g_cmp_le 53 62 (gd rfl) rfl rfl (fun c50 => ?_) (fun c50 => ?_)
        · skip
          refine g_aload_n 63 (gd rfl) rfl rfl ?_
          refine g_getA (q2 := 140) 66 (gd rfl) rfl rfl rfl rfl ?_
          refine g_iload_n 67 (gd rfl) rfl rfl ?_
          refine g_iaload 68 (gd rfl) rfl (n := 33) rfl (in_ix i45 rfl) (fun z67 e67 => ?_)
          refine g_if_eq 71 86 (gd rfl) rfl rfl (fun c68 => ?_) (fun c68 => ?_)
          · skip
            have i68 := z_eq 0 0 c68 (i_rng z67) rfl
            refine g_iinc 89 (gd rfl) rfl rfl (Nat.le_of_ble_eq_true rfl) (fun z86 e86 => ?_)
            have i86 := in_add (-1) 31 e86 i45 (in_c (-1) rfl) rfl rfl
            refine g_goto 44 (gd rfl) rfl ?_
            have n44 : ∀ d : Nat, (d : Int) ≤ (z86).toInt → cb (sc44.1 140 d) + d ≤ 32 := by first | exact fun d hd => g44_0 d (by (first | have a0 := oa4 ro_109_20 i45 j44_2 i86 | ((first | have a0 := in_u ro_109_20 | (have a0 := ro_109_20; unfold In at a0)); (first | have a1 := in_u i45 | (have a1 := i45; unfold In at a1)); (first | have a2 := in_u j44_2 | (have a2 := j44_2; unfold In at a2)); (first | have a3 := in_u i86 | (have a3 := i86; unfold In at a3)))); have a4 := t_add e86 i45 (in_c (-1) rfl) rfl; (first | have a5 := in_u ((in_c (-1) rfl)) | (have a5 := (in_c (-1) rfl); unfold In at a5)); have oc := oc_337_109; omega) | (have hS : (sc44).1 140 = upd (upd (sc44.1 140) y44_3.toNatClampNeg z116) z124.toNatClampNeg z138 := (by simp [sI]); rw [hS]; exact (fc_push (w := z159) i92 g44_0 e67 (t_add e124 i92 (in_c 1 rfl) rfl) (t_add e159 i92 (in_c 1 rfl) rfl) (cb_clr e113 e115 e116 i98 hb98) (cb_and_le e138)).1) | (intro d hd; have h0 : (Int32.ofInt 0).toInt = 0 := rfl; have hc := cb_le (sc44.1 140 d); omega)
            have n44a : BSD sc44 := by first | exact g44_1 | (unfold BSD; simp only [sI_p (show Nat.beq 138 139 = false from rfl), sI_p (show Nat.beq 138 140 = false from rfl)]; exact g44_1)
            have n44b : RCQ2 ((sc44).1 138) (s.2.2.1 109 20).toInt ((sc44).1 140) ((sc44).1 139) (z86).toInt (y44_1) (y44_2).toInt := by exact rcq_pop (D := (y44_3).toNatClampNeg) g44_2 ((clx (show 0 ≤ (y44_3).toInt from (by (first | have a0 := oa4 ro_109_20 i45 j44_2 i86 | ((first | have a0 := in_u ro_109_20 | (have a0 := ro_109_20; unfold In at a0)); (first | have a1 := in_u i45 | (have a1 := i45; unfold In at a1)); (first | have a2 := in_u j44_2 | (have a2 := j44_2; unfold In at a2)); (first | have a3 := in_u i86 | (have a3 := i86; unfold In at a3)))); have a4 := t_add e86 i45 (in_c (-1) rfl) rfl; (first | have a5 := in_u ((in_c (-1) rfl)) | (have a5 := (in_c (-1) rfl); unfold In at a5)); have oc := oc_337_109; omega))).symm) (by (first | have a0 := oa4 ro_109_20 i45 j44_2 i86 | ((first | have a0 := in_u ro_109_20 | (have a0 := ro_109_20; unfold In at a0)); (first | have a1 := in_u i45 | (have a1 := i45; unfold In at a1)); (first | have a2 := in_u j44_2 | (have a2 := j44_2; unfold In at a2)); (first | have a3 := in_u i86 | (have a3 := i86; unfold In at a3)))); have a4 := t_add e86 i45 (in_c (-1) rfl) rfl; (first | have a5 := in_u ((in_c (-1) rfl)) | (have a5 := (in_c (-1) rfl); unfold In at a5)); have oc := oc_337_109; omega) (by (first | have a0 := oa4 ro_109_20 i45 j44_2 i86 | ((first | have a0 := in_u ro_109_20 | (have a0 := ro_109_20; unfold In at a0)); (first | have a1 := in_u i45 | (have a1 := i45; unfold In at a1)); (first | have a2 := in_u j44_2 | (have a2 := j44_2; unfold In at a2)); (first | have a3 := in_u i86 | (have a3 := i86; unfold In at a3)))); have a4 := t_add e86 i45 (in_c (-1) rfl) rfl; (first | have a5 := in_u ((in_c (-1) rfl)) | (have a5 := (in_c (-1) rfl); unfold In at a5)); have oc := oc_337_109; omega) (Or.inl (by rw [← e67]; exact c68))
            have n44c : BFR (gvZ s) (s.2.2.1 109 20).toInt ((sc44).1 138) := by exact g44_3
            have m44 : sW (sc44.1 140) ((z86).toInt + 1).toNat < k44 := by first | (have hS : (sc44).1 140 = upd (upd (sc44.1 140) y44_3.toNatClampNeg z116) z124.toNatClampNeg z138 := (by simp [sI]); rw [hS]; have h := (fc_push (w := z159) i92 g44_0 e67 (t_add e124 i92 (in_c 1 rfl) rfl) (t_add e159 i92 (in_c 1 rfl) rfl) (cb_clr e113 e115 e116 i98 hb98) (cb_and_le e138)).2; omega) | (have hp := sW_pop (sc44.1 140) ((z86).toInt + 1).toNat; have he : (y44_3.toInt + 1).toNat = ((z86).toInt + 1).toNat + 1 := (by (first | have a0 := oa4 ro_109_20 i45 j44_2 i86 | ((first | have a0 := in_u ro_109_20 | (have a0 := ro_109_20; unfold In at a0)); (first | have a1 := in_u i45 | (have a1 := i45; unfold In at a1)); (first | have a2 := in_u j44_2 | (have a2 := j44_2; unfold In at a2)); (first | have a3 := in_u i86 | (have a3 := i86; unfold In at a3)))); have a4 := t_add e86 i45 (in_c (-1) rfl) rfl; (first | have a5 := in_u ((in_c (-1) rfl)) | (have a5 := (in_c (-1) rfl); unfold In at a5)); have oc := oc_337_109; omega); have hm := mm44; rw [he] at hm; omega)
            exact gg_w (by first | exact Nat.le_add_right _ _ | exact gw2 | exact gw3 | exact gwe rfl | exact gwf rfl | exact gwg rfl | exact gwh rfl | omega) (gg_f (gf_cons rfl (gf_cons rfl (gf_cons rfl (gf_cons rfl gf_nil)))) (ih44  sc44 y44_1 y44_2 z86 hIc44 hFc44 (in_w 0 32 j44_2 rfl) (in_w (-1) 32 i86 rfl) n44 n44a n44b n44c m44))
          · skip
            refine g_iload_n 72 (gd rfl) rfl rfl ?_
            refine g_aload_n 73 (gd rfl) rfl rfl ?_
            refine g_getA (q2 := 140) 76 (gd rfl) rfl rfl rfl rfl ?_
            refine g_iload_n 77 (gd rfl) rfl rfl ?_
            refine g_iaload 78 (gd rfl) rfl (n := 33) rfl (in_ix i45 rfl) (fun z77 e77 => ?_)
            have q77 : z67 = z77 := (e67).trans e77.symm
            subst q77
            refine g_calls (As := [.int z67]) (r := [.int y44_3]) 81 (gd rfl) rfl rfl rfl rfl rfl (Nat.le_of_ble_eq_true rfl) (Nat.zero_le _) (Nat.zero_le _) (k_336 (by first | exact dq1 hd rfl | exact dq0 hd rfl | exact dq2 hd rfl | exact dq3 hd rfl | omega) hIc44 ) (fun v u h => ?_)
            obtain ⟨z78, rfl, rfl, i78, p78⟩ := h
            show GG _ _ _ _ _ _ _ _ [.int z78, .int y44_3] _ _ _
            refine g_iadd 82 (gd rfl) rfl (fun z81 e81 => ?_)
            have i81 := in_add 0 64 e81 i45 i78 rfl rfl
            refine g_iload_n 83 (gd rfl) rfl rfl ?_
            refine g_cmp_gt 86 92 (gd rfl) rfl rfl (fun c83 => ?_) (fun c83 => ?_)
            · skip
              have i83 := r_lt2 1 64 c83 j44_2 i81 rfl
              have i92 : In y44_3 0 31 := by exact fc_ix (in_w 0 32 i45 rfl) g44_0 e67 c68
              refine g_aload_n 93 (gd rfl) rfl rfl ?_
              refine g_getA (q2 := 140) 96 (gd rfl) rfl rfl rfl rfl ?_
              refine g_iload_n 97 (gd rfl) rfl rfl ?_
              refine g_iaload 98 (gd rfl) rfl (n := 33) rfl (in_ix i92 rfl) (fun z97 e97 => ?_)
              have q97 : z67 = z97 := (e67).trans e97.symm
              subst q97
              refine g_calls (As := [.int z67]) (r := []) 101 (gd rfl) rfl rfl rfl rfl rfl (Nat.le_of_ble_eq_true rfl) (Nat.zero_le _) (Nat.zero_le _) (k_327m (by first | exact dq1 hd rfl | exact dq0 hd rfl | exact dq2 hd rfl | exact dq3 hd rfl | omega) c68) (fun v u h => ?_)
              obtain ⟨z98, rfl, rfl, i98, hb98, hl98⟩ := h
              show GG _ _ _ _ _ _ _ _ [.int z98] _ _ _
              refine g_istore 103 (gd rfl) rfl (Nat.le_of_ble_eq_true rfl) ?_
              refine g_aload_n 104 (gd rfl) rfl rfl ?_
              refine g_getA (q2 := 140) 107 (gd rfl) rfl rfl rfl rfl ?_
              refine g_iload_n 108 (gd rfl) rfl rfl ?_
              refine g_dup2 109 (gd rfl) rfl rfl rfl ?_
              refine g_iaload 110 (gd rfl) rfl (n := 33) rfl (in_ix i92 rfl) (fun z109 e109 => ?_)
              have q109 : z67 = z109 := (e67).trans e109.symm
              subst q109
              refine g_iconst 1 111 (gd rfl) rfl rfl ?_
              refine g_iload 113 (gd rfl) rfl rfl ?_
              refine g_ishl 114 (gd rfl) rfl (fun z113 e113 => ?_)
              refine g_iconst (-1) 115 (gd rfl) rfl rfl ?_
              refine g_ixor 116 (gd rfl) rfl (fun z115 e115 => ?_)
              refine g_iand 117 (gd rfl) rfl (fun z116 e116 => ?_)
              refine g_iastore 118 (gd rfl) rfl (n := 33) rfl (in_ix i92 rfl) ?_
              have hI117 := inv_sI (q := 140) (j := y44_3.toNatClampNeg) hIc44 rfl (in_w (-2147483648) 2147483647 (i_rng z116) rfl)
              refine g_aload_n 119 (gd rfl) rfl rfl ?_
              refine g_getA (q2 := 140) 122 (gd rfl) rfl rfl rfl rfl ?_
              refine g_iload_n 123 (gd rfl) rfl rfl ?_
              refine g_iconst 1 124 (gd rfl) rfl rfl ?_
              refine g_iadd 125 (gd rfl) rfl (fun z124 e124 => ?_)
              have i124 := in_add 1 32 e124 i92 (in_c 1 rfl) rfl rfl
              refine g_aload_n 126 (gd rfl) rfl rfl ?_
              refine g_getA (q2 := 140) 129 (gd rfl) rfl rfl rfl rfl ?_
              refine g_iload_n 130 (gd rfl) rfl rfl ?_
              refine g_iaload 131 (gd rfl) rfl (n := 33) rfl (in_ix i92 rfl) (fun z130 e130 => ?_)
              have q130 : z116 = z130 := (sI_get).trans e130.symm
              subst q130
              refine g_aload_n 132 (gd rfl) rfl rfl ?_
              refine g_getA (q2 := 138) 135 (gd rfl) rfl rfl rfl rfl ?_
              refine g_iload 137 (gd rfl) rfl rfl ?_
              refine g_iaload 138 (gd rfl) rfl (n := 32) rfl (in_ix i98 rfl) (fun z137 e137 => ?_)
              refine g_iand 139 (gd rfl) rfl (fun z138 e138 => ?_)
              refine g_iastore 140 (gd rfl) rfl (n := 33) rfl (in_ix i124 rfl) ?_
              have hI139 := inv_sI (q := 140) (j := z124.toNatClampNeg) hI117 rfl (in_w (-2147483648) 2147483647 (i_rng z138) rfl)
              refine g_aload_n 141 (gd rfl) rfl rfl ?_
              refine g_getA (q2 := 139) 144 (gd rfl) rfl rfl rfl rfl ?_
              refine g_iload_n 145 (gd rfl) rfl rfl ?_
              refine g_iconst 1 146 (gd rfl) rfl rfl ?_
              refine g_iadd 147 (gd rfl) rfl (fun z146 e146 => ?_)
              have i146 := in_add 1 32 e146 i92 (in_c 1 rfl) rfl rfl
              refine g_aload_n 148 (gd rfl) rfl rfl ?_
              refine g_getA (q2 := 139) 151 (gd rfl) rfl rfl rfl rfl ?_
              refine g_iload_n 152 (gd rfl) rfl rfl ?_
              refine g_iaload 153 (gd rfl) rfl (n := 33) rfl (in_ix i92 rfl) (fun z152 e152 => ?_)
              refine g_iconst 1 154 (gd rfl) rfl rfl ?_
              refine g_iload 156 (gd rfl) rfl rfl ?_
              refine g_ishl 157 (gd rfl) rfl (fun z156 e156 => ?_)
              refine g_ior 158 (gd rfl) rfl (fun z157 e157 => ?_)
              refine g_iastore 159 (gd rfl) rfl (n := 33) rfl (in_ix i146 rfl) ?_
              have hI158 := inv_sI (q := 139) (j := z146.toNatClampNeg) hI139 rfl (in_w (-2147483648) 2147483647 (i_rng z157) rfl)
              refine g_iinc 162 (gd rfl) rfl rfl (Nat.le_of_ble_eq_true rfl) (fun z159 e159 => ?_)
              have i159 := in_add 1 32 e159 i92 (in_c 1 rfl) rfl rfl
              refine g_goto 44 (gd rfl) rfl ?_
              have n44 : ∀ d : Nat, (d : Int) ≤ (z159).toInt → cb ((sI (sI (sI sc44 140 y44_3.toNatClampNeg z116) 140 z124.toNatClampNeg z138) 139 z146.toNatClampNeg z157).1 140 d) + d ≤ 32 := by first | exact fun d hd => g44_0 d (by (first | have a0 := oa5 ro_109_20 i92 j44_2 i98 i159 | ((first | have a0 := in_u ro_109_20 | (have a0 := ro_109_20; unfold In at a0)); (first | have a1 := in_u i92 | (have a1 := i92; unfold In at a1)); (first | have a2 := in_u j44_2 | (have a2 := j44_2; unfold In at a2)); (first | have a3 := in_u i98 | (have a3 := i98; unfold In at a3)); (first | have a4 := in_u i159 | (have a4 := i159; unfold In at a4)))); have a5 := t_add e159 i92 (in_c 1 rfl) rfl; (first | have a6 := oa2 ((in_c 1 rfl)) i146 | ((first | have a6 := in_u ((in_c 1 rfl)) | (have a6 := (in_c 1 rfl); unfold In at a6)); (first | have a7 := in_u i146 | (have a7 := i146; unfold In at a7)))); have a8 := t_add e146 i92 (in_c 1 rfl) rfl; (first | have a9 := in_u i124 | (have a9 := i124; unfold In at a9)); have a10 := t_add e124 i92 (in_c 1 rfl) rfl; (first | have a11 := in_u i83 | (have a11 := i83; unfold In at a11)); have a12 := t_add e81 i45 i78 rfl; (first | have a13 := in_u i78 | (have a13 := i78; unfold In at a13)); have oc := oc_337_109; omega) | (have hS : ((sI (sI (sI sc44 140 y44_3.toNatClampNeg z116) 140 z124.toNatClampNeg z138) 139 z146.toNatClampNeg z157)).1 140 = upd (upd (sc44.1 140) y44_3.toNatClampNeg z116) z124.toNatClampNeg z138 := (by simp [sI]); rw [hS]; exact (fc_push (w := z159) i92 g44_0 e67 (t_add e124 i92 (in_c 1 rfl) rfl) (t_add e159 i92 (in_c 1 rfl) rfl) (cb_clr e113 e115 e116 i98 hb98) (cb_and_le e138)).1) | (intro d hd; have h0 : (Int32.ofInt 0).toInt = 0 := rfl; have hc := cb_le ((sI (sI (sI sc44 140 y44_3.toNatClampNeg z116) 140 z124.toNatClampNeg z138) 139 z146.toNatClampNeg z157).1 140 d); omega)
              have n44a : BSD (sI (sI (sI sc44 140 y44_3.toNatClampNeg z116) 140 z124.toNatClampNeg z138) 139 z146.toNatClampNeg z157) := by first | exact g44_1 | (unfold BSD; simp only [sI_p (show Nat.beq 138 139 = false from rfl), sI_p (show Nat.beq 138 140 = false from rfl)]; exact g44_1)
              have n44b : RCQ2 (((sI (sI (sI sc44 140 y44_3.toNatClampNeg z116) 140 z124.toNatClampNeg z138) 139 z146.toNatClampNeg z157)).1 138) (s.2.2.1 109 20).toInt (((sI (sI (sI sc44 140 y44_3.toNatClampNeg z116) 140 z124.toNatClampNeg z138) 139 z146.toNatClampNeg z157)).1 140) (((sI (sI (sI sc44 140 y44_3.toNatClampNeg z116) 140 z124.toNatClampNeg z138) 139 z146.toNatClampNeg z157)).1 139) (z159).toInt (y44_1) (y44_2).toInt := by simp only [sI_p (show Nat.beq 138 139 = false from rfl), sI_p (show Nat.beq 138 140 = false from rfl), sI_p (show Nat.beq 140 139 = false from rfl), sI_p (show Nat.beq 139 140 = false from rfl), sI_q]; exact rcq_w g44_2 (bfr_sy hI g44_3) i92 (t_add e124 i92 (in_c 1 rfl) rfl) (t_add e146 i92 (in_c 1 rfl) rfl) (t_add e159 i92 (in_c 1 rfl) rfl) e67 hb98 hl98 i98 e113 e115 e116 (show z137 = sc44.1 138 _ from (by rw [e137, sI_p (show Nat.beq 138 140 = false from rfl)])) e138 (show z152 = sc44.1 139 _ from (by rw [e152, sI_p (show Nat.beq 139 140 = false from rfl), sI_p (show Nat.beq 139 140 = false from rfl)])) e156 e157
              have n44c : BFR (gvZ s) (s.2.2.1 109 20).toInt (((sI (sI (sI sc44 140 y44_3.toNatClampNeg z116) 140 z124.toNatClampNeg z138) 139 z146.toNatClampNeg z157)).1 138) := by simp only [sI_p (show Nat.beq 138 139 = false from rfl), sI_p (show Nat.beq 138 140 = false from rfl)]; exact g44_3
              have m44 : sW ((sI (sI (sI sc44 140 y44_3.toNatClampNeg z116) 140 z124.toNatClampNeg z138) 139 z146.toNatClampNeg z157).1 140) ((z159).toInt + 1).toNat < k44 := by first | (have hS : ((sI (sI (sI sc44 140 y44_3.toNatClampNeg z116) 140 z124.toNatClampNeg z138) 139 z146.toNatClampNeg z157)).1 140 = upd (upd (sc44.1 140) y44_3.toNatClampNeg z116) z124.toNatClampNeg z138 := (by simp [sI]); rw [hS]; have h := (fc_push (w := z159) i92 g44_0 e67 (t_add e124 i92 (in_c 1 rfl) rfl) (t_add e159 i92 (in_c 1 rfl) rfl) (cb_clr e113 e115 e116 i98 hb98) (cb_and_le e138)).2; omega) | (have hp := sW_pop ((sI (sI (sI sc44 140 y44_3.toNatClampNeg z116) 140 z124.toNatClampNeg z138) 139 z146.toNatClampNeg z157).1 140) ((z159).toInt + 1).toNat; have he : (y44_3.toInt + 1).toNat = ((z159).toInt + 1).toNat + 1 := (by (first | have a0 := oa5 ro_109_20 i92 j44_2 i98 i159 | ((first | have a0 := in_u ro_109_20 | (have a0 := ro_109_20; unfold In at a0)); (first | have a1 := in_u i92 | (have a1 := i92; unfold In at a1)); (first | have a2 := in_u j44_2 | (have a2 := j44_2; unfold In at a2)); (first | have a3 := in_u i98 | (have a3 := i98; unfold In at a3)); (first | have a4 := in_u i159 | (have a4 := i159; unfold In at a4)))); have a5 := t_add e159 i92 (in_c 1 rfl) rfl; (first | have a6 := oa2 ((in_c 1 rfl)) i146 | ((first | have a6 := in_u ((in_c 1 rfl)) | (have a6 := (in_c 1 rfl); unfold In at a6)); (first | have a7 := in_u i146 | (have a7 := i146; unfold In at a7)))); have a8 := t_add e146 i92 (in_c 1 rfl) rfl; (first | have a9 := in_u i124 | (have a9 := i124; unfold In at a9)); have a10 := t_add e124 i92 (in_c 1 rfl) rfl; (first | have a11 := in_u i83 | (have a11 := i83; unfold In at a11)); have a12 := t_add e81 i45 i78 rfl; (first | have a13 := in_u i78 | (have a13 := i78; unfold In at a13)); have oc := oc_337_109; omega); have hm := mm44; rw [he] at hm; omega)
              exact gg_w (by first | exact Nat.le_add_right _ _ | exact gw2 | exact gw3 | exact gwe rfl | exact gwf rfl | exact gwg rfl | exact gwh rfl | omega) (gg_f (gf_cons rfl (gf_cons rfl (gf_cons rfl (gf_cons rfl gf_nil)))) (ih44  (sI (sI (sI sc44 140 y44_3.toNatClampNeg z116) 140 z124.toNatClampNeg z138) 139 z146.toNatClampNeg z157) y44_1 y44_2 z159 hI158 (fr_sI rfl (fr_sI rfl (fr_sI rfl hFc44))) (in_w 0 32 j44_2 rfl) (in_w (-1) 32 i159 rfl) n44 n44a n44b n44c m44))
            · skip
              have i83 := r_le1 0 32 c83 i81 j44_2 rfl
              refine g_iinc 89 (gd rfl) rfl rfl (Nat.le_of_ble_eq_true rfl) (fun z86 e86 => ?_)
              have i86 := in_add (-1) 31 e86 i45 (in_c (-1) rfl) rfl rfl
              refine g_goto 44 (gd rfl) rfl ?_
              have n44 : ∀ d : Nat, (d : Int) ≤ (z86).toInt → cb (sc44.1 140 d) + d ≤ 32 := by first | exact fun d hd => g44_0 d (by (first | have a0 := oa4 ro_109_20 i45 j44_2 i86 | ((first | have a0 := in_u ro_109_20 | (have a0 := ro_109_20; unfold In at a0)); (first | have a1 := in_u i45 | (have a1 := i45; unfold In at a1)); (first | have a2 := in_u j44_2 | (have a2 := j44_2; unfold In at a2)); (first | have a3 := in_u i86 | (have a3 := i86; unfold In at a3)))); have a4 := t_add e86 i45 (in_c (-1) rfl) rfl; (first | have a5 := oa2 ((in_c (-1) rfl)) i83 | ((first | have a5 := in_u ((in_c (-1) rfl)) | (have a5 := (in_c (-1) rfl); unfold In at a5)); (first | have a6 := in_u i83 | (have a6 := i83; unfold In at a6)))); have a7 := t_add e81 i45 i78 rfl; (first | have a8 := in_u i78 | (have a8 := i78; unfold In at a8)); have oc := oc_337_109; omega) | (have hS : (sc44).1 140 = upd (upd (sc44.1 140) y44_3.toNatClampNeg z116) z124.toNatClampNeg z138 := (by simp [sI]); rw [hS]; exact (fc_push (w := z159) i92 g44_0 e67 (t_add e124 i92 (in_c 1 rfl) rfl) (t_add e159 i92 (in_c 1 rfl) rfl) (cb_clr e113 e115 e116 i98 hb98) (cb_and_le e138)).1) | (intro d hd; have h0 : (Int32.ofInt 0).toInt = 0 := rfl; have hc := cb_le (sc44.1 140 d); omega)
              have n44a : BSD sc44 := by first | exact g44_1 | (unfold BSD; simp only [sI_p (show Nat.beq 138 139 = false from rfl), sI_p (show Nat.beq 138 140 = false from rfl)]; exact g44_1)
              have n44b : RCQ2 ((sc44).1 138) (s.2.2.1 109 20).toInt ((sc44).1 140) ((sc44).1 139) (z86).toInt (y44_1) (y44_2).toInt := by exact rcq_pop (D := (y44_3).toNatClampNeg) g44_2 ((clx (show 0 ≤ (y44_3).toInt from (by (first | have a0 := oa4 ro_109_20 i45 j44_2 i86 | ((first | have a0 := in_u ro_109_20 | (have a0 := ro_109_20; unfold In at a0)); (first | have a1 := in_u i45 | (have a1 := i45; unfold In at a1)); (first | have a2 := in_u j44_2 | (have a2 := j44_2; unfold In at a2)); (first | have a3 := in_u i86 | (have a3 := i86; unfold In at a3)))); have a4 := t_add e86 i45 (in_c (-1) rfl) rfl; (first | have a5 := oa2 ((in_c (-1) rfl)) i83 | ((first | have a5 := in_u ((in_c (-1) rfl)) | (have a5 := (in_c (-1) rfl); unfold In at a5)); (first | have a6 := in_u i83 | (have a6 := i83; unfold In at a6)))); have a7 := t_add e81 i45 i78 rfl; (first | have a8 := in_u i78 | (have a8 := i78; unfold In at a8)); have oc := oc_337_109; omega))).symm) (by (first | have a0 := oa4 ro_109_20 i45 j44_2 i86 | ((first | have a0 := in_u ro_109_20 | (have a0 := ro_109_20; unfold In at a0)); (first | have a1 := in_u i45 | (have a1 := i45; unfold In at a1)); (first | have a2 := in_u j44_2 | (have a2 := j44_2; unfold In at a2)); (first | have a3 := in_u i86 | (have a3 := i86; unfold In at a3)))); have a4 := t_add e86 i45 (in_c (-1) rfl) rfl; (first | have a5 := oa2 ((in_c (-1) rfl)) i83 | ((first | have a5 := in_u ((in_c (-1) rfl)) | (have a5 := (in_c (-1) rfl); unfold In at a5)); (first | have a6 := in_u i83 | (have a6 := i83; unfold In at a6)))); have a7 := t_add e81 i45 i78 rfl; (first | have a8 := in_u i78 | (have a8 := i78; unfold In at a8)); have oc := oc_337_109; omega) (by (first | have a0 := oa4 ro_109_20 i45 j44_2 i86 | ((first | have a0 := in_u ro_109_20 | (have a0 := ro_109_20; unfold In at a0)); (first | have a1 := in_u i45 | (have a1 := i45; unfold In at a1)); (first | have a2 := in_u j44_2 | (have a2 := j44_2; unfold In at a2)); (first | have a3 := in_u i86 | (have a3 := i86; unfold In at a3)))); have a4 := t_add e86 i45 (in_c (-1) rfl) rfl; (first | have a5 := oa2 ((in_c (-1) rfl)) i83 | ((first | have a5 := in_u ((in_c (-1) rfl)) | (have a5 := (in_c (-1) rfl); unfold In at a5)); (first | have a6 := in_u i83 | (have a6 := i83; unfold In at a6)))); have a7 := t_add e81 i45 i78 rfl; (first | have a8 := in_u i78 | (have a8 := i78; unfold In at a8)); have oc := oc_337_109; omega) (Or.inr (by rw [← e67]; (first | have a0 := oa4 ro_109_20 i45 j44_2 i86 | ((first | have a0 := in_u ro_109_20 | (have a0 := ro_109_20; unfold In at a0)); (first | have a1 := in_u i45 | (have a1 := i45; unfold In at a1)); (first | have a2 := in_u j44_2 | (have a2 := j44_2; unfold In at a2)); (first | have a3 := in_u i86 | (have a3 := i86; unfold In at a3)))); have a4 := t_add e86 i45 (in_c (-1) rfl) rfl; (first | have a5 := oa2 ((in_c (-1) rfl)) i83 | ((first | have a5 := in_u ((in_c (-1) rfl)) | (have a5 := (in_c (-1) rfl); unfold In at a5)); (first | have a6 := in_u i83 | (have a6 := i83; unfold In at a6)))); have a7 := t_add e81 i45 i78 rfl; (first | have a8 := in_u i78 | (have a8 := i78; unfold In at a8)); have oc := oc_337_109; omega))
              have n44c : BFR (gvZ s) (s.2.2.1 109 20).toInt ((sc44).1 138) := by exact g44_3
              have m44 : sW (sc44.1 140) ((z86).toInt + 1).toNat < k44 := by first | (have hS : (sc44).1 140 = upd (upd (sc44.1 140) y44_3.toNatClampNeg z116) z124.toNatClampNeg z138 := (by simp [sI]); rw [hS]; have h := (fc_push (w := z159) i92 g44_0 e67 (t_add e124 i92 (in_c 1 rfl) rfl) (t_add e159 i92 (in_c 1 rfl) rfl) (cb_clr e113 e115 e116 i98 hb98) (cb_and_le e138)).2; omega) | (have hp := sW_pop (sc44.1 140) ((z86).toInt + 1).toNat; have he : (y44_3.toInt + 1).toNat = ((z86).toInt + 1).toNat + 1 := (by (first | have a0 := oa4 ro_109_20 i45 j44_2 i86 | ((first | have a0 := in_u ro_109_20 | (have a0 := ro_109_20; unfold In at a0)); (first | have a1 := in_u i45 | (have a1 := i45; unfold In at a1)); (first | have a2 := in_u j44_2 | (have a2 := j44_2; unfold In at a2)); (first | have a3 := in_u i86 | (have a3 := i86; unfold In at a3)))); have a4 := t_add e86 i45 (in_c (-1) rfl) rfl; (first | have a5 := oa2 ((in_c (-1) rfl)) i83 | ((first | have a5 := in_u ((in_c (-1) rfl)) | (have a5 := (in_c (-1) rfl); unfold In at a5)); (first | have a6 := in_u i83 | (have a6 := i83; unfold In at a6)))); have a7 := t_add e81 i45 i78 rfl; (first | have a8 := in_u i78 | (have a8 := i78; unfold In at a8)); have oc := oc_337_109; omega); have hm := mm44; rw [he] at hm; omega)
              exact gg_w (by first | exact Nat.le_add_right _ _ | exact gw2 | exact gw3 | exact gwe rfl | exact gwf rfl | exact gwg rfl | exact gwh rfl | omega) (gg_f (gf_cons rfl (gf_cons rfl (gf_cons rfl (gf_cons rfl gf_nil)))) (ih44  sc44 y44_1 y44_2 z86 hIc44 hFc44 (in_w 0 32 j44_2 rfl) (in_w (-1) 32 i86 rfl) n44 n44a n44b n44c m44))
        · skip
          have i50 := r_lt1 0 31 c50 j44_2 i45 rfl
          have i50a := r_lt2 1 32 c50 j44_2 i45 rfl
          refine g_iload_n 54 (gd rfl) rfl rfl ?_
          refine g_istore_n 55 (gd rfl) rfl (Nat.le_of_ble_eq_true rfl) ?_
          refine g_aload_n 56 (gd rfl) rfl rfl ?_
          refine g_getA (q2 := 139) 59 (gd rfl) rfl rfl rfl rfl ?_
          refine g_iload_n 60 (gd rfl) rfl rfl ?_
          refine g_iaload 61 (gd rfl) rfl (n := 33) rfl (in_ix i50a rfl) (fun z60 e60 => ?_)
          refine g_istore_n 62 (gd rfl) rfl (Nat.le_of_ble_eq_true rfl) ?_
          refine g_aload_n 63 (gd rfl) rfl rfl ?_
          refine g_getA (q2 := 140) 66 (gd rfl) rfl rfl rfl rfl ?_
          refine g_iload_n 67 (gd rfl) rfl rfl ?_
          refine g_iaload 68 (gd rfl) rfl (n := 33) rfl (in_ix i50a rfl) (fun z67 e67 => ?_)
          refine g_if_eq 71 86 (gd rfl) rfl rfl (fun c68 => ?_) (fun c68 => ?_)
          · skip
            have i68 := z_eq 0 0 c68 (i_rng z67) rfl
            refine g_iinc 89 (gd rfl) rfl rfl (Nat.le_of_ble_eq_true rfl) (fun z86 e86 => ?_)
            have i86 := in_add 0 31 e86 i50a (in_c (-1) rfl) rfl rfl
            refine g_goto 44 (gd rfl) rfl ?_
            have n44 : ∀ d : Nat, (d : Int) ≤ (z86).toInt → cb (sc44.1 140 d) + d ≤ 32 := by first | exact fun d hd => g44_0 d (by (first | have a0 := oa4 ro_109_20 i50a i50 i86 | ((first | have a0 := in_u ro_109_20 | (have a0 := ro_109_20; unfold In at a0)); (first | have a1 := in_u i50a | (have a1 := i50a; unfold In at a1)); (first | have a2 := in_u i50 | (have a2 := i50; unfold In at a2)); (first | have a3 := in_u i86 | (have a3 := i86; unfold In at a3)))); have a4 := t_add e86 i50a (in_c (-1) rfl) rfl; (first | have a5 := in_u ((in_c (-1) rfl)) | (have a5 := (in_c (-1) rfl); unfold In at a5)); have oc := oc_337_109; omega) | (have hS : (sc44).1 140 = upd (upd (sc44.1 140) y44_3.toNatClampNeg z116) z124.toNatClampNeg z138 := (by simp [sI]); rw [hS]; exact (fc_push (w := z159) i92 g44_0 e67 (t_add e124 i92 (in_c 1 rfl) rfl) (t_add e159 i92 (in_c 1 rfl) rfl) (cb_clr e113 e115 e116 i98 hb98) (cb_and_le e138)).1) | (intro d hd; have h0 : (Int32.ofInt 0).toInt = 0 := rfl; have hc := cb_le (sc44.1 140 d); omega)
            have n44a : BSD sc44 := by first | exact g44_1 | (unfold BSD; simp only [sI_p (show Nat.beq 138 139 = false from rfl), sI_p (show Nat.beq 138 140 = false from rfl)]; exact g44_1)
            have n44b : RCQ2 ((sc44).1 138) (s.2.2.1 109 20).toInt ((sc44).1 140) ((sc44).1 139) (z86).toInt (z60) (y44_3).toInt := by exact rcq_pop (D := (y44_3).toNatClampNeg) (rcq_h g44_2 ((clx (show 0 ≤ (y44_3).toInt from (by (first | have a0 := oa4 ro_109_20 i50a i50 i86 | ((first | have a0 := in_u ro_109_20 | (have a0 := ro_109_20; unfold In at a0)); (first | have a1 := in_u i50a | (have a1 := i50a; unfold In at a1)); (first | have a2 := in_u i50 | (have a2 := i50; unfold In at a2)); (first | have a3 := in_u i86 | (have a3 := i86; unfold In at a3)))); have a4 := t_add e86 i50a (in_c (-1) rfl) rfl; (first | have a5 := in_u ((in_c (-1) rfl)) | (have a5 := (in_c (-1) rfl); unfold In at a5)); have oc := oc_337_109; omega))).symm) (by (first | have a0 := oa4 ro_109_20 i50a i50 i86 | ((first | have a0 := in_u ro_109_20 | (have a0 := ro_109_20; unfold In at a0)); (first | have a1 := in_u i50a | (have a1 := i50a; unfold In at a1)); (first | have a2 := in_u i50 | (have a2 := i50; unfold In at a2)); (first | have a3 := in_u i86 | (have a3 := i86; unfold In at a3)))); have a4 := t_add e86 i50a (in_c (-1) rfl) rfl; (first | have a5 := in_u ((in_c (-1) rfl)) | (have a5 := (in_c (-1) rfl); unfold In at a5)); have oc := oc_337_109; omega) e60) ((clx (show 0 ≤ (y44_3).toInt from (by (first | have a0 := oa4 ro_109_20 i50a i50 i86 | ((first | have a0 := in_u ro_109_20 | (have a0 := ro_109_20; unfold In at a0)); (first | have a1 := in_u i50a | (have a1 := i50a; unfold In at a1)); (first | have a2 := in_u i50 | (have a2 := i50; unfold In at a2)); (first | have a3 := in_u i86 | (have a3 := i86; unfold In at a3)))); have a4 := t_add e86 i50a (in_c (-1) rfl) rfl; (first | have a5 := in_u ((in_c (-1) rfl)) | (have a5 := (in_c (-1) rfl); unfold In at a5)); have oc := oc_337_109; omega))).symm) (by (first | have a0 := oa4 ro_109_20 i50a i50 i86 | ((first | have a0 := in_u ro_109_20 | (have a0 := ro_109_20; unfold In at a0)); (first | have a1 := in_u i50a | (have a1 := i50a; unfold In at a1)); (first | have a2 := in_u i50 | (have a2 := i50; unfold In at a2)); (first | have a3 := in_u i86 | (have a3 := i86; unfold In at a3)))); have a4 := t_add e86 i50a (in_c (-1) rfl) rfl; (first | have a5 := in_u ((in_c (-1) rfl)) | (have a5 := (in_c (-1) rfl); unfold In at a5)); have oc := oc_337_109; omega) (by (first | have a0 := oa4 ro_109_20 i50a i50 i86 | ((first | have a0 := in_u ro_109_20 | (have a0 := ro_109_20; unfold In at a0)); (first | have a1 := in_u i50a | (have a1 := i50a; unfold In at a1)); (first | have a2 := in_u i50 | (have a2 := i50; unfold In at a2)); (first | have a3 := in_u i86 | (have a3 := i86; unfold In at a3)))); have a4 := t_add e86 i50a (in_c (-1) rfl) rfl; (first | have a5 := in_u ((in_c (-1) rfl)) | (have a5 := (in_c (-1) rfl); unfold In at a5)); have oc := oc_337_109; omega) (Or.inl (by rw [← e67]; exact c68))
            have n44c : BFR (gvZ s) (s.2.2.1 109 20).toInt ((sc44).1 138) := by exact g44_3
            have m44 : sW (sc44.1 140) ((z86).toInt + 1).toNat < k44 := by first | (have hS : (sc44).1 140 = upd (upd (sc44.1 140) y44_3.toNatClampNeg z116) z124.toNatClampNeg z138 := (by simp [sI]); rw [hS]; have h := (fc_push (w := z159) i92 g44_0 e67 (t_add e124 i92 (in_c 1 rfl) rfl) (t_add e159 i92 (in_c 1 rfl) rfl) (cb_clr e113 e115 e116 i98 hb98) (cb_and_le e138)).2; omega) | (have hp := sW_pop (sc44.1 140) ((z86).toInt + 1).toNat; have he : (y44_3.toInt + 1).toNat = ((z86).toInt + 1).toNat + 1 := (by (first | have a0 := oa4 ro_109_20 i50a i50 i86 | ((first | have a0 := in_u ro_109_20 | (have a0 := ro_109_20; unfold In at a0)); (first | have a1 := in_u i50a | (have a1 := i50a; unfold In at a1)); (first | have a2 := in_u i50 | (have a2 := i50; unfold In at a2)); (first | have a3 := in_u i86 | (have a3 := i86; unfold In at a3)))); have a4 := t_add e86 i50a (in_c (-1) rfl) rfl; (first | have a5 := in_u ((in_c (-1) rfl)) | (have a5 := (in_c (-1) rfl); unfold In at a5)); have oc := oc_337_109; omega); have hm := mm44; rw [he] at hm; omega)
            exact gg_w (by first | exact Nat.le_add_right _ _ | exact gw2 | exact gw3 | exact gwe rfl | exact gwf rfl | exact gwg rfl | exact gwh rfl | omega) (gg_f (gf_cons rfl (gf_cons rfl (gf_cons rfl (gf_cons rfl gf_nil)))) (ih44  sc44 z60 y44_3 z86 hIc44 hFc44 (in_w 0 32 i50a rfl) (in_w (-1) 32 i86 rfl) n44 n44a n44b n44c m44))
          · skip
            refine g_iload_n 72 (gd rfl) rfl rfl ?_
            refine g_aload_n 73 (gd rfl) rfl rfl ?_
            refine g_getA (q2 := 140) 76 (gd rfl) rfl rfl rfl rfl ?_
            refine g_iload_n 77 (gd rfl) rfl rfl ?_
            refine g_iaload 78 (gd rfl) rfl (n := 33) rfl (in_ix i50a rfl) (fun z77 e77 => ?_)
            have q77 : z67 = z77 := (e67).trans e77.symm
            subst q77
            refine g_calls (As := [.int z67]) (r := [.int y44_3]) 81 (gd rfl) rfl rfl rfl rfl rfl (Nat.le_of_ble_eq_true rfl) (Nat.zero_le _) (Nat.zero_le _) (k_336 (by first | exact dq1 hd rfl | exact dq0 hd rfl | exact dq2 hd rfl | exact dq3 hd rfl | omega) hIc44 ) (fun v u h => ?_)
            obtain ⟨z78, rfl, rfl, i78, p78⟩ := h
            show GG _ _ _ _ _ _ _ _ [.int z78, .int y44_3] _ _ _
            refine g_iadd 82 (gd rfl) rfl (fun z81 e81 => ?_)
            have i81 := in_add 1 64 e81 i50a i78 rfl rfl
            refine g_iload_n 83 (gd rfl) rfl rfl ?_
            refine g_cmp_gt 86 92 (gd rfl) rfl rfl (fun c83 => ?_) (fun c83 => ?_)
            · skip
              have i83 := r_lt2 2 64 c83 i50a i81 rfl
              have i92 : In y44_3 0 31 := by exact fc_ix (in_w 0 32 i50a rfl) g44_0 e67 c68
              refine g_aload_n 93 (gd rfl) rfl rfl ?_
              refine g_getA (q2 := 140) 96 (gd rfl) rfl rfl rfl rfl ?_
              refine g_iload_n 97 (gd rfl) rfl rfl ?_
              refine g_iaload 98 (gd rfl) rfl (n := 33) rfl (in_ix i92 rfl) (fun z97 e97 => ?_)
              have q97 : z67 = z97 := (e67).trans e97.symm
              subst q97
              refine g_calls (As := [.int z67]) (r := []) 101 (gd rfl) rfl rfl rfl rfl rfl (Nat.le_of_ble_eq_true rfl) (Nat.zero_le _) (Nat.zero_le _) (k_327m (by first | exact dq1 hd rfl | exact dq0 hd rfl | exact dq2 hd rfl | exact dq3 hd rfl | omega) c68) (fun v u h => ?_)
              obtain ⟨z98, rfl, rfl, i98, hb98, hl98⟩ := h
              show GG _ _ _ _ _ _ _ _ [.int z98] _ _ _
              refine g_istore 103 (gd rfl) rfl (Nat.le_of_ble_eq_true rfl) ?_
              refine g_aload_n 104 (gd rfl) rfl rfl ?_
              refine g_getA (q2 := 140) 107 (gd rfl) rfl rfl rfl rfl ?_
              refine g_iload_n 108 (gd rfl) rfl rfl ?_
              refine g_dup2 109 (gd rfl) rfl rfl rfl ?_
              refine g_iaload 110 (gd rfl) rfl (n := 33) rfl (in_ix i92 rfl) (fun z109 e109 => ?_)
              have q109 : z67 = z109 := (e67).trans e109.symm
              subst q109
              refine g_iconst 1 111 (gd rfl) rfl rfl ?_
              refine g_iload 113 (gd rfl) rfl rfl ?_
              refine g_ishl 114 (gd rfl) rfl (fun z113 e113 => ?_)
              refine g_iconst (-1) 115 (gd rfl) rfl rfl ?_
              refine g_ixor 116 (gd rfl) rfl (fun z115 e115 => ?_)
              refine g_iand 117 (gd rfl) rfl (fun z116 e116 => ?_)
              refine g_iastore 118 (gd rfl) rfl (n := 33) rfl (in_ix i92 rfl) ?_
              have hI117 := inv_sI (q := 140) (j := y44_3.toNatClampNeg) hIc44 rfl (in_w (-2147483648) 2147483647 (i_rng z116) rfl)
              refine g_aload_n 119 (gd rfl) rfl rfl ?_
              refine g_getA (q2 := 140) 122 (gd rfl) rfl rfl rfl rfl ?_
              refine g_iload_n 123 (gd rfl) rfl rfl ?_
              refine g_iconst 1 124 (gd rfl) rfl rfl ?_
              refine g_iadd 125 (gd rfl) rfl (fun z124 e124 => ?_)
              have i124 := in_add 1 32 e124 i92 (in_c 1 rfl) rfl rfl
              refine g_aload_n 126 (gd rfl) rfl rfl ?_
              refine g_getA (q2 := 140) 129 (gd rfl) rfl rfl rfl rfl ?_
              refine g_iload_n 130 (gd rfl) rfl rfl ?_
              refine g_iaload 131 (gd rfl) rfl (n := 33) rfl (in_ix i92 rfl) (fun z130 e130 => ?_)
              have q130 : z116 = z130 := (sI_get).trans e130.symm
              subst q130
              refine g_aload_n 132 (gd rfl) rfl rfl ?_
              refine g_getA (q2 := 138) 135 (gd rfl) rfl rfl rfl rfl ?_
              refine g_iload 137 (gd rfl) rfl rfl ?_
              refine g_iaload 138 (gd rfl) rfl (n := 32) rfl (in_ix i98 rfl) (fun z137 e137 => ?_)
              refine g_iand 139 (gd rfl) rfl (fun z138 e138 => ?_)
              refine g_iastore 140 (gd rfl) rfl (n := 33) rfl (in_ix i124 rfl) ?_
              have hI139 := inv_sI (q := 140) (j := z124.toNatClampNeg) hI117 rfl (in_w (-2147483648) 2147483647 (i_rng z138) rfl)
              refine g_aload_n 141 (gd rfl) rfl rfl ?_
              refine g_getA (q2 := 139) 144 (gd rfl) rfl rfl rfl rfl ?_
              refine g_iload_n 145 (gd rfl) rfl rfl ?_
              refine g_iconst 1 146 (gd rfl) rfl rfl ?_
              refine g_iadd 147 (gd rfl) rfl (fun z146 e146 => ?_)
              have i146 := in_add 1 32 e146 i92 (in_c 1 rfl) rfl rfl
              refine g_aload_n 148 (gd rfl) rfl rfl ?_
              refine g_getA (q2 := 139) 151 (gd rfl) rfl rfl rfl rfl ?_
              refine g_iload_n 152 (gd rfl) rfl rfl ?_
              refine g_iaload 153 (gd rfl) rfl (n := 33) rfl (in_ix i92 rfl) (fun z152 e152 => ?_)
              have q152 : z60 = z152 := (sI_ne rfl (sI_ne rfl (e60))).trans e152.symm
              subst q152
              refine g_iconst 1 154 (gd rfl) rfl rfl ?_
              refine g_iload 156 (gd rfl) rfl rfl ?_
              refine g_ishl 157 (gd rfl) rfl (fun z156 e156 => ?_)
              refine g_ior 158 (gd rfl) rfl (fun z157 e157 => ?_)
              refine g_iastore 159 (gd rfl) rfl (n := 33) rfl (in_ix i146 rfl) ?_
              have hI158 := inv_sI (q := 139) (j := z146.toNatClampNeg) hI139 rfl (in_w (-2147483648) 2147483647 (i_rng z157) rfl)
              refine g_iinc 162 (gd rfl) rfl rfl (Nat.le_of_ble_eq_true rfl) (fun z159 e159 => ?_)
              have i159 := in_add 1 32 e159 i92 (in_c 1 rfl) rfl rfl
              refine g_goto 44 (gd rfl) rfl ?_
              have n44 : ∀ d : Nat, (d : Int) ≤ (z159).toInt → cb ((sI (sI (sI sc44 140 y44_3.toNatClampNeg z116) 140 z124.toNatClampNeg z138) 139 z146.toNatClampNeg z157).1 140 d) + d ≤ 32 := by first | exact fun d hd => g44_0 d (by (first | have a0 := oa5 ro_109_20 i92 i50 i98 i159 | ((first | have a0 := in_u ro_109_20 | (have a0 := ro_109_20; unfold In at a0)); (first | have a1 := in_u i92 | (have a1 := i92; unfold In at a1)); (first | have a2 := in_u i50 | (have a2 := i50; unfold In at a2)); (first | have a3 := in_u i98 | (have a3 := i98; unfold In at a3)); (first | have a4 := in_u i159 | (have a4 := i159; unfold In at a4)))); have a5 := t_add e159 i92 (in_c 1 rfl) rfl; (first | have a6 := oa2 ((in_c 1 rfl)) i146 | ((first | have a6 := in_u ((in_c 1 rfl)) | (have a6 := (in_c 1 rfl); unfold In at a6)); (first | have a7 := in_u i146 | (have a7 := i146; unfold In at a7)))); have a8 := t_add e146 i92 (in_c 1 rfl) rfl; (first | have a9 := in_u i124 | (have a9 := i124; unfold In at a9)); have a10 := t_add e124 i92 (in_c 1 rfl) rfl; (first | have a11 := in_u i83 | (have a11 := i83; unfold In at a11)); have a12 := t_add e81 i50a i78 rfl; (first | have a13 := in_u i78 | (have a13 := i78; unfold In at a13)); have oc := oc_337_109; omega) | (have hS : ((sI (sI (sI sc44 140 y44_3.toNatClampNeg z116) 140 z124.toNatClampNeg z138) 139 z146.toNatClampNeg z157)).1 140 = upd (upd (sc44.1 140) y44_3.toNatClampNeg z116) z124.toNatClampNeg z138 := (by simp [sI]); rw [hS]; exact (fc_push (w := z159) i92 g44_0 e67 (t_add e124 i92 (in_c 1 rfl) rfl) (t_add e159 i92 (in_c 1 rfl) rfl) (cb_clr e113 e115 e116 i98 hb98) (cb_and_le e138)).1) | (intro d hd; have h0 : (Int32.ofInt 0).toInt = 0 := rfl; have hc := cb_le ((sI (sI (sI sc44 140 y44_3.toNatClampNeg z116) 140 z124.toNatClampNeg z138) 139 z146.toNatClampNeg z157).1 140 d); omega)
              have n44a : BSD (sI (sI (sI sc44 140 y44_3.toNatClampNeg z116) 140 z124.toNatClampNeg z138) 139 z146.toNatClampNeg z157) := by first | exact g44_1 | (unfold BSD; simp only [sI_p (show Nat.beq 138 139 = false from rfl), sI_p (show Nat.beq 138 140 = false from rfl)]; exact g44_1)
              have n44b : RCQ2 (((sI (sI (sI sc44 140 y44_3.toNatClampNeg z116) 140 z124.toNatClampNeg z138) 139 z146.toNatClampNeg z157)).1 138) (s.2.2.1 109 20).toInt (((sI (sI (sI sc44 140 y44_3.toNatClampNeg z116) 140 z124.toNatClampNeg z138) 139 z146.toNatClampNeg z157)).1 140) (((sI (sI (sI sc44 140 y44_3.toNatClampNeg z116) 140 z124.toNatClampNeg z138) 139 z146.toNatClampNeg z157)).1 139) (z159).toInt (z60) (y44_3).toInt := by simp only [sI_p (show Nat.beq 138 139 = false from rfl), sI_p (show Nat.beq 138 140 = false from rfl), sI_p (show Nat.beq 140 139 = false from rfl), sI_p (show Nat.beq 139 140 = false from rfl), sI_q]; exact rcq_w (rcq_h g44_2 ((clx (show 0 ≤ (y44_3).toInt from (by (first | have a0 := oa5 ro_109_20 i92 i50 i98 i159 | ((first | have a0 := in_u ro_109_20 | (have a0 := ro_109_20; unfold In at a0)); (first | have a1 := in_u i92 | (have a1 := i92; unfold In at a1)); (first | have a2 := in_u i50 | (have a2 := i50; unfold In at a2)); (first | have a3 := in_u i98 | (have a3 := i98; unfold In at a3)); (first | have a4 := in_u i159 | (have a4 := i159; unfold In at a4)))); have a5 := t_add e159 i92 (in_c 1 rfl) rfl; (first | have a6 := oa2 ((in_c 1 rfl)) i146 | ((first | have a6 := in_u ((in_c 1 rfl)) | (have a6 := (in_c 1 rfl); unfold In at a6)); (first | have a7 := in_u i146 | (have a7 := i146; unfold In at a7)))); have a8 := t_add e146 i92 (in_c 1 rfl) rfl; (first | have a9 := in_u i124 | (have a9 := i124; unfold In at a9)); have a10 := t_add e124 i92 (in_c 1 rfl) rfl; (first | have a11 := in_u i83 | (have a11 := i83; unfold In at a11)); have a12 := t_add e81 i50a i78 rfl; (first | have a13 := in_u i78 | (have a13 := i78; unfold In at a13)); have oc := oc_337_109; omega))).symm) (by (first | have a0 := oa5 ro_109_20 i92 i50 i98 i159 | ((first | have a0 := in_u ro_109_20 | (have a0 := ro_109_20; unfold In at a0)); (first | have a1 := in_u i92 | (have a1 := i92; unfold In at a1)); (first | have a2 := in_u i50 | (have a2 := i50; unfold In at a2)); (first | have a3 := in_u i98 | (have a3 := i98; unfold In at a3)); (first | have a4 := in_u i159 | (have a4 := i159; unfold In at a4)))); have a5 := t_add e159 i92 (in_c 1 rfl) rfl; (first | have a6 := oa2 ((in_c 1 rfl)) i146 | ((first | have a6 := in_u ((in_c 1 rfl)) | (have a6 := (in_c 1 rfl); unfold In at a6)); (first | have a7 := in_u i146 | (have a7 := i146; unfold In at a7)))); have a8 := t_add e146 i92 (in_c 1 rfl) rfl; (first | have a9 := in_u i124 | (have a9 := i124; unfold In at a9)); have a10 := t_add e124 i92 (in_c 1 rfl) rfl; (first | have a11 := in_u i83 | (have a11 := i83; unfold In at a11)); have a12 := t_add e81 i50a i78 rfl; (first | have a13 := in_u i78 | (have a13 := i78; unfold In at a13)); have oc := oc_337_109; omega) e60) (bfr_sy hI g44_3) i92 (t_add e124 i92 (in_c 1 rfl) rfl) (t_add e146 i92 (in_c 1 rfl) rfl) (t_add e159 i92 (in_c 1 rfl) rfl) e67 hb98 hl98 i98 e113 e115 e116 (show z137 = sc44.1 138 _ from (by rw [e137, sI_p (show Nat.beq 138 140 = false from rfl)])) e138 e60 e156 e157
              have n44c : BFR (gvZ s) (s.2.2.1 109 20).toInt (((sI (sI (sI sc44 140 y44_3.toNatClampNeg z116) 140 z124.toNatClampNeg z138) 139 z146.toNatClampNeg z157)).1 138) := by simp only [sI_p (show Nat.beq 138 139 = false from rfl), sI_p (show Nat.beq 138 140 = false from rfl)]; exact g44_3
              have m44 : sW ((sI (sI (sI sc44 140 y44_3.toNatClampNeg z116) 140 z124.toNatClampNeg z138) 139 z146.toNatClampNeg z157).1 140) ((z159).toInt + 1).toNat < k44 := by first | (have hS : ((sI (sI (sI sc44 140 y44_3.toNatClampNeg z116) 140 z124.toNatClampNeg z138) 139 z146.toNatClampNeg z157)).1 140 = upd (upd (sc44.1 140) y44_3.toNatClampNeg z116) z124.toNatClampNeg z138 := (by simp [sI]); rw [hS]; have h := (fc_push (w := z159) i92 g44_0 e67 (t_add e124 i92 (in_c 1 rfl) rfl) (t_add e159 i92 (in_c 1 rfl) rfl) (cb_clr e113 e115 e116 i98 hb98) (cb_and_le e138)).2; omega) | (have hp := sW_pop ((sI (sI (sI sc44 140 y44_3.toNatClampNeg z116) 140 z124.toNatClampNeg z138) 139 z146.toNatClampNeg z157).1 140) ((z159).toInt + 1).toNat; have he : (y44_3.toInt + 1).toNat = ((z159).toInt + 1).toNat + 1 := (by (first | have a0 := oa5 ro_109_20 i92 i50 i98 i159 | ((first | have a0 := in_u ro_109_20 | (have a0 := ro_109_20; unfold In at a0)); (first | have a1 := in_u i92 | (have a1 := i92; unfold In at a1)); (first | have a2 := in_u i50 | (have a2 := i50; unfold In at a2)); (first | have a3 := in_u i98 | (have a3 := i98; unfold In at a3)); (first | have a4 := in_u i159 | (have a4 := i159; unfold In at a4)))); have a5 := t_add e159 i92 (in_c 1 rfl) rfl; (first | have a6 := oa2 ((in_c 1 rfl)) i146 | ((first | have a6 := in_u ((in_c 1 rfl)) | (have a6 := (in_c 1 rfl); unfold In at a6)); (first | have a7 := in_u i146 | (have a7 := i146; unfold In at a7)))); have a8 := t_add e146 i92 (in_c 1 rfl) rfl; (first | have a9 := in_u i124 | (have a9 := i124; unfold In at a9)); have a10 := t_add e124 i92 (in_c 1 rfl) rfl; (first | have a11 := in_u i83 | (have a11 := i83; unfold In at a11)); have a12 := t_add e81 i50a i78 rfl; (first | have a13 := in_u i78 | (have a13 := i78; unfold In at a13)); have oc := oc_337_109; omega); have hm := mm44; rw [he] at hm; omega)
              exact gg_w (by first | exact Nat.le_add_right _ _ | exact gw2 | exact gw3 | exact gwe rfl | exact gwf rfl | exact gwg rfl | exact gwh rfl | omega) (gg_f (gf_cons rfl (gf_cons rfl (gf_cons rfl (gf_cons rfl gf_nil)))) (ih44  (sI (sI (sI sc44 140 y44_3.toNatClampNeg z116) 140 z124.toNatClampNeg z138) 139 z146.toNatClampNeg z157) z60 y44_3 z159 hI158 (fr_sI rfl (fr_sI rfl (fr_sI rfl hFc44))) (in_w 0 32 i92 rfl) (in_w (-1) 32 i159 rfl) n44 n44a n44b n44c m44))
            · skip
              have i83 := r_le1 1 32 c83 i81 i50a rfl
              refine g_iinc 89 (gd rfl) rfl rfl (Nat.le_of_ble_eq_true rfl) (fun z86 e86 => ?_)
              have i86 := in_add 0 31 e86 i50a (in_c (-1) rfl) rfl rfl
              refine g_goto 44 (gd rfl) rfl ?_
              have n44 : ∀ d : Nat, (d : Int) ≤ (z86).toInt → cb (sc44.1 140 d) + d ≤ 32 := by first | exact fun d hd => g44_0 d (by (first | have a0 := oa4 ro_109_20 i50a i50 i86 | ((first | have a0 := in_u ro_109_20 | (have a0 := ro_109_20; unfold In at a0)); (first | have a1 := in_u i50a | (have a1 := i50a; unfold In at a1)); (first | have a2 := in_u i50 | (have a2 := i50; unfold In at a2)); (first | have a3 := in_u i86 | (have a3 := i86; unfold In at a3)))); have a4 := t_add e86 i50a (in_c (-1) rfl) rfl; (first | have a5 := oa2 ((in_c (-1) rfl)) i83 | ((first | have a5 := in_u ((in_c (-1) rfl)) | (have a5 := (in_c (-1) rfl); unfold In at a5)); (first | have a6 := in_u i83 | (have a6 := i83; unfold In at a6)))); have a7 := t_add e81 i50a i78 rfl; (first | have a8 := in_u i78 | (have a8 := i78; unfold In at a8)); have oc := oc_337_109; omega) | (have hS : (sc44).1 140 = upd (upd (sc44.1 140) y44_3.toNatClampNeg z116) z124.toNatClampNeg z138 := (by simp [sI]); rw [hS]; exact (fc_push (w := z159) i92 g44_0 e67 (t_add e124 i92 (in_c 1 rfl) rfl) (t_add e159 i92 (in_c 1 rfl) rfl) (cb_clr e113 e115 e116 i98 hb98) (cb_and_le e138)).1) | (intro d hd; have h0 : (Int32.ofInt 0).toInt = 0 := rfl; have hc := cb_le (sc44.1 140 d); omega)
              have n44a : BSD sc44 := by first | exact g44_1 | (unfold BSD; simp only [sI_p (show Nat.beq 138 139 = false from rfl), sI_p (show Nat.beq 138 140 = false from rfl)]; exact g44_1)
              have n44b : RCQ2 ((sc44).1 138) (s.2.2.1 109 20).toInt ((sc44).1 140) ((sc44).1 139) (z86).toInt (z60) (y44_3).toInt := by exact rcq_pop (D := (y44_3).toNatClampNeg) (rcq_h g44_2 ((clx (show 0 ≤ (y44_3).toInt from (by (first | have a0 := oa4 ro_109_20 i50a i50 i86 | ((first | have a0 := in_u ro_109_20 | (have a0 := ro_109_20; unfold In at a0)); (first | have a1 := in_u i50a | (have a1 := i50a; unfold In at a1)); (first | have a2 := in_u i50 | (have a2 := i50; unfold In at a2)); (first | have a3 := in_u i86 | (have a3 := i86; unfold In at a3)))); have a4 := t_add e86 i50a (in_c (-1) rfl) rfl; (first | have a5 := oa2 ((in_c (-1) rfl)) i83 | ((first | have a5 := in_u ((in_c (-1) rfl)) | (have a5 := (in_c (-1) rfl); unfold In at a5)); (first | have a6 := in_u i83 | (have a6 := i83; unfold In at a6)))); have a7 := t_add e81 i50a i78 rfl; (first | have a8 := in_u i78 | (have a8 := i78; unfold In at a8)); have oc := oc_337_109; omega))).symm) (by (first | have a0 := oa4 ro_109_20 i50a i50 i86 | ((first | have a0 := in_u ro_109_20 | (have a0 := ro_109_20; unfold In at a0)); (first | have a1 := in_u i50a | (have a1 := i50a; unfold In at a1)); (first | have a2 := in_u i50 | (have a2 := i50; unfold In at a2)); (first | have a3 := in_u i86 | (have a3 := i86; unfold In at a3)))); have a4 := t_add e86 i50a (in_c (-1) rfl) rfl; (first | have a5 := oa2 ((in_c (-1) rfl)) i83 | ((first | have a5 := in_u ((in_c (-1) rfl)) | (have a5 := (in_c (-1) rfl); unfold In at a5)); (first | have a6 := in_u i83 | (have a6 := i83; unfold In at a6)))); have a7 := t_add e81 i50a i78 rfl; (first | have a8 := in_u i78 | (have a8 := i78; unfold In at a8)); have oc := oc_337_109; omega) e60) ((clx (show 0 ≤ (y44_3).toInt from (by (first | have a0 := oa4 ro_109_20 i50a i50 i86 | ((first | have a0 := in_u ro_109_20 | (have a0 := ro_109_20; unfold In at a0)); (first | have a1 := in_u i50a | (have a1 := i50a; unfold In at a1)); (first | have a2 := in_u i50 | (have a2 := i50; unfold In at a2)); (first | have a3 := in_u i86 | (have a3 := i86; unfold In at a3)))); have a4 := t_add e86 i50a (in_c (-1) rfl) rfl; (first | have a5 := oa2 ((in_c (-1) rfl)) i83 | ((first | have a5 := in_u ((in_c (-1) rfl)) | (have a5 := (in_c (-1) rfl); unfold In at a5)); (first | have a6 := in_u i83 | (have a6 := i83; unfold In at a6)))); have a7 := t_add e81 i50a i78 rfl; (first | have a8 := in_u i78 | (have a8 := i78; unfold In at a8)); have oc := oc_337_109; omega))).symm) (by (first | have a0 := oa4 ro_109_20 i50a i50 i86 | ((first | have a0 := in_u ro_109_20 | (have a0 := ro_109_20; unfold In at a0)); (first | have a1 := in_u i50a | (have a1 := i50a; unfold In at a1)); (first | have a2 := in_u i50 | (have a2 := i50; unfold In at a2)); (first | have a3 := in_u i86 | (have a3 := i86; unfold In at a3)))); have a4 := t_add e86 i50a (in_c (-1) rfl) rfl; (first | have a5 := oa2 ((in_c (-1) rfl)) i83 | ((first | have a5 := in_u ((in_c (-1) rfl)) | (have a5 := (in_c (-1) rfl); unfold In at a5)); (first | have a6 := in_u i83 | (have a6 := i83; unfold In at a6)))); have a7 := t_add e81 i50a i78 rfl; (first | have a8 := in_u i78 | (have a8 := i78; unfold In at a8)); have oc := oc_337_109; omega) (by (first | have a0 := oa4 ro_109_20 i50a i50 i86 | ((first | have a0 := in_u ro_109_20 | (have a0 := ro_109_20; unfold In at a0)); (first | have a1 := in_u i50a | (have a1 := i50a; unfold In at a1)); (first | have a2 := in_u i50 | (have a2 := i50; unfold In at a2)); (first | have a3 := in_u i86 | (have a3 := i86; unfold In at a3)))); have a4 := t_add e86 i50a (in_c (-1) rfl) rfl; (first | have a5 := oa2 ((in_c (-1) rfl)) i83 | ((first | have a5 := in_u ((in_c (-1) rfl)) | (have a5 := (in_c (-1) rfl); unfold In at a5)); (first | have a6 := in_u i83 | (have a6 := i83; unfold In at a6)))); have a7 := t_add e81 i50a i78 rfl; (first | have a8 := in_u i78 | (have a8 := i78; unfold In at a8)); have oc := oc_337_109; omega) (Or.inr (by rw [← e67]; (first | have a0 := oa4 ro_109_20 i50a i50 i86 | ((first | have a0 := in_u ro_109_20 | (have a0 := ro_109_20; unfold In at a0)); (first | have a1 := in_u i50a | (have a1 := i50a; unfold In at a1)); (first | have a2 := in_u i50 | (have a2 := i50; unfold In at a2)); (first | have a3 := in_u i86 | (have a3 := i86; unfold In at a3)))); have a4 := t_add e86 i50a (in_c (-1) rfl) rfl; (first | have a5 := oa2 ((in_c (-1) rfl)) i83 | ((first | have a5 := in_u ((in_c (-1) rfl)) | (have a5 := (in_c (-1) rfl); unfold In at a5)); (first | have a6 := in_u i83 | (have a6 := i83; unfold In at a6)))); have a7 := t_add e81 i50a i78 rfl; (first | have a8 := in_u i78 | (have a8 := i78; unfold In at a8)); have oc := oc_337_109; omega))
              have n44c : BFR (gvZ s) (s.2.2.1 109 20).toInt ((sc44).1 138) := by exact g44_3
              have m44 : sW (sc44.1 140) ((z86).toInt + 1).toNat < k44 := by first | (have hS : (sc44).1 140 = upd (upd (sc44.1 140) y44_3.toNatClampNeg z116) z124.toNatClampNeg z138 := (by simp [sI]); rw [hS]; have h := (fc_push (w := z159) i92 g44_0 e67 (t_add e124 i92 (in_c 1 rfl) rfl) (t_add e159 i92 (in_c 1 rfl) rfl) (cb_clr e113 e115 e116 i98 hb98) (cb_and_le e138)).2; omega) | (have hp := sW_pop (sc44.1 140) ((z86).toInt + 1).toNat; have he : (y44_3.toInt + 1).toNat = ((z86).toInt + 1).toNat + 1 := (by (first | have a0 := oa4 ro_109_20 i50a i50 i86 | ((first | have a0 := in_u ro_109_20 | (have a0 := ro_109_20; unfold In at a0)); (first | have a1 := in_u i50a | (have a1 := i50a; unfold In at a1)); (first | have a2 := in_u i50 | (have a2 := i50; unfold In at a2)); (first | have a3 := in_u i86 | (have a3 := i86; unfold In at a3)))); have a4 := t_add e86 i50a (in_c (-1) rfl) rfl; (first | have a5 := oa2 ((in_c (-1) rfl)) i83 | ((first | have a5 := in_u ((in_c (-1) rfl)) | (have a5 := (in_c (-1) rfl); unfold In at a5)); (first | have a6 := in_u i83 | (have a6 := i83; unfold In at a6)))); have a7 := t_add e81 i50a i78 rfl; (first | have a8 := in_u i78 | (have a8 := i78; unfold In at a8)); have oc := oc_337_109; omega); have hm := mm44; rw [he] at hm; omega)
              exact gg_w (by first | exact Nat.le_add_right _ _ | exact gw2 | exact gw3 | exact gwe rfl | exact gwf rfl | exact gwg rfl | exact gwh rfl | omega) (gg_f (gf_cons rfl (gf_cons rfl (gf_cons rfl (gf_cons rfl gf_nil)))) (ih44  sc44 z60 y44_3 z86 hIc44 hFc44 (in_w 0 32 i50a rfl) (in_w (-1) 32 i86 rfl) n44 n44a n44b n44c m44))
  refine g_enter2 (k := 337) (N := 989560464999301) (by first | exact dq1 hd rfl | exact dq0 hd rfl | exact dq2 hd rfl | exact dq3 hd rfl | omega) rfl (Nat.le_of_ble_eq_true rfl) ?_
  refine g_aload_n 1 (gd rfl) rfl rfl ?_
  refine g_callv (X := _) (As := []) (r := []) (b := A 109) (q := 109) 4 (gd rfl) rfl rfl rfl rfl rfl (ww_o rfl) (Nat.le_of_ble_eq_true rfl) (Nat.zero_le _) (Nat.zero_le _) (f_335 (by first | exact dq1 hd rfl | exact dq0 hd rfl | exact dq2 hd rfl | exact dq3 hd rfl | omega) hI ) (fun e u h => h) (fun v u h => ?_)
  obtain ⟨s1, hI1, hF1, rfl, rfl, p1, p1a⟩ := h
  show GG _ _ _ _ _ _ _ _ [] _ _ _
  refine g_iconst 0 5 (gd rfl) rfl rfl ?_
  refine g_istore_n 6 (gd rfl) rfl (Nat.le_of_ble_eq_true rfl) ?_
  refine g_iconst 0 7 (gd rfl) rfl rfl ?_
  refine g_istore_n 8 (gd rfl) rfl (Nat.le_of_ble_eq_true rfl) ?_
  refine g_iconst 0 9 (gd rfl) rfl rfl ?_
  refine g_istore_n 10 (gd rfl) rfl (Nat.le_of_ble_eq_true rfl) ?_
  refine g_aload_n 11 (gd rfl) rfl rfl ?_
  refine g_getA (q2 := 140) 14 (gd rfl) rfl rfl rfl rfl ?_
  refine g_iconst 0 15 (gd rfl) rfl rfl ?_
  refine g_aload_n 16 (gd rfl) rfl rfl ?_
  refine g_getI 19 (gd rfl) rfl rfl rfl (fun z16 e16 => ?_)
  have q16 : u_109_20 = z16 := (fr_F (e_109_20) hF1 rfl).trans e16.symm
  subst q16
  refine g_bipush 32 21 (gd rfl) rfl rfl ?_
  refine g_cmp_ne 24 28 (gd rfl) rfl rfl (fun c21 => ?_) (fun c21 => ?_)
  · skip
    have i21 := r_ne1 0 31 c21 ro_109_20 (in_c 32 rfl) rfl
    refine g_iconst 1 29 (gd rfl) rfl rfl ?_
    refine g_aload_n 30 (gd rfl) rfl rfl ?_
    refine g_getI 33 (gd rfl) rfl rfl rfl (fun z30 e30 => ?_)
    have q30 : u_109_20 = z30 := (fr_F (e_109_20) hF1 rfl).trans e30.symm
    subst q30
    refine g_ishl 34 (gd rfl) rfl (fun z33 e33 => ?_)
    refine g_iconst 1 35 (gd rfl) rfl rfl ?_
    refine g_isub 36 (gd rfl) rfl (fun z35 e35 => ?_)
    refine g_iastore 37 (gd rfl) rfl (n := 33) rfl (in_ix (in_c 0 rfl) rfl) ?_
    have hI36 := inv_sI (q := 140) (j := (Int32.ofInt 0).toNatClampNeg) hI1 rfl (in_w (-2147483648) 2147483647 (i_rng z35) rfl)
    refine g_aload_n 38 (gd rfl) rfl rfl ?_
    refine g_getA (q2 := 139) 41 (gd rfl) rfl rfl rfl rfl ?_
    refine g_iconst 0 42 (gd rfl) rfl rfl ?_
    refine g_iconst 0 43 (gd rfl) rfl rfl ?_
    refine g_iastore 44 (gd rfl) rfl (n := 33) rfl (in_ix (in_c 0 rfl) rfl) ?_
    have hI43 := inv_sI (q := 139) (j := (Int32.ofInt 0).toNatClampNeg) hI36 rfl (in_w (-2147483648) 2147483647 (in_c 0 rfl) rfl)
    have n44 : ∀ d : Nat, (d : Int) ≤ ((Int32.ofInt 0)).toInt → cb ((sI (sI s1 140 (Int32.ofInt 0).toNatClampNeg z35) 139 (Int32.ofInt 0).toNatClampNeg (Int32.ofInt 0)).1 140 d) + d ≤ 32 := by first | exact fun d hd => g44_0 d (by (first | have a0 := oa2 i21 ((in_c 0 rfl)) | ((first | have a0 := in_u i21 | (have a0 := i21; unfold In at a0)); (first | have a1 := in_u ((in_c 0 rfl)) | (have a1 := (in_c 0 rfl); unfold In at a1)))); have oc := oc_337_109; omega) | (have hS : ((sI (sI s1 140 (Int32.ofInt 0).toNatClampNeg z35) 139 (Int32.ofInt 0).toNatClampNeg (Int32.ofInt 0))).1 140 = upd (upd (sc44.1 140) y44_3.toNatClampNeg z116) z124.toNatClampNeg z138 := (by simp [sI]); rw [hS]; exact (fc_push (w := z159) i92 g44_0 e67 (t_add e124 i92 (in_c 1 rfl) rfl) (t_add e159 i92 (in_c 1 rfl) rfl) (cb_clr e113 e115 e116 i98 hb98) (cb_and_le e138)).1) | (intro d hd; have h0 : (Int32.ofInt 0).toInt = 0 := rfl; have hc := cb_le ((sI (sI s1 140 (Int32.ofInt 0).toNatClampNeg z35) 139 (Int32.ofInt 0).toNatClampNeg (Int32.ofInt 0)).1 140 d); omega)
    have n44a : BSD (sI (sI s1 140 (Int32.ofInt 0).toNatClampNeg z35) 139 (Int32.ofInt 0).toNatClampNeg (Int32.ofInt 0)) := by first | exact p1 | (unfold BSD; simp only [sI_p (show Nat.beq 138 139 = false from rfl), sI_p (show Nat.beq 138 140 = false from rfl)]; exact p1)
    have n44b : RCQ2 (((sI (sI s1 140 (Int32.ofInt 0).toNatClampNeg z35) 139 (Int32.ofInt 0).toNatClampNeg (Int32.ofInt 0))).1 138) (s.2.2.1 109 20).toInt (((sI (sI s1 140 (Int32.ofInt 0).toNatClampNeg z35) 139 (Int32.ofInt 0).toNatClampNeg (Int32.ofInt 0))).1 140) (((sI (sI s1 140 (Int32.ofInt 0).toNatClampNeg z35) 139 (Int32.ofInt 0).toNatClampNeg (Int32.ofInt 0))).1 139) ((Int32.ofInt 0)).toInt ((Int32.ofInt 0)) ((Int32.ofInt 0)).toInt := by exact rcq_0 rfl (fun k => by rw [show (((sI (sI s1 140 (Int32.ofInt 0).toNatClampNeg z35) 139 (Int32.ofInt 0).toNatClampNeg (Int32.ofInt 0))).1 140 0) = z35 from (by rw [sI_p (show Nat.beq 140 139 = false from rfl), sI_q]; exact up_e), ← e_109_20]; exact all_a e33 e35 i21 k) (show (((sI (sI s1 140 (Int32.ofInt 0).toNatClampNeg z35) 139 (Int32.ofInt 0).toNatClampNeg (Int32.ofInt 0))).1 139 0) = Int32.ofInt 0 from (by rw [sI_q]; exact up_e))
    have n44c : BFR (gvZ s) (s.2.2.1 109 20).toInt (((sI (sI s1 140 (Int32.ofInt 0).toNatClampNeg z35) 139 (Int32.ofInt 0).toNatClampNeg (Int32.ofInt 0))).1 138) := by rw [sI_p (show Nat.beq 138 139 = false from rfl), sI_p (show Nat.beq 138 140 = false from rfl)]; exact p1a
    have m44 : sW ((sI (sI s1 140 (Int32.ofInt 0).toNatClampNeg z35) 139 (Int32.ofInt 0).toNatClampNeg (Int32.ofInt 0)).1 140) (((Int32.ofInt 0)).toInt + 1).toNat < 1099511627776 := by exact sW_one _ rfl
    exact gg_w (by first | exact Nat.le_of_ble_eq_true rfl | omega) (gg_f (gf_cons rfl (gf_cons rfl (gf_cons rfl (gf_cons rfl gf_nil)))) (ct44 (1099511627776) (sI (sI s1 140 (Int32.ofInt 0).toNatClampNeg z35) 139 (Int32.ofInt 0).toNatClampNeg (Int32.ofInt 0)) (Int32.ofInt 0) (Int32.ofInt 0) (Int32.ofInt 0) hI43 (fr_sI rfl (fr_sI rfl (fr_tr rfl fr_rf hF1))) (in_w 0 32 (in_c 0 rfl) rfl) (in_w (-1) 32 (in_c 0 rfl) rfl) n44 n44a n44b n44c m44))
  · skip
    have i21 := r_eq1 32 32 c21 ro_109_20 (in_c 32 rfl) rfl
    refine g_iconst (-1) 25 (gd rfl) rfl rfl ?_
    refine g_goto 36 (gd rfl) rfl ?_
    refine g_iastore 37 (gd rfl) rfl (n := 33) rfl (in_ix (in_c 0 rfl) rfl) ?_
    have hI36 := inv_sI (q := 140) (j := (Int32.ofInt 0).toNatClampNeg) hI1 rfl (in_w (-2147483648) 2147483647 (in_c (-1) rfl) rfl)
    refine g_aload_n 38 (gd rfl) rfl rfl ?_
    refine g_getA (q2 := 139) 41 (gd rfl) rfl rfl rfl rfl ?_
    refine g_iconst 0 42 (gd rfl) rfl rfl ?_
    refine g_iconst 0 43 (gd rfl) rfl rfl ?_
    refine g_iastore 44 (gd rfl) rfl (n := 33) rfl (in_ix (in_c 0 rfl) rfl) ?_
    have hI43 := inv_sI (q := 139) (j := (Int32.ofInt 0).toNatClampNeg) hI36 rfl (in_w (-2147483648) 2147483647 (in_c 0 rfl) rfl)
    have n44 : ∀ d : Nat, (d : Int) ≤ ((Int32.ofInt 0)).toInt → cb ((sI (sI s1 140 (Int32.ofInt 0).toNatClampNeg (Int32.ofInt (-1))) 139 (Int32.ofInt 0).toNatClampNeg (Int32.ofInt 0)).1 140 d) + d ≤ 32 := by first | exact fun d hd => g44_0 d (by (first | have a0 := oa2 i21 ((in_c 0 rfl)) | ((first | have a0 := in_u i21 | (have a0 := i21; unfold In at a0)); (first | have a1 := in_u ((in_c 0 rfl)) | (have a1 := (in_c 0 rfl); unfold In at a1)))); have oc := oc_337_109; omega) | (have hS : ((sI (sI s1 140 (Int32.ofInt 0).toNatClampNeg (Int32.ofInt (-1))) 139 (Int32.ofInt 0).toNatClampNeg (Int32.ofInt 0))).1 140 = upd (upd (sc44.1 140) y44_3.toNatClampNeg z116) z124.toNatClampNeg z138 := (by simp [sI]); rw [hS]; exact (fc_push (w := z159) i92 g44_0 e67 (t_add e124 i92 (in_c 1 rfl) rfl) (t_add e159 i92 (in_c 1 rfl) rfl) (cb_clr e113 e115 e116 i98 hb98) (cb_and_le e138)).1) | (intro d hd; have h0 : (Int32.ofInt 0).toInt = 0 := rfl; have hc := cb_le ((sI (sI s1 140 (Int32.ofInt 0).toNatClampNeg (Int32.ofInt (-1))) 139 (Int32.ofInt 0).toNatClampNeg (Int32.ofInt 0)).1 140 d); omega)
    have n44a : BSD (sI (sI s1 140 (Int32.ofInt 0).toNatClampNeg (Int32.ofInt (-1))) 139 (Int32.ofInt 0).toNatClampNeg (Int32.ofInt 0)) := by first | exact p1 | (unfold BSD; simp only [sI_p (show Nat.beq 138 139 = false from rfl), sI_p (show Nat.beq 138 140 = false from rfl)]; exact p1)
    have n44b : RCQ2 (((sI (sI s1 140 (Int32.ofInt 0).toNatClampNeg (Int32.ofInt (-1))) 139 (Int32.ofInt 0).toNatClampNeg (Int32.ofInt 0))).1 138) (s.2.2.1 109 20).toInt (((sI (sI s1 140 (Int32.ofInt 0).toNatClampNeg (Int32.ofInt (-1))) 139 (Int32.ofInt 0).toNatClampNeg (Int32.ofInt 0))).1 140) (((sI (sI s1 140 (Int32.ofInt 0).toNatClampNeg (Int32.ofInt (-1))) 139 (Int32.ofInt 0).toNatClampNeg (Int32.ofInt 0))).1 139) ((Int32.ofInt 0)).toInt ((Int32.ofInt 0)) ((Int32.ofInt 0)).toInt := by exact rcq_0 rfl (fun k => by rw [show (((sI (sI s1 140 (Int32.ofInt 0).toNatClampNeg (Int32.ofInt (-1))) 139 (Int32.ofInt 0).toNatClampNeg (Int32.ofInt 0))).1 140 0) = (Int32.ofInt (-1)) from (by rw [sI_p (show Nat.beq 140 139 = false from rfl), sI_q]; exact up_e), ← e_109_20]; exact all_b (by (first | have a0 := oa2 i21 ((in_c 0 rfl)) | ((first | have a0 := in_u i21 | (have a0 := i21; unfold In at a0)); (first | have a1 := in_u ((in_c 0 rfl)) | (have a1 := (in_c 0 rfl); unfold In at a1)))); have oc := oc_337_109; omega) k) (show (((sI (sI s1 140 (Int32.ofInt 0).toNatClampNeg (Int32.ofInt (-1))) 139 (Int32.ofInt 0).toNatClampNeg (Int32.ofInt 0))).1 139 0) = Int32.ofInt 0 from (by rw [sI_q]; exact up_e))
    have n44c : BFR (gvZ s) (s.2.2.1 109 20).toInt (((sI (sI s1 140 (Int32.ofInt 0).toNatClampNeg (Int32.ofInt (-1))) 139 (Int32.ofInt 0).toNatClampNeg (Int32.ofInt 0))).1 138) := by rw [sI_p (show Nat.beq 138 139 = false from rfl), sI_p (show Nat.beq 138 140 = false from rfl)]; exact p1a
    have m44 : sW ((sI (sI s1 140 (Int32.ofInt 0).toNatClampNeg (Int32.ofInt (-1))) 139 (Int32.ofInt 0).toNatClampNeg (Int32.ofInt 0)).1 140) (((Int32.ofInt 0)).toInt + 1).toNat < 1099511627776 := by exact sW_one _ rfl
    exact gg_w (by first | exact Nat.le_of_ble_eq_true rfl | omega) (gg_f (gf_cons rfl (gf_cons rfl (gf_cons rfl (gf_cons rfl gf_nil)))) (ct44 (1099511627776) (sI (sI s1 140 (Int32.ofInt 0).toNatClampNeg (Int32.ofInt (-1))) 139 (Int32.ofInt 0).toNatClampNeg (Int32.ofInt 0)) (Int32.ofInt 0) (Int32.ofInt 0) (Int32.ofInt 0) hI43 (fr_sI rfl (fr_sI rfl (fr_tr rfl fr_rf hF1))) (in_w 0 32 (in_c 0 rfl) rfl) (in_w (-1) 32 (in_c 0 rfl) rfl) n44 n44a n44b n44c m44))
