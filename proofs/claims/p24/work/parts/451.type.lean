/-! TYPE AND WIPE: what they do on both sides -/
/-- the class's type: it answers the new length, or throws and leaves all as it was -/
def TYc (s : GS) (x : Int32) (t : GS) (z : Int32) : Prop := In x 32 126 ∧ (s.2.2.1 46 1).toInt ≤ 999 ∧ z.toInt = (s.2.2.1 46 1).toInt + 1 ∧ t.2.2.1 46 1 = z ∧ t.1 47 = upd (s.1 47) (s.2.2.1 46 1).toNatClampNeg x
noncomputable def TYx (Z : AmZ) (A : Nat → Nat) (ex : va_W) (s : GS) (x : Int32) : AmX := fun e u => u = WW Z A s ++ ex ∧ ((e = am_IA ∧ (x.toInt < 32 ∨ 126 < x.toInt)) ∨ (e = am_IS ∧ In x 32 126 ∧ 1000 ≤ (s.2.2.1 46 1).toInt))
/-- the reference's -/
def TYr (s : GS) (x : Int32) (t : GS) (z : Int32) : Prop := ((t.2.2.1 109 0).toInt = 1 ∧ (x.toInt < 32 ∨ 126 < x.toInt) ∧ t.2.2.1 109 22 = s.2.2.1 109 22 ∧ t.1 125 = s.1 125) ∨ ((t.2.2.1 109 0).toInt = 2 ∧ In x 32 126 ∧ 1000 ≤ (s.2.2.1 109 22).toInt ∧ t.2.2.1 109 22 = s.2.2.1 109 22 ∧ t.1 125 = s.1 125) ∨ ((t.2.2.1 109 0).toInt = 0 ∧ In x 32 126 ∧ (s.2.2.1 109 22).toInt ≤ 999 ∧ z.toInt = (s.2.2.1 109 22).toInt + 1 ∧ t.2.2.1 109 22 = z ∧ t.1 125 = upd (s.1 125) (s.2.2.1 109 22).toNatClampNeg x)
theorem i2c_id {x z : Int32} (hz : z = (x.toUInt32 % 65536).toInt32) (h : In x 0 65535) : z = x := by
  have e : z.toBitVec.toNat = x.toBitVec.toNat % 65536 := by rw [hz]; rfl
  have hl : z.toBitVec.toNat < 65536 := by rw [e]; exact Nat.mod_lt _ (by decide)
  have e2 : z.toInt = (z.toBitVec.toNat : Int) := BitVec.toInt_eq_toNat_of_lt (by omega)
  have q : x.toInt = _ := BitVec.toInt_eq_toNat_cond x.toBitVec
  have b := x.toBitVec.isLt
  obtain ⟨h1, h2⟩ := h
  have r : x.toInt = (x.toBitVec.toNat : Int) := by
    split at q
    · exact q
    · exfalso; rw [q] at h1; omega
  exact i_eq.mpr (by omega)
theorem ch_x {x z : Int32} (hz : z = (x.toUInt32 % 65536).toInt32) (h : In x 32 126) : vp_nar .char z = x := by
  have hx : In x 0 65535 := in_w 0 65535 h rfl
  have e := i2c_id hz hx
  rw [e]
  exact i2c_id (z := vp_nar .char x) rfl hx


theorem y_223 {Z : AmZ} {A : Nat → Nat} {s : GS} {ex : va_W} {d : Nat} {x1 : Int32} (hd : 7 ≤ d) (hI : Inv s)  : GC Z d 223 [.ref (A 0), .int x1] (WW Z A s ++ ex) 3 18 (fun v u => ∃ t : GS, Inv t ∧ Fr fm_223_0 s t ∧ ∃ z : Int32, v = some (.int z) ∧ u = WW Z A t ++ ex ∧ TYc s x1 t z) (TYx Z A ex s x1) := by
  intro post xp hP hX
  refine g_enter2 (k := 223) (N := 900) (by omega) rfl (Nat.le_of_ble_eq_true rfl) ?_
  refine g_iload_n 1 (gd rfl) rfl rfl ?_
  refine g_bipush 32 3 (gd rfl) rfl rfl ?_
  refine g_cmp_lt 6 16 (gd rfl) rfl rfl (fun c3 => ?_) (fun c3 => ?_)
  · skip
    have i3 := r_lt1 (-2147483648) 31 c3 (i_rng x1) (in_c 32 rfl) rfl
    refine g_iconst 0 17 (gd rfl) rfl rfl ?_
    refine g_thr (E := am_IA) (y := yX11_allow) 20 (gd rfl) rfl rfl (Or.inl ⟨rfl, rfl, rfl⟩) (by omega) (Nat.le_of_ble_eq_true rfl) (Nat.le_of_ble_eq_true rfl) (Nat.le_of_ble_eq_true rfl) (fun c17 => ?_) (fun c17 => ?_)
    · skip
      exact zn_ne c17 (in_c 0 rfl) rfl
    · skip
      exact (hX _ _ ⟨rfl, Or.inl ⟨rfl, Or.inl (by have := i3.2; omega)⟩⟩)
  · skip
    have i3 := r_le2 32 2147483647 c3 (in_c 32 rfl) (i_rng x1) rfl
    refine g_iload_n 7 (gd rfl) rfl rfl ?_
    refine g_bipush 126 9 (gd rfl) rfl rfl ?_
    refine g_cmp_gt 12 16 (gd rfl) rfl rfl (fun c9 => ?_) (fun c9 => ?_)
    · skip
      have i9 := r_lt2 127 2147483647 c9 (in_c 126 rfl) i3 rfl
      refine g_iconst 0 17 (gd rfl) rfl rfl ?_
      refine g_thr (E := am_IA) (y := yX11_allow) 20 (gd rfl) rfl rfl (Or.inl ⟨rfl, rfl, rfl⟩) (by omega) (Nat.le_of_ble_eq_true rfl) (Nat.le_of_ble_eq_true rfl) (Nat.le_of_ble_eq_true rfl) (fun c17 => ?_) (fun c17 => ?_)
      · skip
        exact zn_ne c17 (in_c 0 rfl) rfl
      · skip
        exact (hX _ _ ⟨rfl, Or.inl ⟨rfl, Or.inr (by have := i9.1; omega)⟩⟩)
    · skip
      have i9 := r_le1 32 126 c9 i3 (in_c 126 rfl) rfl
      refine g_iconst 1 13 (gd rfl) rfl rfl ?_
      refine g_goto 17 (gd rfl) rfl ?_
      refine g_thr (E := am_IA) (y := yX11_allow) 20 (gd rfl) rfl rfl (Or.inl ⟨rfl, rfl, rfl⟩) (by omega) (Nat.le_of_ble_eq_true rfl) (Nat.le_of_ble_eq_true rfl) (Nat.le_of_ble_eq_true rfl) (fun c17 => ?_) (fun c17 => ?_)
      · skip
        refine g_aload_n 21 (gd rfl) rfl rfl ?_
        refine g_getA (q2 := 46) 24 (gd rfl) rfl rfl rfl rfl ?_
        refine g_getI 27 (gd rfl) rfl rfl rfl (fun z24 e24 => ?_)
        have i24 := inv_F hI 0 1000 rfl e24
        refine g_sipush 1000 30 (gd rfl) rfl rfl ?_
        refine g_cmp_ge 33 37 (gd rfl) rfl rfl (fun c30 => ?_) (fun c30 => ?_)
        · skip
          have i30 := r_le2 1000 1000 c30 (in_c 1000 rfl) i24 rfl
          refine g_iconst 0 38 (gd rfl) rfl rfl ?_
          refine g_thr (E := am_IS) (y := yX11_ready) 41 (gd rfl) rfl rfl (Or.inr ⟨rfl, rfl, rfl⟩) (by omega) (Nat.le_of_ble_eq_true rfl) (Nat.le_of_ble_eq_true rfl) (Nat.le_of_ble_eq_true rfl) (fun c38 => ?_) (fun c38 => ?_)
          · skip
            exact zn_ne c38 (in_c 0 rfl) rfl
          · skip
            exact (hX _ _ ⟨rfl, Or.inr ⟨rfl, i9, by rw [← e24]; exact i30.1⟩⟩)
        · skip
          have i30 := r_lt1 0 999 c30 i24 (in_c 1000 rfl) rfl
          refine g_iconst 1 34 (gd rfl) rfl rfl ?_
          refine g_goto 38 (gd rfl) rfl ?_
          refine g_thr (E := am_IS) (y := yX11_ready) 41 (gd rfl) rfl rfl (Or.inr ⟨rfl, rfl, rfl⟩) (by omega) (Nat.le_of_ble_eq_true rfl) (Nat.le_of_ble_eq_true rfl) (Nat.le_of_ble_eq_true rfl) (fun c38 => ?_) (fun c38 => ?_)
          · skip
            refine g_aload_n 42 (gd rfl) rfl rfl ?_
            refine g_getA (q2 := 46) 45 (gd rfl) rfl rfl rfl rfl ?_
            refine g_getA (q2 := 47) 48 (gd rfl) rfl rfl rfl rfl ?_
            refine g_aload_n 49 (gd rfl) rfl rfl ?_
            refine g_getA (q2 := 46) 52 (gd rfl) rfl rfl rfl rfl ?_
            refine g_getI 55 (gd rfl) rfl rfl rfl (fun z52 e52 => ?_)
            have q52 : z24 = z52 := (e24).trans e52.symm
            subst q52
            refine g_iload_n 56 (gd rfl) rfl rfl ?_
            refine g_i2c 57 (gd rfl) rfl (fun z56 e56 => ?_)
            have i56 := in_i2c e56
            refine g_castore 58 (gd rfl) rfl (n := 1000) rfl (in_ix i30 rfl) ?_
            have hI57 := inv_sI (q := 47) (j := z24.toNatClampNeg) hI rfl (in_w 0 65535 (nar_c z56) rfl)
            refine g_aload_n 59 (gd rfl) rfl rfl ?_
            refine g_getA (q2 := 46) 62 (gd rfl) rfl rfl rfl rfl ?_
            refine g_dup 63 (gd rfl) rfl rfl ?_
            refine g_getI 66 (gd rfl) rfl rfl rfl (fun z63 e63 => ?_)
            have q63 : z24 = z63 := (sI_F (e24)).trans e63.symm
            subst q63
            refine g_iconst 1 67 (gd rfl) rfl rfl ?_
            refine g_iadd 68 (gd rfl) rfl (fun z67 e67 => ?_)
            have i67 := in_add 1 1000 e67 i30 (in_c 1 rfl) rfl rfl
            refine g_putI 71 (gd rfl) rfl rfl rfl rfl ?_
            have hI68 := inv_sF (q := 46) (j := 1) hI57 rfl (in_w 0 1000 i67 rfl)
            refine g_aload_n 72 (gd rfl) rfl rfl ?_
            refine g_getA (q2 := 46) 75 (gd rfl) rfl rfl rfl rfl ?_
            refine g_getI 78 (gd rfl) rfl rfl rfl (fun z75 e75 => ?_)
            have q75 : z67 = z75 := (sF_get).trans e75.symm
            subst q75
            exact g_ireturn (gd rfl) rfl rfl (hP _ _ ⟨(sF (sI s 47 z24.toNatClampNeg (vp_nar .char z56)) 46 1 z67), hI68, (fr_sF rfl (fr_sI rfl fr_rf)), z67, rfl, rfl, i9, by rw [← e24]; exact i30.2, by rw [← e24]; exact (t_add e67 i30 (in_c 1 rfl) rfl), sF_get.symm, by rw [← e24]; show (sI s 47 z24.toNatClampNeg (vp_nar .char z56)).1 47 = _; rw [sI_q, ch_x e56 i9]⟩)
          · skip
            exact zn_eq c38 (in_c 1 rfl) rfl
      · skip
        exact zn_eq c17 (in_c 1 rfl) rfl


theorem y_293 {Z : AmZ} {A : Nat → Nat} {s : GS} {ex : va_W} {d : Nat} {X : AmX} {x1 : Int32} (hd : 3 ≤ d) (hI : Inv s)  : GC Z d 293 [.ref (A 109), .int x1] (WW Z A s ++ ex) 0 0 (fun v u => ∃ t : GS, Inv t ∧ Fr fm_293 s t ∧ ∃ z : Int32, v = some (.int z) ∧ u = WW Z A t ++ ex ∧ TYr s x1 t z) X := by
  intro post xp hP hX
  refine g_enter2 (k := 293) (N := 900) (by omega) rfl (Nat.le_of_ble_eq_true rfl) ?_
  refine g_aload_n 1 (gd rfl) rfl rfl ?_
  refine g_iload_n 2 (gd rfl) rfl rfl ?_
  refine g_i2l 3 (gd rfl) rfl (fun z2 e2 => ?_)
  have i2 := l_i e2 (i_rng x1)
  refine g_ldc2_w 32 6 (gd rfl) rfl rfl ?_
  refine g_ldc2_w 126 9 (gd rfl) rfl rfl ?_
  refine g_calls (As := [.long z2, .long (Int64.ofInt 32), .long (Int64.ofInt 126)]) (r := [.ref (A 109)]) 12 (gd rfl) rfl rfl rfl rfl rfl (Nat.le_of_ble_eq_true rfl) (mc := 0) (ms := 0) (Nat.zero_le _) (Nat.zero_le _) (P := fun v u => _) ?_ (fun v u h => h)
  intro po9 xx9 hp9 hx9
  refine g_enter2 (k := 269) (N := 300) (by omega) rfl (Nat.le_of_ble_eq_true rfl) ?_
  refine g_lload_n 1 (gd rfl) rfl rfl ?_
  refine g_lload_n 2 (gd rfl) rfl rfl ?_
  refine g_lcmp 3 (gd rfl) rfl (fun z9x2 e9x2 => ?_)
  have i9x2 := lc_in e9x2
  refine g_if_lt 6 17 (gd rfl) rfl rfl (fun c9x3 => ?_) (fun c9x3 => ?_)
  · skip
    have i9x3 := z_lt (-1) (-1) c9x3 i9x2 rfl
    have c9x3a := lc_lt e9x2 c9x3
    have i9x3a := lr_lt1 (-2147483648) 31 c9x3a i2 (l_c 32 rfl) rfl
    have i9x3b := l_b e2 i9x3a
    refine g_iconst 0 18 (gd rfl) rfl rfl ?_
    refine g_ireturn (gd rfl) rfl (nb01 (in_w 0 1 (in_c 0 rfl) rfl)) (hp9 _ _ ?_)
    show GG _ _ _ _ _ _ _ _ [.int (Int32.ofInt 0), .ref (A 109)] _ _ _
    refine g_aload_n 13 (gd rfl) rfl rfl ?_
    refine g_getI 16 (gd rfl) rfl rfl rfl (fun z13 e13 => ?_)
    have i13 := inv_F hI 0 1000 rfl e13
    refine g_sipush 1000 19 (gd rfl) rfl rfl ?_
    refine g_cmp_ge 22 26 (gd rfl) rfl rfl (fun c19 => ?_) (fun c19 => ?_)
    · skip
      have i19 := r_le2 1000 1000 c19 (in_c 1000 rfl) i13 rfl
      refine g_iconst 0 27 (gd rfl) rfl rfl ?_
      refine g_callv (X := _) (As := [.int (Int32.ofInt 0), .int (Int32.ofInt 0)]) (r := []) (b := A 109) (q := 109) 30 (gd rfl) rfl rfl rfl rfl rfl (ww_o rfl) (Nat.le_of_ble_eq_true rfl) (mc := 0) (ms := 0) (Nat.zero_le _) (Nat.zero_le _) (P := fun v u => _) ?_ (fun e u h => h) (fun v u h => h)
      intro po27 xx27 hp27 hx27
      refine g_enter2 (k := 270) (N := 300) (by omega) rfl (Nat.le_of_ble_eq_true rfl) ?_
      refine g_aload_n 1 (gd rfl) rfl rfl ?_
      refine g_iload_n 2 (gd rfl) rfl rfl ?_
      refine g_if_ne 5 9 (gd rfl) rfl rfl (fun c27x2 => ?_) (fun c27x2 => ?_)
      · skip
        exact zn_ne c27x2 (in_c 0 rfl) rfl
      · skip
        refine g_iconst 1 6 (gd rfl) rfl rfl ?_
        refine g_goto 18 (gd rfl) rfl ?_
        refine g_putI 21 (gd rfl) rfl rfl rfl rfl ?_
        have hI27x18 := inv_sF (q := 109) (j := 0) hI rfl (in_w 0 2 (in_c 1 rfl) rfl)
        refine g_aload_n 22 (gd rfl) rfl rfl ?_
        refine g_getI 25 (gd rfl) rfl rfl rfl (fun z27x22 e27x22 => ?_)
        have q27x22 : (Int32.ofInt 1) = z27x22 := (sF_get).trans e27x22.symm
        subst q27x22
        refine g_if_le 28 32 (gd rfl) rfl rfl (fun c27x25 => ?_) (fun c27x25 => ?_)
        · skip
          exact zn_le c27x25 (in_c 1 rfl) rfl
        · skip
          refine g_iconst 1 29 (gd rfl) rfl rfl ?_
          refine g_goto 33 (gd rfl) rfl ?_
          refine g_ireturn (gd rfl) rfl (nb01 (in_w 0 1 (in_c 1 rfl) rfl)) (hp27 _ _ ?_)
          show GG _ _ _ _ _ _ _ _ [.int (Int32.ofInt 1)] _ _ _
          refine g_if_eq 33 35 (gd rfl) rfl rfl (fun c30 => ?_) (fun c30 => ?_)
          · skip
            exact zn_eq c30 (in_c 1 rfl) rfl
          · skip
            refine g_iconst 0 34 (gd rfl) rfl rfl ?_
            exact g_ireturn (gd rfl) rfl rfl (hP _ _ ⟨(sF s 109 0 (Int32.ofInt 1)), hI27x18, (fr_sF rfl fr_rf), (Int32.ofInt 0), rfl, rfl, Or.inl ⟨rfl, Or.inl (by have := i9x3b.2; omega), rfl, rfl⟩⟩)
    · skip
      have i19 := r_lt1 0 999 c19 i13 (in_c 1000 rfl) rfl
      refine g_iconst 1 23 (gd rfl) rfl rfl ?_
      refine g_goto 27 (gd rfl) rfl ?_
      refine g_callv (X := _) (As := [.int (Int32.ofInt 0), .int (Int32.ofInt 1)]) (r := []) (b := A 109) (q := 109) 30 (gd rfl) rfl rfl rfl rfl rfl (ww_o rfl) (Nat.le_of_ble_eq_true rfl) (mc := 0) (ms := 0) (Nat.zero_le _) (Nat.zero_le _) (P := fun v u => _) ?_ (fun e u h => h) (fun v u h => h)
      intro po27 xx27 hp27 hx27
      refine g_enter2 (k := 270) (N := 300) (by omega) rfl (Nat.le_of_ble_eq_true rfl) ?_
      refine g_aload_n 1 (gd rfl) rfl rfl ?_
      refine g_iload_n 2 (gd rfl) rfl rfl ?_
      refine g_if_ne 5 9 (gd rfl) rfl rfl (fun c27x2 => ?_) (fun c27x2 => ?_)
      · skip
        exact zn_ne c27x2 (in_c 0 rfl) rfl
      · skip
        refine g_iconst 1 6 (gd rfl) rfl rfl ?_
        refine g_goto 18 (gd rfl) rfl ?_
        refine g_putI 21 (gd rfl) rfl rfl rfl rfl ?_
        have hI27x18 := inv_sF (q := 109) (j := 0) hI rfl (in_w 0 2 (in_c 1 rfl) rfl)
        refine g_aload_n 22 (gd rfl) rfl rfl ?_
        refine g_getI 25 (gd rfl) rfl rfl rfl (fun z27x22 e27x22 => ?_)
        have q27x22 : (Int32.ofInt 1) = z27x22 := (sF_get).trans e27x22.symm
        subst q27x22
        refine g_if_le 28 32 (gd rfl) rfl rfl (fun c27x25 => ?_) (fun c27x25 => ?_)
        · skip
          exact zn_le c27x25 (in_c 1 rfl) rfl
        · skip
          refine g_iconst 1 29 (gd rfl) rfl rfl ?_
          refine g_goto 33 (gd rfl) rfl ?_
          refine g_ireturn (gd rfl) rfl (nb01 (in_w 0 1 (in_c 1 rfl) rfl)) (hp27 _ _ ?_)
          show GG _ _ _ _ _ _ _ _ [.int (Int32.ofInt 1)] _ _ _
          refine g_if_eq 33 35 (gd rfl) rfl rfl (fun c30 => ?_) (fun c30 => ?_)
          · skip
            exact zn_eq c30 (in_c 1 rfl) rfl
          · skip
            refine g_iconst 0 34 (gd rfl) rfl rfl ?_
            exact g_ireturn (gd rfl) rfl rfl (hP _ _ ⟨(sF s 109 0 (Int32.ofInt 1)), hI27x18, (fr_sF rfl fr_rf), (Int32.ofInt 0), rfl, rfl, Or.inl ⟨rfl, Or.inl (by have := i9x3b.2; omega), rfl, rfl⟩⟩)
  · skip
    have i9x3 := z_ge 0 1 c9x3 i9x2 rfl
    have c9x3a := lc_ge e9x2 c9x3
    have i9x3a := lr_le2 32 2147483647 c9x3a (l_c 32 rfl) i2 rfl
    have i9x3b := l_b e2 i9x3a
    refine g_lload_n 7 (gd rfl) rfl rfl ?_
    refine g_lload 9 (gd rfl) rfl rfl ?_
    refine g_lcmp 10 (gd rfl) rfl (fun z9x9 e9x9 => ?_)
    have i9x9 := lc_in e9x9
    refine g_if_gt 13 17 (gd rfl) rfl rfl (fun c9x10 => ?_) (fun c9x10 => ?_)
    · skip
      have i9x10 := z_gt 1 1 c9x10 i9x9 rfl
      have c9x10a := lc_gt e9x9 c9x10
      have i9x10a := lr_lt2 127 2147483647 c9x10a (l_c 126 rfl) i9x3a rfl
      have i9x10b := l_b e2 i9x10a
      refine g_iconst 0 18 (gd rfl) rfl rfl ?_
      refine g_ireturn (gd rfl) rfl (nb01 (in_w 0 1 (in_c 0 rfl) rfl)) (hp9 _ _ ?_)
      show GG _ _ _ _ _ _ _ _ [.int (Int32.ofInt 0), .ref (A 109)] _ _ _
      refine g_aload_n 13 (gd rfl) rfl rfl ?_
      refine g_getI 16 (gd rfl) rfl rfl rfl (fun z13 e13 => ?_)
      have i13 := inv_F hI 0 1000 rfl e13
      refine g_sipush 1000 19 (gd rfl) rfl rfl ?_
      refine g_cmp_ge 22 26 (gd rfl) rfl rfl (fun c19 => ?_) (fun c19 => ?_)
      · skip
        have i19 := r_le2 1000 1000 c19 (in_c 1000 rfl) i13 rfl
        refine g_iconst 0 27 (gd rfl) rfl rfl ?_
        refine g_callv (X := _) (As := [.int (Int32.ofInt 0), .int (Int32.ofInt 0)]) (r := []) (b := A 109) (q := 109) 30 (gd rfl) rfl rfl rfl rfl rfl (ww_o rfl) (Nat.le_of_ble_eq_true rfl) (mc := 0) (ms := 0) (Nat.zero_le _) (Nat.zero_le _) (P := fun v u => _) ?_ (fun e u h => h) (fun v u h => h)
        intro po27 xx27 hp27 hx27
        refine g_enter2 (k := 270) (N := 300) (by omega) rfl (Nat.le_of_ble_eq_true rfl) ?_
        refine g_aload_n 1 (gd rfl) rfl rfl ?_
        refine g_iload_n 2 (gd rfl) rfl rfl ?_
        refine g_if_ne 5 9 (gd rfl) rfl rfl (fun c27x2 => ?_) (fun c27x2 => ?_)
        · skip
          exact zn_ne c27x2 (in_c 0 rfl) rfl
        · skip
          refine g_iconst 1 6 (gd rfl) rfl rfl ?_
          refine g_goto 18 (gd rfl) rfl ?_
          refine g_putI 21 (gd rfl) rfl rfl rfl rfl ?_
          have hI27x18 := inv_sF (q := 109) (j := 0) hI rfl (in_w 0 2 (in_c 1 rfl) rfl)
          refine g_aload_n 22 (gd rfl) rfl rfl ?_
          refine g_getI 25 (gd rfl) rfl rfl rfl (fun z27x22 e27x22 => ?_)
          have q27x22 : (Int32.ofInt 1) = z27x22 := (sF_get).trans e27x22.symm
          subst q27x22
          refine g_if_le 28 32 (gd rfl) rfl rfl (fun c27x25 => ?_) (fun c27x25 => ?_)
          · skip
            exact zn_le c27x25 (in_c 1 rfl) rfl
          · skip
            refine g_iconst 1 29 (gd rfl) rfl rfl ?_
            refine g_goto 33 (gd rfl) rfl ?_
            refine g_ireturn (gd rfl) rfl (nb01 (in_w 0 1 (in_c 1 rfl) rfl)) (hp27 _ _ ?_)
            show GG _ _ _ _ _ _ _ _ [.int (Int32.ofInt 1)] _ _ _
            refine g_if_eq 33 35 (gd rfl) rfl rfl (fun c30 => ?_) (fun c30 => ?_)
            · skip
              exact zn_eq c30 (in_c 1 rfl) rfl
            · skip
              refine g_iconst 0 34 (gd rfl) rfl rfl ?_
              exact g_ireturn (gd rfl) rfl rfl (hP _ _ ⟨(sF s 109 0 (Int32.ofInt 1)), hI27x18, (fr_sF rfl fr_rf), (Int32.ofInt 0), rfl, rfl, Or.inl ⟨rfl, Or.inr (by have := i9x10b.1; omega), rfl, rfl⟩⟩)
      · skip
        have i19 := r_lt1 0 999 c19 i13 (in_c 1000 rfl) rfl
        refine g_iconst 1 23 (gd rfl) rfl rfl ?_
        refine g_goto 27 (gd rfl) rfl ?_
        refine g_callv (X := _) (As := [.int (Int32.ofInt 0), .int (Int32.ofInt 1)]) (r := []) (b := A 109) (q := 109) 30 (gd rfl) rfl rfl rfl rfl rfl (ww_o rfl) (Nat.le_of_ble_eq_true rfl) (mc := 0) (ms := 0) (Nat.zero_le _) (Nat.zero_le _) (P := fun v u => _) ?_ (fun e u h => h) (fun v u h => h)
        intro po27 xx27 hp27 hx27
        refine g_enter2 (k := 270) (N := 300) (by omega) rfl (Nat.le_of_ble_eq_true rfl) ?_
        refine g_aload_n 1 (gd rfl) rfl rfl ?_
        refine g_iload_n 2 (gd rfl) rfl rfl ?_
        refine g_if_ne 5 9 (gd rfl) rfl rfl (fun c27x2 => ?_) (fun c27x2 => ?_)
        · skip
          exact zn_ne c27x2 (in_c 0 rfl) rfl
        · skip
          refine g_iconst 1 6 (gd rfl) rfl rfl ?_
          refine g_goto 18 (gd rfl) rfl ?_
          refine g_putI 21 (gd rfl) rfl rfl rfl rfl ?_
          have hI27x18 := inv_sF (q := 109) (j := 0) hI rfl (in_w 0 2 (in_c 1 rfl) rfl)
          refine g_aload_n 22 (gd rfl) rfl rfl ?_
          refine g_getI 25 (gd rfl) rfl rfl rfl (fun z27x22 e27x22 => ?_)
          have q27x22 : (Int32.ofInt 1) = z27x22 := (sF_get).trans e27x22.symm
          subst q27x22
          refine g_if_le 28 32 (gd rfl) rfl rfl (fun c27x25 => ?_) (fun c27x25 => ?_)
          · skip
            exact zn_le c27x25 (in_c 1 rfl) rfl
          · skip
            refine g_iconst 1 29 (gd rfl) rfl rfl ?_
            refine g_goto 33 (gd rfl) rfl ?_
            refine g_ireturn (gd rfl) rfl (nb01 (in_w 0 1 (in_c 1 rfl) rfl)) (hp27 _ _ ?_)
            show GG _ _ _ _ _ _ _ _ [.int (Int32.ofInt 1)] _ _ _
            refine g_if_eq 33 35 (gd rfl) rfl rfl (fun c30 => ?_) (fun c30 => ?_)
            · skip
              exact zn_eq c30 (in_c 1 rfl) rfl
            · skip
              refine g_iconst 0 34 (gd rfl) rfl rfl ?_
              exact g_ireturn (gd rfl) rfl rfl (hP _ _ ⟨(sF s 109 0 (Int32.ofInt 1)), hI27x18, (fr_sF rfl fr_rf), (Int32.ofInt 0), rfl, rfl, Or.inl ⟨rfl, Or.inr (by have := i9x10b.1; omega), rfl, rfl⟩⟩)
    · skip
      have i9x10 := z_le (-1) 0 c9x10 i9x9 rfl
      have c9x10a := lc_le e9x9 c9x10
      have i9x10a := lr_le1 32 126 c9x10a i9x3a (l_c 126 rfl) rfl
      have i9x10b := l_b e2 i9x10a
      refine g_iconst 1 14 (gd rfl) rfl rfl ?_
      refine g_goto 18 (gd rfl) rfl ?_
      refine g_ireturn (gd rfl) rfl (nb01 (in_w 0 1 (in_c 1 rfl) rfl)) (hp9 _ _ ?_)
      show GG _ _ _ _ _ _ _ _ [.int (Int32.ofInt 1), .ref (A 109)] _ _ _
      refine g_aload_n 13 (gd rfl) rfl rfl ?_
      refine g_getI 16 (gd rfl) rfl rfl rfl (fun z13 e13 => ?_)
      have i13 := inv_F hI 0 1000 rfl e13
      refine g_sipush 1000 19 (gd rfl) rfl rfl ?_
      refine g_cmp_ge 22 26 (gd rfl) rfl rfl (fun c19 => ?_) (fun c19 => ?_)
      · skip
        have i19 := r_le2 1000 1000 c19 (in_c 1000 rfl) i13 rfl
        refine g_iconst 0 27 (gd rfl) rfl rfl ?_
        refine g_callv (X := _) (As := [.int (Int32.ofInt 1), .int (Int32.ofInt 0)]) (r := []) (b := A 109) (q := 109) 30 (gd rfl) rfl rfl rfl rfl rfl (ww_o rfl) (Nat.le_of_ble_eq_true rfl) (mc := 0) (ms := 0) (Nat.zero_le _) (Nat.zero_le _) (P := fun v u => _) ?_ (fun e u h => h) (fun v u h => h)
        intro po27 xx27 hp27 hx27
        refine g_enter2 (k := 270) (N := 300) (by omega) rfl (Nat.le_of_ble_eq_true rfl) ?_
        refine g_aload_n 1 (gd rfl) rfl rfl ?_
        refine g_iload_n 2 (gd rfl) rfl rfl ?_
        refine g_if_ne 5 9 (gd rfl) rfl rfl (fun c27x2 => ?_) (fun c27x2 => ?_)
        · skip
          refine g_iload_n 10 (gd rfl) rfl rfl ?_
          refine g_if_ne 13 17 (gd rfl) rfl rfl (fun c27x10 => ?_) (fun c27x10 => ?_)
          · skip
            exact zn_ne c27x10 (in_c 0 rfl) rfl
          · skip
            refine g_iconst 2 14 (gd rfl) rfl rfl ?_
            refine g_goto 18 (gd rfl) rfl ?_
            refine g_putI 21 (gd rfl) rfl rfl rfl rfl ?_
            have hI27x18 := inv_sF (q := 109) (j := 0) hI rfl (in_w 0 2 (in_c 2 rfl) rfl)
            refine g_aload_n 22 (gd rfl) rfl rfl ?_
            refine g_getI 25 (gd rfl) rfl rfl rfl (fun z27x22 e27x22 => ?_)
            have q27x22 : (Int32.ofInt 2) = z27x22 := (sF_get).trans e27x22.symm
            subst q27x22
            refine g_if_le 28 32 (gd rfl) rfl rfl (fun c27x25 => ?_) (fun c27x25 => ?_)
            · skip
              exact zn_le c27x25 (in_c 2 rfl) rfl
            · skip
              refine g_iconst 1 29 (gd rfl) rfl rfl ?_
              refine g_goto 33 (gd rfl) rfl ?_
              refine g_ireturn (gd rfl) rfl (nb01 (in_w 0 1 (in_c 1 rfl) rfl)) (hp27 _ _ ?_)
              show GG _ _ _ _ _ _ _ _ [.int (Int32.ofInt 1)] _ _ _
              refine g_if_eq 33 35 (gd rfl) rfl rfl (fun c30 => ?_) (fun c30 => ?_)
              · skip
                exact zn_eq c30 (in_c 1 rfl) rfl
              · skip
                refine g_iconst 0 34 (gd rfl) rfl rfl ?_
                exact g_ireturn (gd rfl) rfl rfl (hP _ _ ⟨(sF s 109 0 (Int32.ofInt 2)), hI27x18, (fr_sF rfl fr_rf), (Int32.ofInt 0), rfl, rfl, Or.inr (Or.inl ⟨rfl, i9x10b, by rw [← e13]; exact i19.1, rfl, rfl⟩)⟩)
        · skip
          exact zn_eq c27x2 (in_c 1 rfl) rfl
      · skip
        have i19 := r_lt1 0 999 c19 i13 (in_c 1000 rfl) rfl
        refine g_iconst 1 23 (gd rfl) rfl rfl ?_
        refine g_goto 27 (gd rfl) rfl ?_
        refine g_callv (X := _) (As := [.int (Int32.ofInt 1), .int (Int32.ofInt 1)]) (r := []) (b := A 109) (q := 109) 30 (gd rfl) rfl rfl rfl rfl rfl (ww_o rfl) (Nat.le_of_ble_eq_true rfl) (mc := 0) (ms := 0) (Nat.zero_le _) (Nat.zero_le _) (P := fun v u => _) ?_ (fun e u h => h) (fun v u h => h)
        intro po27 xx27 hp27 hx27
        refine g_enter2 (k := 270) (N := 300) (by omega) rfl (Nat.le_of_ble_eq_true rfl) ?_
        refine g_aload_n 1 (gd rfl) rfl rfl ?_
        refine g_iload_n 2 (gd rfl) rfl rfl ?_
        refine g_if_ne 5 9 (gd rfl) rfl rfl (fun c27x2 => ?_) (fun c27x2 => ?_)
        · skip
          refine g_iload_n 10 (gd rfl) rfl rfl ?_
          refine g_if_ne 13 17 (gd rfl) rfl rfl (fun c27x10 => ?_) (fun c27x10 => ?_)
          · skip
            refine g_iconst 0 18 (gd rfl) rfl rfl ?_
            refine g_putI 21 (gd rfl) rfl rfl rfl rfl ?_
            have hI27x18 := inv_sF (q := 109) (j := 0) hI rfl (in_w 0 2 (in_c 0 rfl) rfl)
            refine g_aload_n 22 (gd rfl) rfl rfl ?_
            refine g_getI 25 (gd rfl) rfl rfl rfl (fun z27x22 e27x22 => ?_)
            have q27x22 : (Int32.ofInt 0) = z27x22 := (sF_get).trans e27x22.symm
            subst q27x22
            refine g_if_le 28 32 (gd rfl) rfl rfl (fun c27x25 => ?_) (fun c27x25 => ?_)
            · skip
              refine g_iconst 0 33 (gd rfl) rfl rfl ?_
              refine g_ireturn (gd rfl) rfl (nb01 (in_w 0 1 (in_c 0 rfl) rfl)) (hp27 _ _ ?_)
              show GG _ _ _ _ _ _ _ _ [.int (Int32.ofInt 0)] _ _ _
              refine g_if_eq 33 35 (gd rfl) rfl rfl (fun c30 => ?_) (fun c30 => ?_)
              · skip
                refine g_aload_n 36 (gd rfl) rfl rfl ?_
                refine g_getA (q2 := 125) 39 (gd rfl) rfl rfl rfl rfl ?_
                refine g_aload_n 40 (gd rfl) rfl rfl ?_
                refine g_getI 43 (gd rfl) rfl rfl rfl (fun z40 e40 => ?_)
                have q40 : z13 = z40 := (sF_ne rfl (e13)).trans e40.symm
                subst q40
                refine g_iload_n 44 (gd rfl) rfl rfl ?_
                refine g_iastore 45 (gd rfl) rfl (n := 1000) rfl (in_ix i19 rfl) ?_
                have hI44 := inv_sI (q := 125) (j := z13.toNatClampNeg) hI27x18 rfl (in_w 0 126 i9x10b rfl)
                refine g_aload_n 46 (gd rfl) rfl rfl ?_
                refine g_dup 47 (gd rfl) rfl rfl ?_
                refine g_getI 50 (gd rfl) rfl rfl rfl (fun z47 e47 => ?_)
                have q47 : z13 = z47 := (sI_F (sF_ne rfl (e13))).trans e47.symm
                subst q47
                refine g_iconst 1 51 (gd rfl) rfl rfl ?_
                refine g_iadd 52 (gd rfl) rfl (fun z51 e51 => ?_)
                have i51 := in_add 1 1000 e51 i19 (in_c 1 rfl) rfl rfl
                refine g_putI 55 (gd rfl) rfl rfl rfl rfl ?_
                have hI52 := inv_sF (q := 109) (j := 22) hI44 rfl (in_w 0 1000 i51 rfl)
                refine g_aload_n 56 (gd rfl) rfl rfl ?_
                refine g_getI 59 (gd rfl) rfl rfl rfl (fun z56 e56 => ?_)
                have q56 : z51 = z56 := (sF_get).trans e56.symm
                subst q56
                exact g_ireturn (gd rfl) rfl rfl (hP _ _ ⟨(sF (sI (sF s 109 0 (Int32.ofInt 0)) 125 z13.toNatClampNeg x1) 109 22 z51), hI52, (fr_sF rfl (fr_sI rfl (fr_sF rfl fr_rf))), z51, rfl, rfl, Or.inr (Or.inr ⟨rfl, i9x10b, by rw [← e13]; exact i19.2, by rw [← e13]; exact (t_add e51 i19 (in_c 1 rfl) rfl), sF_get.symm, by rw [← e13]; show (sI (sF s 109 0 (Int32.ofInt 0)) 125 z13.toNatClampNeg x1).1 125 = _; exact sI_q⟩)⟩)
              · skip
                exact zn_ne c30 (in_c 0 rfl) rfl
            · skip
              exact zn_gt c27x25 (in_c 0 rfl) rfl
          · skip
            exact zn_eq c27x10 (in_c 1 rfl) rfl
        · skip
          exact zn_eq c27x2 (in_c 1 rfl) rfl


theorem y_224 {Z : AmZ} {A : Nat → Nat} {s : GS} {ex : va_W} {d : Nat} {X : AmX}  (hd : 1 ≤ d) (hI : Inv s)  : GC Z d 224 [.ref (A 0)] (WW Z A s ++ ex) 3 18 (fun v u => ∃ t : GS, Inv t ∧ Fr fm_224_0 s t ∧ ∃ z : Int32, v = some (.int z) ∧ u = WW Z A t ++ ex ∧ t.2.2.1 46 1 = Int32.ofInt 0 ∧ z = s.2.2.1 46 1) X := by
  intro post xp hP hX
  refine g_enter2 (k := 224) (N := 900) (by omega) rfl (Nat.le_of_ble_eq_true rfl) ?_
  refine g_aload_n 1 (gd rfl) rfl rfl ?_
  refine g_getA (q2 := 46) 4 (gd rfl) rfl rfl rfl rfl ?_
  refine g_getI 7 (gd rfl) rfl rfl rfl (fun z4 e4 => ?_)
  have i4 := inv_F hI 0 1000 rfl e4
  refine g_istore_n 8 (gd rfl) rfl (Nat.le_of_ble_eq_true rfl) ?_
  refine g_aload_n 9 (gd rfl) rfl rfl ?_
  refine g_getA (q2 := 46) 12 (gd rfl) rfl rfl rfl rfl ?_
  refine g_iconst 0 13 (gd rfl) rfl rfl ?_
  refine g_putI 16 (gd rfl) rfl rfl rfl rfl ?_
  have hI13 := inv_sF (q := 46) (j := 1) hI rfl (in_w 0 1000 (in_c 0 rfl) rfl)
  refine g_iload_n 17 (gd rfl) rfl rfl ?_
  exact g_ireturn (gd rfl) rfl rfl (hP _ _ ⟨(sF s 46 1 (Int32.ofInt 0)), hI13, (fr_sF rfl fr_rf), z4, rfl, rfl, sF_get.symm, e4⟩)


theorem y_294 {Z : AmZ} {A : Nat → Nat} {s : GS} {ex : va_W} {d : Nat} {X : AmX}  (hd : 1 ≤ d) (hI : Inv s)  : GC Z d 294 [.ref (A 109)] (WW Z A s ++ ex) 0 0 (fun v u => ∃ t : GS, Inv t ∧ Fr fm_294 s t ∧ ∃ z : Int32, v = some (.int z) ∧ u = WW Z A t ++ ex ∧ t.2.2.1 109 22 = Int32.ofInt 0 ∧ z = s.2.2.1 109 22) X := by
  intro post xp hP hX
  refine g_enter2 (k := 294) (N := 900) (by omega) rfl (Nat.le_of_ble_eq_true rfl) ?_
  refine g_aload_n 1 (gd rfl) rfl rfl ?_
  refine g_iconst 0 2 (gd rfl) rfl rfl ?_
  refine g_putI 5 (gd rfl) rfl rfl rfl rfl ?_
  have hI2 := inv_sF (q := 109) (j := 0) hI rfl (in_w 0 2 (in_c 0 rfl) rfl)
  refine g_aload_n 6 (gd rfl) rfl rfl ?_
  refine g_getI 9 (gd rfl) rfl rfl rfl (fun z6 e6 => ?_)
  have i6 := inv_F hI2 0 1000 rfl e6
  refine g_istore_n 10 (gd rfl) rfl (Nat.le_of_ble_eq_true rfl) ?_
  refine g_aload_n 11 (gd rfl) rfl rfl ?_
  refine g_iconst 0 12 (gd rfl) rfl rfl ?_
  refine g_putI 15 (gd rfl) rfl rfl rfl rfl ?_
  have hI12 := inv_sF (q := 109) (j := 22) hI2 rfl (in_w 0 1000 (in_c 0 rfl) rfl)
  refine g_iload_n 16 (gd rfl) rfl rfl ?_
  exact g_ireturn (gd rfl) rfl rfl (hP _ _ ⟨(sF (sF s 109 0 (Int32.ofInt 0)) 109 22 (Int32.ofInt 0)), hI12, (fr_sF rfl (fr_sF rfl fr_rf)), z6, rfl, rfl, sF_get.symm, e6.trans (show _ = _ from (sF_ne rfl rfl).symm)⟩)


theorem y_268 {Z : AmZ} {A : Nat → Nat} {s : GS} {ex : va_W} {d : Nat} {X : AmX}  (hd : 1 ≤ d) (hI : Inv s)  : GC Z d 268 [.ref (A 109)] (WW Z A s ++ ex) 0 0 (fun v u => ∃ z : Int32, v = some (.int z) ∧ u = WW Z A s ++ ex ∧ z = s.2.2.1 109 0) X := by
  intro post xp hP hX
  obtain ⟨u_109_0, e_109_0⟩ : ∃ w, w = s.2.2.1 109 0 := ⟨_, rfl⟩
  have ro_109_0 := inv_F hI 0 2 rfl e_109_0
  refine g_enter2 (k := 268) (N := 900) (by omega) rfl (Nat.le_of_ble_eq_true rfl) ?_
  refine g_aload_n 1 (gd rfl) rfl rfl ?_
  refine g_getI 4 (gd rfl) rfl rfl rfl (fun z1 e1 => ?_)
  have q1 : u_109_0 = z1 := (e_109_0).trans e1.symm
  subst q1
  exact g_ireturn (gd rfl) rfl rfl (hP _ _ ⟨u_109_0, rfl, rfl, e_109_0⟩)

theorem y_218 {Z : AmZ} {A : Nat → Nat} {s : GS} {ex : va_W} {d : Nat} {X : AmX}  (hd : 1 ≤ d) (hI : Inv s)  : GC Z d 218 [.ref (A 0)] (WW Z A s ++ ex) 3 18 (fun v u => ∃ z : Int32, v = some (.int z) ∧ u = WW Z A s ++ ex ∧ z = s.2.2.1 2 0) X := by
  intro post xp hP hX
  obtain ⟨u_2_0, e_2_0⟩ : ∃ w, w = s.2.2.1 2 0 := ⟨_, rfl⟩
  have ro_2_0 := inv_F hI 0 4000 rfl e_2_0
  refine g_enter2 (k := 218) (N := 900) (by omega) rfl (Nat.le_of_ble_eq_true rfl) ?_
  refine g_aload_n 1 (gd rfl) rfl rfl ?_
  refine g_getA (q2 := 1) 4 (gd rfl) rfl rfl rfl rfl ?_
  refine g_getA (q2 := 2) 7 (gd rfl) rfl rfl rfl rfl ?_
  refine g_getI 10 (gd rfl) rfl rfl rfl (fun z7 e7 => ?_)
  have q7 : u_2_0 = z7 := (e_2_0).trans e7.symm
  subst q7
  exact g_ireturn (gd rfl) rfl rfl (hP _ _ ⟨u_2_0, rfl, rfl, e_2_0⟩)


theorem y_287 {Z : AmZ} {A : Nat → Nat} {s : GS} {ex : va_W} {d : Nat} {X : AmX}  (hd : 1 ≤ d) (hI : Inv s)  : GC Z d 287 [.ref (A 109)] (WW Z A s ++ ex) 0 0 (fun v u => ∃ t : GS, Inv t ∧ Fr fm_287 s t ∧ ∃ z : Int32, v = some (.int z) ∧ u = WW Z A t ++ ex ∧ z = s.2.2.1 109 9) X := by
  intro post xp hP hX
  obtain ⟨u_109_9, e_109_9⟩ : ∃ w, w = s.2.2.1 109 9 := ⟨_, rfl⟩
  have ro_109_9 := inv_F hI 0 4000 rfl e_109_9
  refine g_enter2 (k := 287) (N := 900) (by omega) rfl (Nat.le_of_ble_eq_true rfl) ?_
  refine g_aload_n 1 (gd rfl) rfl rfl ?_
  refine g_iconst 0 2 (gd rfl) rfl rfl ?_
  refine g_putI 5 (gd rfl) rfl rfl rfl rfl ?_
  have hI2 := inv_sF (q := 109) (j := 0) hI rfl (in_w 0 2 (in_c 0 rfl) rfl)
  refine g_aload_n 6 (gd rfl) rfl rfl ?_
  refine g_getI 9 (gd rfl) rfl rfl rfl (fun z6 e6 => ?_)
  have q6 : u_109_9 = z6 := (sF_ne rfl (e_109_9)).trans e6.symm
  subst q6
  exact g_ireturn (gd rfl) rfl rfl (hP _ _ ⟨(sF s 109 0 (Int32.ofInt 0)), hI2, (fr_sF rfl fr_rf), u_109_9, rfl, rfl, e_109_9⟩)


noncomputable def WTy (Z : AmZ) (A : Nat → Nat) (s : GS) (x : Int32) : AmR := fun v u => ∃ (c : Int32) (t : GS), v = some (.int c) ∧ u = WW Z A t ++ [] ∧ Inv t ∧ Fr ([47], [195], [(46, 1)], []) s t ∧ KL t ∧ ((c.toInt = 1 ∧ (x.toInt < 32 ∨ 126 < x.toInt) ∧ t.2.2.1 46 1 = s.2.2.1 46 1 ∧ t.1 47 = s.1 47) ∨ (c.toInt = 2 ∧ In x 32 126 ∧ 1000 ≤ (s.2.2.1 46 1).toInt ∧ t.2.2.1 46 1 = s.2.2.1 46 1 ∧ t.1 47 = s.1 47) ∨ (c.toInt = 0 ∧ In x 32 126 ∧ (s.2.2.1 46 1).toInt ≤ 999 ∧ (t.2.2.1 46 1).toInt = (s.2.2.1 46 1).toInt + 1 ∧ t.2.1 195 0 = (t.2.2.1 46 1).toInt64 ∧ t.1 47 = upd (s.1 47) (s.2.2.1 46 1).toNatClampNeg x))
theorem wt_11 {Z : AmZ} {A : Nat → Nat} {s : GS} {x1 : Int32} (hI : Inv s) (q : KL s) : WC Z 1300 11 [.ref (A 0), .int x1, .ref (A 195)] (WW Z A s ++ []) 3 18 (WTy Z A s x1) := by
  intro post hP xp
  refine w_enter (k := 11) (d := 1299) (N := 60) rfl (Nat.le_of_ble_eq_true rfl) ?_
  refine g_aload_n 1 (gd rfl) rfl rfl ?_
  refine g_iconst 0 2 (gd rfl) rfl rfl ?_
  refine g_aload_n 3 (gd rfl) rfl rfl ?_
  refine g_iload_n 4 (gd rfl) rfl rfl ?_
  refine g_callvH (As := [.int x1]) (r := [.int (Int32.ofInt 0), .ref (A 195)]) (b := A 0) (q := 0) 7 (gd rfl) rfl rfl rfl rfl rfl rfl (ww_o rfl) (Nat.le_of_ble_eq_true rfl) (Nat.le_refl _) (Nat.le_refl _) (y_223 (by omega) hI) (fun e u h => ?_) (fun v u h => ?_)
  · obtain ⟨rfl, he⟩ := h
    rcases he with ⟨rfl, hx⟩ | ⟨rfl, hx, hl⟩
    · refine ⟨0, 12, by decide, rfl, rfl, fun a => ?_⟩
      refine g_astore_n 13 (gd rfl) rfl (Nat.le_of_ble_eq_true rfl) ?_
      refine g_iconst 1 14 (gd rfl) rfl rfl ?_
      exact g_ireturn (gd rfl) rfl rfl (hP _ _ ⟨_, s, rfl, rfl, hI, fr_rf, q, Or.inl ⟨rfl, hx, rfl, rfl⟩⟩)
    · refine ⟨1, 15, by decide, rfl, rfl, fun a => ?_⟩
      refine g_astore_n 16 (gd rfl) rfl (Nat.le_of_ble_eq_true rfl) ?_
      refine g_iconst 2 17 (gd rfl) rfl rfl ?_
      exact g_ireturn (gd rfl) rfl rfl (hP _ _ ⟨_, s, rfl, rfl, hI, fr_rf, q, Or.inr (Or.inl ⟨rfl, hx, hl, rfl, rfl⟩)⟩)
  · obtain ⟨t, hI2, hF2, z, rfl, rfl, t1, t2, t3, t4, t5⟩ := h
    show GG _ _ _ _ _ _ _ _ [.int z, .int (Int32.ofInt 0), .ref (A 195)] _ _ _
    refine g_i2l 8 (gd rfl) rfl (fun z7 e7 => ?_)
    refine g_ouS (A := A) 9 (gd rfl) rfl ?_
    refine g_goto 18 (gd rfl) rfl ?_
    refine g_iconst 0 19 (gd rfl) rfl rfl ?_
    refine g_ireturn (gd rfl) rfl rfl (hP _ _ ⟨_, sL t 195 0 z7, rfl, rfl, inv_195 hI2, fr_195 (F := fm_223_0) hF2, kl_195 (kl_fr q hF2 rfl), Or.inr (Or.inr ⟨rfl, t1, t2, ?_, ?_, t5⟩)⟩)
    · show (t.2.2.1 46 1).toInt = _
      rw [t4]; exact t3
    · show (if 195 = 195 then vp_updL (t.2.1 195) 0 z7 else t.2.1 195) 0 = (t.2.2.1 46 1).toInt64
      rw [if_pos rfl, t4, ← e7]
      exact if_pos rfl
