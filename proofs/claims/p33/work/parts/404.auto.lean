/-! methods, by vc.py -/
def fm_78_65 : FM := ([66, 67], [], [], [])
def fm_84_65 : FM := ([69, 70, 71, 72, 73], [], [(65, 8)], [])
/-- GraphHouse$Flows.lay -/
theorem k_84_65 {Z : AmZ} {A : Nat → Nat} {s : GS} {ex : va_W} {d : Nat} {X : AmX} {x1 : Int32} {x2 : Int32} {x3 : Int32} {x4 : Int32} (hd : 1 ≤ d) (hI : Inv s) (h1 : In x1 0 31) (h2 : In x2 0 31) (h3 : In x3 (-1000000) 1000000) (h4 : In x4 0 1000000) : GC Z d 84 [.ref (A 65), .int x1, .int x2, .int x3, .int x4] (WW Z A s ++ ex) 0 0 (fun v u => ∃ t : GS, Inv t ∧ Fr fm_84_65 s t ∧ v = none ∧ u = WW Z A t ++ ex) X := by
  intro post xp hP hX
  refine g_enter2 (k := 84) (N := 900) (by first | exact dq1 hd rfl | exact dq0 hd rfl | exact dq2 hd rfl | exact dq3 hd rfl | omega) rfl (Nat.le_of_ble_eq_true rfl) ?_
  refine g_aload_n 1 (gd rfl) rfl rfl ?_
  refine g_getI 4 (gd rfl) rfl rfl rfl (fun z1 e1 => ?_)
  have i1 := inv_F hI 0 160 rfl e1
  refine g_sipush 160 7 (gd rfl) rfl rfl ?_
  refine g_cmp_ge 10 71 (gd rfl) rfl rfl (fun c7 => ?_) (fun c7 => ?_)
  · skip
    have i7 := r_le2 160 160 c7 (in_c 160 rfl) i1 rfl
    exact g_return (gd rfl) rfl (hP _ _ ⟨s, hI, fr_rf, rfl, rfl⟩)
  · skip
    have i7 := r_lt1 0 159 c7 i1 (in_c 160 rfl) rfl
    refine g_aload_n 11 (gd rfl) rfl rfl ?_
    refine g_getA (q2 := 69) 14 (gd rfl) rfl rfl rfl rfl ?_
    refine g_aload_n 15 (gd rfl) rfl rfl ?_
    refine g_getI 18 (gd rfl) rfl rfl rfl (fun z15 e15 => ?_)
    have q15 : z1 = z15 := (e1).trans e15.symm
    subst q15
    refine g_iload_n 19 (gd rfl) rfl rfl ?_
    refine g_iastore 20 (gd rfl) rfl (n := 160) rfl (in_ix i7 rfl) ?_
    have hI19 := inv_sI (q := 69) (j := z1.toNatClampNeg) hI rfl (in_w 0 31 h1 rfl)
    refine g_aload_n 21 (gd rfl) rfl rfl ?_
    refine g_getA (q2 := 70) 24 (gd rfl) rfl rfl rfl rfl ?_
    refine g_aload_n 25 (gd rfl) rfl rfl ?_
    refine g_getI 28 (gd rfl) rfl rfl rfl (fun z25 e25 => ?_)
    have q25 : z1 = z25 := (sI_F (e1)).trans e25.symm
    subst q25
    refine g_iload_n 29 (gd rfl) rfl rfl ?_
    refine g_iastore 30 (gd rfl) rfl (n := 160) rfl (in_ix i7 rfl) ?_
    have hI29 := inv_sI (q := 70) (j := z1.toNatClampNeg) hI19 rfl (in_w 0 31 h2 rfl)
    refine g_aload_n 31 (gd rfl) rfl rfl ?_
    refine g_getA (q2 := 71) 34 (gd rfl) rfl rfl rfl rfl ?_
    refine g_aload_n 35 (gd rfl) rfl rfl ?_
    refine g_getI 38 (gd rfl) rfl rfl rfl (fun z35 e35 => ?_)
    have q35 : z1 = z35 := (sI_F (sI_F (e1))).trans e35.symm
    subst q35
    refine g_iload_n 39 (gd rfl) rfl rfl ?_
    refine g_iastore 40 (gd rfl) rfl (n := 160) rfl (in_ix i7 rfl) ?_
    have hI39 := inv_sI (q := 71) (j := z1.toNatClampNeg) hI29 rfl (in_w (-1000000) 1000000 h3 rfl)
    refine g_aload_n 41 (gd rfl) rfl rfl ?_
    refine g_getA (q2 := 72) 44 (gd rfl) rfl rfl rfl rfl ?_
    refine g_aload_n 45 (gd rfl) rfl rfl ?_
    refine g_getI 48 (gd rfl) rfl rfl rfl (fun z45 e45 => ?_)
    have q45 : z1 = z45 := (sI_F (sI_F (sI_F (e1)))).trans e45.symm
    subst q45
    refine g_iload 50 (gd rfl) rfl rfl ?_
    refine g_iastore 51 (gd rfl) rfl (n := 160) rfl (in_ix i7 rfl) ?_
    have hI50 := inv_sI (q := 72) (j := z1.toNatClampNeg) hI39 rfl (in_w 0 1000000 h4 rfl)
    refine g_aload_n 52 (gd rfl) rfl rfl ?_
    refine g_getA (q2 := 73) 55 (gd rfl) rfl rfl rfl rfl ?_
    refine g_aload_n 56 (gd rfl) rfl rfl ?_
    refine g_getI 59 (gd rfl) rfl rfl rfl (fun z56 e56 => ?_)
    have q56 : z1 = z56 := (sI_F (sI_F (sI_F (sI_F (e1))))).trans e56.symm
    subst q56
    refine g_iconst 0 60 (gd rfl) rfl rfl ?_
    refine g_iastore 61 (gd rfl) rfl (n := 160) rfl (in_ix i7 rfl) ?_
    have hI60 := inv_sI (q := 73) (j := z1.toNatClampNeg) hI50 rfl (in_w (-2147483648) 2147483647 (in_c 0 rfl) rfl)
    refine g_aload_n 62 (gd rfl) rfl rfl ?_
    refine g_dup 63 (gd rfl) rfl rfl ?_
    refine g_getI 66 (gd rfl) rfl rfl rfl (fun z63 e63 => ?_)
    have q63 : z1 = z63 := (sI_F (sI_F (sI_F (sI_F (sI_F (e1)))))).trans e63.symm
    subst q63
    refine g_iconst 1 67 (gd rfl) rfl rfl ?_
    refine g_iadd 68 (gd rfl) rfl (fun z67 e67 => ?_)
    have i67 := in_add 1 160 e67 i7 (in_c 1 rfl) rfl rfl
    refine g_putI 71 (gd rfl) rfl rfl rfl rfl ?_
    have hI68 := inv_sF (q := 65) (j := 8) hI60 rfl (in_w 0 160 i67 rfl)
    exact g_return (gd rfl) rfl (hP _ _ ⟨(sF (sI (sI (sI (sI (sI s 69 z1.toNatClampNeg x1) 70 z1.toNatClampNeg x2) 71 z1.toNatClampNeg x3) 72 z1.toNatClampNeg x4) 73 z1.toNatClampNeg (Int32.ofInt 0)) 65 8 z67), hI68, (fr_sF rfl (fr_sI rfl (fr_sI rfl (fr_sI rfl (fr_sI rfl (fr_sI rfl fr_rf)))))), rfl, rfl⟩)

def fm_87_65 : FM := ([68], [75], [], [])
/-- GraphHouse$Flows.relaxPipe -/
theorem k_87_65 {Z : AmZ} {A : Nat → Nat} {s : GS} {ex : va_W} {d : Nat} {X : AmX} {x1 : Int32} {x2 : Int32} (hd : 1 ≤ d) (hI : Inv s) (h1 : In x1 0 159) (h2 : In x2 1 1048576) : GC Z d 87 [.ref (A 65), .int x1, .int x2] (WW Z A s ++ ex) 0 0 (fun v u => ∃ t : GS, Inv t ∧ Fr fm_87_65 s t ∧ ∃ z : Int32, v = some (.int z) ∧ u = WW Z A t ++ ex ∧ In z 0 1) X := by
  intro post xp hP hX
  refine g_enter2 (k := 87) (N := 900) (by first | exact dq1 hd rfl | exact dq0 hd rfl | exact dq2 hd rfl | exact dq3 hd rfl | omega) rfl (Nat.le_of_ble_eq_true rfl) ?_
  refine g_aload_n 1 (gd rfl) rfl rfl ?_
  refine g_getA (q2 := 69) 4 (gd rfl) rfl rfl rfl rfl ?_
  refine g_iload_n 5 (gd rfl) rfl rfl ?_
  refine g_iaload 6 (gd rfl) rfl (n := 160) rfl (in_ix h1 rfl) (fun z5 e5 => ?_)
  have i5 := inv_I hI (n := 160) (t := 0) 0 31 rfl (in_ix h1 rfl) rfl e5
  refine g_istore_n 7 (gd rfl) rfl (Nat.le_of_ble_eq_true rfl) ?_
  refine g_aload_n 8 (gd rfl) rfl rfl ?_
  refine g_getA (q2 := 70) 11 (gd rfl) rfl rfl rfl rfl ?_
  refine g_iload_n 12 (gd rfl) rfl rfl ?_
  refine g_iaload 13 (gd rfl) rfl (n := 160) rfl (in_ix h1 rfl) (fun z12 e12 => ?_)
  have i12 := inv_I hI (n := 160) (t := 0) 0 31 rfl (in_ix h1 rfl) rfl e12
  refine g_istore 15 (gd rfl) rfl (Nat.le_of_ble_eq_true rfl) ?_
  refine g_aload_n 16 (gd rfl) rfl rfl ?_
  refine g_getA (q2 := 72) 19 (gd rfl) rfl rfl rfl rfl ?_
  refine g_iload_n 20 (gd rfl) rfl rfl ?_
  refine g_iaload 21 (gd rfl) rfl (n := 160) rfl (in_ix h1 rfl) (fun z20 e20 => ?_)
  have i20 := inv_I hI (n := 160) (t := 0) 0 1000000 rfl (in_ix h1 rfl) rfl e20
  refine g_aload_n 22 (gd rfl) rfl rfl ?_
  refine g_getA (q2 := 73) 25 (gd rfl) rfl rfl rfl rfl ?_
  refine g_iload_n 26 (gd rfl) rfl rfl ?_
  refine g_iaload 27 (gd rfl) rfl (n := 160) rfl (in_ix h1 rfl) (fun z26 e26 => ?_)
  refine g_isub 28 (gd rfl) rfl (fun z27 e27 => ?_)
  refine g_iload_n 29 (gd rfl) rfl rfl ?_
  refine g_cmp_lt 32 103 (gd rfl) rfl rfl (fun c29 => ?_) (fun c29 => ?_)
  · skip
    have i29 := r_lt1 (-2147483648) 1048575 c29 (i_rng z27) h2 rfl
    refine g_aload_n 104 (gd rfl) rfl rfl ?_
    refine g_getA (q2 := 73) 107 (gd rfl) rfl rfl rfl rfl ?_
    refine g_iload_n 108 (gd rfl) rfl rfl ?_
    refine g_iaload 109 (gd rfl) rfl (n := 160) rfl (in_ix h1 rfl) (fun z108 e108 => ?_)
    have q108 : z26 = z108 := (e26).trans e108.symm
    subst q108
    refine g_iload_n 110 (gd rfl) rfl rfl ?_
    refine g_cmp_lt 113 186 (gd rfl) rfl rfl (fun c110 => ?_) (fun c110 => ?_)
    · skip
      have i110 := r_lt1 (-2147483648) 1048575 c110 (i_rng z26) h2 rfl
      refine g_iconst 0 187 (gd rfl) rfl rfl ?_
      exact g_ireturn (gd rfl) rfl (nb01 (in_w 0 1 (in_c 0 rfl) rfl)) (hP _ _ ⟨s, hI, fr_rf, (Int32.ofInt 0), rfl, rfl, in_w 0 1 (in_c 0 rfl) rfl⟩)
    · skip
      have i110 := r_le2 1 2147483647 c110 h2 (i_rng z26) rfl
      refine g_aload_n 114 (gd rfl) rfl rfl ?_
      refine g_getA (q2 := 75) 117 (gd rfl) rfl rfl rfl rfl ?_
      refine g_iload 119 (gd rfl) rfl rfl ?_
      refine g_laload 120 (gd rfl) rfl (n := 32) rfl (in_ix i12 rfl) (fun z119 e119 => ?_)
      refine g_ldc2_w 9223372036854775807 123 (gd rfl) rfl rfl ?_
      refine g_lcmp 124 (gd rfl) rfl (fun z123 e123 => ?_)
      have i123 := lc_in e123
      refine g_if_eq 127 186 (gd rfl) rfl rfl (fun c124 => ?_) (fun c124 => ?_)
      · skip
        have i124 := z_eq 0 0 c124 i123 rfl
        have c124a := lc_eq e123 c124
        have i124a := lr_eq1 9223372036854775807 9223372036854775807 c124a (l_rng z119) (l_c 9223372036854775807 rfl) rfl
        refine g_iconst 0 187 (gd rfl) rfl rfl ?_
        exact g_ireturn (gd rfl) rfl (nb01 (in_w 0 1 (in_c 0 rfl) rfl)) (hP _ _ ⟨s, hI, fr_rf, (Int32.ofInt 0), rfl, rfl, in_w 0 1 (in_c 0 rfl) rfl⟩)
      · skip
        have c124a := lc_ne e123 c124
        have i124 := lr_ne1 (-9223372036854775808) 9223372036854775806 c124a (l_rng z119) (l_c 9223372036854775807 rfl) rfl
        refine g_aload_n 128 (gd rfl) rfl rfl ?_
        refine g_getA (q2 := 75) 131 (gd rfl) rfl rfl rfl rfl ?_
        refine g_iload 133 (gd rfl) rfl rfl ?_
        refine g_laload 134 (gd rfl) rfl (n := 32) rfl (in_ix i12 rfl) (fun z133 e133 => ?_)
        refine g_aload_n 135 (gd rfl) rfl rfl ?_
        refine g_getA (q2 := 71) 138 (gd rfl) rfl rfl rfl rfl ?_
        refine g_iload_n 139 (gd rfl) rfl rfl ?_
        refine g_iaload 140 (gd rfl) rfl (n := 160) rfl (in_ix h1 rfl) (fun z139 e139 => ?_)
        have i139 := inv_I hI (n := 160) (t := 0) (-1000000) 1000000 rfl (in_ix h1 rfl) rfl e139
        refine g_i2l 141 (gd rfl) rfl (fun z140 e140 => ?_)
        have i140 := l_i e140 i139
        refine g_lsub 142 (gd rfl) rfl (fun z141 e141 => ?_)
        refine g_aload_n 143 (gd rfl) rfl rfl ?_
        refine g_getA (q2 := 75) 146 (gd rfl) rfl rfl rfl rfl ?_
        refine g_iload_n 147 (gd rfl) rfl rfl ?_
        refine g_laload 148 (gd rfl) rfl (n := 32) rfl (in_ix i5 rfl) (fun z147 e147 => ?_)
        refine g_lcmp 149 (gd rfl) rfl (fun z148 e148 => ?_)
        have i148 := lc_in e148
        refine g_if_ge 152 186 (gd rfl) rfl rfl (fun c149 => ?_) (fun c149 => ?_)
        · skip
          have i149 := z_ge 0 1 c149 i148 rfl
          have c149a := lc_ge e148 c149
          refine g_iconst 0 187 (gd rfl) rfl rfl ?_
          exact g_ireturn (gd rfl) rfl (nb01 (in_w 0 1 (in_c 0 rfl) rfl)) (hP _ _ ⟨s, hI, fr_rf, (Int32.ofInt 0), rfl, rfl, in_w 0 1 (in_c 0 rfl) rfl⟩)
        · skip
          have i149 := z_lt (-1) (-1) c149 i148 rfl
          have c149a := lc_lt e148 c149
          have i149a := lr_lt1 (-9223372036854775808) 9223372036854775806 c149a (l_rng z141) (l_rng z147) rfl
          have i149b := lr_lt2 (-9223372036854775807) 9223372036854775807 c149a (l_rng z141) (l_rng z147) rfl
          refine g_aload_n 153 (gd rfl) rfl rfl ?_
          refine g_getA (q2 := 75) 156 (gd rfl) rfl rfl rfl rfl ?_
          refine g_iload_n 157 (gd rfl) rfl rfl ?_
          refine g_aload_n 158 (gd rfl) rfl rfl ?_
          refine g_getA (q2 := 75) 161 (gd rfl) rfl rfl rfl rfl ?_
          refine g_iload 163 (gd rfl) rfl rfl ?_
          refine g_laload 164 (gd rfl) rfl (n := 32) rfl (in_ix i12 rfl) (fun z163 e163 => ?_)
          refine g_aload_n 165 (gd rfl) rfl rfl ?_
          refine g_getA (q2 := 71) 168 (gd rfl) rfl rfl rfl rfl ?_
          refine g_iload_n 169 (gd rfl) rfl rfl ?_
          refine g_iaload 170 (gd rfl) rfl (n := 160) rfl (in_ix h1 rfl) (fun z169 e169 => ?_)
          have q169 : z139 = z169 := (e139).trans e169.symm
          subst q169
          refine g_i2l 171 (gd rfl) rfl (fun z170 e170 => ?_)
          have i170 := l_i e170 i139
          refine g_lsub 172 (gd rfl) rfl (fun z171 e171 => ?_)
          refine g_lastore 173 (gd rfl) rfl (n := 32) rfl (in_ix i5 rfl) ?_
          have hI172 := inv_sL (q := 75) (j := z5.toNatClampNeg) (x := z171) hI rfl (l_rng z171)
          refine g_aload_n 174 (gd rfl) rfl rfl ?_
          refine g_getA (q2 := 68) 177 (gd rfl) rfl rfl rfl rfl ?_
          refine g_iload_n 178 (gd rfl) rfl rfl ?_
          refine g_iconst 2 179 (gd rfl) rfl rfl ?_
          refine g_iload_n 180 (gd rfl) rfl rfl ?_
          refine g_imul 181 (gd rfl) rfl (fun z180 e180 => ?_)
          have i180 := in_mulc 2 0 318 (Or.inl e180) h1 rfl rfl
          refine g_iconst 1 182 (gd rfl) rfl rfl ?_
          refine g_iadd 183 (gd rfl) rfl (fun z182 e182 => ?_)
          have i182 := in_add 1 319 e182 i180 (in_c 1 rfl) rfl rfl
          refine g_iastore 184 (gd rfl) rfl (n := 32) rfl (in_ix i5 rfl) ?_
          have hI183 := inv_sI (q := 68) (j := z5.toNatClampNeg) hI172 rfl (in_w (-1) 319 i182 rfl)
          refine g_iconst 1 185 (gd rfl) rfl rfl ?_
          exact g_ireturn (gd rfl) rfl (nb01 (in_w 0 1 (in_c 1 rfl) rfl)) (hP _ _ ⟨(sI (sL s 75 z5.toNatClampNeg z171) 68 z5.toNatClampNeg z182), hI183, (fr_sI rfl (fr_sL rfl fr_rf)), (Int32.ofInt 1), rfl, rfl, in_w 0 1 (in_c 1 rfl) rfl⟩)
  · skip
    have i29 := r_le2 1 2147483647 c29 h2 (i_rng z27) rfl
    refine g_aload_n 33 (gd rfl) rfl rfl ?_
    refine g_getA (q2 := 75) 36 (gd rfl) rfl rfl rfl rfl ?_
    refine g_iload_n 37 (gd rfl) rfl rfl ?_
    refine g_laload 38 (gd rfl) rfl (n := 32) rfl (in_ix i5 rfl) (fun z37 e37 => ?_)
    refine g_ldc2_w 9223372036854775807 41 (gd rfl) rfl rfl ?_
    refine g_lcmp 42 (gd rfl) rfl (fun z41 e41 => ?_)
    have i41 := lc_in e41
    refine g_if_eq 45 103 (gd rfl) rfl rfl (fun c42 => ?_) (fun c42 => ?_)
    · skip
      have i42 := z_eq 0 0 c42 i41 rfl
      have c42a := lc_eq e41 c42
      have i42a := lr_eq1 9223372036854775807 9223372036854775807 c42a (l_rng z37) (l_c 9223372036854775807 rfl) rfl
      refine g_aload_n 104 (gd rfl) rfl rfl ?_
      refine g_getA (q2 := 73) 107 (gd rfl) rfl rfl rfl rfl ?_
      refine g_iload_n 108 (gd rfl) rfl rfl ?_
      refine g_iaload 109 (gd rfl) rfl (n := 160) rfl (in_ix h1 rfl) (fun z108 e108 => ?_)
      have q108 : z26 = z108 := (e26).trans e108.symm
      subst q108
      refine g_iload_n 110 (gd rfl) rfl rfl ?_
      refine g_cmp_lt 113 186 (gd rfl) rfl rfl (fun c110 => ?_) (fun c110 => ?_)
      · skip
        have i110 := r_lt1 (-2147483648) 1048575 c110 (i_rng z26) h2 rfl
        refine g_iconst 0 187 (gd rfl) rfl rfl ?_
        exact g_ireturn (gd rfl) rfl (nb01 (in_w 0 1 (in_c 0 rfl) rfl)) (hP _ _ ⟨s, hI, fr_rf, (Int32.ofInt 0), rfl, rfl, in_w 0 1 (in_c 0 rfl) rfl⟩)
      · skip
        have i110 := r_le2 1 2147483647 c110 h2 (i_rng z26) rfl
        refine g_aload_n 114 (gd rfl) rfl rfl ?_
        refine g_getA (q2 := 75) 117 (gd rfl) rfl rfl rfl rfl ?_
        refine g_iload 119 (gd rfl) rfl rfl ?_
        refine g_laload 120 (gd rfl) rfl (n := 32) rfl (in_ix i12 rfl) (fun z119 e119 => ?_)
        refine g_ldc2_w 9223372036854775807 123 (gd rfl) rfl rfl ?_
        refine g_lcmp 124 (gd rfl) rfl (fun z123 e123 => ?_)
        have i123 := lc_in e123
        refine g_if_eq 127 186 (gd rfl) rfl rfl (fun c124 => ?_) (fun c124 => ?_)
        · skip
          have i124 := z_eq 0 0 c124 i123 rfl
          have c124a := lc_eq e123 c124
          have i124a := lr_eq1 9223372036854775807 9223372036854775807 c124a (l_rng z119) (l_c 9223372036854775807 rfl) rfl
          refine g_iconst 0 187 (gd rfl) rfl rfl ?_
          exact g_ireturn (gd rfl) rfl (nb01 (in_w 0 1 (in_c 0 rfl) rfl)) (hP _ _ ⟨s, hI, fr_rf, (Int32.ofInt 0), rfl, rfl, in_w 0 1 (in_c 0 rfl) rfl⟩)
        · skip
          have c124a := lc_ne e123 c124
          have i124 := lr_ne1 (-9223372036854775808) 9223372036854775806 c124a (l_rng z119) (l_c 9223372036854775807 rfl) rfl
          refine g_aload_n 128 (gd rfl) rfl rfl ?_
          refine g_getA (q2 := 75) 131 (gd rfl) rfl rfl rfl rfl ?_
          refine g_iload 133 (gd rfl) rfl rfl ?_
          refine g_laload 134 (gd rfl) rfl (n := 32) rfl (in_ix i12 rfl) (fun z133 e133 => ?_)
          refine g_aload_n 135 (gd rfl) rfl rfl ?_
          refine g_getA (q2 := 71) 138 (gd rfl) rfl rfl rfl rfl ?_
          refine g_iload_n 139 (gd rfl) rfl rfl ?_
          refine g_iaload 140 (gd rfl) rfl (n := 160) rfl (in_ix h1 rfl) (fun z139 e139 => ?_)
          have i139 := inv_I hI (n := 160) (t := 0) (-1000000) 1000000 rfl (in_ix h1 rfl) rfl e139
          refine g_i2l 141 (gd rfl) rfl (fun z140 e140 => ?_)
          have i140 := l_i e140 i139
          refine g_lsub 142 (gd rfl) rfl (fun z141 e141 => ?_)
          refine g_aload_n 143 (gd rfl) rfl rfl ?_
          refine g_getA (q2 := 75) 146 (gd rfl) rfl rfl rfl rfl ?_
          refine g_iload_n 147 (gd rfl) rfl rfl ?_
          refine g_laload 148 (gd rfl) rfl (n := 32) rfl (in_ix i5 rfl) (fun z147 e147 => ?_)
          refine g_lcmp 149 (gd rfl) rfl (fun z148 e148 => ?_)
          have i148 := lc_in e148
          refine g_if_ge 152 186 (gd rfl) rfl rfl (fun c149 => ?_) (fun c149 => ?_)
          · skip
            have i149 := z_ge 0 1 c149 i148 rfl
            have c149a := lc_ge e148 c149
            refine g_iconst 0 187 (gd rfl) rfl rfl ?_
            exact g_ireturn (gd rfl) rfl (nb01 (in_w 0 1 (in_c 0 rfl) rfl)) (hP _ _ ⟨s, hI, fr_rf, (Int32.ofInt 0), rfl, rfl, in_w 0 1 (in_c 0 rfl) rfl⟩)
          · skip
            have i149 := z_lt (-1) (-1) c149 i148 rfl
            have c149a := lc_lt e148 c149
            have i149a := lr_lt1 (-9223372036854775808) 9223372036854775806 c149a (l_rng z141) (l_rng z147) rfl
            have i149b := lr_lt2 (-9223372036854775807) 9223372036854775807 c149a (l_rng z141) (l_rng z147) rfl
            refine g_aload_n 153 (gd rfl) rfl rfl ?_
            refine g_getA (q2 := 75) 156 (gd rfl) rfl rfl rfl rfl ?_
            refine g_iload_n 157 (gd rfl) rfl rfl ?_
            refine g_aload_n 158 (gd rfl) rfl rfl ?_
            refine g_getA (q2 := 75) 161 (gd rfl) rfl rfl rfl rfl ?_
            refine g_iload 163 (gd rfl) rfl rfl ?_
            refine g_laload 164 (gd rfl) rfl (n := 32) rfl (in_ix i12 rfl) (fun z163 e163 => ?_)
            refine g_aload_n 165 (gd rfl) rfl rfl ?_
            refine g_getA (q2 := 71) 168 (gd rfl) rfl rfl rfl rfl ?_
            refine g_iload_n 169 (gd rfl) rfl rfl ?_
            refine g_iaload 170 (gd rfl) rfl (n := 160) rfl (in_ix h1 rfl) (fun z169 e169 => ?_)
            have q169 : z139 = z169 := (e139).trans e169.symm
            subst q169
            refine g_i2l 171 (gd rfl) rfl (fun z170 e170 => ?_)
            have i170 := l_i e170 i139
            refine g_lsub 172 (gd rfl) rfl (fun z171 e171 => ?_)
            refine g_lastore 173 (gd rfl) rfl (n := 32) rfl (in_ix i5 rfl) ?_
            have hI172 := inv_sL (q := 75) (j := z5.toNatClampNeg) (x := z171) hI rfl (l_rng z171)
            refine g_aload_n 174 (gd rfl) rfl rfl ?_
            refine g_getA (q2 := 68) 177 (gd rfl) rfl rfl rfl rfl ?_
            refine g_iload_n 178 (gd rfl) rfl rfl ?_
            refine g_iconst 2 179 (gd rfl) rfl rfl ?_
            refine g_iload_n 180 (gd rfl) rfl rfl ?_
            refine g_imul 181 (gd rfl) rfl (fun z180 e180 => ?_)
            have i180 := in_mulc 2 0 318 (Or.inl e180) h1 rfl rfl
            refine g_iconst 1 182 (gd rfl) rfl rfl ?_
            refine g_iadd 183 (gd rfl) rfl (fun z182 e182 => ?_)
            have i182 := in_add 1 319 e182 i180 (in_c 1 rfl) rfl rfl
            refine g_iastore 184 (gd rfl) rfl (n := 32) rfl (in_ix i5 rfl) ?_
            have hI183 := inv_sI (q := 68) (j := z5.toNatClampNeg) hI172 rfl (in_w (-1) 319 i182 rfl)
            refine g_iconst 1 185 (gd rfl) rfl rfl ?_
            exact g_ireturn (gd rfl) rfl (nb01 (in_w 0 1 (in_c 1 rfl) rfl)) (hP _ _ ⟨(sI (sL s 75 z5.toNatClampNeg z171) 68 z5.toNatClampNeg z182), hI183, (fr_sI rfl (fr_sL rfl fr_rf)), (Int32.ofInt 1), rfl, rfl, in_w 0 1 (in_c 1 rfl) rfl⟩)
    · skip
      have c42a := lc_ne e41 c42
      have i42 := lr_ne1 (-9223372036854775808) 9223372036854775806 c42a (l_rng z37) (l_c 9223372036854775807 rfl) rfl
      refine g_aload_n 46 (gd rfl) rfl rfl ?_
      refine g_getA (q2 := 75) 49 (gd rfl) rfl rfl rfl rfl ?_
      refine g_iload_n 50 (gd rfl) rfl rfl ?_
      refine g_laload 51 (gd rfl) rfl (n := 32) rfl (in_ix i5 rfl) (fun z50 e50 => ?_)
      refine g_aload_n 52 (gd rfl) rfl rfl ?_
      refine g_getA (q2 := 71) 55 (gd rfl) rfl rfl rfl rfl ?_
      refine g_iload_n 56 (gd rfl) rfl rfl ?_
      refine g_iaload 57 (gd rfl) rfl (n := 160) rfl (in_ix h1 rfl) (fun z56 e56 => ?_)
      have i56 := inv_I hI (n := 160) (t := 0) (-1000000) 1000000 rfl (in_ix h1 rfl) rfl e56
      refine g_i2l 58 (gd rfl) rfl (fun z57 e57 => ?_)
      have i57 := l_i e57 i56
      refine g_ladd 59 (gd rfl) rfl (fun z58 e58 => ?_)
      refine g_aload_n 60 (gd rfl) rfl rfl ?_
      refine g_getA (q2 := 75) 63 (gd rfl) rfl rfl rfl rfl ?_
      refine g_iload 65 (gd rfl) rfl rfl ?_
      refine g_laload 66 (gd rfl) rfl (n := 32) rfl (in_ix i12 rfl) (fun z65 e65 => ?_)
      refine g_lcmp 67 (gd rfl) rfl (fun z66 e66 => ?_)
      have i66 := lc_in e66
      refine g_if_ge 70 103 (gd rfl) rfl rfl (fun c67 => ?_) (fun c67 => ?_)
      · skip
        have i67 := z_ge 0 1 c67 i66 rfl
        have c67a := lc_ge e66 c67
        refine g_aload_n 104 (gd rfl) rfl rfl ?_
        refine g_getA (q2 := 73) 107 (gd rfl) rfl rfl rfl rfl ?_
        refine g_iload_n 108 (gd rfl) rfl rfl ?_
        refine g_iaload 109 (gd rfl) rfl (n := 160) rfl (in_ix h1 rfl) (fun z108 e108 => ?_)
        have q108 : z26 = z108 := (e26).trans e108.symm
        subst q108
        refine g_iload_n 110 (gd rfl) rfl rfl ?_
        refine g_cmp_lt 113 186 (gd rfl) rfl rfl (fun c110 => ?_) (fun c110 => ?_)
        · skip
          have i110 := r_lt1 (-2147483648) 1048575 c110 (i_rng z26) h2 rfl
          refine g_iconst 0 187 (gd rfl) rfl rfl ?_
          exact g_ireturn (gd rfl) rfl (nb01 (in_w 0 1 (in_c 0 rfl) rfl)) (hP _ _ ⟨s, hI, fr_rf, (Int32.ofInt 0), rfl, rfl, in_w 0 1 (in_c 0 rfl) rfl⟩)
        · skip
          have i110 := r_le2 1 2147483647 c110 h2 (i_rng z26) rfl
          refine g_aload_n 114 (gd rfl) rfl rfl ?_
          refine g_getA (q2 := 75) 117 (gd rfl) rfl rfl rfl rfl ?_
          refine g_iload 119 (gd rfl) rfl rfl ?_
          refine g_laload 120 (gd rfl) rfl (n := 32) rfl (in_ix i12 rfl) (fun z119 e119 => ?_)
          refine g_ldc2_w 9223372036854775807 123 (gd rfl) rfl rfl ?_
          refine g_lcmp 124 (gd rfl) rfl (fun z123 e123 => ?_)
          have i123 := lc_in e123
          refine g_if_eq 127 186 (gd rfl) rfl rfl (fun c124 => ?_) (fun c124 => ?_)
          · skip
            have i124 := z_eq 0 0 c124 i123 rfl
            have c124a := lc_eq e123 c124
            have i124a := lr_eq1 9223372036854775807 9223372036854775807 c124a (l_rng z119) (l_c 9223372036854775807 rfl) rfl
            refine g_iconst 0 187 (gd rfl) rfl rfl ?_
            exact g_ireturn (gd rfl) rfl (nb01 (in_w 0 1 (in_c 0 rfl) rfl)) (hP _ _ ⟨s, hI, fr_rf, (Int32.ofInt 0), rfl, rfl, in_w 0 1 (in_c 0 rfl) rfl⟩)
          · skip
            have c124a := lc_ne e123 c124
            have i124 := lr_ne1 (-9223372036854775808) 9223372036854775806 c124a (l_rng z119) (l_c 9223372036854775807 rfl) rfl
            refine g_aload_n 128 (gd rfl) rfl rfl ?_
            refine g_getA (q2 := 75) 131 (gd rfl) rfl rfl rfl rfl ?_
            refine g_iload 133 (gd rfl) rfl rfl ?_
            refine g_laload 134 (gd rfl) rfl (n := 32) rfl (in_ix i12 rfl) (fun z133 e133 => ?_)
            refine g_aload_n 135 (gd rfl) rfl rfl ?_
            refine g_getA (q2 := 71) 138 (gd rfl) rfl rfl rfl rfl ?_
            refine g_iload_n 139 (gd rfl) rfl rfl ?_
            refine g_iaload 140 (gd rfl) rfl (n := 160) rfl (in_ix h1 rfl) (fun z139 e139 => ?_)
            have q139 : z56 = z139 := (e56).trans e139.symm
            subst q139
            refine g_i2l 141 (gd rfl) rfl (fun z140 e140 => ?_)
            have i140 := l_i e140 i56
            refine g_lsub 142 (gd rfl) rfl (fun z141 e141 => ?_)
            refine g_aload_n 143 (gd rfl) rfl rfl ?_
            refine g_getA (q2 := 75) 146 (gd rfl) rfl rfl rfl rfl ?_
            refine g_iload_n 147 (gd rfl) rfl rfl ?_
            refine g_laload 148 (gd rfl) rfl (n := 32) rfl (in_ix i5 rfl) (fun z147 e147 => ?_)
            refine g_lcmp 149 (gd rfl) rfl (fun z148 e148 => ?_)
            have i148 := lc_in e148
            refine g_if_ge 152 186 (gd rfl) rfl rfl (fun c149 => ?_) (fun c149 => ?_)
            · skip
              have i149 := z_ge 0 1 c149 i148 rfl
              have c149a := lc_ge e148 c149
              refine g_iconst 0 187 (gd rfl) rfl rfl ?_
              exact g_ireturn (gd rfl) rfl (nb01 (in_w 0 1 (in_c 0 rfl) rfl)) (hP _ _ ⟨s, hI, fr_rf, (Int32.ofInt 0), rfl, rfl, in_w 0 1 (in_c 0 rfl) rfl⟩)
            · skip
              have i149 := z_lt (-1) (-1) c149 i148 rfl
              have c149a := lc_lt e148 c149
              have i149a := lr_lt1 (-9223372036854775808) 9223372036854775806 c149a (l_rng z141) (l_rng z147) rfl
              have i149b := lr_lt2 (-9223372036854775807) 9223372036854775807 c149a (l_rng z141) (l_rng z147) rfl
              refine g_aload_n 153 (gd rfl) rfl rfl ?_
              refine g_getA (q2 := 75) 156 (gd rfl) rfl rfl rfl rfl ?_
              refine g_iload_n 157 (gd rfl) rfl rfl ?_
              refine g_aload_n 158 (gd rfl) rfl rfl ?_
              refine g_getA (q2 := 75) 161 (gd rfl) rfl rfl rfl rfl ?_
              refine g_iload 163 (gd rfl) rfl rfl ?_
              refine g_laload 164 (gd rfl) rfl (n := 32) rfl (in_ix i12 rfl) (fun z163 e163 => ?_)
              refine g_aload_n 165 (gd rfl) rfl rfl ?_
              refine g_getA (q2 := 71) 168 (gd rfl) rfl rfl rfl rfl ?_
              refine g_iload_n 169 (gd rfl) rfl rfl ?_
              refine g_iaload 170 (gd rfl) rfl (n := 160) rfl (in_ix h1 rfl) (fun z169 e169 => ?_)
              have q169 : z56 = z169 := (e56).trans e169.symm
              subst q169
              refine g_i2l 171 (gd rfl) rfl (fun z170 e170 => ?_)
              have i170 := l_i e170 i56
              refine g_lsub 172 (gd rfl) rfl (fun z171 e171 => ?_)
              refine g_lastore 173 (gd rfl) rfl (n := 32) rfl (in_ix i5 rfl) ?_
              have hI172 := inv_sL (q := 75) (j := z5.toNatClampNeg) (x := z171) hI rfl (l_rng z171)
              refine g_aload_n 174 (gd rfl) rfl rfl ?_
              refine g_getA (q2 := 68) 177 (gd rfl) rfl rfl rfl rfl ?_
              refine g_iload_n 178 (gd rfl) rfl rfl ?_
              refine g_iconst 2 179 (gd rfl) rfl rfl ?_
              refine g_iload_n 180 (gd rfl) rfl rfl ?_
              refine g_imul 181 (gd rfl) rfl (fun z180 e180 => ?_)
              have i180 := in_mulc 2 0 318 (Or.inl e180) h1 rfl rfl
              refine g_iconst 1 182 (gd rfl) rfl rfl ?_
              refine g_iadd 183 (gd rfl) rfl (fun z182 e182 => ?_)
              have i182 := in_add 1 319 e182 i180 (in_c 1 rfl) rfl rfl
              refine g_iastore 184 (gd rfl) rfl (n := 32) rfl (in_ix i5 rfl) ?_
              have hI183 := inv_sI (q := 68) (j := z5.toNatClampNeg) hI172 rfl (in_w (-1) 319 i182 rfl)
              refine g_iconst 1 185 (gd rfl) rfl rfl ?_
              exact g_ireturn (gd rfl) rfl (nb01 (in_w 0 1 (in_c 1 rfl) rfl)) (hP _ _ ⟨(sI (sL s 75 z5.toNatClampNeg z171) 68 z5.toNatClampNeg z182), hI183, (fr_sI rfl (fr_sL rfl fr_rf)), (Int32.ofInt 1), rfl, rfl, in_w 0 1 (in_c 1 rfl) rfl⟩)
      · skip
        have i67 := z_lt (-1) (-1) c67 i66 rfl
        have c67a := lc_lt e66 c67
        have i67a := lr_lt1 (-9223372036854775808) 9223372036854775806 c67a (l_rng z58) (l_rng z65) rfl
        have i67b := lr_lt2 (-9223372036854775807) 9223372036854775807 c67a (l_rng z58) (l_rng z65) rfl
        refine g_aload_n 71 (gd rfl) rfl rfl ?_
        refine g_getA (q2 := 75) 74 (gd rfl) rfl rfl rfl rfl ?_
        refine g_iload 76 (gd rfl) rfl rfl ?_
        refine g_aload_n 77 (gd rfl) rfl rfl ?_
        refine g_getA (q2 := 75) 80 (gd rfl) rfl rfl rfl rfl ?_
        refine g_iload_n 81 (gd rfl) rfl rfl ?_
        refine g_laload 82 (gd rfl) rfl (n := 32) rfl (in_ix i5 rfl) (fun z81 e81 => ?_)
        refine g_aload_n 83 (gd rfl) rfl rfl ?_
        refine g_getA (q2 := 71) 86 (gd rfl) rfl rfl rfl rfl ?_
        refine g_iload_n 87 (gd rfl) rfl rfl ?_
        refine g_iaload 88 (gd rfl) rfl (n := 160) rfl (in_ix h1 rfl) (fun z87 e87 => ?_)
        have q87 : z56 = z87 := (e56).trans e87.symm
        subst q87
        refine g_i2l 89 (gd rfl) rfl (fun z88 e88 => ?_)
        have i88 := l_i e88 i56
        refine g_ladd 90 (gd rfl) rfl (fun z89 e89 => ?_)
        refine g_lastore 91 (gd rfl) rfl (n := 32) rfl (in_ix i12 rfl) ?_
        have hI90 := inv_sL (q := 75) (j := z12.toNatClampNeg) (x := z89) hI rfl (l_rng z89)
        refine g_aload_n 92 (gd rfl) rfl rfl ?_
        refine g_getA (q2 := 68) 95 (gd rfl) rfl rfl rfl rfl ?_
        refine g_iload 97 (gd rfl) rfl rfl ?_
        refine g_iconst 2 98 (gd rfl) rfl rfl ?_
        refine g_iload_n 99 (gd rfl) rfl rfl ?_
        refine g_imul 100 (gd rfl) rfl (fun z99 e99 => ?_)
        have i99 := in_mulc 2 0 318 (Or.inl e99) h1 rfl rfl
        refine g_iastore 101 (gd rfl) rfl (n := 32) rfl (in_ix i12 rfl) ?_
        have hI100 := inv_sI (q := 68) (j := z12.toNatClampNeg) hI90 rfl (in_w (-1) 319 i99 rfl)
        refine g_iconst 1 102 (gd rfl) rfl rfl ?_
        exact g_ireturn (gd rfl) rfl (nb01 (in_w 0 1 (in_c 1 rfl) rfl)) (hP _ _ ⟨(sI (sL s 75 z12.toNatClampNeg z89) 68 z12.toNatClampNeg z99), hI100, (fr_sI rfl (fr_sL rfl fr_rf)), (Int32.ofInt 1), rfl, rfl, in_w 0 1 (in_c 1 rfl) rfl⟩)

def fm_88_65 : FM := ([73, 74], [], [], [])
/-- GraphHouse$Flows.carryTo -/
theorem k_88_65 {Z : AmZ} {A : Nat → Nat} {s : GS} {ex : va_W} {d : Nat} {X : AmX} {x1 : Int32} (hd : 3 ≤ d) (hI : Inv s) (h1 : In x1 0 31) : GC Z d 88 [.ref (A 65), .int x1] (WW Z A s ++ ex) 0 0 (fun v u => ∃ t : GS, Inv t ∧ Fr fm_88_65 s t ∧ ∃ z : Int64, v = some (.long z) ∧ u = WW Z A t ++ ex) X := by
  intro post xp hP hX
  have ct253 : ∀ (sc253 : GS) (y253_2 : Int32) (y253_3 : Int32) (y253_4 : Int32), Inv sc253 → Fr fm_88_65 s sc253 → (In y253_3 0 31) → (In y253_4 0 32) → GG Z (d - 1) 88 post (gx xp) (901) 253 (fun j => xlook j [(0, .ref (A 65)), (1, .int x1), (2, .int y253_2), (3, .int y253_3), (4, .int y253_4)]) [] (WW Z A sc253 ++ ex) 0 0 := by
    intro sc253 y253_2 y253_3 y253_4 hIc253 hFc253 j253_3 j253_4
    refine g_aload_n 254 (gd rfl) rfl rfl ?_
    refine g_getA (q2 := 75) 257 (gd rfl) rfl rfl rfl rfl ?_
    refine g_iload_n 258 (gd rfl) rfl rfl ?_
    refine g_laload 259 (gd rfl) rfl (n := 32) rfl (in_ix h1 rfl) (fun z258 e258 => ?_)
    refine g_iload_n 260 (gd rfl) rfl rfl ?_
    refine g_i2l 261 (gd rfl) rfl (fun z260 e260 => ?_)
    have i260 := l_i e260 (i_rng y253_2)
    refine g_lmul 262 (gd rfl) rfl (fun z261 e261 => ?_)
    exact g_lreturn (gd rfl) rfl (hP _ _ ⟨sc253, hIc253, hFc253, z261, rfl, rfl⟩)
  have ct158 : ∀ (k158 : Nat) (sc158 : GS) (y158_2 : Int32) (y158_3 : Int32) (y158_4 : Int32), Inv sc158 → Fr fm_88_65 s sc158 → (In y158_3 0 31) → (In y158_4 0 32) → 32 - (y158_4).toInt < (k158 : Int) → GG Z (d - 1) 88 post (gx xp) (902 + k158 * 900) 158 (fun j => xlook j [(0, .ref (A 65)), (1, .int x1), (2, .int y158_2), (3, .int y158_3), (4, .int y158_4)]) [] (WW Z A sc158 ++ ex) 0 0 := by
    intro k158
    induction k158 with
    | zero => intro sc158 y158_2 y158_3 y158_4 hIc158 hFc158 j158_3 j158_4 mm158; exact m_no mm158 j158_4 rfl
    | succ k158 ih158 =>
      intro sc158 y158_2 y158_3 y158_4 hIc158 hFc158 j158_3 j158_4 mm158
      refine gg_w (M := 902 + k158 * 900 + 900) gws ?_
      refine g_iload 160 (gd rfl) rfl rfl ?_
      refine g_bipush 32 162 (gd rfl) rfl rfl ?_
      refine g_cmp_ge 165 253 (gd rfl) rfl rfl (fun c162 => ?_) (fun c162 => ?_)
      · skip
        have i162 := r_le2 32 32 c162 (in_c 32 rfl) j158_4 rfl
        exact gg_w (by first | exact Nat.le_add_right _ _ | exact gw2 | exact gw3 | exact gwe rfl | exact gwf rfl | exact gwg rfl | exact gwh rfl | omega) (gg_f (gf_cons rfl (gf_cons rfl (gf_cons rfl (gf_cons rfl (gf_cons rfl gf_nil))))) (ct253 sc158 y158_2 y158_3 y158_4 hIc158 hFc158 (in_w 0 31 j158_3 rfl) (in_w 0 32 i162 rfl)))
      · skip
        have i162 := r_lt1 0 31 c162 j158_4 (in_c 32 rfl) rfl
        refine g_aload_n 166 (gd rfl) rfl rfl ?_
        refine g_getA (q2 := 68) 169 (gd rfl) rfl rfl rfl rfl ?_
        refine g_iload_n 170 (gd rfl) rfl rfl ?_
        refine g_iaload 171 (gd rfl) rfl (n := 32) rfl (in_ix j158_3 rfl) (fun z170 e170 => ?_)
        have i170 := inv_I hIc158 (n := 32) (t := 0) (-1) 319 rfl (in_ix j158_3 rfl) rfl e170
        refine g_iconst (-1) 172 (gd rfl) rfl rfl ?_
        refine g_cmp_eq 175 253 (gd rfl) rfl rfl (fun c172 => ?_) (fun c172 => ?_)
        · skip
          have i172 := r_eq1 (-1) (-1) c172 i170 (in_c (-1) rfl) rfl
          exact gg_w (by first | exact Nat.le_add_right _ _ | exact gw2 | exact gw3 | exact gwe rfl | exact gwf rfl | exact gwg rfl | exact gwh rfl | omega) (gg_f (gf_cons rfl (gf_cons rfl (gf_cons rfl (gf_cons rfl (gf_cons rfl gf_nil))))) (ct253 sc158 y158_2 y158_3 y158_4 hIc158 hFc158 (in_w 0 31 j158_3 rfl) (in_w 0 32 i162 rfl)))
        · skip
          have i172 := r_ne1 0 319 c172 i170 (in_c (-1) rfl) rfl
          refine g_aload_n 176 (gd rfl) rfl rfl ?_
          refine g_getA (q2 := 68) 179 (gd rfl) rfl rfl rfl rfl ?_
          refine g_iload_n 180 (gd rfl) rfl rfl ?_
          refine g_iaload 181 (gd rfl) rfl (n := 32) rfl (in_ix j158_3 rfl) (fun z180 e180 => ?_)
          have q180 : z170 = z180 := (e170).trans e180.symm
          subst q180
          refine g_iconst 1 182 (gd rfl) rfl rfl ?_
          refine g_ishr 183 (gd rfl) rfl (fun z182 e182 => ?_)
          have i182 := in_shrc 1 0 159 e182 i172 rfl rfl
          refine g_istore 185 (gd rfl) rfl (Nat.le_of_ble_eq_true rfl) ?_
          refine g_aload_n 186 (gd rfl) rfl rfl ?_
          refine g_getA (q2 := 68) 189 (gd rfl) rfl rfl rfl rfl ?_
          refine g_iload_n 190 (gd rfl) rfl rfl ?_
          refine g_iaload 191 (gd rfl) rfl (n := 32) rfl (in_ix j158_3 rfl) (fun z190 e190 => ?_)
          have q190 : z170 = z190 := (e170).trans e190.symm
          subst q190
          refine g_iconst 1 192 (gd rfl) rfl rfl ?_
          refine g_iand 193 (gd rfl) rfl (fun z192 e192 => ?_)
          have i192 := in_and2 e192 (in_c 1 rfl) rfl
          refine g_if_ne 196 200 (gd rfl) rfl rfl (fun c193 => ?_) (fun c193 => ?_)
          · skip
            have i193 := z_ne 1 1 c193 i192 rfl
            refine g_iconst 0 201 (gd rfl) rfl rfl ?_
            refine g_istore 203 (gd rfl) rfl (Nat.le_of_ble_eq_true rfl) ?_
            refine g_aload_n 204 (gd rfl) rfl rfl ?_
            refine g_getA (q2 := 73) 207 (gd rfl) rfl rfl rfl rfl ?_
            refine g_iload 209 (gd rfl) rfl rfl ?_
            refine g_dup2 210 (gd rfl) rfl rfl rfl ?_
            refine g_iaload 211 (gd rfl) rfl (n := 160) rfl (in_ix i182 rfl) (fun z210 e210 => ?_)
            refine g_iload 213 (gd rfl) rfl rfl ?_
            refine g_if_eq 216 220 (gd rfl) rfl rfl (fun c213 => ?_) (fun c213 => ?_)
            · skip
              refine g_iload_n 221 (gd rfl) rfl rfl ?_
              refine g_ineg 222 (gd rfl) rfl (fun z221 e221 => ?_)
              refine g_iadd 223 (gd rfl) rfl (fun z222 e222 => ?_)
              refine g_iastore 224 (gd rfl) rfl (n := 160) rfl (in_ix i182 rfl) ?_
              have hI223 := inv_sI (q := 73) (j := z182.toNatClampNeg) hIc158 rfl (in_w (-2147483648) 2147483647 (i_rng z222) rfl)
              refine g_iload 226 (gd rfl) rfl rfl ?_
              refine g_if_eq 229 239 (gd rfl) rfl rfl (fun c226 => ?_) (fun c226 => ?_)
              · skip
                refine g_aload_n 240 (gd rfl) rfl rfl ?_
                refine g_getA (q2 := 70) 243 (gd rfl) rfl rfl rfl rfl ?_
                refine g_iload 245 (gd rfl) rfl rfl ?_
                refine g_iaload 246 (gd rfl) rfl (n := 160) rfl (in_ix i182 rfl) (fun z245 e245 => ?_)
                have i245 := inv_I hI223 (n := 160) (t := 0) 0 31 rfl (in_ix i182 rfl) rfl e245
                refine g_istore_n 247 (gd rfl) rfl (Nat.le_of_ble_eq_true rfl) ?_
                refine g_iinc 250 (gd rfl) rfl rfl (Nat.le_of_ble_eq_true rfl) (fun z247 e247 => ?_)
                have i247 := in_add 1 32 e247 i162 (in_c 1 rfl) rfl rfl
                refine g_goto 158 (gd rfl) rfl ?_
                exact gg_w (by first | exact Nat.le_add_right _ _ | exact gw2 | exact gw3 | exact gwe rfl | exact gwf rfl | exact gwg rfl | exact gwh rfl | omega) (gg_f (gf_cons rfl (gf_cons rfl (gf_cons rfl (gf_cons rfl (gf_cons rfl gf_nil))))) (ih158 (sI sc158 73 z182.toNatClampNeg z222) y158_2 z245 z247 hI223 (fr_sI rfl hFc158) (in_w 0 31 i245 rfl) (in_w 0 32 i247 rfl) (m_up mm158 (t_add e247 i162 (in_c 1 rfl) rfl) (in_w 1 1 (in_c 1 rfl) rfl))))
              · skip
                exact zn_ne c226 (in_c 0 rfl) rfl
            · skip
              exact zn_ne c213 (in_c 0 rfl) rfl
          · skip
            have i193 := z_eq 0 0 c193 i192 rfl
            refine g_iconst 1 197 (gd rfl) rfl rfl ?_
            refine g_goto 201 (gd rfl) rfl ?_
            refine g_istore 203 (gd rfl) rfl (Nat.le_of_ble_eq_true rfl) ?_
            refine g_aload_n 204 (gd rfl) rfl rfl ?_
            refine g_getA (q2 := 73) 207 (gd rfl) rfl rfl rfl rfl ?_
            refine g_iload 209 (gd rfl) rfl rfl ?_
            refine g_dup2 210 (gd rfl) rfl rfl rfl ?_
            refine g_iaload 211 (gd rfl) rfl (n := 160) rfl (in_ix i182 rfl) (fun z210 e210 => ?_)
            refine g_iload 213 (gd rfl) rfl rfl ?_
            refine g_if_eq 216 220 (gd rfl) rfl rfl (fun c213 => ?_) (fun c213 => ?_)
            · skip
              exact zn_eq c213 (in_c 1 rfl) rfl
            · skip
              refine g_iload_n 217 (gd rfl) rfl rfl ?_
              refine g_goto 222 (gd rfl) rfl ?_
              refine g_iadd 223 (gd rfl) rfl (fun z222 e222 => ?_)
              refine g_iastore 224 (gd rfl) rfl (n := 160) rfl (in_ix i182 rfl) ?_
              have hI223 := inv_sI (q := 73) (j := z182.toNatClampNeg) hIc158 rfl (in_w (-2147483648) 2147483647 (i_rng z222) rfl)
              refine g_iload 226 (gd rfl) rfl rfl ?_
              refine g_if_eq 229 239 (gd rfl) rfl rfl (fun c226 => ?_) (fun c226 => ?_)
              · skip
                exact zn_eq c226 (in_c 1 rfl) rfl
              · skip
                refine g_aload_n 230 (gd rfl) rfl rfl ?_
                refine g_getA (q2 := 69) 233 (gd rfl) rfl rfl rfl rfl ?_
                refine g_iload 235 (gd rfl) rfl rfl ?_
                refine g_iaload 236 (gd rfl) rfl (n := 160) rfl (in_ix i182 rfl) (fun z235 e235 => ?_)
                have i235 := inv_I hI223 (n := 160) (t := 0) 0 31 rfl (in_ix i182 rfl) rfl e235
                refine g_goto 246 (gd rfl) rfl ?_
                refine g_istore_n 247 (gd rfl) rfl (Nat.le_of_ble_eq_true rfl) ?_
                refine g_iinc 250 (gd rfl) rfl rfl (Nat.le_of_ble_eq_true rfl) (fun z247 e247 => ?_)
                have i247 := in_add 1 32 e247 i162 (in_c 1 rfl) rfl rfl
                refine g_goto 158 (gd rfl) rfl ?_
                exact gg_w (by first | exact Nat.le_add_right _ _ | exact gw2 | exact gw3 | exact gwe rfl | exact gwf rfl | exact gwg rfl | exact gwh rfl | omega) (gg_f (gf_cons rfl (gf_cons rfl (gf_cons rfl (gf_cons rfl (gf_cons rfl gf_nil))))) (ih158 (sI sc158 73 z182.toNatClampNeg z222) y158_2 z235 z247 hI223 (fr_sI rfl hFc158) (in_w 0 31 i235 rfl) (in_w 0 32 i247 rfl) (m_up mm158 (t_add e247 i162 (in_c 1 rfl) rfl) (in_w 1 1 (in_c 1 rfl) rfl))))
  have ct122 : ∀ (sc122 : GS) (y122_2 : Int32) (y122_3 : Int32) (y122_4 : Int32), Inv sc122 → Fr fm_88_65 s sc122 → (In y122_3 0 31) → (In y122_4 0 32) → GG Z (d - 1) 88 post (gx xp) (31503) 122 (fun j => xlook j [(0, .ref (A 65)), (1, .int x1), (2, .int y122_2), (3, .int y122_3), (4, .int y122_4)]) [] (WW Z A sc122 ++ ex) 0 0 := by
    intro sc122 y122_2 y122_3 y122_4 hIc122 hFc122 j122_3 j122_4
    refine g_iload_n 123 (gd rfl) rfl rfl ?_
    refine g_aload_n 124 (gd rfl) rfl rfl ?_
    refine g_getA (q2 := 74) 127 (gd rfl) rfl rfl rfl rfl ?_
    refine g_iload_n 128 (gd rfl) rfl rfl ?_
    refine g_iaload 129 (gd rfl) rfl (n := 32) rfl (in_ix j122_3 rfl) (fun z128 e128 => ?_)
    refine g_calls (As := [.int y122_2, .int z128]) (r := []) 132 (gd rfl) rfl rfl rfl rfl rfl (Nat.le_of_ble_eq_true rfl) (mc := 0) (ms := 0) (Nat.zero_le _) (Nat.zero_le _) (P := fun v u => _) ?_ (fun v u h => h)
    intro po129 xx129 hp129 hx129
    refine g_enter2 (k := 424) (N := 300) (by first | exact dq1 hd rfl | exact dq0 hd rfl | exact dq2 hd rfl | exact dq3 hd rfl | omega) rfl (Nat.le_of_ble_eq_true rfl) ?_
    refine g_iload_n 1 (gd rfl) rfl rfl ?_
    refine g_iload_n 2 (gd rfl) rfl rfl ?_
    refine g_cmp_gt 5 9 (gd rfl) rfl rfl (fun c129x2 => ?_) (fun c129x2 => ?_)
    · skip
      have i129x2 := r_lt1 (-2147483648) 2147483646 c129x2 (i_rng z128) (i_rng y122_2) rfl
      have i129x2a := r_lt2 (-2147483647) 2147483647 c129x2 (i_rng z128) (i_rng y122_2) rfl
      refine g_iload_n 10 (gd rfl) rfl rfl ?_
      refine g_ireturn (gd rfl) rfl rfl (hp129 _ _ ?_)
      show GG _ _ _ _ _ _ _ _ [.int z128] _ _ _
      refine g_istore_n 133 (gd rfl) rfl (Nat.le_of_ble_eq_true rfl) ?_
      refine g_aload_n 134 (gd rfl) rfl rfl ?_
      refine g_getA (q2 := 74) 137 (gd rfl) rfl rfl rfl rfl ?_
      refine g_iload_n 138 (gd rfl) rfl rfl ?_
      refine g_dup2 139 (gd rfl) rfl rfl rfl ?_
      refine g_iaload 140 (gd rfl) rfl (n := 32) rfl (in_ix j122_3 rfl) (fun z139 e139 => ?_)
      have q139 : z128 = z139 := (e128).trans e139.symm
      subst q139
      refine g_iload_n 141 (gd rfl) rfl rfl ?_
      refine g_isub 142 (gd rfl) rfl (fun z141 e141 => ?_)
      refine g_iastore 143 (gd rfl) rfl (n := 32) rfl (in_ix j122_3 rfl) ?_
      have hI142 := inv_sI (q := 74) (j := y122_3.toNatClampNeg) hIc122 rfl (in_w (-2147483648) 2147483647 (i_rng z141) rfl)
      refine g_aload_n 144 (gd rfl) rfl rfl ?_
      refine g_getA (q2 := 74) 147 (gd rfl) rfl rfl rfl rfl ?_
      refine g_iload_n 148 (gd rfl) rfl rfl ?_
      refine g_dup2 149 (gd rfl) rfl rfl rfl ?_
      refine g_iaload 150 (gd rfl) rfl (n := 32) rfl (in_ix h1 rfl) (fun z149 e149 => ?_)
      refine g_iload_n 151 (gd rfl) rfl rfl ?_
      refine g_iadd 152 (gd rfl) rfl (fun z151 e151 => ?_)
      refine g_iastore 153 (gd rfl) rfl (n := 32) rfl (in_ix h1 rfl) ?_
      have hI152 := inv_sI (q := 74) (j := x1.toNatClampNeg) hI142 rfl (in_w (-2147483648) 2147483647 (i_rng z151) rfl)
      refine g_iload_n 154 (gd rfl) rfl rfl ?_
      refine g_istore_n 155 (gd rfl) rfl (Nat.le_of_ble_eq_true rfl) ?_
      refine g_iconst 0 156 (gd rfl) rfl rfl ?_
      refine g_istore 158 (gd rfl) rfl (Nat.le_of_ble_eq_true rfl) ?_
      exact gg_w (by first | exact Nat.le_of_ble_eq_true rfl | omega) (gg_f (gf_cons rfl (gf_cons rfl (gf_cons rfl (gf_cons rfl (gf_cons rfl gf_nil))))) (ct158 33 (sI (sI sc122 74 y122_3.toNatClampNeg z141) 74 x1.toNatClampNeg z151) z128 x1 (Int32.ofInt 0) hI152 (fr_sI rfl (fr_sI rfl hFc122)) (in_w 0 31 h1 rfl) (in_w 0 32 (in_c 0 rfl) rfl) (m_in 33 (in_w 0 32 (in_c 0 rfl) rfl) rfl)))
    · skip
      refine g_iload_n 6 (gd rfl) rfl rfl ?_
      refine g_goto 10 (gd rfl) rfl ?_
      refine g_ireturn (gd rfl) rfl rfl (hp129 _ _ ?_)
      show GG _ _ _ _ _ _ _ _ [.int y122_2] _ _ _
      refine g_istore_n 133 (gd rfl) rfl (Nat.le_of_ble_eq_true rfl) ?_
      refine g_aload_n 134 (gd rfl) rfl rfl ?_
      refine g_getA (q2 := 74) 137 (gd rfl) rfl rfl rfl rfl ?_
      refine g_iload_n 138 (gd rfl) rfl rfl ?_
      refine g_dup2 139 (gd rfl) rfl rfl rfl ?_
      refine g_iaload 140 (gd rfl) rfl (n := 32) rfl (in_ix j122_3 rfl) (fun z139 e139 => ?_)
      have q139 : z128 = z139 := (e128).trans e139.symm
      subst q139
      refine g_iload_n 141 (gd rfl) rfl rfl ?_
      refine g_isub 142 (gd rfl) rfl (fun z141 e141 => ?_)
      refine g_iastore 143 (gd rfl) rfl (n := 32) rfl (in_ix j122_3 rfl) ?_
      have hI142 := inv_sI (q := 74) (j := y122_3.toNatClampNeg) hIc122 rfl (in_w (-2147483648) 2147483647 (i_rng z141) rfl)
      refine g_aload_n 144 (gd rfl) rfl rfl ?_
      refine g_getA (q2 := 74) 147 (gd rfl) rfl rfl rfl rfl ?_
      refine g_iload_n 148 (gd rfl) rfl rfl ?_
      refine g_dup2 149 (gd rfl) rfl rfl rfl ?_
      refine g_iaload 150 (gd rfl) rfl (n := 32) rfl (in_ix h1 rfl) (fun z149 e149 => ?_)
      refine g_iload_n 151 (gd rfl) rfl rfl ?_
      refine g_iadd 152 (gd rfl) rfl (fun z151 e151 => ?_)
      refine g_iastore 153 (gd rfl) rfl (n := 32) rfl (in_ix h1 rfl) ?_
      have hI152 := inv_sI (q := 74) (j := x1.toNatClampNeg) hI142 rfl (in_w (-2147483648) 2147483647 (i_rng z151) rfl)
      refine g_iload_n 154 (gd rfl) rfl rfl ?_
      refine g_istore_n 155 (gd rfl) rfl (Nat.le_of_ble_eq_true rfl) ?_
      refine g_iconst 0 156 (gd rfl) rfl rfl ?_
      refine g_istore 158 (gd rfl) rfl (Nat.le_of_ble_eq_true rfl) ?_
      exact gg_w (by first | exact Nat.le_of_ble_eq_true rfl | omega) (gg_f (gf_cons rfl (gf_cons rfl (gf_cons rfl (gf_cons rfl (gf_cons rfl gf_nil))))) (ct158 33 (sI (sI sc122 74 y122_3.toNatClampNeg z141) 74 x1.toNatClampNeg z151) y122_2 x1 (Int32.ofInt 0) hI152 (fr_sI rfl (fr_sI rfl hFc122)) (in_w 0 31 h1 rfl) (in_w 0 32 (in_c 0 rfl) rfl) (m_in 33 (in_w 0 32 (in_c 0 rfl) rfl) rfl)))
  have ct13 : ∀ (k13 : Nat) (sc13 : GS) (y13_2 : Int32) (y13_3 : Int32) (y13_4 : Int32), Inv sc13 → Fr fm_88_65 s sc13 → (In y13_3 0 31) → (In y13_4 0 32) → 32 - (y13_4).toInt < (k13 : Int) → GG Z (d - 1) 88 post (gx xp) (31504 + k13 * 900) 13 (fun j => xlook j [(0, .ref (A 65)), (1, .int x1), (2, .int y13_2), (3, .int y13_3), (4, .int y13_4)]) [] (WW Z A sc13 ++ ex) 0 0 := by
    intro k13
    induction k13 with
    | zero => intro sc13 y13_2 y13_3 y13_4 hIc13 hFc13 j13_3 j13_4 mm13; exact m_no mm13 j13_4 rfl
    | succ k13 ih13 =>
      intro sc13 y13_2 y13_3 y13_4 hIc13 hFc13 j13_3 j13_4 mm13
      refine gg_w (M := 31504 + k13 * 900 + 900) gws ?_
      refine g_iload 15 (gd rfl) rfl rfl ?_
      refine g_bipush 32 17 (gd rfl) rfl rfl ?_
      refine g_cmp_ge 20 122 (gd rfl) rfl rfl (fun c17 => ?_) (fun c17 => ?_)
      · skip
        have i17 := r_le2 32 32 c17 (in_c 32 rfl) j13_4 rfl
        exact gg_w (by first | exact Nat.le_add_right _ _ | exact gw2 | exact gw3 | exact gwe rfl | exact gwf rfl | exact gwg rfl | exact gwh rfl | omega) (gg_f (gf_cons rfl (gf_cons rfl (gf_cons rfl (gf_cons rfl (gf_cons rfl gf_nil))))) (ct122 sc13 y13_2 y13_3 y13_4 hIc13 hFc13 (in_w 0 31 j13_3 rfl) (in_w 0 32 i17 rfl)))
      · skip
        have i17 := r_lt1 0 31 c17 j13_4 (in_c 32 rfl) rfl
        refine g_aload_n 21 (gd rfl) rfl rfl ?_
        refine g_getA (q2 := 68) 24 (gd rfl) rfl rfl rfl rfl ?_
        refine g_iload_n 25 (gd rfl) rfl rfl ?_
        refine g_iaload 26 (gd rfl) rfl (n := 32) rfl (in_ix j13_3 rfl) (fun z25 e25 => ?_)
        have i25 := inv_I hIc13 (n := 32) (t := 0) (-1) 319 rfl (in_ix j13_3 rfl) rfl e25
        refine g_iconst (-1) 27 (gd rfl) rfl rfl ?_
        refine g_cmp_eq 30 122 (gd rfl) rfl rfl (fun c27 => ?_) (fun c27 => ?_)
        · skip
          have i27 := r_eq1 (-1) (-1) c27 i25 (in_c (-1) rfl) rfl
          exact gg_w (by first | exact Nat.le_add_right _ _ | exact gw2 | exact gw3 | exact gwe rfl | exact gwf rfl | exact gwg rfl | exact gwh rfl | omega) (gg_f (gf_cons rfl (gf_cons rfl (gf_cons rfl (gf_cons rfl (gf_cons rfl gf_nil))))) (ct122 sc13 y13_2 y13_3 y13_4 hIc13 hFc13 (in_w 0 31 j13_3 rfl) (in_w 0 32 i17 rfl)))
        · skip
          have i27 := r_ne1 0 319 c27 i25 (in_c (-1) rfl) rfl
          refine g_aload_n 31 (gd rfl) rfl rfl ?_
          refine g_getA (q2 := 68) 34 (gd rfl) rfl rfl rfl rfl ?_
          refine g_iload_n 35 (gd rfl) rfl rfl ?_
          refine g_iaload 36 (gd rfl) rfl (n := 32) rfl (in_ix j13_3 rfl) (fun z35 e35 => ?_)
          have q35 : z25 = z35 := (e25).trans e35.symm
          subst q35
          refine g_iconst 1 37 (gd rfl) rfl rfl ?_
          refine g_ishr 38 (gd rfl) rfl (fun z37 e37 => ?_)
          have i37 := in_shrc 1 0 159 e37 i27 rfl rfl
          refine g_istore 40 (gd rfl) rfl (Nat.le_of_ble_eq_true rfl) ?_
          refine g_aload_n 41 (gd rfl) rfl rfl ?_
          refine g_getA (q2 := 68) 44 (gd rfl) rfl rfl rfl rfl ?_
          refine g_iload_n 45 (gd rfl) rfl rfl ?_
          refine g_iaload 46 (gd rfl) rfl (n := 32) rfl (in_ix j13_3 rfl) (fun z45 e45 => ?_)
          have q45 : z25 = z45 := (e25).trans e45.symm
          subst q45
          refine g_iconst 1 47 (gd rfl) rfl rfl ?_
          refine g_iand 48 (gd rfl) rfl (fun z47 e47 => ?_)
          have i47 := in_and2 e47 (in_c 1 rfl) rfl
          refine g_if_ne 51 55 (gd rfl) rfl rfl (fun c48 => ?_) (fun c48 => ?_)
          · skip
            have i48 := z_ne 1 1 c48 i47 rfl
            refine g_iconst 0 56 (gd rfl) rfl rfl ?_
            refine g_istore 58 (gd rfl) rfl (Nat.le_of_ble_eq_true rfl) ?_
            refine g_iload_n 59 (gd rfl) rfl rfl ?_
            refine g_iload 61 (gd rfl) rfl rfl ?_
            refine g_if_eq 64 82 (gd rfl) rfl rfl (fun c61 => ?_) (fun c61 => ?_)
            · skip
              refine g_aload_n 83 (gd rfl) rfl rfl ?_
              refine g_getA (q2 := 73) 86 (gd rfl) rfl rfl rfl rfl ?_
              refine g_iload 88 (gd rfl) rfl rfl ?_
              refine g_iaload 89 (gd rfl) rfl (n := 160) rfl (in_ix i37 rfl) (fun z88 e88 => ?_)
              refine g_calls (As := [.int y13_2, .int z88]) (r := []) 92 (gd rfl) rfl rfl rfl rfl rfl (Nat.le_of_ble_eq_true rfl) (mc := 0) (ms := 0) (Nat.zero_le _) (Nat.zero_le _) (P := fun v u => _) ?_ (fun v u h => h)
              intro po89 xx89 hp89 hx89
              refine g_enter2 (k := 424) (N := 300) (by first | exact dq1 hd rfl | exact dq0 hd rfl | exact dq2 hd rfl | exact dq3 hd rfl | omega) rfl (Nat.le_of_ble_eq_true rfl) ?_
              refine g_iload_n 1 (gd rfl) rfl rfl ?_
              refine g_iload_n 2 (gd rfl) rfl rfl ?_
              refine g_cmp_gt 5 9 (gd rfl) rfl rfl (fun c89x2 => ?_) (fun c89x2 => ?_)
              · skip
                have i89x2 := r_lt1 (-2147483648) 2147483646 c89x2 (i_rng z88) (i_rng y13_2) rfl
                have i89x2a := r_lt2 (-2147483647) 2147483647 c89x2 (i_rng z88) (i_rng y13_2) rfl
                refine g_iload_n 10 (gd rfl) rfl rfl ?_
                refine g_ireturn (gd rfl) rfl rfl (hp89 _ _ ?_)
                show GG _ _ _ _ _ _ _ _ [.int z88] _ _ _
                refine g_istore_n 93 (gd rfl) rfl (Nat.le_of_ble_eq_true rfl) ?_
                refine g_iload 95 (gd rfl) rfl rfl ?_
                refine g_if_eq 98 108 (gd rfl) rfl rfl (fun c95 => ?_) (fun c95 => ?_)
                · skip
                  refine g_aload_n 109 (gd rfl) rfl rfl ?_
                  refine g_getA (q2 := 70) 112 (gd rfl) rfl rfl rfl rfl ?_
                  refine g_iload 114 (gd rfl) rfl rfl ?_
                  refine g_iaload 115 (gd rfl) rfl (n := 160) rfl (in_ix i37 rfl) (fun z114 e114 => ?_)
                  have i114 := inv_I hIc13 (n := 160) (t := 0) 0 31 rfl (in_ix i37 rfl) rfl e114
                  refine g_istore_n 116 (gd rfl) rfl (Nat.le_of_ble_eq_true rfl) ?_
                  refine g_iinc 119 (gd rfl) rfl rfl (Nat.le_of_ble_eq_true rfl) (fun z116 e116 => ?_)
                  have i116 := in_add 1 32 e116 i17 (in_c 1 rfl) rfl rfl
                  refine g_goto 13 (gd rfl) rfl ?_
                  exact gg_w (by first | exact Nat.le_add_right _ _ | exact gw2 | exact gw3 | exact gwe rfl | exact gwf rfl | exact gwg rfl | exact gwh rfl | omega) (gg_f (gf_cons rfl (gf_cons rfl (gf_cons rfl (gf_cons rfl (gf_cons rfl gf_nil))))) (ih13 sc13 z88 z114 z116 hIc13 hFc13 (in_w 0 31 i114 rfl) (in_w 0 32 i116 rfl) (m_up mm13 (t_add e116 i17 (in_c 1 rfl) rfl) (in_w 1 1 (in_c 1 rfl) rfl))))
                · skip
                  exact zn_ne c95 (in_c 0 rfl) rfl
              · skip
                refine g_iload_n 6 (gd rfl) rfl rfl ?_
                refine g_goto 10 (gd rfl) rfl ?_
                refine g_ireturn (gd rfl) rfl rfl (hp89 _ _ ?_)
                show GG _ _ _ _ _ _ _ _ [.int y13_2] _ _ _
                refine g_istore_n 93 (gd rfl) rfl (Nat.le_of_ble_eq_true rfl) ?_
                refine g_iload 95 (gd rfl) rfl rfl ?_
                refine g_if_eq 98 108 (gd rfl) rfl rfl (fun c95 => ?_) (fun c95 => ?_)
                · skip
                  refine g_aload_n 109 (gd rfl) rfl rfl ?_
                  refine g_getA (q2 := 70) 112 (gd rfl) rfl rfl rfl rfl ?_
                  refine g_iload 114 (gd rfl) rfl rfl ?_
                  refine g_iaload 115 (gd rfl) rfl (n := 160) rfl (in_ix i37 rfl) (fun z114 e114 => ?_)
                  have i114 := inv_I hIc13 (n := 160) (t := 0) 0 31 rfl (in_ix i37 rfl) rfl e114
                  refine g_istore_n 116 (gd rfl) rfl (Nat.le_of_ble_eq_true rfl) ?_
                  refine g_iinc 119 (gd rfl) rfl rfl (Nat.le_of_ble_eq_true rfl) (fun z116 e116 => ?_)
                  have i116 := in_add 1 32 e116 i17 (in_c 1 rfl) rfl rfl
                  refine g_goto 13 (gd rfl) rfl ?_
                  exact gg_w (by first | exact Nat.le_add_right _ _ | exact gw2 | exact gw3 | exact gwe rfl | exact gwf rfl | exact gwg rfl | exact gwh rfl | omega) (gg_f (gf_cons rfl (gf_cons rfl (gf_cons rfl (gf_cons rfl (gf_cons rfl gf_nil))))) (ih13 sc13 y13_2 z114 z116 hIc13 hFc13 (in_w 0 31 i114 rfl) (in_w 0 32 i116 rfl) (m_up mm13 (t_add e116 i17 (in_c 1 rfl) rfl) (in_w 1 1 (in_c 1 rfl) rfl))))
                · skip
                  exact zn_ne c95 (in_c 0 rfl) rfl
            · skip
              exact zn_ne c61 (in_c 0 rfl) rfl
          · skip
            have i48 := z_eq 0 0 c48 i47 rfl
            refine g_iconst 1 52 (gd rfl) rfl rfl ?_
            refine g_goto 56 (gd rfl) rfl ?_
            refine g_istore 58 (gd rfl) rfl (Nat.le_of_ble_eq_true rfl) ?_
            refine g_iload_n 59 (gd rfl) rfl rfl ?_
            refine g_iload 61 (gd rfl) rfl rfl ?_
            refine g_if_eq 64 82 (gd rfl) rfl rfl (fun c61 => ?_) (fun c61 => ?_)
            · skip
              exact zn_eq c61 (in_c 1 rfl) rfl
            · skip
              refine g_aload_n 65 (gd rfl) rfl rfl ?_
              refine g_getA (q2 := 72) 68 (gd rfl) rfl rfl rfl rfl ?_
              refine g_iload 70 (gd rfl) rfl rfl ?_
              refine g_iaload 71 (gd rfl) rfl (n := 160) rfl (in_ix i37 rfl) (fun z70 e70 => ?_)
              have i70 := inv_I hIc13 (n := 160) (t := 0) 0 1000000 rfl (in_ix i37 rfl) rfl e70
              refine g_aload_n 72 (gd rfl) rfl rfl ?_
              refine g_getA (q2 := 73) 75 (gd rfl) rfl rfl rfl rfl ?_
              refine g_iload 77 (gd rfl) rfl rfl ?_
              refine g_iaload 78 (gd rfl) rfl (n := 160) rfl (in_ix i37 rfl) (fun z77 e77 => ?_)
              refine g_isub 79 (gd rfl) rfl (fun z78 e78 => ?_)
              refine g_goto 89 (gd rfl) rfl ?_
              refine g_calls (As := [.int y13_2, .int z78]) (r := []) 92 (gd rfl) rfl rfl rfl rfl rfl (Nat.le_of_ble_eq_true rfl) (mc := 0) (ms := 0) (Nat.zero_le _) (Nat.zero_le _) (P := fun v u => _) ?_ (fun v u h => h)
              intro po89 xx89 hp89 hx89
              refine g_enter2 (k := 424) (N := 300) (by first | exact dq1 hd rfl | exact dq0 hd rfl | exact dq2 hd rfl | exact dq3 hd rfl | omega) rfl (Nat.le_of_ble_eq_true rfl) ?_
              refine g_iload_n 1 (gd rfl) rfl rfl ?_
              refine g_iload_n 2 (gd rfl) rfl rfl ?_
              refine g_cmp_gt 5 9 (gd rfl) rfl rfl (fun c89x2 => ?_) (fun c89x2 => ?_)
              · skip
                have i89x2 := r_lt1 (-2147483648) 2147483646 c89x2 (i_rng z78) (i_rng y13_2) rfl
                have i89x2a := r_lt2 (-2147483647) 2147483647 c89x2 (i_rng z78) (i_rng y13_2) rfl
                refine g_iload_n 10 (gd rfl) rfl rfl ?_
                refine g_ireturn (gd rfl) rfl rfl (hp89 _ _ ?_)
                show GG _ _ _ _ _ _ _ _ [.int z78] _ _ _
                refine g_istore_n 93 (gd rfl) rfl (Nat.le_of_ble_eq_true rfl) ?_
                refine g_iload 95 (gd rfl) rfl rfl ?_
                refine g_if_eq 98 108 (gd rfl) rfl rfl (fun c95 => ?_) (fun c95 => ?_)
                · skip
                  exact zn_eq c95 (in_c 1 rfl) rfl
                · skip
                  refine g_aload_n 99 (gd rfl) rfl rfl ?_
                  refine g_getA (q2 := 69) 102 (gd rfl) rfl rfl rfl rfl ?_
                  refine g_iload 104 (gd rfl) rfl rfl ?_
                  refine g_iaload 105 (gd rfl) rfl (n := 160) rfl (in_ix i37 rfl) (fun z104 e104 => ?_)
                  have i104 := inv_I hIc13 (n := 160) (t := 0) 0 31 rfl (in_ix i37 rfl) rfl e104
                  refine g_goto 115 (gd rfl) rfl ?_
                  refine g_istore_n 116 (gd rfl) rfl (Nat.le_of_ble_eq_true rfl) ?_
                  refine g_iinc 119 (gd rfl) rfl rfl (Nat.le_of_ble_eq_true rfl) (fun z116 e116 => ?_)
                  have i116 := in_add 1 32 e116 i17 (in_c 1 rfl) rfl rfl
                  refine g_goto 13 (gd rfl) rfl ?_
                  exact gg_w (by first | exact Nat.le_add_right _ _ | exact gw2 | exact gw3 | exact gwe rfl | exact gwf rfl | exact gwg rfl | exact gwh rfl | omega) (gg_f (gf_cons rfl (gf_cons rfl (gf_cons rfl (gf_cons rfl (gf_cons rfl gf_nil))))) (ih13 sc13 z78 z104 z116 hIc13 hFc13 (in_w 0 31 i104 rfl) (in_w 0 32 i116 rfl) (m_up mm13 (t_add e116 i17 (in_c 1 rfl) rfl) (in_w 1 1 (in_c 1 rfl) rfl))))
              · skip
                refine g_iload_n 6 (gd rfl) rfl rfl ?_
                refine g_goto 10 (gd rfl) rfl ?_
                refine g_ireturn (gd rfl) rfl rfl (hp89 _ _ ?_)
                show GG _ _ _ _ _ _ _ _ [.int y13_2] _ _ _
                refine g_istore_n 93 (gd rfl) rfl (Nat.le_of_ble_eq_true rfl) ?_
                refine g_iload 95 (gd rfl) rfl rfl ?_
                refine g_if_eq 98 108 (gd rfl) rfl rfl (fun c95 => ?_) (fun c95 => ?_)
                · skip
                  exact zn_eq c95 (in_c 1 rfl) rfl
                · skip
                  refine g_aload_n 99 (gd rfl) rfl rfl ?_
                  refine g_getA (q2 := 69) 102 (gd rfl) rfl rfl rfl rfl ?_
                  refine g_iload 104 (gd rfl) rfl rfl ?_
                  refine g_iaload 105 (gd rfl) rfl (n := 160) rfl (in_ix i37 rfl) (fun z104 e104 => ?_)
                  have i104 := inv_I hIc13 (n := 160) (t := 0) 0 31 rfl (in_ix i37 rfl) rfl e104
                  refine g_goto 115 (gd rfl) rfl ?_
                  refine g_istore_n 116 (gd rfl) rfl (Nat.le_of_ble_eq_true rfl) ?_
                  refine g_iinc 119 (gd rfl) rfl rfl (Nat.le_of_ble_eq_true rfl) (fun z116 e116 => ?_)
                  have i116 := in_add 1 32 e116 i17 (in_c 1 rfl) rfl rfl
                  refine g_goto 13 (gd rfl) rfl ?_
                  exact gg_w (by first | exact Nat.le_add_right _ _ | exact gw2 | exact gw3 | exact gwe rfl | exact gwf rfl | exact gwg rfl | exact gwh rfl | omega) (gg_f (gf_cons rfl (gf_cons rfl (gf_cons rfl (gf_cons rfl (gf_cons rfl gf_nil))))) (ih13 sc13 y13_2 z104 z116 hIc13 hFc13 (in_w 0 31 i104 rfl) (in_w 0 32 i116 rfl) (m_up mm13 (t_add e116 i17 (in_c 1 rfl) rfl) (in_w 1 1 (in_c 1 rfl) rfl))))
  refine g_enter2 (k := 88) (N := 62104) (by first | exact dq1 hd rfl | exact dq0 hd rfl | exact dq2 hd rfl | exact dq3 hd rfl | omega) rfl (Nat.le_of_ble_eq_true rfl) ?_
  refine g_aload_n 1 (gd rfl) rfl rfl ?_
  refine g_getA (q2 := 74) 4 (gd rfl) rfl rfl rfl rfl ?_
  refine g_iload_n 5 (gd rfl) rfl rfl ?_
  refine g_iaload 6 (gd rfl) rfl (n := 32) rfl (in_ix h1 rfl) (fun z5 e5 => ?_)
  refine g_ineg 7 (gd rfl) rfl (fun z6 e6 => ?_)
  refine g_istore_n 8 (gd rfl) rfl (Nat.le_of_ble_eq_true rfl) ?_
  refine g_iload_n 9 (gd rfl) rfl rfl ?_
  refine g_istore_n 10 (gd rfl) rfl (Nat.le_of_ble_eq_true rfl) ?_
  refine g_iconst 0 11 (gd rfl) rfl rfl ?_
  refine g_istore 13 (gd rfl) rfl (Nat.le_of_ble_eq_true rfl) ?_
  exact gg_w (by first | exact Nat.le_of_ble_eq_true rfl | omega) (gg_f (gf_cons rfl (gf_cons rfl (gf_cons rfl (gf_cons rfl (gf_cons rfl gf_nil))))) (ct13 33 s z6 x1 (Int32.ofInt 0) hI fr_rf (in_w 0 31 h1 rfl) (in_w 0 32 (in_c 0 rfl) rfl) (m_in 33 (in_w 0 32 (in_c 0 rfl) rfl) rfl)))

def fm_92_32 : FM := ([34], [], [(32, 0), (32, 1), (32, 2), (32, 3), (32, 4)], [])
def fm_93_2_16 : FM := ([3, 4, 5, 6, 7, 8], [], [(2, 0), (2, 1), (2, 2), (2, 3), (2, 4)], [])
def fm_93_16_2 : FM := ([17, 18, 19, 20, 21, 22], [], [(16, 0), (16, 1), (16, 2), (16, 3), (16, 4)], [])
/-- GraphHouse$Graph.joints -/
theorem k_98_2 {Z : AmZ} {A : Nat → Nat} {s : GS} {ex : va_W} {d : Nat} {X : AmX}  (hd : 3 ≤ d) (hI : Inv s)  : GC Z d 98 [.ref (A 2)] (WW Z A s ++ ex) 0 0 (fun v u => ∃ z : Int32, v = some (.int z) ∧ u = WW Z A s ++ ex ∧ In z 0 160) X := by
  intro post xp hP hX
  obtain ⟨u_2_3, e_2_3⟩ : ∃ w, w = s.2.2.1 2 3 := ⟨_, rfl⟩
  have ro_2_3 := inv_F hI 0 160 rfl e_2_3
  have ct4 : ∀ (k4 : Nat) (y4_1 : Int32) (y4_2 : Int32), (In y4_1 0 160) → (In y4_2 0 160) → ((y4_1).toInt ≤ (y4_2).toInt + 0) → 160 - (y4_2).toInt < (k4 : Int) → GG Z (d - 1) 98 post (gx xp) (1 + k4 * 900) 4 (fun j => xlook j [(0, .ref (A 2)), (1, .int y4_1), (2, .int y4_2)]) [] (WW Z A s ++ ex) 0 0 := by
    intro k4
    induction k4 with
    | zero => intro y4_1 y4_2 j4_1 j4_2 l4_1 mm4; exact m_no mm4 j4_2 rfl
    | succ k4 ih4 =>
      intro y4_1 y4_2 j4_1 j4_2 l4_1 mm4
      refine gg_w (M := 1 + k4 * 900 + 900) gws ?_
      refine g_iload_n 5 (gd rfl) rfl rfl ?_
      refine g_aload_n 6 (gd rfl) rfl rfl ?_
      refine g_getI 9 (gd rfl) rfl rfl rfl (fun z6 e6 => ?_)
      have q6 : u_2_3 = z6 := (e_2_3).trans e6.symm
      subst q6
      refine g_cmp_ge 12 29 (gd rfl) rfl rfl (fun c9 => ?_) (fun c9 => ?_)
      · skip
        refine g_iload_n 30 (gd rfl) rfl rfl ?_
        exact g_ireturn (gd rfl) rfl rfl (hP _ _ ⟨y4_1, rfl, rfl, in_w 0 160 j4_1 rfl⟩)
      · skip
        have i9 := r_lt1 0 159 c9 j4_2 ro_2_3 rfl
        have i9a := r_lt2 1 160 c9 j4_2 ro_2_3 rfl
        refine g_aload_n 13 (gd rfl) rfl rfl ?_
        refine g_iload_n 14 (gd rfl) rfl rfl ?_
        refine g_callv (X := _) (As := [.int y4_2]) (r := []) (b := A 2) (q := 2) 17 (gd rfl) rfl rfl rfl rfl rfl (ww_o rfl) (Nat.le_of_ble_eq_true rfl) (mc := 0) (ms := 0) (Nat.zero_le _) (Nat.zero_le _) (P := fun v u => _) ?_ (fun e u h => h) (fun v u h => h)
        intro po14 xx14 hp14 hx14
        refine g_enter2 (k := 97) (N := 300) (by first | exact dq1 hd rfl | exact dq0 hd rfl | exact dq2 hd rfl | exact dq3 hd rfl | omega) rfl (Nat.le_of_ble_eq_true rfl) ?_
        refine g_aload_n 1 (gd rfl) rfl rfl ?_
        refine g_getA (q2 := 4) 4 (gd rfl) rfl rfl rfl rfl ?_
        refine g_iload_n 5 (gd rfl) rfl rfl ?_
        refine g_iaload 6 (gd rfl) rfl (n := 160) rfl (in_ix i9 rfl) (fun z14x5 e14x5 => ?_)
        have i14x5 := inv_I hI (n := 160) (t := 0) (-1) 31 rfl (in_ix i9 rfl) rfl e14x5
        refine g_iconst (-1) 7 (gd rfl) rfl rfl ?_
        refine g_cmp_eq 10 29 (gd rfl) rfl rfl (fun c14x7 => ?_) (fun c14x7 => ?_)
        · skip
          have i14x7 := r_eq1 (-1) (-1) c14x7 i14x5 (in_c (-1) rfl) rfl
          refine g_iconst 0 30 (gd rfl) rfl rfl ?_
          refine g_ireturn (gd rfl) rfl (nb01 (in_w 0 1 (in_c 0 rfl) rfl)) (hp14 _ _ ?_)
          show GG _ _ _ _ _ _ _ _ [.int (Int32.ofInt 0)] _ _ _
          refine g_if_eq 20 23 (gd rfl) rfl rfl (fun c17 => ?_) (fun c17 => ?_)
          · skip
            refine g_iinc 26 (gd rfl) rfl rfl (Nat.le_of_ble_eq_true rfl) (fun z23 e23 => ?_)
            have i23 := in_add 1 160 e23 i9 (in_c 1 rfl) rfl rfl
            refine g_goto 4 (gd rfl) rfl ?_
            have l4 := rl_0 l4_1 (t_add e23 i9 (in_c 1 rfl) rfl) (in_w 0 1 (in_c 1 rfl) rfl)
            exact gg_w (by first | exact Nat.le_add_right _ _ | exact gw2 | exact gw3 | exact gwe rfl | exact gwf rfl | exact gwg rfl | exact gwh rfl | omega) (gg_f (gf_cons rfl (gf_cons rfl (gf_cons rfl gf_nil))) (ih4  y4_1 z23  (rl_w 0 160 l4 j4_1 (in_w 0 160 i23 rfl) rfl) (in_w 0 160 i23 rfl) l4 (m_up mm4 (t_add e23 i9 (in_c 1 rfl) rfl) (in_w 1 1 (in_c 1 rfl) rfl))))
          · skip
            exact zn_ne c17 (in_c 0 rfl) rfl
        · skip
          have i14x7 := r_ne1 0 31 c14x7 i14x5 (in_c (-1) rfl) rfl
          refine g_aload_n 11 (gd rfl) rfl rfl ?_
          refine g_getA (q2 := 4) 14 (gd rfl) rfl rfl rfl rfl ?_
          refine g_iload_n 15 (gd rfl) rfl rfl ?_
          refine g_iaload 16 (gd rfl) rfl (n := 160) rfl (in_ix i9 rfl) (fun z14x15 e14x15 => ?_)
          have q14x15 : z14x5 = z14x15 := (e14x5).trans e14x15.symm
          subst q14x15
          refine g_aload_n 17 (gd rfl) rfl rfl ?_
          refine g_getA (q2 := 5) 20 (gd rfl) rfl rfl rfl rfl ?_
          refine g_iload_n 21 (gd rfl) rfl rfl ?_
          refine g_iaload 22 (gd rfl) rfl (n := 160) rfl (in_ix i9 rfl) (fun z14x21 e14x21 => ?_)
          have i14x21 := inv_I hI (n := 160) (t := 0) 0 31 rfl (in_ix i9 rfl) rfl e14x21
          refine g_cmp_eq 25 29 (gd rfl) rfl rfl (fun c14x22 => ?_) (fun c14x22 => ?_)
          · skip
            refine g_iconst 0 30 (gd rfl) rfl rfl ?_
            refine g_ireturn (gd rfl) rfl (nb01 (in_w 0 1 (in_c 0 rfl) rfl)) (hp14 _ _ ?_)
            show GG _ _ _ _ _ _ _ _ [.int (Int32.ofInt 0)] _ _ _
            refine g_if_eq 20 23 (gd rfl) rfl rfl (fun c17 => ?_) (fun c17 => ?_)
            · skip
              refine g_iinc 26 (gd rfl) rfl rfl (Nat.le_of_ble_eq_true rfl) (fun z23 e23 => ?_)
              have i23 := in_add 1 160 e23 i9 (in_c 1 rfl) rfl rfl
              refine g_goto 4 (gd rfl) rfl ?_
              have l4 := rl_0 l4_1 (t_add e23 i9 (in_c 1 rfl) rfl) (in_w 0 1 (in_c 1 rfl) rfl)
              exact gg_w (by first | exact Nat.le_add_right _ _ | exact gw2 | exact gw3 | exact gwe rfl | exact gwf rfl | exact gwg rfl | exact gwh rfl | omega) (gg_f (gf_cons rfl (gf_cons rfl (gf_cons rfl gf_nil))) (ih4  y4_1 z23  (rl_w 0 160 l4 j4_1 (in_w 0 160 i23 rfl) rfl) (in_w 0 160 i23 rfl) l4 (m_up mm4 (t_add e23 i9 (in_c 1 rfl) rfl) (in_w 1 1 (in_c 1 rfl) rfl))))
            · skip
              exact zn_ne c17 (in_c 0 rfl) rfl
          · skip
            refine g_iconst 1 26 (gd rfl) rfl rfl ?_
            refine g_goto 30 (gd rfl) rfl ?_
            refine g_ireturn (gd rfl) rfl (nb01 (in_w 0 1 (in_c 1 rfl) rfl)) (hp14 _ _ ?_)
            show GG _ _ _ _ _ _ _ _ [.int (Int32.ofInt 1)] _ _ _
            refine g_if_eq 20 23 (gd rfl) rfl rfl (fun c17 => ?_) (fun c17 => ?_)
            · skip
              exact zn_eq c17 (in_c 1 rfl) rfl
            · skip
              refine g_iinc 23 (gd rfl) rfl rfl (Nat.le_of_ble_eq_true rfl) (fun z20 e20 => ?_)
              have i20 := in_add 1 161 e20 j4_1 (in_c 1 rfl) rfl rfl
              refine g_iinc 26 (gd rfl) rfl rfl (Nat.le_of_ble_eq_true rfl) (fun z23 e23 => ?_)
              have i23 := in_add 1 160 e23 i9 (in_c 1 rfl) rfl rfl
              refine g_goto 4 (gd rfl) rfl ?_
              have l4 := rl_1 l4_1 (t_add e20 j4_1 (in_c 1 rfl) rfl) (in_c 1 rfl) (t_add e23 i9 (in_c 1 rfl) rfl) (in_c 1 rfl) rfl
              exact gg_w (by first | exact Nat.le_add_right _ _ | exact gw2 | exact gw3 | exact gwe rfl | exact gwf rfl | exact gwg rfl | exact gwh rfl | omega) (gg_f (gf_cons rfl (gf_cons rfl (gf_cons rfl gf_nil))) (ih4  z20 z23  (rl_w 0 160 l4 i20 (in_w 0 160 i23 rfl) rfl) (in_w 0 160 i23 rfl) l4 (m_up mm4 (t_add e23 i9 (in_c 1 rfl) rfl) (in_w 1 1 (in_c 1 rfl) rfl))))
  refine g_enter2 (k := 98) (N := 145801) (by first | exact dq1 hd rfl | exact dq0 hd rfl | exact dq2 hd rfl | exact dq3 hd rfl | omega) rfl (Nat.le_of_ble_eq_true rfl) ?_
  refine g_iconst 0 1 (gd rfl) rfl rfl ?_
  refine g_istore_n 2 (gd rfl) rfl (Nat.le_of_ble_eq_true rfl) ?_
  refine g_iconst 0 3 (gd rfl) rfl rfl ?_
  refine g_istore_n 4 (gd rfl) rfl (Nat.le_of_ble_eq_true rfl) ?_
  have l4 := rl_in 0 (in_c 0 rfl) (in_c 0 rfl) rfl
  exact gg_w (by first | exact Nat.le_of_ble_eq_true rfl | omega) (gg_f (gf_cons rfl (gf_cons rfl (gf_cons rfl gf_nil))) (ct4 161  (Int32.ofInt 0) (Int32.ofInt 0)  (rl_w 0 160 l4 (in_c 0 rfl) (in_w 0 160 (in_c 0 rfl) rfl) rfl) (in_w 0 160 (in_c 0 rfl) rfl) l4 (m_in 161 (in_w 0 160 (in_c 0 rfl) rfl) rfl)))

/-- GraphHouse$Graph.joints -/
theorem k_98_32 {Z : AmZ} {A : Nat → Nat} {s : GS} {ex : va_W} {d : Nat} {X : AmX}  (hd : 3 ≤ d) (hI : Inv s)  : GC Z d 98 [.ref (A 32)] (WW Z A s ++ ex) 0 0 (fun v u => ∃ z : Int32, v = some (.int z) ∧ u = WW Z A s ++ ex ∧ In z 0 160) X := by
  intro post xp hP hX
  obtain ⟨u_32_3, e_32_3⟩ : ∃ w, w = s.2.2.1 32 3 := ⟨_, rfl⟩
  have ro_32_3 := inv_F hI 0 160 rfl e_32_3
  have ct4 : ∀ (k4 : Nat) (y4_1 : Int32) (y4_2 : Int32), (In y4_1 0 160) → (In y4_2 0 160) → ((y4_1).toInt ≤ (y4_2).toInt + 0) → 160 - (y4_2).toInt < (k4 : Int) → GG Z (d - 1) 98 post (gx xp) (1 + k4 * 900) 4 (fun j => xlook j [(0, .ref (A 32)), (1, .int y4_1), (2, .int y4_2)]) [] (WW Z A s ++ ex) 0 0 := by
    intro k4
    induction k4 with
    | zero => intro y4_1 y4_2 j4_1 j4_2 l4_1 mm4; exact m_no mm4 j4_2 rfl
    | succ k4 ih4 =>
      intro y4_1 y4_2 j4_1 j4_2 l4_1 mm4
      refine gg_w (M := 1 + k4 * 900 + 900) gws ?_
      refine g_iload_n 5 (gd rfl) rfl rfl ?_
      refine g_aload_n 6 (gd rfl) rfl rfl ?_
      refine g_getI 9 (gd rfl) rfl rfl rfl (fun z6 e6 => ?_)
      have q6 : u_32_3 = z6 := (e_32_3).trans e6.symm
      subst q6
      refine g_cmp_ge 12 29 (gd rfl) rfl rfl (fun c9 => ?_) (fun c9 => ?_)
      · skip
        refine g_iload_n 30 (gd rfl) rfl rfl ?_
        exact g_ireturn (gd rfl) rfl rfl (hP _ _ ⟨y4_1, rfl, rfl, in_w 0 160 j4_1 rfl⟩)
      · skip
        have i9 := r_lt1 0 159 c9 j4_2 ro_32_3 rfl
        have i9a := r_lt2 1 160 c9 j4_2 ro_32_3 rfl
        refine g_aload_n 13 (gd rfl) rfl rfl ?_
        refine g_iload_n 14 (gd rfl) rfl rfl ?_
        refine g_callv (X := _) (As := [.int y4_2]) (r := []) (b := A 32) (q := 32) 17 (gd rfl) rfl rfl rfl rfl rfl (ww_o rfl) (Nat.le_of_ble_eq_true rfl) (mc := 0) (ms := 0) (Nat.zero_le _) (Nat.zero_le _) (P := fun v u => _) ?_ (fun e u h => h) (fun v u h => h)
        intro po14 xx14 hp14 hx14
        refine g_enter2 (k := 97) (N := 300) (by first | exact dq1 hd rfl | exact dq0 hd rfl | exact dq2 hd rfl | exact dq3 hd rfl | omega) rfl (Nat.le_of_ble_eq_true rfl) ?_
        refine g_aload_n 1 (gd rfl) rfl rfl ?_
        refine g_getA (q2 := 34) 4 (gd rfl) rfl rfl rfl rfl ?_
        refine g_iload_n 5 (gd rfl) rfl rfl ?_
        refine g_iaload 6 (gd rfl) rfl (n := 160) rfl (in_ix i9 rfl) (fun z14x5 e14x5 => ?_)
        have i14x5 := inv_I hI (n := 160) (t := 0) (-1) 31 rfl (in_ix i9 rfl) rfl e14x5
        refine g_iconst (-1) 7 (gd rfl) rfl rfl ?_
        refine g_cmp_eq 10 29 (gd rfl) rfl rfl (fun c14x7 => ?_) (fun c14x7 => ?_)
        · skip
          have i14x7 := r_eq1 (-1) (-1) c14x7 i14x5 (in_c (-1) rfl) rfl
          refine g_iconst 0 30 (gd rfl) rfl rfl ?_
          refine g_ireturn (gd rfl) rfl (nb01 (in_w 0 1 (in_c 0 rfl) rfl)) (hp14 _ _ ?_)
          show GG _ _ _ _ _ _ _ _ [.int (Int32.ofInt 0)] _ _ _
          refine g_if_eq 20 23 (gd rfl) rfl rfl (fun c17 => ?_) (fun c17 => ?_)
          · skip
            refine g_iinc 26 (gd rfl) rfl rfl (Nat.le_of_ble_eq_true rfl) (fun z23 e23 => ?_)
            have i23 := in_add 1 160 e23 i9 (in_c 1 rfl) rfl rfl
            refine g_goto 4 (gd rfl) rfl ?_
            have l4 := rl_0 l4_1 (t_add e23 i9 (in_c 1 rfl) rfl) (in_w 0 1 (in_c 1 rfl) rfl)
            exact gg_w (by first | exact Nat.le_add_right _ _ | exact gw2 | exact gw3 | exact gwe rfl | exact gwf rfl | exact gwg rfl | exact gwh rfl | omega) (gg_f (gf_cons rfl (gf_cons rfl (gf_cons rfl gf_nil))) (ih4  y4_1 z23  (rl_w 0 160 l4 j4_1 (in_w 0 160 i23 rfl) rfl) (in_w 0 160 i23 rfl) l4 (m_up mm4 (t_add e23 i9 (in_c 1 rfl) rfl) (in_w 1 1 (in_c 1 rfl) rfl))))
          · skip
            exact zn_ne c17 (in_c 0 rfl) rfl
        · skip
          have i14x7 := r_ne1 0 31 c14x7 i14x5 (in_c (-1) rfl) rfl
          refine g_aload_n 11 (gd rfl) rfl rfl ?_
          refine g_getA (q2 := 34) 14 (gd rfl) rfl rfl rfl rfl ?_
          refine g_iload_n 15 (gd rfl) rfl rfl ?_
          refine g_iaload 16 (gd rfl) rfl (n := 160) rfl (in_ix i9 rfl) (fun z14x15 e14x15 => ?_)
          have q14x15 : z14x5 = z14x15 := (e14x5).trans e14x15.symm
          subst q14x15
          refine g_aload_n 17 (gd rfl) rfl rfl ?_
          refine g_getA (q2 := 35) 20 (gd rfl) rfl rfl rfl rfl ?_
          refine g_iload_n 21 (gd rfl) rfl rfl ?_
          refine g_iaload 22 (gd rfl) rfl (n := 160) rfl (in_ix i9 rfl) (fun z14x21 e14x21 => ?_)
          have i14x21 := inv_I hI (n := 160) (t := 0) 0 31 rfl (in_ix i9 rfl) rfl e14x21
          refine g_cmp_eq 25 29 (gd rfl) rfl rfl (fun c14x22 => ?_) (fun c14x22 => ?_)
          · skip
            refine g_iconst 0 30 (gd rfl) rfl rfl ?_
            refine g_ireturn (gd rfl) rfl (nb01 (in_w 0 1 (in_c 0 rfl) rfl)) (hp14 _ _ ?_)
            show GG _ _ _ _ _ _ _ _ [.int (Int32.ofInt 0)] _ _ _
            refine g_if_eq 20 23 (gd rfl) rfl rfl (fun c17 => ?_) (fun c17 => ?_)
            · skip
              refine g_iinc 26 (gd rfl) rfl rfl (Nat.le_of_ble_eq_true rfl) (fun z23 e23 => ?_)
              have i23 := in_add 1 160 e23 i9 (in_c 1 rfl) rfl rfl
              refine g_goto 4 (gd rfl) rfl ?_
              have l4 := rl_0 l4_1 (t_add e23 i9 (in_c 1 rfl) rfl) (in_w 0 1 (in_c 1 rfl) rfl)
              exact gg_w (by first | exact Nat.le_add_right _ _ | exact gw2 | exact gw3 | exact gwe rfl | exact gwf rfl | exact gwg rfl | exact gwh rfl | omega) (gg_f (gf_cons rfl (gf_cons rfl (gf_cons rfl gf_nil))) (ih4  y4_1 z23  (rl_w 0 160 l4 j4_1 (in_w 0 160 i23 rfl) rfl) (in_w 0 160 i23 rfl) l4 (m_up mm4 (t_add e23 i9 (in_c 1 rfl) rfl) (in_w 1 1 (in_c 1 rfl) rfl))))
            · skip
              exact zn_ne c17 (in_c 0 rfl) rfl
          · skip
            refine g_iconst 1 26 (gd rfl) rfl rfl ?_
            refine g_goto 30 (gd rfl) rfl ?_
            refine g_ireturn (gd rfl) rfl (nb01 (in_w 0 1 (in_c 1 rfl) rfl)) (hp14 _ _ ?_)
            show GG _ _ _ _ _ _ _ _ [.int (Int32.ofInt 1)] _ _ _
            refine g_if_eq 20 23 (gd rfl) rfl rfl (fun c17 => ?_) (fun c17 => ?_)
            · skip
              exact zn_eq c17 (in_c 1 rfl) rfl
            · skip
              refine g_iinc 23 (gd rfl) rfl rfl (Nat.le_of_ble_eq_true rfl) (fun z20 e20 => ?_)
              have i20 := in_add 1 161 e20 j4_1 (in_c 1 rfl) rfl rfl
              refine g_iinc 26 (gd rfl) rfl rfl (Nat.le_of_ble_eq_true rfl) (fun z23 e23 => ?_)
              have i23 := in_add 1 160 e23 i9 (in_c 1 rfl) rfl rfl
              refine g_goto 4 (gd rfl) rfl ?_
              have l4 := rl_1 l4_1 (t_add e20 j4_1 (in_c 1 rfl) rfl) (in_c 1 rfl) (t_add e23 i9 (in_c 1 rfl) rfl) (in_c 1 rfl) rfl
              exact gg_w (by first | exact Nat.le_add_right _ _ | exact gw2 | exact gw3 | exact gwe rfl | exact gwf rfl | exact gwg rfl | exact gwh rfl | omega) (gg_f (gf_cons rfl (gf_cons rfl (gf_cons rfl gf_nil))) (ih4  z20 z23  (rl_w 0 160 l4 i20 (in_w 0 160 i23 rfl) rfl) (in_w 0 160 i23 rfl) l4 (m_up mm4 (t_add e23 i9 (in_c 1 rfl) rfl) (in_w 1 1 (in_c 1 rfl) rfl))))
  refine g_enter2 (k := 98) (N := 145801) (by first | exact dq1 hd rfl | exact dq0 hd rfl | exact dq2 hd rfl | exact dq3 hd rfl | omega) rfl (Nat.le_of_ble_eq_true rfl) ?_
  refine g_iconst 0 1 (gd rfl) rfl rfl ?_
  refine g_istore_n 2 (gd rfl) rfl (Nat.le_of_ble_eq_true rfl) ?_
  refine g_iconst 0 3 (gd rfl) rfl rfl ?_
  refine g_istore_n 4 (gd rfl) rfl (Nat.le_of_ble_eq_true rfl) ?_
  have l4 := rl_in 0 (in_c 0 rfl) (in_c 0 rfl) rfl
  exact gg_w (by first | exact Nat.le_of_ble_eq_true rfl | omega) (gg_f (gf_cons rfl (gf_cons rfl (gf_cons rfl gf_nil))) (ct4 161  (Int32.ofInt 0) (Int32.ofInt 0)  (rl_w 0 160 l4 (in_c 0 rfl) (in_w 0 160 (in_c 0 rfl) rfl) rfl) (in_w 0 160 (in_c 0 rfl) rfl) l4 (m_in 161 (in_w 0 160 (in_c 0 rfl) rfl) rfl)))

def fm_99_2_59 : FM := ([59], [], [], [])
/-- GraphHouse$Graph.countJoints -/
theorem k_99_2_59 {Z : AmZ} {A : Nat → Nat} {s : GS} {ex : va_W} {d : Nat} {X : AmX}  (hd : 3 ≤ d) (hI : Inv s)  : GC Z d 99 [.ref (A 2), .ref (A 59)] (WW Z A s ++ ex) 0 0 (fun v u => ∃ t : GS, Inv t ∧ Fr fm_99_2_59 s t ∧ v = none ∧ u = WW Z A t ++ ex) X := by
  intro post xp hP hX
  obtain ⟨u_2_3, e_2_3⟩ : ∃ w, w = s.2.2.1 2 3 := ⟨_, rfl⟩
  have ro_2_3 := inv_F hI 0 160 rfl e_2_3
  have ct7 : ∀ (k7 : Nat) (sc7 : GS) (y7_2 : Int32), Inv sc7 → Fr fm_99_2_59 s sc7 → (In y7_2 0 160) → 160 - (y7_2).toInt < (k7 : Int) → GG Z (d - 1) 99 post (gx xp) (1 + k7 * 900) 7 (fun j => xlook j [(0, .ref (A 2)), (1, .ref (A 59)), (2, .int y7_2)]) [] (WW Z A sc7 ++ ex) 0 0 := by
    intro k7
    induction k7 with
    | zero => intro sc7 y7_2 hIc7 hFc7 j7_2 mm7; exact m_no mm7 j7_2 rfl
    | succ k7 ih7 =>
      intro sc7 y7_2 hIc7 hFc7 j7_2 mm7
      refine gg_w (M := 1 + k7 * 900 + 900) gws ?_
      refine g_iload_n 8 (gd rfl) rfl rfl ?_
      refine g_aload_n 9 (gd rfl) rfl rfl ?_
      refine g_getI 12 (gd rfl) rfl rfl rfl (fun z9 e9 => ?_)
      have q9 : u_2_3 = z9 := (fr_F e_2_3 hFc7 rfl).trans e9.symm
      subst q9
      refine g_cmp_ge 15 53 (gd rfl) rfl rfl (fun c12 => ?_) (fun c12 => ?_)
      · skip
        exact g_return (gd rfl) rfl (hP _ _ ⟨sc7, hIc7, hFc7, rfl, rfl⟩)
      · skip
        have i12 := r_lt1 0 159 c12 j7_2 ro_2_3 rfl
        have i12a := r_lt2 1 160 c12 j7_2 ro_2_3 rfl
        refine g_aload_n 16 (gd rfl) rfl rfl ?_
        refine g_iload_n 17 (gd rfl) rfl rfl ?_
        refine g_callv (X := _) (As := [.int y7_2]) (r := []) (b := A 2) (q := 2) 20 (gd rfl) rfl rfl rfl rfl rfl (ww_o rfl) (Nat.le_of_ble_eq_true rfl) (mc := 0) (ms := 0) (Nat.zero_le _) (Nat.zero_le _) (P := fun v u => _) ?_ (fun e u h => h) (fun v u h => h)
        intro po17 xx17 hp17 hx17
        refine g_enter2 (k := 97) (N := 300) (by first | exact dq1 hd rfl | exact dq0 hd rfl | exact dq2 hd rfl | exact dq3 hd rfl | omega) rfl (Nat.le_of_ble_eq_true rfl) ?_
        refine g_aload_n 1 (gd rfl) rfl rfl ?_
        refine g_getA (q2 := 4) 4 (gd rfl) rfl rfl rfl rfl ?_
        refine g_iload_n 5 (gd rfl) rfl rfl ?_
        refine g_iaload 6 (gd rfl) rfl (n := 160) rfl (in_ix i12 rfl) (fun z17x5 e17x5 => ?_)
        have i17x5 := inv_I hIc7 (n := 160) (t := 0) (-1) 31 rfl (in_ix i12 rfl) rfl e17x5
        refine g_iconst (-1) 7 (gd rfl) rfl rfl ?_
        refine g_cmp_eq 10 29 (gd rfl) rfl rfl (fun c17x7 => ?_) (fun c17x7 => ?_)
        · skip
          have i17x7 := r_eq1 (-1) (-1) c17x7 i17x5 (in_c (-1) rfl) rfl
          refine g_iconst 0 30 (gd rfl) rfl rfl ?_
          refine g_ireturn (gd rfl) rfl (nb01 (in_w 0 1 (in_c 0 rfl) rfl)) (hp17 _ _ ?_)
          show GG _ _ _ _ _ _ _ _ [.int (Int32.ofInt 0)] _ _ _
          refine g_if_eq 23 47 (gd rfl) rfl rfl (fun c20 => ?_) (fun c20 => ?_)
          · skip
            refine g_iinc 50 (gd rfl) rfl rfl (Nat.le_of_ble_eq_true rfl) (fun z47 e47 => ?_)
            have i47 := in_add 1 160 e47 i12 (in_c 1 rfl) rfl rfl
            refine g_goto 7 (gd rfl) rfl ?_
            exact gg_w (by first | exact Nat.le_add_right _ _ | exact gw2 | exact gw3 | exact gwe rfl | exact gwf rfl | exact gwg rfl | exact gwh rfl | omega) (gg_f (gf_cons rfl (gf_cons rfl (gf_cons rfl gf_nil))) (ih7 sc7 z47 hIc7 hFc7 (in_w 0 160 i47 rfl) (m_up mm7 (t_add e47 i12 (in_c 1 rfl) rfl) (in_w 1 1 (in_c 1 rfl) rfl))))
          · skip
            exact zn_ne c20 (in_c 0 rfl) rfl
        · skip
          have i17x7 := r_ne1 0 31 c17x7 i17x5 (in_c (-1) rfl) rfl
          refine g_aload_n 11 (gd rfl) rfl rfl ?_
          refine g_getA (q2 := 4) 14 (gd rfl) rfl rfl rfl rfl ?_
          refine g_iload_n 15 (gd rfl) rfl rfl ?_
          refine g_iaload 16 (gd rfl) rfl (n := 160) rfl (in_ix i12 rfl) (fun z17x15 e17x15 => ?_)
          have q17x15 : z17x5 = z17x15 := (e17x5).trans e17x15.symm
          subst q17x15
          refine g_aload_n 17 (gd rfl) rfl rfl ?_
          refine g_getA (q2 := 5) 20 (gd rfl) rfl rfl rfl rfl ?_
          refine g_iload_n 21 (gd rfl) rfl rfl ?_
          refine g_iaload 22 (gd rfl) rfl (n := 160) rfl (in_ix i12 rfl) (fun z17x21 e17x21 => ?_)
          have i17x21 := inv_I hIc7 (n := 160) (t := 0) 0 31 rfl (in_ix i12 rfl) rfl e17x21
          refine g_cmp_eq 25 29 (gd rfl) rfl rfl (fun c17x22 => ?_) (fun c17x22 => ?_)
          · skip
            refine g_iconst 0 30 (gd rfl) rfl rfl ?_
            refine g_ireturn (gd rfl) rfl (nb01 (in_w 0 1 (in_c 0 rfl) rfl)) (hp17 _ _ ?_)
            show GG _ _ _ _ _ _ _ _ [.int (Int32.ofInt 0)] _ _ _
            refine g_if_eq 23 47 (gd rfl) rfl rfl (fun c20 => ?_) (fun c20 => ?_)
            · skip
              refine g_iinc 50 (gd rfl) rfl rfl (Nat.le_of_ble_eq_true rfl) (fun z47 e47 => ?_)
              have i47 := in_add 1 160 e47 i12 (in_c 1 rfl) rfl rfl
              refine g_goto 7 (gd rfl) rfl ?_
              exact gg_w (by first | exact Nat.le_add_right _ _ | exact gw2 | exact gw3 | exact gwe rfl | exact gwf rfl | exact gwg rfl | exact gwh rfl | omega) (gg_f (gf_cons rfl (gf_cons rfl (gf_cons rfl gf_nil))) (ih7 sc7 z47 hIc7 hFc7 (in_w 0 160 i47 rfl) (m_up mm7 (t_add e47 i12 (in_c 1 rfl) rfl) (in_w 1 1 (in_c 1 rfl) rfl))))
            · skip
              exact zn_ne c20 (in_c 0 rfl) rfl
          · skip
            refine g_iconst 1 26 (gd rfl) rfl rfl ?_
            refine g_goto 30 (gd rfl) rfl ?_
            refine g_ireturn (gd rfl) rfl (nb01 (in_w 0 1 (in_c 1 rfl) rfl)) (hp17 _ _ ?_)
            show GG _ _ _ _ _ _ _ _ [.int (Int32.ofInt 1)] _ _ _
            refine g_if_eq 23 47 (gd rfl) rfl rfl (fun c20 => ?_) (fun c20 => ?_)
            · skip
              exact zn_eq c20 (in_c 1 rfl) rfl
            · skip
              refine g_aload_n 24 (gd rfl) rfl rfl ?_
              refine g_aload_n 25 (gd rfl) rfl rfl ?_
              refine g_getA (q2 := 4) 28 (gd rfl) rfl rfl rfl rfl ?_
              refine g_iload_n 29 (gd rfl) rfl rfl ?_
              refine g_iaload 30 (gd rfl) rfl (n := 160) rfl (in_ix i12 rfl) (fun z29 e29 => ?_)
              have q29 : z17x5 = z29 := (e17x5).trans e29.symm
              subst q29
              refine g_dup2 31 (gd rfl) rfl rfl rfl ?_
              refine g_iaload 32 (gd rfl) rfl (n := 32) rfl (in_ix i17x7 rfl) (fun z31 e31 => ?_)
              refine g_iconst 1 33 (gd rfl) rfl rfl ?_
              refine g_iadd 34 (gd rfl) rfl (fun z33 e33 => ?_)
              refine g_iastore 35 (gd rfl) rfl (n := 32) rfl (in_ix i17x7 rfl) ?_
              have hI34 := inv_sI (q := 59) (j := z17x5.toNatClampNeg) hIc7 rfl (in_w (-2147483648) 2147483647 (i_rng z33) rfl)
              refine g_aload_n 36 (gd rfl) rfl rfl ?_
              refine g_aload_n 37 (gd rfl) rfl rfl ?_
              refine g_getA (q2 := 5) 40 (gd rfl) rfl rfl rfl rfl ?_
              refine g_iload_n 41 (gd rfl) rfl rfl ?_
              refine g_iaload 42 (gd rfl) rfl (n := 160) rfl (in_ix i12 rfl) (fun z41 e41 => ?_)
              have q41 : z17x21 = z41 := (sI_ne rfl (e17x21)).trans e41.symm
              subst q41
              refine g_dup2 43 (gd rfl) rfl rfl rfl ?_
              refine g_iaload 44 (gd rfl) rfl (n := 32) rfl (in_ix i17x21 rfl) (fun z43 e43 => ?_)
              refine g_iconst 1 45 (gd rfl) rfl rfl ?_
              refine g_iadd 46 (gd rfl) rfl (fun z45 e45 => ?_)
              refine g_iastore 47 (gd rfl) rfl (n := 32) rfl (in_ix i17x21 rfl) ?_
              have hI46 := inv_sI (q := 59) (j := z17x21.toNatClampNeg) hI34 rfl (in_w (-2147483648) 2147483647 (i_rng z45) rfl)
              refine g_iinc 50 (gd rfl) rfl rfl (Nat.le_of_ble_eq_true rfl) (fun z47 e47 => ?_)
              have i47 := in_add 1 160 e47 i12 (in_c 1 rfl) rfl rfl
              refine g_goto 7 (gd rfl) rfl ?_
              exact gg_w (by first | exact Nat.le_add_right _ _ | exact gw2 | exact gw3 | exact gwe rfl | exact gwf rfl | exact gwg rfl | exact gwh rfl | omega) (gg_f (gf_cons rfl (gf_cons rfl (gf_cons rfl gf_nil))) (ih7 (sI (sI sc7 59 z17x5.toNatClampNeg z33) 59 z17x21.toNatClampNeg z45) z47 hI46 (fr_sI rfl (fr_sI rfl hFc7)) (in_w 0 160 i47 rfl) (m_up mm7 (t_add e47 i12 (in_c 1 rfl) rfl) (in_w 1 1 (in_c 1 rfl) rfl))))
  refine g_enter2 (k := 99) (N := 145801) (by first | exact dq1 hd rfl | exact dq0 hd rfl | exact dq2 hd rfl | exact dq3 hd rfl | omega) rfl (Nat.le_of_ble_eq_true rfl) ?_
  refine g_aload_n 1 (gd rfl) rfl rfl ?_
  refine g_iconst 0 2 (gd rfl) rfl rfl ?_
  refine g_calls (As := [.ref (A 59), .int (Int32.ofInt 0)]) (r := []) 5 (gd rfl) rfl rfl rfl rfl rfl (Nat.le_of_ble_eq_true rfl) (Nat.zero_le _) (Nat.zero_le _) (k_fillI 59 (by first | exact dq1 hd rfl | exact dq0 hd rfl | exact dq2 hd rfl | exact dq3 hd rfl | omega) hI (in_c 0 rfl) (n := 32) rfl rfl rfl rfl) (fun v u h => ?_)
  obtain ⟨s2, hI2, hF2, rfl, rfl, fl2⟩ := h
  show GG _ _ _ _ _ _ _ _ [] _ _ _
  refine g_iconst 0 6 (gd rfl) rfl rfl ?_
  refine g_istore_n 7 (gd rfl) rfl (Nat.le_of_ble_eq_true rfl) ?_
  exact gg_w (by first | exact Nat.le_of_ble_eq_true rfl | omega) (gg_f (gf_cons rfl (gf_cons rfl (gf_cons rfl gf_nil))) (ct7 161 s2 (Int32.ofInt 0) hI2 (fr_tr rfl fr_rf hF2) (in_w 0 160 (in_c 0 rfl) rfl) (m_in 161 (in_w 0 160 (in_c 0 rfl) rfl) rfl)))

def fm_99_2_91 : FM := ([91], [], [], [])
/-- GraphHouse$Graph.countJoints -/
theorem k_99_2_91 {Z : AmZ} {A : Nat → Nat} {s : GS} {ex : va_W} {d : Nat} {X : AmX}  (hd : 3 ≤ d) (hI : Inv s)  : GC Z d 99 [.ref (A 2), .ref (A 91)] (WW Z A s ++ ex) 0 0 (fun v u => ∃ t : GS, Inv t ∧ Fr fm_99_2_91 s t ∧ v = none ∧ u = WW Z A t ++ ex) X := by
  intro post xp hP hX
  obtain ⟨u_2_3, e_2_3⟩ : ∃ w, w = s.2.2.1 2 3 := ⟨_, rfl⟩
  have ro_2_3 := inv_F hI 0 160 rfl e_2_3
  have ct7 : ∀ (k7 : Nat) (sc7 : GS) (y7_2 : Int32), Inv sc7 → Fr fm_99_2_91 s sc7 → (In y7_2 0 160) → 160 - (y7_2).toInt < (k7 : Int) → GG Z (d - 1) 99 post (gx xp) (1 + k7 * 900) 7 (fun j => xlook j [(0, .ref (A 2)), (1, .ref (A 91)), (2, .int y7_2)]) [] (WW Z A sc7 ++ ex) 0 0 := by
    intro k7
    induction k7 with
    | zero => intro sc7 y7_2 hIc7 hFc7 j7_2 mm7; exact m_no mm7 j7_2 rfl
    | succ k7 ih7 =>
      intro sc7 y7_2 hIc7 hFc7 j7_2 mm7
      refine gg_w (M := 1 + k7 * 900 + 900) gws ?_
      refine g_iload_n 8 (gd rfl) rfl rfl ?_
      refine g_aload_n 9 (gd rfl) rfl rfl ?_
      refine g_getI 12 (gd rfl) rfl rfl rfl (fun z9 e9 => ?_)
      have q9 : u_2_3 = z9 := (fr_F e_2_3 hFc7 rfl).trans e9.symm
      subst q9
      refine g_cmp_ge 15 53 (gd rfl) rfl rfl (fun c12 => ?_) (fun c12 => ?_)
      · skip
        exact g_return (gd rfl) rfl (hP _ _ ⟨sc7, hIc7, hFc7, rfl, rfl⟩)
      · skip
        have i12 := r_lt1 0 159 c12 j7_2 ro_2_3 rfl
        have i12a := r_lt2 1 160 c12 j7_2 ro_2_3 rfl
        refine g_aload_n 16 (gd rfl) rfl rfl ?_
        refine g_iload_n 17 (gd rfl) rfl rfl ?_
        refine g_callv (X := _) (As := [.int y7_2]) (r := []) (b := A 2) (q := 2) 20 (gd rfl) rfl rfl rfl rfl rfl (ww_o rfl) (Nat.le_of_ble_eq_true rfl) (mc := 0) (ms := 0) (Nat.zero_le _) (Nat.zero_le _) (P := fun v u => _) ?_ (fun e u h => h) (fun v u h => h)
        intro po17 xx17 hp17 hx17
        refine g_enter2 (k := 97) (N := 300) (by first | exact dq1 hd rfl | exact dq0 hd rfl | exact dq2 hd rfl | exact dq3 hd rfl | omega) rfl (Nat.le_of_ble_eq_true rfl) ?_
        refine g_aload_n 1 (gd rfl) rfl rfl ?_
        refine g_getA (q2 := 4) 4 (gd rfl) rfl rfl rfl rfl ?_
        refine g_iload_n 5 (gd rfl) rfl rfl ?_
        refine g_iaload 6 (gd rfl) rfl (n := 160) rfl (in_ix i12 rfl) (fun z17x5 e17x5 => ?_)
        have i17x5 := inv_I hIc7 (n := 160) (t := 0) (-1) 31 rfl (in_ix i12 rfl) rfl e17x5
        refine g_iconst (-1) 7 (gd rfl) rfl rfl ?_
        refine g_cmp_eq 10 29 (gd rfl) rfl rfl (fun c17x7 => ?_) (fun c17x7 => ?_)
        · skip
          have i17x7 := r_eq1 (-1) (-1) c17x7 i17x5 (in_c (-1) rfl) rfl
          refine g_iconst 0 30 (gd rfl) rfl rfl ?_
          refine g_ireturn (gd rfl) rfl (nb01 (in_w 0 1 (in_c 0 rfl) rfl)) (hp17 _ _ ?_)
          show GG _ _ _ _ _ _ _ _ [.int (Int32.ofInt 0)] _ _ _
          refine g_if_eq 23 47 (gd rfl) rfl rfl (fun c20 => ?_) (fun c20 => ?_)
          · skip
            refine g_iinc 50 (gd rfl) rfl rfl (Nat.le_of_ble_eq_true rfl) (fun z47 e47 => ?_)
            have i47 := in_add 1 160 e47 i12 (in_c 1 rfl) rfl rfl
            refine g_goto 7 (gd rfl) rfl ?_
            exact gg_w (by first | exact Nat.le_add_right _ _ | exact gw2 | exact gw3 | exact gwe rfl | exact gwf rfl | exact gwg rfl | exact gwh rfl | omega) (gg_f (gf_cons rfl (gf_cons rfl (gf_cons rfl gf_nil))) (ih7 sc7 z47 hIc7 hFc7 (in_w 0 160 i47 rfl) (m_up mm7 (t_add e47 i12 (in_c 1 rfl) rfl) (in_w 1 1 (in_c 1 rfl) rfl))))
          · skip
            exact zn_ne c20 (in_c 0 rfl) rfl
        · skip
          have i17x7 := r_ne1 0 31 c17x7 i17x5 (in_c (-1) rfl) rfl
          refine g_aload_n 11 (gd rfl) rfl rfl ?_
          refine g_getA (q2 := 4) 14 (gd rfl) rfl rfl rfl rfl ?_
          refine g_iload_n 15 (gd rfl) rfl rfl ?_
          refine g_iaload 16 (gd rfl) rfl (n := 160) rfl (in_ix i12 rfl) (fun z17x15 e17x15 => ?_)
          have q17x15 : z17x5 = z17x15 := (e17x5).trans e17x15.symm
          subst q17x15
          refine g_aload_n 17 (gd rfl) rfl rfl ?_
          refine g_getA (q2 := 5) 20 (gd rfl) rfl rfl rfl rfl ?_
          refine g_iload_n 21 (gd rfl) rfl rfl ?_
          refine g_iaload 22 (gd rfl) rfl (n := 160) rfl (in_ix i12 rfl) (fun z17x21 e17x21 => ?_)
          have i17x21 := inv_I hIc7 (n := 160) (t := 0) 0 31 rfl (in_ix i12 rfl) rfl e17x21
          refine g_cmp_eq 25 29 (gd rfl) rfl rfl (fun c17x22 => ?_) (fun c17x22 => ?_)
          · skip
            refine g_iconst 0 30 (gd rfl) rfl rfl ?_
            refine g_ireturn (gd rfl) rfl (nb01 (in_w 0 1 (in_c 0 rfl) rfl)) (hp17 _ _ ?_)
            show GG _ _ _ _ _ _ _ _ [.int (Int32.ofInt 0)] _ _ _
            refine g_if_eq 23 47 (gd rfl) rfl rfl (fun c20 => ?_) (fun c20 => ?_)
            · skip
              refine g_iinc 50 (gd rfl) rfl rfl (Nat.le_of_ble_eq_true rfl) (fun z47 e47 => ?_)
              have i47 := in_add 1 160 e47 i12 (in_c 1 rfl) rfl rfl
              refine g_goto 7 (gd rfl) rfl ?_
              exact gg_w (by first | exact Nat.le_add_right _ _ | exact gw2 | exact gw3 | exact gwe rfl | exact gwf rfl | exact gwg rfl | exact gwh rfl | omega) (gg_f (gf_cons rfl (gf_cons rfl (gf_cons rfl gf_nil))) (ih7 sc7 z47 hIc7 hFc7 (in_w 0 160 i47 rfl) (m_up mm7 (t_add e47 i12 (in_c 1 rfl) rfl) (in_w 1 1 (in_c 1 rfl) rfl))))
            · skip
              exact zn_ne c20 (in_c 0 rfl) rfl
          · skip
            refine g_iconst 1 26 (gd rfl) rfl rfl ?_
            refine g_goto 30 (gd rfl) rfl ?_
            refine g_ireturn (gd rfl) rfl (nb01 (in_w 0 1 (in_c 1 rfl) rfl)) (hp17 _ _ ?_)
            show GG _ _ _ _ _ _ _ _ [.int (Int32.ofInt 1)] _ _ _
            refine g_if_eq 23 47 (gd rfl) rfl rfl (fun c20 => ?_) (fun c20 => ?_)
            · skip
              exact zn_eq c20 (in_c 1 rfl) rfl
            · skip
              refine g_aload_n 24 (gd rfl) rfl rfl ?_
              refine g_aload_n 25 (gd rfl) rfl rfl ?_
              refine g_getA (q2 := 4) 28 (gd rfl) rfl rfl rfl rfl ?_
              refine g_iload_n 29 (gd rfl) rfl rfl ?_
              refine g_iaload 30 (gd rfl) rfl (n := 160) rfl (in_ix i12 rfl) (fun z29 e29 => ?_)
              have q29 : z17x5 = z29 := (e17x5).trans e29.symm
              subst q29
              refine g_dup2 31 (gd rfl) rfl rfl rfl ?_
              refine g_iaload 32 (gd rfl) rfl (n := 32) rfl (in_ix i17x7 rfl) (fun z31 e31 => ?_)
              refine g_iconst 1 33 (gd rfl) rfl rfl ?_
              refine g_iadd 34 (gd rfl) rfl (fun z33 e33 => ?_)
              refine g_iastore 35 (gd rfl) rfl (n := 32) rfl (in_ix i17x7 rfl) ?_
              have hI34 := inv_sI (q := 91) (j := z17x5.toNatClampNeg) hIc7 rfl (in_w (-2147483648) 2147483647 (i_rng z33) rfl)
              refine g_aload_n 36 (gd rfl) rfl rfl ?_
              refine g_aload_n 37 (gd rfl) rfl rfl ?_
              refine g_getA (q2 := 5) 40 (gd rfl) rfl rfl rfl rfl ?_
              refine g_iload_n 41 (gd rfl) rfl rfl ?_
              refine g_iaload 42 (gd rfl) rfl (n := 160) rfl (in_ix i12 rfl) (fun z41 e41 => ?_)
              have q41 : z17x21 = z41 := (sI_ne rfl (e17x21)).trans e41.symm
              subst q41
              refine g_dup2 43 (gd rfl) rfl rfl rfl ?_
              refine g_iaload 44 (gd rfl) rfl (n := 32) rfl (in_ix i17x21 rfl) (fun z43 e43 => ?_)
              refine g_iconst 1 45 (gd rfl) rfl rfl ?_
              refine g_iadd 46 (gd rfl) rfl (fun z45 e45 => ?_)
              refine g_iastore 47 (gd rfl) rfl (n := 32) rfl (in_ix i17x21 rfl) ?_
              have hI46 := inv_sI (q := 91) (j := z17x21.toNatClampNeg) hI34 rfl (in_w (-2147483648) 2147483647 (i_rng z45) rfl)
              refine g_iinc 50 (gd rfl) rfl rfl (Nat.le_of_ble_eq_true rfl) (fun z47 e47 => ?_)
              have i47 := in_add 1 160 e47 i12 (in_c 1 rfl) rfl rfl
              refine g_goto 7 (gd rfl) rfl ?_
              exact gg_w (by first | exact Nat.le_add_right _ _ | exact gw2 | exact gw3 | exact gwe rfl | exact gwf rfl | exact gwg rfl | exact gwh rfl | omega) (gg_f (gf_cons rfl (gf_cons rfl (gf_cons rfl gf_nil))) (ih7 (sI (sI sc7 91 z17x5.toNatClampNeg z33) 91 z17x21.toNatClampNeg z45) z47 hI46 (fr_sI rfl (fr_sI rfl hFc7)) (in_w 0 160 i47 rfl) (m_up mm7 (t_add e47 i12 (in_c 1 rfl) rfl) (in_w 1 1 (in_c 1 rfl) rfl))))
  refine g_enter2 (k := 99) (N := 145801) (by first | exact dq1 hd rfl | exact dq0 hd rfl | exact dq2 hd rfl | exact dq3 hd rfl | omega) rfl (Nat.le_of_ble_eq_true rfl) ?_
  refine g_aload_n 1 (gd rfl) rfl rfl ?_
  refine g_iconst 0 2 (gd rfl) rfl rfl ?_
  refine g_calls (As := [.ref (A 91), .int (Int32.ofInt 0)]) (r := []) 5 (gd rfl) rfl rfl rfl rfl rfl (Nat.le_of_ble_eq_true rfl) (Nat.zero_le _) (Nat.zero_le _) (k_fillI 91 (by first | exact dq1 hd rfl | exact dq0 hd rfl | exact dq2 hd rfl | exact dq3 hd rfl | omega) hI (in_c 0 rfl) (n := 32) rfl rfl rfl rfl) (fun v u h => ?_)
  obtain ⟨s2, hI2, hF2, rfl, rfl, fl2⟩ := h
  show GG _ _ _ _ _ _ _ _ [] _ _ _
  refine g_iconst 0 6 (gd rfl) rfl rfl ?_
  refine g_istore_n 7 (gd rfl) rfl (Nat.le_of_ble_eq_true rfl) ?_
  exact gg_w (by first | exact Nat.le_of_ble_eq_true rfl | omega) (gg_f (gf_cons rfl (gf_cons rfl (gf_cons rfl gf_nil))) (ct7 161 s2 (Int32.ofInt 0) hI2 (fr_tr rfl fr_rf hF2) (in_w 0 160 (in_c 0 rfl) rfl) (m_in 161 (in_w 0 160 (in_c 0 rfl) rfl) rfl)))

def fm_99_32_59 : FM := ([59], [], [], [])
/-- GraphHouse$Graph.countJoints -/
theorem k_99_32_59 {Z : AmZ} {A : Nat → Nat} {s : GS} {ex : va_W} {d : Nat} {X : AmX}  (hd : 3 ≤ d) (hI : Inv s)  : GC Z d 99 [.ref (A 32), .ref (A 59)] (WW Z A s ++ ex) 0 0 (fun v u => ∃ t : GS, Inv t ∧ Fr fm_99_32_59 s t ∧ v = none ∧ u = WW Z A t ++ ex) X := by
  intro post xp hP hX
  obtain ⟨u_32_3, e_32_3⟩ : ∃ w, w = s.2.2.1 32 3 := ⟨_, rfl⟩
  have ro_32_3 := inv_F hI 0 160 rfl e_32_3
  have ct7 : ∀ (k7 : Nat) (sc7 : GS) (y7_2 : Int32), Inv sc7 → Fr fm_99_32_59 s sc7 → (In y7_2 0 160) → 160 - (y7_2).toInt < (k7 : Int) → GG Z (d - 1) 99 post (gx xp) (1 + k7 * 900) 7 (fun j => xlook j [(0, .ref (A 32)), (1, .ref (A 59)), (2, .int y7_2)]) [] (WW Z A sc7 ++ ex) 0 0 := by
    intro k7
    induction k7 with
    | zero => intro sc7 y7_2 hIc7 hFc7 j7_2 mm7; exact m_no mm7 j7_2 rfl
    | succ k7 ih7 =>
      intro sc7 y7_2 hIc7 hFc7 j7_2 mm7
      refine gg_w (M := 1 + k7 * 900 + 900) gws ?_
      refine g_iload_n 8 (gd rfl) rfl rfl ?_
      refine g_aload_n 9 (gd rfl) rfl rfl ?_
      refine g_getI 12 (gd rfl) rfl rfl rfl (fun z9 e9 => ?_)
      have q9 : u_32_3 = z9 := (fr_F e_32_3 hFc7 rfl).trans e9.symm
      subst q9
      refine g_cmp_ge 15 53 (gd rfl) rfl rfl (fun c12 => ?_) (fun c12 => ?_)
      · skip
        exact g_return (gd rfl) rfl (hP _ _ ⟨sc7, hIc7, hFc7, rfl, rfl⟩)
      · skip
        have i12 := r_lt1 0 159 c12 j7_2 ro_32_3 rfl
        have i12a := r_lt2 1 160 c12 j7_2 ro_32_3 rfl
        refine g_aload_n 16 (gd rfl) rfl rfl ?_
        refine g_iload_n 17 (gd rfl) rfl rfl ?_
        refine g_callv (X := _) (As := [.int y7_2]) (r := []) (b := A 32) (q := 32) 20 (gd rfl) rfl rfl rfl rfl rfl (ww_o rfl) (Nat.le_of_ble_eq_true rfl) (mc := 0) (ms := 0) (Nat.zero_le _) (Nat.zero_le _) (P := fun v u => _) ?_ (fun e u h => h) (fun v u h => h)
        intro po17 xx17 hp17 hx17
        refine g_enter2 (k := 97) (N := 300) (by first | exact dq1 hd rfl | exact dq0 hd rfl | exact dq2 hd rfl | exact dq3 hd rfl | omega) rfl (Nat.le_of_ble_eq_true rfl) ?_
        refine g_aload_n 1 (gd rfl) rfl rfl ?_
        refine g_getA (q2 := 34) 4 (gd rfl) rfl rfl rfl rfl ?_
        refine g_iload_n 5 (gd rfl) rfl rfl ?_
        refine g_iaload 6 (gd rfl) rfl (n := 160) rfl (in_ix i12 rfl) (fun z17x5 e17x5 => ?_)
        have i17x5 := inv_I hIc7 (n := 160) (t := 0) (-1) 31 rfl (in_ix i12 rfl) rfl e17x5
        refine g_iconst (-1) 7 (gd rfl) rfl rfl ?_
        refine g_cmp_eq 10 29 (gd rfl) rfl rfl (fun c17x7 => ?_) (fun c17x7 => ?_)
        · skip
          have i17x7 := r_eq1 (-1) (-1) c17x7 i17x5 (in_c (-1) rfl) rfl
          refine g_iconst 0 30 (gd rfl) rfl rfl ?_
          refine g_ireturn (gd rfl) rfl (nb01 (in_w 0 1 (in_c 0 rfl) rfl)) (hp17 _ _ ?_)
          show GG _ _ _ _ _ _ _ _ [.int (Int32.ofInt 0)] _ _ _
          refine g_if_eq 23 47 (gd rfl) rfl rfl (fun c20 => ?_) (fun c20 => ?_)
          · skip
            refine g_iinc 50 (gd rfl) rfl rfl (Nat.le_of_ble_eq_true rfl) (fun z47 e47 => ?_)
            have i47 := in_add 1 160 e47 i12 (in_c 1 rfl) rfl rfl
            refine g_goto 7 (gd rfl) rfl ?_
            exact gg_w (by first | exact Nat.le_add_right _ _ | exact gw2 | exact gw3 | exact gwe rfl | exact gwf rfl | exact gwg rfl | exact gwh rfl | omega) (gg_f (gf_cons rfl (gf_cons rfl (gf_cons rfl gf_nil))) (ih7 sc7 z47 hIc7 hFc7 (in_w 0 160 i47 rfl) (m_up mm7 (t_add e47 i12 (in_c 1 rfl) rfl) (in_w 1 1 (in_c 1 rfl) rfl))))
          · skip
            exact zn_ne c20 (in_c 0 rfl) rfl
        · skip
          have i17x7 := r_ne1 0 31 c17x7 i17x5 (in_c (-1) rfl) rfl
          refine g_aload_n 11 (gd rfl) rfl rfl ?_
          refine g_getA (q2 := 34) 14 (gd rfl) rfl rfl rfl rfl ?_
          refine g_iload_n 15 (gd rfl) rfl rfl ?_
          refine g_iaload 16 (gd rfl) rfl (n := 160) rfl (in_ix i12 rfl) (fun z17x15 e17x15 => ?_)
          have q17x15 : z17x5 = z17x15 := (e17x5).trans e17x15.symm
          subst q17x15
          refine g_aload_n 17 (gd rfl) rfl rfl ?_
          refine g_getA (q2 := 35) 20 (gd rfl) rfl rfl rfl rfl ?_
          refine g_iload_n 21 (gd rfl) rfl rfl ?_
          refine g_iaload 22 (gd rfl) rfl (n := 160) rfl (in_ix i12 rfl) (fun z17x21 e17x21 => ?_)
          have i17x21 := inv_I hIc7 (n := 160) (t := 0) 0 31 rfl (in_ix i12 rfl) rfl e17x21
          refine g_cmp_eq 25 29 (gd rfl) rfl rfl (fun c17x22 => ?_) (fun c17x22 => ?_)
          · skip
            refine g_iconst 0 30 (gd rfl) rfl rfl ?_
            refine g_ireturn (gd rfl) rfl (nb01 (in_w 0 1 (in_c 0 rfl) rfl)) (hp17 _ _ ?_)
            show GG _ _ _ _ _ _ _ _ [.int (Int32.ofInt 0)] _ _ _
            refine g_if_eq 23 47 (gd rfl) rfl rfl (fun c20 => ?_) (fun c20 => ?_)
            · skip
              refine g_iinc 50 (gd rfl) rfl rfl (Nat.le_of_ble_eq_true rfl) (fun z47 e47 => ?_)
              have i47 := in_add 1 160 e47 i12 (in_c 1 rfl) rfl rfl
              refine g_goto 7 (gd rfl) rfl ?_
              exact gg_w (by first | exact Nat.le_add_right _ _ | exact gw2 | exact gw3 | exact gwe rfl | exact gwf rfl | exact gwg rfl | exact gwh rfl | omega) (gg_f (gf_cons rfl (gf_cons rfl (gf_cons rfl gf_nil))) (ih7 sc7 z47 hIc7 hFc7 (in_w 0 160 i47 rfl) (m_up mm7 (t_add e47 i12 (in_c 1 rfl) rfl) (in_w 1 1 (in_c 1 rfl) rfl))))
            · skip
              exact zn_ne c20 (in_c 0 rfl) rfl
          · skip
            refine g_iconst 1 26 (gd rfl) rfl rfl ?_
            refine g_goto 30 (gd rfl) rfl ?_
            refine g_ireturn (gd rfl) rfl (nb01 (in_w 0 1 (in_c 1 rfl) rfl)) (hp17 _ _ ?_)
            show GG _ _ _ _ _ _ _ _ [.int (Int32.ofInt 1)] _ _ _
            refine g_if_eq 23 47 (gd rfl) rfl rfl (fun c20 => ?_) (fun c20 => ?_)
            · skip
              exact zn_eq c20 (in_c 1 rfl) rfl
            · skip
              refine g_aload_n 24 (gd rfl) rfl rfl ?_
              refine g_aload_n 25 (gd rfl) rfl rfl ?_
              refine g_getA (q2 := 34) 28 (gd rfl) rfl rfl rfl rfl ?_
              refine g_iload_n 29 (gd rfl) rfl rfl ?_
              refine g_iaload 30 (gd rfl) rfl (n := 160) rfl (in_ix i12 rfl) (fun z29 e29 => ?_)
              have q29 : z17x5 = z29 := (e17x5).trans e29.symm
              subst q29
              refine g_dup2 31 (gd rfl) rfl rfl rfl ?_
              refine g_iaload 32 (gd rfl) rfl (n := 32) rfl (in_ix i17x7 rfl) (fun z31 e31 => ?_)
              refine g_iconst 1 33 (gd rfl) rfl rfl ?_
              refine g_iadd 34 (gd rfl) rfl (fun z33 e33 => ?_)
              refine g_iastore 35 (gd rfl) rfl (n := 32) rfl (in_ix i17x7 rfl) ?_
              have hI34 := inv_sI (q := 59) (j := z17x5.toNatClampNeg) hIc7 rfl (in_w (-2147483648) 2147483647 (i_rng z33) rfl)
              refine g_aload_n 36 (gd rfl) rfl rfl ?_
              refine g_aload_n 37 (gd rfl) rfl rfl ?_
              refine g_getA (q2 := 35) 40 (gd rfl) rfl rfl rfl rfl ?_
              refine g_iload_n 41 (gd rfl) rfl rfl ?_
              refine g_iaload 42 (gd rfl) rfl (n := 160) rfl (in_ix i12 rfl) (fun z41 e41 => ?_)
              have q41 : z17x21 = z41 := (sI_ne rfl (e17x21)).trans e41.symm
              subst q41
              refine g_dup2 43 (gd rfl) rfl rfl rfl ?_
              refine g_iaload 44 (gd rfl) rfl (n := 32) rfl (in_ix i17x21 rfl) (fun z43 e43 => ?_)
              refine g_iconst 1 45 (gd rfl) rfl rfl ?_
              refine g_iadd 46 (gd rfl) rfl (fun z45 e45 => ?_)
              refine g_iastore 47 (gd rfl) rfl (n := 32) rfl (in_ix i17x21 rfl) ?_
              have hI46 := inv_sI (q := 59) (j := z17x21.toNatClampNeg) hI34 rfl (in_w (-2147483648) 2147483647 (i_rng z45) rfl)
              refine g_iinc 50 (gd rfl) rfl rfl (Nat.le_of_ble_eq_true rfl) (fun z47 e47 => ?_)
              have i47 := in_add 1 160 e47 i12 (in_c 1 rfl) rfl rfl
              refine g_goto 7 (gd rfl) rfl ?_
              exact gg_w (by first | exact Nat.le_add_right _ _ | exact gw2 | exact gw3 | exact gwe rfl | exact gwf rfl | exact gwg rfl | exact gwh rfl | omega) (gg_f (gf_cons rfl (gf_cons rfl (gf_cons rfl gf_nil))) (ih7 (sI (sI sc7 59 z17x5.toNatClampNeg z33) 59 z17x21.toNatClampNeg z45) z47 hI46 (fr_sI rfl (fr_sI rfl hFc7)) (in_w 0 160 i47 rfl) (m_up mm7 (t_add e47 i12 (in_c 1 rfl) rfl) (in_w 1 1 (in_c 1 rfl) rfl))))
  refine g_enter2 (k := 99) (N := 145801) (by first | exact dq1 hd rfl | exact dq0 hd rfl | exact dq2 hd rfl | exact dq3 hd rfl | omega) rfl (Nat.le_of_ble_eq_true rfl) ?_
  refine g_aload_n 1 (gd rfl) rfl rfl ?_
  refine g_iconst 0 2 (gd rfl) rfl rfl ?_
  refine g_calls (As := [.ref (A 59), .int (Int32.ofInt 0)]) (r := []) 5 (gd rfl) rfl rfl rfl rfl rfl (Nat.le_of_ble_eq_true rfl) (Nat.zero_le _) (Nat.zero_le _) (k_fillI 59 (by first | exact dq1 hd rfl | exact dq0 hd rfl | exact dq2 hd rfl | exact dq3 hd rfl | omega) hI (in_c 0 rfl) (n := 32) rfl rfl rfl rfl) (fun v u h => ?_)
  obtain ⟨s2, hI2, hF2, rfl, rfl, fl2⟩ := h
  show GG _ _ _ _ _ _ _ _ [] _ _ _
  refine g_iconst 0 6 (gd rfl) rfl rfl ?_
  refine g_istore_n 7 (gd rfl) rfl (Nat.le_of_ble_eq_true rfl) ?_
  exact gg_w (by first | exact Nat.le_of_ble_eq_true rfl | omega) (gg_f (gf_cons rfl (gf_cons rfl (gf_cons rfl gf_nil))) (ct7 161 s2 (Int32.ofInt 0) hI2 (fr_tr rfl fr_rf hF2) (in_w 0 160 (in_c 0 rfl) rfl) (m_in 161 (in_w 0 160 (in_c 0 rfl) rfl) rfl)))

def fm_99_32_91 : FM := ([91], [], [], [])
/-- GraphHouse$Graph.countJoints -/
theorem k_99_32_91 {Z : AmZ} {A : Nat → Nat} {s : GS} {ex : va_W} {d : Nat} {X : AmX}  (hd : 3 ≤ d) (hI : Inv s)  : GC Z d 99 [.ref (A 32), .ref (A 91)] (WW Z A s ++ ex) 0 0 (fun v u => ∃ t : GS, Inv t ∧ Fr fm_99_32_91 s t ∧ v = none ∧ u = WW Z A t ++ ex) X := by
  intro post xp hP hX
  obtain ⟨u_32_3, e_32_3⟩ : ∃ w, w = s.2.2.1 32 3 := ⟨_, rfl⟩
  have ro_32_3 := inv_F hI 0 160 rfl e_32_3
  have ct7 : ∀ (k7 : Nat) (sc7 : GS) (y7_2 : Int32), Inv sc7 → Fr fm_99_32_91 s sc7 → (In y7_2 0 160) → 160 - (y7_2).toInt < (k7 : Int) → GG Z (d - 1) 99 post (gx xp) (1 + k7 * 900) 7 (fun j => xlook j [(0, .ref (A 32)), (1, .ref (A 91)), (2, .int y7_2)]) [] (WW Z A sc7 ++ ex) 0 0 := by
    intro k7
    induction k7 with
    | zero => intro sc7 y7_2 hIc7 hFc7 j7_2 mm7; exact m_no mm7 j7_2 rfl
    | succ k7 ih7 =>
      intro sc7 y7_2 hIc7 hFc7 j7_2 mm7
      refine gg_w (M := 1 + k7 * 900 + 900) gws ?_
      refine g_iload_n 8 (gd rfl) rfl rfl ?_
      refine g_aload_n 9 (gd rfl) rfl rfl ?_
      refine g_getI 12 (gd rfl) rfl rfl rfl (fun z9 e9 => ?_)
      have q9 : u_32_3 = z9 := (fr_F e_32_3 hFc7 rfl).trans e9.symm
      subst q9
      refine g_cmp_ge 15 53 (gd rfl) rfl rfl (fun c12 => ?_) (fun c12 => ?_)
      · skip
        exact g_return (gd rfl) rfl (hP _ _ ⟨sc7, hIc7, hFc7, rfl, rfl⟩)
      · skip
        have i12 := r_lt1 0 159 c12 j7_2 ro_32_3 rfl
        have i12a := r_lt2 1 160 c12 j7_2 ro_32_3 rfl
        refine g_aload_n 16 (gd rfl) rfl rfl ?_
        refine g_iload_n 17 (gd rfl) rfl rfl ?_
        refine g_callv (X := _) (As := [.int y7_2]) (r := []) (b := A 32) (q := 32) 20 (gd rfl) rfl rfl rfl rfl rfl (ww_o rfl) (Nat.le_of_ble_eq_true rfl) (mc := 0) (ms := 0) (Nat.zero_le _) (Nat.zero_le _) (P := fun v u => _) ?_ (fun e u h => h) (fun v u h => h)
        intro po17 xx17 hp17 hx17
        refine g_enter2 (k := 97) (N := 300) (by first | exact dq1 hd rfl | exact dq0 hd rfl | exact dq2 hd rfl | exact dq3 hd rfl | omega) rfl (Nat.le_of_ble_eq_true rfl) ?_
        refine g_aload_n 1 (gd rfl) rfl rfl ?_
        refine g_getA (q2 := 34) 4 (gd rfl) rfl rfl rfl rfl ?_
        refine g_iload_n 5 (gd rfl) rfl rfl ?_
        refine g_iaload 6 (gd rfl) rfl (n := 160) rfl (in_ix i12 rfl) (fun z17x5 e17x5 => ?_)
        have i17x5 := inv_I hIc7 (n := 160) (t := 0) (-1) 31 rfl (in_ix i12 rfl) rfl e17x5
        refine g_iconst (-1) 7 (gd rfl) rfl rfl ?_
        refine g_cmp_eq 10 29 (gd rfl) rfl rfl (fun c17x7 => ?_) (fun c17x7 => ?_)
        · skip
          have i17x7 := r_eq1 (-1) (-1) c17x7 i17x5 (in_c (-1) rfl) rfl
          refine g_iconst 0 30 (gd rfl) rfl rfl ?_
          refine g_ireturn (gd rfl) rfl (nb01 (in_w 0 1 (in_c 0 rfl) rfl)) (hp17 _ _ ?_)
          show GG _ _ _ _ _ _ _ _ [.int (Int32.ofInt 0)] _ _ _
          refine g_if_eq 23 47 (gd rfl) rfl rfl (fun c20 => ?_) (fun c20 => ?_)
          · skip
            refine g_iinc 50 (gd rfl) rfl rfl (Nat.le_of_ble_eq_true rfl) (fun z47 e47 => ?_)
            have i47 := in_add 1 160 e47 i12 (in_c 1 rfl) rfl rfl
            refine g_goto 7 (gd rfl) rfl ?_
            exact gg_w (by first | exact Nat.le_add_right _ _ | exact gw2 | exact gw3 | exact gwe rfl | exact gwf rfl | exact gwg rfl | exact gwh rfl | omega) (gg_f (gf_cons rfl (gf_cons rfl (gf_cons rfl gf_nil))) (ih7 sc7 z47 hIc7 hFc7 (in_w 0 160 i47 rfl) (m_up mm7 (t_add e47 i12 (in_c 1 rfl) rfl) (in_w 1 1 (in_c 1 rfl) rfl))))
          · skip
            exact zn_ne c20 (in_c 0 rfl) rfl
        · skip
          have i17x7 := r_ne1 0 31 c17x7 i17x5 (in_c (-1) rfl) rfl
          refine g_aload_n 11 (gd rfl) rfl rfl ?_
          refine g_getA (q2 := 34) 14 (gd rfl) rfl rfl rfl rfl ?_
          refine g_iload_n 15 (gd rfl) rfl rfl ?_
          refine g_iaload 16 (gd rfl) rfl (n := 160) rfl (in_ix i12 rfl) (fun z17x15 e17x15 => ?_)
          have q17x15 : z17x5 = z17x15 := (e17x5).trans e17x15.symm
          subst q17x15
          refine g_aload_n 17 (gd rfl) rfl rfl ?_
          refine g_getA (q2 := 35) 20 (gd rfl) rfl rfl rfl rfl ?_
          refine g_iload_n 21 (gd rfl) rfl rfl ?_
          refine g_iaload 22 (gd rfl) rfl (n := 160) rfl (in_ix i12 rfl) (fun z17x21 e17x21 => ?_)
          have i17x21 := inv_I hIc7 (n := 160) (t := 0) 0 31 rfl (in_ix i12 rfl) rfl e17x21
          refine g_cmp_eq 25 29 (gd rfl) rfl rfl (fun c17x22 => ?_) (fun c17x22 => ?_)
          · skip
            refine g_iconst 0 30 (gd rfl) rfl rfl ?_
            refine g_ireturn (gd rfl) rfl (nb01 (in_w 0 1 (in_c 0 rfl) rfl)) (hp17 _ _ ?_)
            show GG _ _ _ _ _ _ _ _ [.int (Int32.ofInt 0)] _ _ _
            refine g_if_eq 23 47 (gd rfl) rfl rfl (fun c20 => ?_) (fun c20 => ?_)
            · skip
              refine g_iinc 50 (gd rfl) rfl rfl (Nat.le_of_ble_eq_true rfl) (fun z47 e47 => ?_)
              have i47 := in_add 1 160 e47 i12 (in_c 1 rfl) rfl rfl
              refine g_goto 7 (gd rfl) rfl ?_
              exact gg_w (by first | exact Nat.le_add_right _ _ | exact gw2 | exact gw3 | exact gwe rfl | exact gwf rfl | exact gwg rfl | exact gwh rfl | omega) (gg_f (gf_cons rfl (gf_cons rfl (gf_cons rfl gf_nil))) (ih7 sc7 z47 hIc7 hFc7 (in_w 0 160 i47 rfl) (m_up mm7 (t_add e47 i12 (in_c 1 rfl) rfl) (in_w 1 1 (in_c 1 rfl) rfl))))
            · skip
              exact zn_ne c20 (in_c 0 rfl) rfl
          · skip
            refine g_iconst 1 26 (gd rfl) rfl rfl ?_
            refine g_goto 30 (gd rfl) rfl ?_
            refine g_ireturn (gd rfl) rfl (nb01 (in_w 0 1 (in_c 1 rfl) rfl)) (hp17 _ _ ?_)
            show GG _ _ _ _ _ _ _ _ [.int (Int32.ofInt 1)] _ _ _
            refine g_if_eq 23 47 (gd rfl) rfl rfl (fun c20 => ?_) (fun c20 => ?_)
            · skip
              exact zn_eq c20 (in_c 1 rfl) rfl
            · skip
              refine g_aload_n 24 (gd rfl) rfl rfl ?_
              refine g_aload_n 25 (gd rfl) rfl rfl ?_
              refine g_getA (q2 := 34) 28 (gd rfl) rfl rfl rfl rfl ?_
              refine g_iload_n 29 (gd rfl) rfl rfl ?_
              refine g_iaload 30 (gd rfl) rfl (n := 160) rfl (in_ix i12 rfl) (fun z29 e29 => ?_)
              have q29 : z17x5 = z29 := (e17x5).trans e29.symm
              subst q29
              refine g_dup2 31 (gd rfl) rfl rfl rfl ?_
              refine g_iaload 32 (gd rfl) rfl (n := 32) rfl (in_ix i17x7 rfl) (fun z31 e31 => ?_)
              refine g_iconst 1 33 (gd rfl) rfl rfl ?_
              refine g_iadd 34 (gd rfl) rfl (fun z33 e33 => ?_)
              refine g_iastore 35 (gd rfl) rfl (n := 32) rfl (in_ix i17x7 rfl) ?_
              have hI34 := inv_sI (q := 91) (j := z17x5.toNatClampNeg) hIc7 rfl (in_w (-2147483648) 2147483647 (i_rng z33) rfl)
              refine g_aload_n 36 (gd rfl) rfl rfl ?_
              refine g_aload_n 37 (gd rfl) rfl rfl ?_
              refine g_getA (q2 := 35) 40 (gd rfl) rfl rfl rfl rfl ?_
              refine g_iload_n 41 (gd rfl) rfl rfl ?_
              refine g_iaload 42 (gd rfl) rfl (n := 160) rfl (in_ix i12 rfl) (fun z41 e41 => ?_)
              have q41 : z17x21 = z41 := (sI_ne rfl (e17x21)).trans e41.symm
              subst q41
              refine g_dup2 43 (gd rfl) rfl rfl rfl ?_
              refine g_iaload 44 (gd rfl) rfl (n := 32) rfl (in_ix i17x21 rfl) (fun z43 e43 => ?_)
              refine g_iconst 1 45 (gd rfl) rfl rfl ?_
              refine g_iadd 46 (gd rfl) rfl (fun z45 e45 => ?_)
              refine g_iastore 47 (gd rfl) rfl (n := 32) rfl (in_ix i17x21 rfl) ?_
              have hI46 := inv_sI (q := 91) (j := z17x21.toNatClampNeg) hI34 rfl (in_w (-2147483648) 2147483647 (i_rng z45) rfl)
              refine g_iinc 50 (gd rfl) rfl rfl (Nat.le_of_ble_eq_true rfl) (fun z47 e47 => ?_)
              have i47 := in_add 1 160 e47 i12 (in_c 1 rfl) rfl rfl
              refine g_goto 7 (gd rfl) rfl ?_
              exact gg_w (by first | exact Nat.le_add_right _ _ | exact gw2 | exact gw3 | exact gwe rfl | exact gwf rfl | exact gwg rfl | exact gwh rfl | omega) (gg_f (gf_cons rfl (gf_cons rfl (gf_cons rfl gf_nil))) (ih7 (sI (sI sc7 91 z17x5.toNatClampNeg z33) 91 z17x21.toNatClampNeg z45) z47 hI46 (fr_sI rfl (fr_sI rfl hFc7)) (in_w 0 160 i47 rfl) (m_up mm7 (t_add e47 i12 (in_c 1 rfl) rfl) (in_w 1 1 (in_c 1 rfl) rfl))))
  refine g_enter2 (k := 99) (N := 145801) (by first | exact dq1 hd rfl | exact dq0 hd rfl | exact dq2 hd rfl | exact dq3 hd rfl | omega) rfl (Nat.le_of_ble_eq_true rfl) ?_
  refine g_aload_n 1 (gd rfl) rfl rfl ?_
  refine g_iconst 0 2 (gd rfl) rfl rfl ?_
  refine g_calls (As := [.ref (A 91), .int (Int32.ofInt 0)]) (r := []) 5 (gd rfl) rfl rfl rfl rfl rfl (Nat.le_of_ble_eq_true rfl) (Nat.zero_le _) (Nat.zero_le _) (k_fillI 91 (by first | exact dq1 hd rfl | exact dq0 hd rfl | exact dq2 hd rfl | exact dq3 hd rfl | omega) hI (in_c 0 rfl) (n := 32) rfl rfl rfl rfl) (fun v u h => ?_)
  obtain ⟨s2, hI2, hF2, rfl, rfl, fl2⟩ := h
  show GG _ _ _ _ _ _ _ _ [] _ _ _
  refine g_iconst 0 6 (gd rfl) rfl rfl ?_
  refine g_istore_n 7 (gd rfl) rfl (Nat.le_of_ble_eq_true rfl) ?_
  exact gg_w (by first | exact Nat.le_of_ble_eq_true rfl | omega) (gg_f (gf_cons rfl (gf_cons rfl (gf_cons rfl gf_nil))) (ct7 161 s2 (Int32.ofInt 0) hI2 (fr_tr rfl fr_rf hF2) (in_w 0 160 (in_c 0 rfl) rfl) (m_in 161 (in_w 0 160 (in_c 0 rfl) rfl) rfl)))

def fm_114_86_2 : FM := ([9, 10, 11, 12, 13, 14, 15, 89, 90, 91, 92], [], [(2, 4), (86, 5)], [])
/-- GraphHouse$Groups.begin -/
theorem k_114_86_2 {Z : AmZ} {A : Nat → Nat} {s : GS} {ex : va_W} {d : Nat} {X : AmX}  (hd : 4 ≤ d) (hI : Inv s)  : GC Z d 114 [.ref (A 86), .ref (A 2)] (WW Z A s ++ ex) 0 0 (fun v u => ∃ t : GS, Inv t ∧ Fr fm_114_86_2 s t ∧ ((t.2.2.1 2 4).toInt = (t.2.2.1 2 0).toInt) ∧ v = none ∧ u = WW Z A t ++ ex) X := by
  intro post xp hP hX
  obtain ⟨u_2_1, e_2_1⟩ : ∃ w, w = s.2.2.1 2 1 := ⟨_, rfl⟩
  have ro_2_1 := inv_F hI 0 32 rfl e_2_1
  have ct30 : ∀ (k30 : Nat) (sc30 : GS) (y30_2 : Int32) (w30_2_4 : Int32) (w30_2_0 : Int32), Inv sc30 → Fr fm_114_86_2 s sc30 → (In y30_2 0 32) → (w30_2_4 = sc30.2.2.1 2 4) → (w30_2_0 = sc30.2.2.1 2 0) → ((w30_2_4).toInt = (w30_2_0).toInt) → 32 - (y30_2).toInt < (k30 : Int) → GG Z (d - 1) 114 post (gx xp) (1 + k30 * 900) 30 (fun j => xlook j [(0, .ref (A 86)), (1, .ref (A 2)), (2, .int y30_2)]) [] (WW Z A sc30 ++ ex) 0 0 := by
    intro k30
    induction k30 with
    | zero => intro sc30 y30_2 w30_2_4 w30_2_0 hIc30 hFc30 j30_2 v30_2_4 v30_2_0 n30_0 mm30; exact m_no mm30 j30_2 rfl
    | succ k30 ih30 =>
      intro sc30 y30_2 w30_2_4 w30_2_0 hIc30 hFc30 j30_2 v30_2_4 v30_2_0 n30_0 mm30
      refine gg_w (M := 1 + k30 * 900 + 900) gws ?_
      refine g_iload_n 31 (gd rfl) rfl rfl ?_
      refine g_aload_n 32 (gd rfl) rfl rfl ?_
      refine g_getI 35 (gd rfl) rfl rfl rfl (fun z32 e32 => ?_)
      have q32 : u_2_1 = z32 := (fr_F e_2_1 hFc30 rfl).trans e32.symm
      subst q32
      refine g_cmp_ge 38 72 (gd rfl) rfl rfl (fun c35 => ?_) (fun c35 => ?_)
      · skip
        have n72 : (w30_2_4).toInt = (w30_2_0).toInt := by first | exact n30_0 | ((first | have a0 := in_u ro_2_1 | (have a0 := ro_2_1; unfold In at a0)); (first | have a1 := in_u ((inv_F hIc30 0 4000 rfl v30_2_0)) | (have a1 := (inv_F hIc30 0 4000 rfl v30_2_0); unfold In at a1)); (first | have a2 := in_u ((inv_F hIc30 (-1) 4000 rfl v30_2_4)) | (have a2 := (inv_F hIc30 (-1) 4000 rfl v30_2_4); unfold In at a2)); (first | have a3 := in_u j30_2 | (have a3 := j30_2; unfold In at a3)); omega)
        have n72a : (sc30.2.2.1 2 4).toInt = (sc30.2.2.1 2 0).toInt := by have b0 : w30_2_4 = sc30.2.2.1 2 4 := v30_2_4; have b1 : w30_2_0 = sc30.2.2.1 2 0 := v30_2_0; rw [← b0, ← b1]; exact n72
        exact g_return (gd rfl) rfl (hP _ _ ⟨sc30, hIc30, hFc30, n72a, rfl, rfl⟩)
      · skip
        have i35 := r_lt1 0 31 c35 j30_2 ro_2_1 rfl
        have i35a := r_lt2 1 32 c35 j30_2 ro_2_1 rfl
        refine g_aload_n 39 (gd rfl) rfl rfl ?_
        refine g_getA (q2 := 89) 42 (gd rfl) rfl rfl rfl rfl ?_
        refine g_iload_n 43 (gd rfl) rfl rfl ?_
        refine g_iload_n 44 (gd rfl) rfl rfl ?_
        refine g_iastore 45 (gd rfl) rfl (n := 32) rfl (in_ix i35 rfl) ?_
        have hI44 := inv_sI (q := 89) (j := y30_2.toNatClampNeg) hIc30 rfl (in_w 0 31 i35 rfl)
        refine g_aload_n 46 (gd rfl) rfl rfl ?_
        refine g_getA (q2 := 90) 49 (gd rfl) rfl rfl rfl rfl ?_
        refine g_iload_n 50 (gd rfl) rfl rfl ?_
        refine g_iconst 1 51 (gd rfl) rfl rfl ?_
        refine g_iload_n 52 (gd rfl) rfl rfl ?_
        refine g_ishl 53 (gd rfl) rfl (fun z52 e52 => ?_)
        refine g_iastore 54 (gd rfl) rfl (n := 32) rfl (in_ix i35 rfl) ?_
        have hI53 := inv_sI (q := 90) (j := y30_2.toNatClampNeg) hI44 rfl (in_w (-2147483648) 2147483647 (i_rng z52) rfl)
        refine g_aload_n 55 (gd rfl) rfl rfl ?_
        refine g_getA (q2 := 92) 58 (gd rfl) rfl rfl rfl rfl ?_
        refine g_iload_n 59 (gd rfl) rfl rfl ?_
        refine g_aload_n 60 (gd rfl) rfl rfl ?_
        refine g_getA (q2 := 91) 63 (gd rfl) rfl rfl rfl rfl ?_
        refine g_iload_n 64 (gd rfl) rfl rfl ?_
        refine g_iaload 65 (gd rfl) rfl (n := 32) rfl (in_ix i35 rfl) (fun z64 e64 => ?_)
        refine g_iastore 66 (gd rfl) rfl (n := 32) rfl (in_ix i35 rfl) ?_
        have hI65 := inv_sI (q := 92) (j := y30_2.toNatClampNeg) hI53 rfl (in_w (-2147483648) 2147483647 (i_rng z64) rfl)
        refine g_iinc 69 (gd rfl) rfl rfl (Nat.le_of_ble_eq_true rfl) (fun z66 e66 => ?_)
        have i66 := in_add 1 32 e66 i35 (in_c 1 rfl) rfl rfl
        refine g_goto 30 (gd rfl) rfl ?_
        have v30 : w30_2_4 = (sI (sI (sI sc30 89 y30_2.toNatClampNeg y30_2) 90 y30_2.toNatClampNeg z52) 92 y30_2.toNatClampNeg z64).2.2.1 2 4 := sI_F (sI_F (sI_F (v30_2_4)))
        have v30a : w30_2_0 = (sI (sI (sI sc30 89 y30_2.toNatClampNeg y30_2) 90 y30_2.toNatClampNeg z52) 92 y30_2.toNatClampNeg z64).2.2.1 2 0 := sI_F (sI_F (sI_F (v30_2_0)))
        have n30 : (w30_2_4).toInt = (w30_2_0).toInt := by first | exact n30_0 | ((first | have a0 := in_u i35a | (have a0 := i35a; unfold In at a0)); (first | have a1 := in_u ((inv_F hIc30 0 4000 rfl v30_2_0)) | (have a1 := (inv_F hIc30 0 4000 rfl v30_2_0); unfold In at a1)); (first | have a2 := in_u ((inv_F hIc30 (-1) 4000 rfl v30_2_4)) | (have a2 := (inv_F hIc30 (-1) 4000 rfl v30_2_4); unfold In at a2)); (first | have a3 := in_u i35 | (have a3 := i35; unfold In at a3)); (first | have a4 := in_u i66 | (have a4 := i66; unfold In at a4)); have a5 := t_add e66 i35 (in_c 1 rfl) rfl; (first | have a6 := in_u ((in_c 1 rfl)) | (have a6 := (in_c 1 rfl); unfold In at a6)); omega)
        exact gg_w (by first | exact Nat.le_add_right _ _ | exact gw2 | exact gw3 | exact gwe rfl | exact gwf rfl | exact gwg rfl | exact gwh rfl | omega) (gg_f (gf_cons rfl (gf_cons rfl (gf_cons rfl gf_nil))) (ih30 (sI (sI (sI sc30 89 y30_2.toNatClampNeg y30_2) 90 y30_2.toNatClampNeg z52) 92 y30_2.toNatClampNeg z64) z66 w30_2_4 w30_2_0 hI65 (fr_sI rfl (fr_sI rfl (fr_sI rfl hFc30))) (in_w 0 32 i66 rfl) v30 v30a n30 (m_up mm30 (t_add e66 i35 (in_c 1 rfl) rfl) (in_w 1 1 (in_c 1 rfl) rfl))))
  refine g_enter2 (k := 114) (N := 30601) (by first | exact dq1 hd rfl | exact dq0 hd rfl | exact dq2 hd rfl | exact dq3 hd rfl | omega) rfl (Nat.le_of_ble_eq_true rfl) ?_
  refine g_aload_n 1 (gd rfl) rfl rfl ?_
  refine g_callv (X := _) (As := []) (r := []) (b := A 2) (q := 2) 4 (gd rfl) rfl rfl rfl rfl rfl (ww_o rfl) (Nat.le_of_ble_eq_true rfl) (Nat.zero_le _) (Nat.zero_le _) (k_106_2 (by first | exact dq1 hd rfl | exact dq0 hd rfl | exact dq2 hd rfl | exact dq3 hd rfl | omega) hI ) (fun e u h => h) (fun v u h => ?_)
  obtain ⟨s1, hI1, hF1, n1, rfl, rfl⟩ := h
  obtain ⟨z1a, e1⟩ : ∃ w, w = s1.2.2.1 2 4 := ⟨_, rfl⟩
  have i1a := inv_F hI1 (-1) 4000 rfl e1
  obtain ⟨z1b, e1a⟩ : ∃ w, w = s1.2.2.1 2 0 := ⟨_, rfl⟩
  have i1b := inv_F hI1 0 4000 rfl e1a
  rw [← (show z1a = s1.2.2.1 2 4 from e1)] at n1
  rw [← (show z1b = s1.2.2.1 2 0 from e1a)] at n1
  show GG _ _ _ _ _ _ _ _ [] _ _ _
  refine g_aload_n 5 (gd rfl) rfl rfl ?_
  refine g_aload_n 6 (gd rfl) rfl rfl ?_
  refine g_callv (X := _) (As := []) (r := [.ref (A 86)]) (b := A 2) (q := 2) 9 (gd rfl) rfl rfl rfl rfl rfl (ww_o rfl) (Nat.le_of_ble_eq_true rfl) (Nat.zero_le _) (Nat.zero_le _) (k_98_2 (by first | exact dq1 hd rfl | exact dq0 hd rfl | exact dq2 hd rfl | exact dq3 hd rfl | omega) hI1 ) (fun e u h => h) (fun v u h => ?_)
  obtain ⟨z6, rfl, rfl, i6⟩ := h
  show GG _ _ _ _ _ _ _ _ [.int z6, .ref (A 86)] _ _ _
  refine g_putI 12 (gd rfl) rfl rfl rfl rfl ?_
  have hI9 := inv_sF (q := 86) (j := 5) hI1 rfl (in_w 0 160 i6 rfl)
  refine g_aload_n 13 (gd rfl) rfl rfl ?_
  refine g_aload_n 14 (gd rfl) rfl rfl ?_
  refine g_getA (q2 := 91) 17 (gd rfl) rfl rfl rfl rfl ?_
  refine g_callv (X := _) (As := [.ref (A 91)]) (r := []) (b := A 2) (q := 2) 20 (gd rfl) rfl rfl rfl rfl rfl (ww_o rfl) (Nat.le_of_ble_eq_true rfl) (Nat.zero_le _) (Nat.zero_le _) (k_99_2_91 (by first | exact dq1 hd rfl | exact dq0 hd rfl | exact dq2 hd rfl | exact dq3 hd rfl | omega) hI9 ) (fun e u h => h) (fun v u h => ?_)
  obtain ⟨s17, hI17, hF17, rfl, rfl⟩ := h
  show GG _ _ _ _ _ _ _ _ [] _ _ _
  refine g_aload_n 21 (gd rfl) rfl rfl ?_
  refine g_getA (q2 := 90) 24 (gd rfl) rfl rfl rfl rfl ?_
  refine g_iconst 0 25 (gd rfl) rfl rfl ?_
  refine g_calls (As := [.ref (A 90), .int (Int32.ofInt 0)]) (r := []) 28 (gd rfl) rfl rfl rfl rfl rfl (Nat.le_of_ble_eq_true rfl) (Nat.zero_le _) (Nat.zero_le _) (k_fillI 90 (by first | exact dq1 hd rfl | exact dq0 hd rfl | exact dq2 hd rfl | exact dq3 hd rfl | omega) hI17 (in_c 0 rfl) (n := 32) rfl rfl rfl rfl) (fun v u h => ?_)
  obtain ⟨s25, hI25, hF25, rfl, rfl, fl25⟩ := h
  show GG _ _ _ _ _ _ _ _ [] _ _ _
  refine g_iconst 0 29 (gd rfl) rfl rfl ?_
  refine g_istore_n 30 (gd rfl) rfl (Nat.le_of_ble_eq_true rfl) ?_
  have v30 : z1a = s25.2.2.1 2 4 := fr_F (fr_F (s := (sF s1 86 5 z6)) (sF_ne rfl (e1)) hF17 rfl) hF25 rfl
  have v30a : z1b = s25.2.2.1 2 0 := fr_F (fr_F (s := (sF s1 86 5 z6)) (sF_ne rfl (e1a)) hF17 rfl) hF25 rfl
  have n30 : (z1a).toInt = (z1b).toInt := by (first | have a0 := in_u ro_2_1 | (have a0 := ro_2_1; unfold In at a0)); (first | have a1 := in_u ((in_c 0 rfl)) | (have a1 := (in_c 0 rfl); unfold In at a1)); (first | have a2 := in_u i6 | (have a2 := i6; unfold In at a2)); (first | have a3 := in_u i1b | (have a3 := i1b; unfold In at a3)); (first | have a4 := in_u i1a | (have a4 := i1a; unfold In at a4)); omega
  exact gg_w (by first | exact Nat.le_of_ble_eq_true rfl | omega) (gg_f (gf_cons rfl (gf_cons rfl (gf_cons rfl gf_nil))) (ct30 33 s25 (Int32.ofInt 0) z1a z1b hI25 (fr_tr rfl (fr_tr rfl (fr_sF rfl (fr_tr rfl fr_rf hF1)) hF17) hF25) (in_w 0 32 (in_c 0 rfl) rfl) v30 v30a n30 (m_in 33 (in_w 0 32 (in_c 0 rfl) rfl) rfl)))

def fm_114_86_32 : FM := ([39, 40, 41, 42, 43, 44, 45, 89, 90, 91, 92], [], [(32, 4), (86, 5)], [])
/-- GraphHouse$Groups.begin -/
theorem k_114_86_32 {Z : AmZ} {A : Nat → Nat} {s : GS} {ex : va_W} {d : Nat} {X : AmX}  (hd : 4 ≤ d) (hI : Inv s)  : GC Z d 114 [.ref (A 86), .ref (A 32)] (WW Z A s ++ ex) 0 0 (fun v u => ∃ t : GS, Inv t ∧ Fr fm_114_86_32 s t ∧ ((t.2.2.1 32 4).toInt = (t.2.2.1 32 0).toInt) ∧ v = none ∧ u = WW Z A t ++ ex) X := by
  intro post xp hP hX
  obtain ⟨u_32_1, e_32_1⟩ : ∃ w, w = s.2.2.1 32 1 := ⟨_, rfl⟩
  have ro_32_1 := inv_F hI 0 32 rfl e_32_1
  have ct30 : ∀ (k30 : Nat) (sc30 : GS) (y30_2 : Int32) (w30_32_4 : Int32) (w30_32_0 : Int32), Inv sc30 → Fr fm_114_86_32 s sc30 → (In y30_2 0 32) → (w30_32_4 = sc30.2.2.1 32 4) → (w30_32_0 = sc30.2.2.1 32 0) → ((w30_32_4).toInt = (w30_32_0).toInt) → 32 - (y30_2).toInt < (k30 : Int) → GG Z (d - 1) 114 post (gx xp) (1 + k30 * 900) 30 (fun j => xlook j [(0, .ref (A 86)), (1, .ref (A 32)), (2, .int y30_2)]) [] (WW Z A sc30 ++ ex) 0 0 := by
    intro k30
    induction k30 with
    | zero => intro sc30 y30_2 w30_32_4 w30_32_0 hIc30 hFc30 j30_2 v30_32_4 v30_32_0 n30_0 mm30; exact m_no mm30 j30_2 rfl
    | succ k30 ih30 =>
      intro sc30 y30_2 w30_32_4 w30_32_0 hIc30 hFc30 j30_2 v30_32_4 v30_32_0 n30_0 mm30
      refine gg_w (M := 1 + k30 * 900 + 900) gws ?_
      refine g_iload_n 31 (gd rfl) rfl rfl ?_
      refine g_aload_n 32 (gd rfl) rfl rfl ?_
      refine g_getI 35 (gd rfl) rfl rfl rfl (fun z32 e32 => ?_)
      have q32 : u_32_1 = z32 := (fr_F e_32_1 hFc30 rfl).trans e32.symm
      subst q32
      refine g_cmp_ge 38 72 (gd rfl) rfl rfl (fun c35 => ?_) (fun c35 => ?_)
      · skip
        have n72 : (w30_32_4).toInt = (w30_32_0).toInt := by first | exact n30_0 | ((first | have a0 := in_u ro_32_1 | (have a0 := ro_32_1; unfold In at a0)); (first | have a1 := in_u ((inv_F hIc30 0 4000 rfl v30_32_0)) | (have a1 := (inv_F hIc30 0 4000 rfl v30_32_0); unfold In at a1)); (first | have a2 := in_u ((inv_F hIc30 (-1) 4000 rfl v30_32_4)) | (have a2 := (inv_F hIc30 (-1) 4000 rfl v30_32_4); unfold In at a2)); (first | have a3 := in_u j30_2 | (have a3 := j30_2; unfold In at a3)); omega)
        have n72a : (sc30.2.2.1 32 4).toInt = (sc30.2.2.1 32 0).toInt := by have b0 : w30_32_4 = sc30.2.2.1 32 4 := v30_32_4; have b1 : w30_32_0 = sc30.2.2.1 32 0 := v30_32_0; rw [← b0, ← b1]; exact n72
        exact g_return (gd rfl) rfl (hP _ _ ⟨sc30, hIc30, hFc30, n72a, rfl, rfl⟩)
      · skip
        have i35 := r_lt1 0 31 c35 j30_2 ro_32_1 rfl
        have i35a := r_lt2 1 32 c35 j30_2 ro_32_1 rfl
        refine g_aload_n 39 (gd rfl) rfl rfl ?_
        refine g_getA (q2 := 89) 42 (gd rfl) rfl rfl rfl rfl ?_
        refine g_iload_n 43 (gd rfl) rfl rfl ?_
        refine g_iload_n 44 (gd rfl) rfl rfl ?_
        refine g_iastore 45 (gd rfl) rfl (n := 32) rfl (in_ix i35 rfl) ?_
        have hI44 := inv_sI (q := 89) (j := y30_2.toNatClampNeg) hIc30 rfl (in_w 0 31 i35 rfl)
        refine g_aload_n 46 (gd rfl) rfl rfl ?_
        refine g_getA (q2 := 90) 49 (gd rfl) rfl rfl rfl rfl ?_
        refine g_iload_n 50 (gd rfl) rfl rfl ?_
        refine g_iconst 1 51 (gd rfl) rfl rfl ?_
        refine g_iload_n 52 (gd rfl) rfl rfl ?_
        refine g_ishl 53 (gd rfl) rfl (fun z52 e52 => ?_)
        refine g_iastore 54 (gd rfl) rfl (n := 32) rfl (in_ix i35 rfl) ?_
        have hI53 := inv_sI (q := 90) (j := y30_2.toNatClampNeg) hI44 rfl (in_w (-2147483648) 2147483647 (i_rng z52) rfl)
        refine g_aload_n 55 (gd rfl) rfl rfl ?_
        refine g_getA (q2 := 92) 58 (gd rfl) rfl rfl rfl rfl ?_
        refine g_iload_n 59 (gd rfl) rfl rfl ?_
        refine g_aload_n 60 (gd rfl) rfl rfl ?_
        refine g_getA (q2 := 91) 63 (gd rfl) rfl rfl rfl rfl ?_
        refine g_iload_n 64 (gd rfl) rfl rfl ?_
        refine g_iaload 65 (gd rfl) rfl (n := 32) rfl (in_ix i35 rfl) (fun z64 e64 => ?_)
        refine g_iastore 66 (gd rfl) rfl (n := 32) rfl (in_ix i35 rfl) ?_
        have hI65 := inv_sI (q := 92) (j := y30_2.toNatClampNeg) hI53 rfl (in_w (-2147483648) 2147483647 (i_rng z64) rfl)
        refine g_iinc 69 (gd rfl) rfl rfl (Nat.le_of_ble_eq_true rfl) (fun z66 e66 => ?_)
        have i66 := in_add 1 32 e66 i35 (in_c 1 rfl) rfl rfl
        refine g_goto 30 (gd rfl) rfl ?_
        have v30 : w30_32_4 = (sI (sI (sI sc30 89 y30_2.toNatClampNeg y30_2) 90 y30_2.toNatClampNeg z52) 92 y30_2.toNatClampNeg z64).2.2.1 32 4 := sI_F (sI_F (sI_F (v30_32_4)))
        have v30a : w30_32_0 = (sI (sI (sI sc30 89 y30_2.toNatClampNeg y30_2) 90 y30_2.toNatClampNeg z52) 92 y30_2.toNatClampNeg z64).2.2.1 32 0 := sI_F (sI_F (sI_F (v30_32_0)))
        have n30 : (w30_32_4).toInt = (w30_32_0).toInt := by first | exact n30_0 | ((first | have a0 := in_u i35a | (have a0 := i35a; unfold In at a0)); (first | have a1 := in_u ((inv_F hIc30 0 4000 rfl v30_32_0)) | (have a1 := (inv_F hIc30 0 4000 rfl v30_32_0); unfold In at a1)); (first | have a2 := in_u ((inv_F hIc30 (-1) 4000 rfl v30_32_4)) | (have a2 := (inv_F hIc30 (-1) 4000 rfl v30_32_4); unfold In at a2)); (first | have a3 := in_u i35 | (have a3 := i35; unfold In at a3)); (first | have a4 := in_u i66 | (have a4 := i66; unfold In at a4)); have a5 := t_add e66 i35 (in_c 1 rfl) rfl; (first | have a6 := in_u ((in_c 1 rfl)) | (have a6 := (in_c 1 rfl); unfold In at a6)); omega)
        exact gg_w (by first | exact Nat.le_add_right _ _ | exact gw2 | exact gw3 | exact gwe rfl | exact gwf rfl | exact gwg rfl | exact gwh rfl | omega) (gg_f (gf_cons rfl (gf_cons rfl (gf_cons rfl gf_nil))) (ih30 (sI (sI (sI sc30 89 y30_2.toNatClampNeg y30_2) 90 y30_2.toNatClampNeg z52) 92 y30_2.toNatClampNeg z64) z66 w30_32_4 w30_32_0 hI65 (fr_sI rfl (fr_sI rfl (fr_sI rfl hFc30))) (in_w 0 32 i66 rfl) v30 v30a n30 (m_up mm30 (t_add e66 i35 (in_c 1 rfl) rfl) (in_w 1 1 (in_c 1 rfl) rfl))))
  refine g_enter2 (k := 114) (N := 30601) (by first | exact dq1 hd rfl | exact dq0 hd rfl | exact dq2 hd rfl | exact dq3 hd rfl | omega) rfl (Nat.le_of_ble_eq_true rfl) ?_
  refine g_aload_n 1 (gd rfl) rfl rfl ?_
  refine g_callv (X := _) (As := []) (r := []) (b := A 32) (q := 32) 4 (gd rfl) rfl rfl rfl rfl rfl (ww_o rfl) (Nat.le_of_ble_eq_true rfl) (Nat.zero_le _) (Nat.zero_le _) (k_106_32 (by first | exact dq1 hd rfl | exact dq0 hd rfl | exact dq2 hd rfl | exact dq3 hd rfl | omega) hI ) (fun e u h => h) (fun v u h => ?_)
  obtain ⟨s1, hI1, hF1, n1, rfl, rfl⟩ := h
  obtain ⟨z1a, e1⟩ : ∃ w, w = s1.2.2.1 32 4 := ⟨_, rfl⟩
  have i1a := inv_F hI1 (-1) 4000 rfl e1
  obtain ⟨z1b, e1a⟩ : ∃ w, w = s1.2.2.1 32 0 := ⟨_, rfl⟩
  have i1b := inv_F hI1 0 4000 rfl e1a
  rw [← (show z1a = s1.2.2.1 32 4 from e1)] at n1
  rw [← (show z1b = s1.2.2.1 32 0 from e1a)] at n1
  show GG _ _ _ _ _ _ _ _ [] _ _ _
  refine g_aload_n 5 (gd rfl) rfl rfl ?_
  refine g_aload_n 6 (gd rfl) rfl rfl ?_
  refine g_callv (X := _) (As := []) (r := [.ref (A 86)]) (b := A 32) (q := 32) 9 (gd rfl) rfl rfl rfl rfl rfl (ww_o rfl) (Nat.le_of_ble_eq_true rfl) (Nat.zero_le _) (Nat.zero_le _) (k_98_32 (by first | exact dq1 hd rfl | exact dq0 hd rfl | exact dq2 hd rfl | exact dq3 hd rfl | omega) hI1 ) (fun e u h => h) (fun v u h => ?_)
  obtain ⟨z6, rfl, rfl, i6⟩ := h
  show GG _ _ _ _ _ _ _ _ [.int z6, .ref (A 86)] _ _ _
  refine g_putI 12 (gd rfl) rfl rfl rfl rfl ?_
  have hI9 := inv_sF (q := 86) (j := 5) hI1 rfl (in_w 0 160 i6 rfl)
  refine g_aload_n 13 (gd rfl) rfl rfl ?_
  refine g_aload_n 14 (gd rfl) rfl rfl ?_
  refine g_getA (q2 := 91) 17 (gd rfl) rfl rfl rfl rfl ?_
  refine g_callv (X := _) (As := [.ref (A 91)]) (r := []) (b := A 32) (q := 32) 20 (gd rfl) rfl rfl rfl rfl rfl (ww_o rfl) (Nat.le_of_ble_eq_true rfl) (Nat.zero_le _) (Nat.zero_le _) (k_99_32_91 (by first | exact dq1 hd rfl | exact dq0 hd rfl | exact dq2 hd rfl | exact dq3 hd rfl | omega) hI9 ) (fun e u h => h) (fun v u h => ?_)
  obtain ⟨s17, hI17, hF17, rfl, rfl⟩ := h
  show GG _ _ _ _ _ _ _ _ [] _ _ _
  refine g_aload_n 21 (gd rfl) rfl rfl ?_
  refine g_getA (q2 := 90) 24 (gd rfl) rfl rfl rfl rfl ?_
  refine g_iconst 0 25 (gd rfl) rfl rfl ?_
  refine g_calls (As := [.ref (A 90), .int (Int32.ofInt 0)]) (r := []) 28 (gd rfl) rfl rfl rfl rfl rfl (Nat.le_of_ble_eq_true rfl) (Nat.zero_le _) (Nat.zero_le _) (k_fillI 90 (by first | exact dq1 hd rfl | exact dq0 hd rfl | exact dq2 hd rfl | exact dq3 hd rfl | omega) hI17 (in_c 0 rfl) (n := 32) rfl rfl rfl rfl) (fun v u h => ?_)
  obtain ⟨s25, hI25, hF25, rfl, rfl, fl25⟩ := h
  show GG _ _ _ _ _ _ _ _ [] _ _ _
  refine g_iconst 0 29 (gd rfl) rfl rfl ?_
  refine g_istore_n 30 (gd rfl) rfl (Nat.le_of_ble_eq_true rfl) ?_
  have v30 : z1a = s25.2.2.1 32 4 := fr_F (fr_F (s := (sF s1 86 5 z6)) (sF_ne rfl (e1)) hF17 rfl) hF25 rfl
  have v30a : z1b = s25.2.2.1 32 0 := fr_F (fr_F (s := (sF s1 86 5 z6)) (sF_ne rfl (e1a)) hF17 rfl) hF25 rfl
  have n30 : (z1a).toInt = (z1b).toInt := by (first | have a0 := in_u ro_32_1 | (have a0 := ro_32_1; unfold In at a0)); (first | have a1 := in_u ((in_c 0 rfl)) | (have a1 := (in_c 0 rfl); unfold In at a1)); (first | have a2 := in_u i6 | (have a2 := i6; unfold In at a2)); (first | have a3 := in_u i1b | (have a3 := i1b; unfold In at a3)); (first | have a4 := in_u i1a | (have a4 := i1a; unfold In at a4)); omega
  exact gg_w (by first | exact Nat.le_of_ble_eq_true rfl | omega) (gg_f (gf_cons rfl (gf_cons rfl (gf_cons rfl gf_nil))) (ct30 33 s25 (Int32.ofInt 0) z1a z1b hI25 (fr_tr rfl (fr_tr rfl (fr_sF rfl (fr_tr rfl fr_rf hF1)) hF17) hF25) (in_w 0 32 (in_c 0 rfl) rfl) v30 v30a n30 (m_in 33 (in_w 0 32 (in_c 0 rfl) rfl) rfl)))

def fm_117_86_2 : FM := ([93], [], [], [])
/-- GraphHouse$Groups.countLinks -/
theorem k_117_86_2 {Z : AmZ} {A : Nat → Nat} {s : GS} {ex : va_W} {d : Nat} {X : AmX} {x2 : Int32} {u_2_4 : Int32} {u_2_0 : Int32} (hd : 2 ≤ d) (hI : Inv s) (h2 : In x2 0 31) (e_2_4 : u_2_4 = s.2.2.1 2 4) (e_2_0 : u_2_0 = s.2.2.1 2 0) (p_0 : (u_2_4).toInt = (u_2_0).toInt) : GC Z d 117 [.ref (A 86), .ref (A 2), .int x2] (WW Z A s ++ ex) 0 0 (fun v u => ∃ t : GS, Inv t ∧ Fr fm_117_86_2 s t ∧ v = none ∧ u = WW Z A t ++ ex) X := by
  intro post xp hP hX
  have ro_2_4 := inv_F hI (-1) 4000 rfl e_2_4
  have ro_2_0 := inv_F hI 0 4000 rfl e_2_0
  have ct115 : ∀ (k115 : Nat) (sc115 : GS) (y115_3 : Int32), Inv sc115 → Fr fm_117_86_2 s sc115 → (In y115_3 0 160) → 160 - (y115_3).toInt < (k115 : Int) → GG Z (d - 1) 117 post (gx xp) (1 + k115 * 900) 115 (fun j => xlook j [(0, .ref (A 86)), (1, .ref (A 2)), (2, .int x2), (3, .int y115_3)]) [] (WW Z A sc115 ++ ex) 0 0 := by
    intro k115
    induction k115 with
    | zero => intro sc115 y115_3 hIc115 hFc115 j115_3 mm115; exact m_no mm115 j115_3 rfl
    | succ k115 ih115 =>
      intro sc115 y115_3 hIc115 hFc115 j115_3 mm115
      refine gg_w (M := 1 + k115 * 900 + 900) gws ?_
      refine g_iload_n 116 (gd rfl) rfl rfl ?_
      refine g_aload_n 117 (gd rfl) rfl rfl ?_
      refine g_getA (q2 := 12) 120 (gd rfl) rfl rfl rfl rfl ?_
      refine g_iload_n 121 (gd rfl) rfl rfl ?_
      refine g_iconst 1 122 (gd rfl) rfl rfl ?_
      refine g_iadd 123 (gd rfl) rfl (fun z122 e122 => ?_)
      have i122 := in_add 1 32 e122 h2 (in_c 1 rfl) rfl rfl
      refine g_iaload 124 (gd rfl) rfl (n := 33) rfl (in_ix i122 rfl) (fun z123 e123 => ?_)
      have i123 := inv_I hIc115 (n := 33) (t := 0) 0 160 rfl (in_ix i122 rfl) rfl e123
      refine g_cmp_ge 127 163 (gd rfl) rfl rfl (fun c124 => ?_) (fun c124 => ?_)
      · skip
        exact g_return (gd rfl) rfl (hP _ _ ⟨sc115, hIc115, hFc115, rfl, rfl⟩)
      · skip
        have i124 := r_lt1 0 159 c124 j115_3 i123 rfl
        have i124a := r_lt2 1 160 c124 j115_3 i123 rfl
        refine g_aload_n 128 (gd rfl) rfl rfl ?_
        refine g_getA (q2 := 5) 131 (gd rfl) rfl rfl rfl rfl ?_
        refine g_aload_n 132 (gd rfl) rfl rfl ?_
        refine g_getA (q2 := 13) 135 (gd rfl) rfl rfl rfl rfl ?_
        refine g_iload_n 136 (gd rfl) rfl rfl ?_
        refine g_iaload 137 (gd rfl) rfl (n := 160) rfl (in_ix i124 rfl) (fun z136 e136 => ?_)
        have i136 := inv_I hIc115 (n := 160) (t := 0) 0 159 rfl (in_ix i124 rfl) rfl e136
        refine g_iaload 138 (gd rfl) rfl (n := 160) rfl (in_ix i136 rfl) (fun z137 e137 => ?_)
        have i137 := inv_I hIc115 (n := 160) (t := 0) 0 31 rfl (in_ix i136 rfl) rfl e137
        refine g_iload_n 139 (gd rfl) rfl rfl ?_
        refine g_cmp_ne 142 157 (gd rfl) rfl rfl (fun c139 => ?_) (fun c139 => ?_)
        · skip
          refine g_iinc 160 (gd rfl) rfl rfl (Nat.le_of_ble_eq_true rfl) (fun z157 e157 => ?_)
          have i157 := in_add 1 160 e157 i124 (in_c 1 rfl) rfl rfl
          refine g_goto 115 (gd rfl) rfl ?_
          exact gg_w (by first | exact Nat.le_add_right _ _ | exact gw2 | exact gw3 | exact gwe rfl | exact gwf rfl | exact gwg rfl | exact gwh rfl | omega) (gg_f (gf_cons rfl (gf_cons rfl (gf_cons rfl (gf_cons rfl gf_nil)))) (ih115 sc115 z157 hIc115 hFc115 (in_w 0 160 i157 rfl) (m_up mm115 (t_add e157 i124 (in_c 1 rfl) rfl) (in_w 1 1 (in_c 1 rfl) rfl))))
        · skip
          refine g_aload_n 143 (gd rfl) rfl rfl ?_
          refine g_getA (q2 := 93) 146 (gd rfl) rfl rfl rfl rfl ?_
          refine g_aload_n 147 (gd rfl) rfl rfl ?_
          refine g_getA (q2 := 89) 150 (gd rfl) rfl rfl rfl rfl ?_
          refine g_iload_n 151 (gd rfl) rfl rfl ?_
          refine g_iaload 152 (gd rfl) rfl (n := 32) rfl (in_ix h2 rfl) (fun z151 e151 => ?_)
          have i151 := inv_I hIc115 (n := 32) (t := 0) 0 31 rfl (in_ix h2 rfl) rfl e151
          refine g_dup2 153 (gd rfl) rfl rfl rfl ?_
          refine g_iaload 154 (gd rfl) rfl (n := 32) rfl (in_ix i151 rfl) (fun z153 e153 => ?_)
          refine g_iconst 2 155 (gd rfl) rfl rfl ?_
          refine g_isub 156 (gd rfl) rfl (fun z155 e155 => ?_)
          refine g_iastore 157 (gd rfl) rfl (n := 32) rfl (in_ix i151 rfl) ?_
          have hI156 := inv_sI (q := 93) (j := z151.toNatClampNeg) hIc115 rfl (in_w (-2147483648) 2147483647 (i_rng z155) rfl)
          refine g_iinc 160 (gd rfl) rfl rfl (Nat.le_of_ble_eq_true rfl) (fun z157 e157 => ?_)
          have i157 := in_add 1 160 e157 i124 (in_c 1 rfl) rfl rfl
          refine g_goto 115 (gd rfl) rfl ?_
          exact gg_w (by first | exact Nat.le_add_right _ _ | exact gw2 | exact gw3 | exact gwe rfl | exact gwf rfl | exact gwg rfl | exact gwh rfl | omega) (gg_f (gf_cons rfl (gf_cons rfl (gf_cons rfl (gf_cons rfl gf_nil)))) (ih115 (sI sc115 93 z151.toNatClampNeg z155) z157 hI156 (fr_sI rfl hFc115) (in_w 0 160 i157 rfl) (m_up mm115 (t_add e157 i124 (in_c 1 rfl) rfl) (in_w 1 1 (in_c 1 rfl) rfl))))
  have ct65 : ∀ (k65 : Nat) (sc65 : GS) (y65_3 : Int32), Inv sc65 → Fr fm_117_86_2 s sc65 → (In y65_3 0 160) → 160 - (y65_3).toInt < (k65 : Int) → GG Z (d - 1) 117 post (gx xp) (144902 + k65 * 900) 65 (fun j => xlook j [(0, .ref (A 86)), (1, .ref (A 2)), (2, .int x2), (3, .int y65_3)]) [] (WW Z A sc65 ++ ex) 0 0 := by
    intro k65
    induction k65 with
    | zero => intro sc65 y65_3 hIc65 hFc65 j65_3 mm65; exact m_no mm65 j65_3 rfl
    | succ k65 ih65 =>
      intro sc65 y65_3 hIc65 hFc65 j65_3 mm65
      refine gg_w (M := 144902 + k65 * 900 + 900) gws ?_
      refine g_iload_n 66 (gd rfl) rfl rfl ?_
      refine g_aload_n 67 (gd rfl) rfl rfl ?_
      refine g_getA (q2 := 14) 70 (gd rfl) rfl rfl rfl rfl ?_
      refine g_iload_n 71 (gd rfl) rfl rfl ?_
      refine g_iconst 1 72 (gd rfl) rfl rfl ?_
      refine g_iadd 73 (gd rfl) rfl (fun z72 e72 => ?_)
      have i72 := in_add 1 32 e72 h2 (in_c 1 rfl) rfl rfl
      refine g_iaload 74 (gd rfl) rfl (n := 33) rfl (in_ix i72 rfl) (fun z73 e73 => ?_)
      have i73 := inv_I hIc65 (n := 33) (t := 0) 0 160 rfl (in_ix i72 rfl) rfl e73
      refine g_cmp_ge 77 108 (gd rfl) rfl rfl (fun c74 => ?_) (fun c74 => ?_)
      · skip
        refine g_aload_n 109 (gd rfl) rfl rfl ?_
        refine g_getA (q2 := 12) 112 (gd rfl) rfl rfl rfl rfl ?_
        refine g_iload_n 113 (gd rfl) rfl rfl ?_
        refine g_iaload 114 (gd rfl) rfl (n := 33) rfl (in_ix h2 rfl) (fun z113 e113 => ?_)
        have i113 := inv_I hIc65 (n := 33) (t := 0) 0 160 rfl (in_ix h2 rfl) rfl e113
        refine g_istore_n 115 (gd rfl) rfl (Nat.le_of_ble_eq_true rfl) ?_
        exact gg_w (by first | exact Nat.le_add_right _ _ | exact gw2 | exact gw3 | exact gwe rfl | exact gwf rfl | exact gwg rfl | exact gwh rfl | omega) (gg_f (gf_cons rfl (gf_cons rfl (gf_cons rfl (gf_cons rfl gf_nil)))) (ct115 161 sc65 z113 hIc65 hFc65 (in_w 0 160 i113 rfl) (m_in 161 (in_w 0 160 i113 rfl) rfl)))
      · skip
        have i74 := r_lt1 0 159 c74 j65_3 i73 rfl
        have i74a := r_lt2 1 160 c74 j65_3 i73 rfl
        refine g_aload_n 78 (gd rfl) rfl rfl ?_
        refine g_getA (q2 := 93) 81 (gd rfl) rfl rfl rfl rfl ?_
        refine g_aload_n 82 (gd rfl) rfl rfl ?_
        refine g_getA (q2 := 89) 85 (gd rfl) rfl rfl rfl rfl ?_
        refine g_aload_n 86 (gd rfl) rfl rfl ?_
        refine g_getA (q2 := 4) 89 (gd rfl) rfl rfl rfl rfl ?_
        refine g_aload_n 90 (gd rfl) rfl rfl ?_
        refine g_getA (q2 := 15) 93 (gd rfl) rfl rfl rfl rfl ?_
        refine g_iload_n 94 (gd rfl) rfl rfl ?_
        refine g_iaload 95 (gd rfl) rfl (n := 160) rfl (in_ix i74 rfl) (fun z94 e94 => ?_)
        have i94 := inv_I hIc65 (n := 160) (t := 0) 0 159 rfl (in_ix i74 rfl) rfl e94
        refine g_iaload 96 (gd rfl) rfl (n := 160) rfl (in_ix i94 rfl) (fun z95 e95 => ?_)
        have i95 := inv_I hIc65 (n := 160) (t := 0) (-1) 31 rfl (in_ix i94 rfl) rfl e95
        have i96 : In z95 0 31 := by exact tg_b (b := 2) hIc65.2.1 rfl rfl rfl rfl rfl (by rw [← (show u_2_4 = sc65.2.2.1 2 4 from fr_F e_2_4 hFc65 rfl), ← (show u_2_0 = sc65.2.2.1 2 0 from fr_F e_2_0 hFc65 rfl)]; exact p_0) e73 i72 i74 c74 e94 e95 i95
        refine g_iaload 97 (gd rfl) rfl (n := 32) rfl (in_ix i96 rfl) (fun z96 e96 => ?_)
        have i96a := inv_I hIc65 (n := 32) (t := 0) 0 31 rfl (in_ix i96 rfl) rfl e96
        refine g_dup2 98 (gd rfl) rfl rfl rfl ?_
        refine g_iaload 99 (gd rfl) rfl (n := 32) rfl (in_ix i96a rfl) (fun z98 e98 => ?_)
        refine g_iconst 1 100 (gd rfl) rfl rfl ?_
        refine g_iadd 101 (gd rfl) rfl (fun z100 e100 => ?_)
        refine g_iastore 102 (gd rfl) rfl (n := 32) rfl (in_ix i96a rfl) ?_
        have hI101 := inv_sI (q := 93) (j := z96.toNatClampNeg) hIc65 rfl (in_w (-2147483648) 2147483647 (i_rng z100) rfl)
        refine g_iinc 105 (gd rfl) rfl rfl (Nat.le_of_ble_eq_true rfl) (fun z102 e102 => ?_)
        have i102 := in_add 1 160 e102 i74 (in_c 1 rfl) rfl rfl
        refine g_goto 65 (gd rfl) rfl ?_
        exact gg_w (by first | exact Nat.le_add_right _ _ | exact gw2 | exact gw3 | exact gwe rfl | exact gwf rfl | exact gwg rfl | exact gwh rfl | omega) (gg_f (gf_cons rfl (gf_cons rfl (gf_cons rfl (gf_cons rfl gf_nil)))) (ih65 (sI sc65 93 z96.toNatClampNeg z100) z102 hI101 (fr_sI rfl hFc65) (in_w 0 160 i102 rfl) (m_up mm65 (t_add e102 i74 (in_c 1 rfl) rfl) (in_w 1 1 (in_c 1 rfl) rfl))))
  have ct15 : ∀ (k15 : Nat) (sc15 : GS) (y15_3 : Int32), Inv sc15 → Fr fm_117_86_2 s sc15 → (In y15_3 0 160) → 160 - (y15_3).toInt < (k15 : Int) → GG Z (d - 1) 117 post (gx xp) (289803 + k15 * 900) 15 (fun j => xlook j [(0, .ref (A 86)), (1, .ref (A 2)), (2, .int x2), (3, .int y15_3)]) [] (WW Z A sc15 ++ ex) 0 0 := by
    intro k15
    induction k15 with
    | zero => intro sc15 y15_3 hIc15 hFc15 j15_3 mm15; exact m_no mm15 j15_3 rfl
    | succ k15 ih15 =>
      intro sc15 y15_3 hIc15 hFc15 j15_3 mm15
      refine gg_w (M := 289803 + k15 * 900 + 900) gws ?_
      refine g_iload_n 16 (gd rfl) rfl rfl ?_
      refine g_aload_n 17 (gd rfl) rfl rfl ?_
      refine g_getA (q2 := 12) 20 (gd rfl) rfl rfl rfl rfl ?_
      refine g_iload_n 21 (gd rfl) rfl rfl ?_
      refine g_iconst 1 22 (gd rfl) rfl rfl ?_
      refine g_iadd 23 (gd rfl) rfl (fun z22 e22 => ?_)
      have i22 := in_add 1 32 e22 h2 (in_c 1 rfl) rfl rfl
      refine g_iaload 24 (gd rfl) rfl (n := 33) rfl (in_ix i22 rfl) (fun z23 e23 => ?_)
      have i23 := inv_I hIc15 (n := 33) (t := 0) 0 160 rfl (in_ix i22 rfl) rfl e23
      refine g_cmp_ge 27 58 (gd rfl) rfl rfl (fun c24 => ?_) (fun c24 => ?_)
      · skip
        refine g_aload_n 59 (gd rfl) rfl rfl ?_
        refine g_getA (q2 := 14) 62 (gd rfl) rfl rfl rfl rfl ?_
        refine g_iload_n 63 (gd rfl) rfl rfl ?_
        refine g_iaload 64 (gd rfl) rfl (n := 33) rfl (in_ix h2 rfl) (fun z63 e63 => ?_)
        have i63 := inv_I hIc15 (n := 33) (t := 0) 0 160 rfl (in_ix h2 rfl) rfl e63
        refine g_istore_n 65 (gd rfl) rfl (Nat.le_of_ble_eq_true rfl) ?_
        exact gg_w (by first | exact Nat.le_add_right _ _ | exact gw2 | exact gw3 | exact gwe rfl | exact gwf rfl | exact gwg rfl | exact gwh rfl | omega) (gg_f (gf_cons rfl (gf_cons rfl (gf_cons rfl (gf_cons rfl gf_nil)))) (ct65 161 sc15 z63 hIc15 hFc15 (in_w 0 160 i63 rfl) (m_in 161 (in_w 0 160 i63 rfl) rfl)))
      · skip
        have i24 := r_lt1 0 159 c24 j15_3 i23 rfl
        have i24a := r_lt2 1 160 c24 j15_3 i23 rfl
        refine g_aload_n 28 (gd rfl) rfl rfl ?_
        refine g_getA (q2 := 93) 31 (gd rfl) rfl rfl rfl rfl ?_
        refine g_aload_n 32 (gd rfl) rfl rfl ?_
        refine g_getA (q2 := 89) 35 (gd rfl) rfl rfl rfl rfl ?_
        refine g_aload_n 36 (gd rfl) rfl rfl ?_
        refine g_getA (q2 := 5) 39 (gd rfl) rfl rfl rfl rfl ?_
        refine g_aload_n 40 (gd rfl) rfl rfl ?_
        refine g_getA (q2 := 13) 43 (gd rfl) rfl rfl rfl rfl ?_
        refine g_iload_n 44 (gd rfl) rfl rfl ?_
        refine g_iaload 45 (gd rfl) rfl (n := 160) rfl (in_ix i24 rfl) (fun z44 e44 => ?_)
        have i44 := inv_I hIc15 (n := 160) (t := 0) 0 159 rfl (in_ix i24 rfl) rfl e44
        refine g_iaload 46 (gd rfl) rfl (n := 160) rfl (in_ix i44 rfl) (fun z45 e45 => ?_)
        have i45 := inv_I hIc15 (n := 160) (t := 0) 0 31 rfl (in_ix i44 rfl) rfl e45
        refine g_iaload 47 (gd rfl) rfl (n := 32) rfl (in_ix i45 rfl) (fun z46 e46 => ?_)
        have i46 := inv_I hIc15 (n := 32) (t := 0) 0 31 rfl (in_ix i45 rfl) rfl e46
        refine g_dup2 48 (gd rfl) rfl rfl rfl ?_
        refine g_iaload 49 (gd rfl) rfl (n := 32) rfl (in_ix i46 rfl) (fun z48 e48 => ?_)
        refine g_iconst 1 50 (gd rfl) rfl rfl ?_
        refine g_iadd 51 (gd rfl) rfl (fun z50 e50 => ?_)
        refine g_iastore 52 (gd rfl) rfl (n := 32) rfl (in_ix i46 rfl) ?_
        have hI51 := inv_sI (q := 93) (j := z46.toNatClampNeg) hIc15 rfl (in_w (-2147483648) 2147483647 (i_rng z50) rfl)
        refine g_iinc 55 (gd rfl) rfl rfl (Nat.le_of_ble_eq_true rfl) (fun z52 e52 => ?_)
        have i52 := in_add 1 160 e52 i24 (in_c 1 rfl) rfl rfl
        refine g_goto 15 (gd rfl) rfl ?_
        exact gg_w (by first | exact Nat.le_add_right _ _ | exact gw2 | exact gw3 | exact gwe rfl | exact gwf rfl | exact gwg rfl | exact gwh rfl | omega) (gg_f (gf_cons rfl (gf_cons rfl (gf_cons rfl (gf_cons rfl gf_nil)))) (ih15 (sI sc15 93 z46.toNatClampNeg z50) z52 hI51 (fr_sI rfl hFc15) (in_w 0 160 i52 rfl) (m_up mm15 (t_add e52 i24 (in_c 1 rfl) rfl) (in_w 1 1 (in_c 1 rfl) rfl))))
  refine g_enter2 (k := 117) (N := 435603) (by first | exact dq1 hd rfl | exact dq0 hd rfl | exact dq2 hd rfl | exact dq3 hd rfl | omega) rfl (Nat.le_of_ble_eq_true rfl) ?_
  refine g_aload_n 1 (gd rfl) rfl rfl ?_
  refine g_getA (q2 := 93) 4 (gd rfl) rfl rfl rfl rfl ?_
  refine g_iconst 0 5 (gd rfl) rfl rfl ?_
  refine g_calls (As := [.ref (A 93), .int (Int32.ofInt 0)]) (r := []) 8 (gd rfl) rfl rfl rfl rfl rfl (Nat.le_of_ble_eq_true rfl) (Nat.zero_le _) (Nat.zero_le _) (k_fillI 93 (by first | exact dq1 hd rfl | exact dq0 hd rfl | exact dq2 hd rfl | exact dq3 hd rfl | omega) hI (in_c 0 rfl) (n := 32) rfl rfl rfl rfl) (fun v u h => ?_)
  obtain ⟨s5, hI5, hF5, rfl, rfl, fl5⟩ := h
  show GG _ _ _ _ _ _ _ _ [] _ _ _
  refine g_aload_n 9 (gd rfl) rfl rfl ?_
  refine g_getA (q2 := 12) 12 (gd rfl) rfl rfl rfl rfl ?_
  refine g_iload_n 13 (gd rfl) rfl rfl ?_
  refine g_iaload 14 (gd rfl) rfl (n := 33) rfl (in_ix h2 rfl) (fun z13 e13 => ?_)
  have i13 := inv_I hI5 (n := 33) (t := 0) 0 160 rfl (in_ix h2 rfl) rfl e13
  refine g_istore_n 15 (gd rfl) rfl (Nat.le_of_ble_eq_true rfl) ?_
  exact gg_w (by first | exact Nat.le_of_ble_eq_true rfl | omega) (gg_f (gf_cons rfl (gf_cons rfl (gf_cons rfl (gf_cons rfl gf_nil)))) (ct15 161 s5 z13 hI5 (fr_tr rfl fr_rf hF5) (in_w 0 160 i13 rfl) (m_in 161 (in_w 0 160 i13 rfl) rfl)))

def fm_117_86_32 : FM := ([93], [], [], [])
/-- GraphHouse$Groups.countLinks -/
theorem k_117_86_32 {Z : AmZ} {A : Nat → Nat} {s : GS} {ex : va_W} {d : Nat} {X : AmX} {x2 : Int32} {u_32_4 : Int32} {u_32_0 : Int32} (hd : 2 ≤ d) (hI : Inv s) (h2 : In x2 0 31) (e_32_4 : u_32_4 = s.2.2.1 32 4) (e_32_0 : u_32_0 = s.2.2.1 32 0) (p_0 : (u_32_4).toInt = (u_32_0).toInt) : GC Z d 117 [.ref (A 86), .ref (A 32), .int x2] (WW Z A s ++ ex) 0 0 (fun v u => ∃ t : GS, Inv t ∧ Fr fm_117_86_32 s t ∧ v = none ∧ u = WW Z A t ++ ex) X := by
  intro post xp hP hX
  have ro_32_4 := inv_F hI (-1) 4000 rfl e_32_4
  have ro_32_0 := inv_F hI 0 4000 rfl e_32_0
  have ct115 : ∀ (k115 : Nat) (sc115 : GS) (y115_3 : Int32), Inv sc115 → Fr fm_117_86_32 s sc115 → (In y115_3 0 160) → 160 - (y115_3).toInt < (k115 : Int) → GG Z (d - 1) 117 post (gx xp) (1 + k115 * 900) 115 (fun j => xlook j [(0, .ref (A 86)), (1, .ref (A 32)), (2, .int x2), (3, .int y115_3)]) [] (WW Z A sc115 ++ ex) 0 0 := by
    intro k115
    induction k115 with
    | zero => intro sc115 y115_3 hIc115 hFc115 j115_3 mm115; exact m_no mm115 j115_3 rfl
    | succ k115 ih115 =>
      intro sc115 y115_3 hIc115 hFc115 j115_3 mm115
      refine gg_w (M := 1 + k115 * 900 + 900) gws ?_
      refine g_iload_n 116 (gd rfl) rfl rfl ?_
      refine g_aload_n 117 (gd rfl) rfl rfl ?_
      refine g_getA (q2 := 42) 120 (gd rfl) rfl rfl rfl rfl ?_
      refine g_iload_n 121 (gd rfl) rfl rfl ?_
      refine g_iconst 1 122 (gd rfl) rfl rfl ?_
      refine g_iadd 123 (gd rfl) rfl (fun z122 e122 => ?_)
      have i122 := in_add 1 32 e122 h2 (in_c 1 rfl) rfl rfl
      refine g_iaload 124 (gd rfl) rfl (n := 33) rfl (in_ix i122 rfl) (fun z123 e123 => ?_)
      have i123 := inv_I hIc115 (n := 33) (t := 0) 0 160 rfl (in_ix i122 rfl) rfl e123
      refine g_cmp_ge 127 163 (gd rfl) rfl rfl (fun c124 => ?_) (fun c124 => ?_)
      · skip
        exact g_return (gd rfl) rfl (hP _ _ ⟨sc115, hIc115, hFc115, rfl, rfl⟩)
      · skip
        have i124 := r_lt1 0 159 c124 j115_3 i123 rfl
        have i124a := r_lt2 1 160 c124 j115_3 i123 rfl
        refine g_aload_n 128 (gd rfl) rfl rfl ?_
        refine g_getA (q2 := 35) 131 (gd rfl) rfl rfl rfl rfl ?_
        refine g_aload_n 132 (gd rfl) rfl rfl ?_
        refine g_getA (q2 := 43) 135 (gd rfl) rfl rfl rfl rfl ?_
        refine g_iload_n 136 (gd rfl) rfl rfl ?_
        refine g_iaload 137 (gd rfl) rfl (n := 160) rfl (in_ix i124 rfl) (fun z136 e136 => ?_)
        have i136 := inv_I hIc115 (n := 160) (t := 0) 0 159 rfl (in_ix i124 rfl) rfl e136
        refine g_iaload 138 (gd rfl) rfl (n := 160) rfl (in_ix i136 rfl) (fun z137 e137 => ?_)
        have i137 := inv_I hIc115 (n := 160) (t := 0) 0 31 rfl (in_ix i136 rfl) rfl e137
        refine g_iload_n 139 (gd rfl) rfl rfl ?_
        refine g_cmp_ne 142 157 (gd rfl) rfl rfl (fun c139 => ?_) (fun c139 => ?_)
        · skip
          refine g_iinc 160 (gd rfl) rfl rfl (Nat.le_of_ble_eq_true rfl) (fun z157 e157 => ?_)
          have i157 := in_add 1 160 e157 i124 (in_c 1 rfl) rfl rfl
          refine g_goto 115 (gd rfl) rfl ?_
          exact gg_w (by first | exact Nat.le_add_right _ _ | exact gw2 | exact gw3 | exact gwe rfl | exact gwf rfl | exact gwg rfl | exact gwh rfl | omega) (gg_f (gf_cons rfl (gf_cons rfl (gf_cons rfl (gf_cons rfl gf_nil)))) (ih115 sc115 z157 hIc115 hFc115 (in_w 0 160 i157 rfl) (m_up mm115 (t_add e157 i124 (in_c 1 rfl) rfl) (in_w 1 1 (in_c 1 rfl) rfl))))
        · skip
          refine g_aload_n 143 (gd rfl) rfl rfl ?_
          refine g_getA (q2 := 93) 146 (gd rfl) rfl rfl rfl rfl ?_
          refine g_aload_n 147 (gd rfl) rfl rfl ?_
          refine g_getA (q2 := 89) 150 (gd rfl) rfl rfl rfl rfl ?_
          refine g_iload_n 151 (gd rfl) rfl rfl ?_
          refine g_iaload 152 (gd rfl) rfl (n := 32) rfl (in_ix h2 rfl) (fun z151 e151 => ?_)
          have i151 := inv_I hIc115 (n := 32) (t := 0) 0 31 rfl (in_ix h2 rfl) rfl e151
          refine g_dup2 153 (gd rfl) rfl rfl rfl ?_
          refine g_iaload 154 (gd rfl) rfl (n := 32) rfl (in_ix i151 rfl) (fun z153 e153 => ?_)
          refine g_iconst 2 155 (gd rfl) rfl rfl ?_
          refine g_isub 156 (gd rfl) rfl (fun z155 e155 => ?_)
          refine g_iastore 157 (gd rfl) rfl (n := 32) rfl (in_ix i151 rfl) ?_
          have hI156 := inv_sI (q := 93) (j := z151.toNatClampNeg) hIc115 rfl (in_w (-2147483648) 2147483647 (i_rng z155) rfl)
          refine g_iinc 160 (gd rfl) rfl rfl (Nat.le_of_ble_eq_true rfl) (fun z157 e157 => ?_)
          have i157 := in_add 1 160 e157 i124 (in_c 1 rfl) rfl rfl
          refine g_goto 115 (gd rfl) rfl ?_
          exact gg_w (by first | exact Nat.le_add_right _ _ | exact gw2 | exact gw3 | exact gwe rfl | exact gwf rfl | exact gwg rfl | exact gwh rfl | omega) (gg_f (gf_cons rfl (gf_cons rfl (gf_cons rfl (gf_cons rfl gf_nil)))) (ih115 (sI sc115 93 z151.toNatClampNeg z155) z157 hI156 (fr_sI rfl hFc115) (in_w 0 160 i157 rfl) (m_up mm115 (t_add e157 i124 (in_c 1 rfl) rfl) (in_w 1 1 (in_c 1 rfl) rfl))))
  have ct65 : ∀ (k65 : Nat) (sc65 : GS) (y65_3 : Int32), Inv sc65 → Fr fm_117_86_32 s sc65 → (In y65_3 0 160) → 160 - (y65_3).toInt < (k65 : Int) → GG Z (d - 1) 117 post (gx xp) (144902 + k65 * 900) 65 (fun j => xlook j [(0, .ref (A 86)), (1, .ref (A 32)), (2, .int x2), (3, .int y65_3)]) [] (WW Z A sc65 ++ ex) 0 0 := by
    intro k65
    induction k65 with
    | zero => intro sc65 y65_3 hIc65 hFc65 j65_3 mm65; exact m_no mm65 j65_3 rfl
    | succ k65 ih65 =>
      intro sc65 y65_3 hIc65 hFc65 j65_3 mm65
      refine gg_w (M := 144902 + k65 * 900 + 900) gws ?_
      refine g_iload_n 66 (gd rfl) rfl rfl ?_
      refine g_aload_n 67 (gd rfl) rfl rfl ?_
      refine g_getA (q2 := 44) 70 (gd rfl) rfl rfl rfl rfl ?_
      refine g_iload_n 71 (gd rfl) rfl rfl ?_
      refine g_iconst 1 72 (gd rfl) rfl rfl ?_
      refine g_iadd 73 (gd rfl) rfl (fun z72 e72 => ?_)
      have i72 := in_add 1 32 e72 h2 (in_c 1 rfl) rfl rfl
      refine g_iaload 74 (gd rfl) rfl (n := 33) rfl (in_ix i72 rfl) (fun z73 e73 => ?_)
      have i73 := inv_I hIc65 (n := 33) (t := 0) 0 160 rfl (in_ix i72 rfl) rfl e73
      refine g_cmp_ge 77 108 (gd rfl) rfl rfl (fun c74 => ?_) (fun c74 => ?_)
      · skip
        refine g_aload_n 109 (gd rfl) rfl rfl ?_
        refine g_getA (q2 := 42) 112 (gd rfl) rfl rfl rfl rfl ?_
        refine g_iload_n 113 (gd rfl) rfl rfl ?_
        refine g_iaload 114 (gd rfl) rfl (n := 33) rfl (in_ix h2 rfl) (fun z113 e113 => ?_)
        have i113 := inv_I hIc65 (n := 33) (t := 0) 0 160 rfl (in_ix h2 rfl) rfl e113
        refine g_istore_n 115 (gd rfl) rfl (Nat.le_of_ble_eq_true rfl) ?_
        exact gg_w (by first | exact Nat.le_add_right _ _ | exact gw2 | exact gw3 | exact gwe rfl | exact gwf rfl | exact gwg rfl | exact gwh rfl | omega) (gg_f (gf_cons rfl (gf_cons rfl (gf_cons rfl (gf_cons rfl gf_nil)))) (ct115 161 sc65 z113 hIc65 hFc65 (in_w 0 160 i113 rfl) (m_in 161 (in_w 0 160 i113 rfl) rfl)))
      · skip
        have i74 := r_lt1 0 159 c74 j65_3 i73 rfl
        have i74a := r_lt2 1 160 c74 j65_3 i73 rfl
        refine g_aload_n 78 (gd rfl) rfl rfl ?_
        refine g_getA (q2 := 93) 81 (gd rfl) rfl rfl rfl rfl ?_
        refine g_aload_n 82 (gd rfl) rfl rfl ?_
        refine g_getA (q2 := 89) 85 (gd rfl) rfl rfl rfl rfl ?_
        refine g_aload_n 86 (gd rfl) rfl rfl ?_
        refine g_getA (q2 := 34) 89 (gd rfl) rfl rfl rfl rfl ?_
        refine g_aload_n 90 (gd rfl) rfl rfl ?_
        refine g_getA (q2 := 45) 93 (gd rfl) rfl rfl rfl rfl ?_
        refine g_iload_n 94 (gd rfl) rfl rfl ?_
        refine g_iaload 95 (gd rfl) rfl (n := 160) rfl (in_ix i74 rfl) (fun z94 e94 => ?_)
        have i94 := inv_I hIc65 (n := 160) (t := 0) 0 159 rfl (in_ix i74 rfl) rfl e94
        refine g_iaload 96 (gd rfl) rfl (n := 160) rfl (in_ix i94 rfl) (fun z95 e95 => ?_)
        have i95 := inv_I hIc65 (n := 160) (t := 0) (-1) 31 rfl (in_ix i94 rfl) rfl e95
        have i96 : In z95 0 31 := by exact tg_b (b := 32) hIc65.2.2.1 rfl rfl rfl rfl rfl (by rw [← (show u_32_4 = sc65.2.2.1 32 4 from fr_F e_32_4 hFc65 rfl), ← (show u_32_0 = sc65.2.2.1 32 0 from fr_F e_32_0 hFc65 rfl)]; exact p_0) e73 i72 i74 c74 e94 e95 i95
        refine g_iaload 97 (gd rfl) rfl (n := 32) rfl (in_ix i96 rfl) (fun z96 e96 => ?_)
        have i96a := inv_I hIc65 (n := 32) (t := 0) 0 31 rfl (in_ix i96 rfl) rfl e96
        refine g_dup2 98 (gd rfl) rfl rfl rfl ?_
        refine g_iaload 99 (gd rfl) rfl (n := 32) rfl (in_ix i96a rfl) (fun z98 e98 => ?_)
        refine g_iconst 1 100 (gd rfl) rfl rfl ?_
        refine g_iadd 101 (gd rfl) rfl (fun z100 e100 => ?_)
        refine g_iastore 102 (gd rfl) rfl (n := 32) rfl (in_ix i96a rfl) ?_
        have hI101 := inv_sI (q := 93) (j := z96.toNatClampNeg) hIc65 rfl (in_w (-2147483648) 2147483647 (i_rng z100) rfl)
        refine g_iinc 105 (gd rfl) rfl rfl (Nat.le_of_ble_eq_true rfl) (fun z102 e102 => ?_)
        have i102 := in_add 1 160 e102 i74 (in_c 1 rfl) rfl rfl
        refine g_goto 65 (gd rfl) rfl ?_
        exact gg_w (by first | exact Nat.le_add_right _ _ | exact gw2 | exact gw3 | exact gwe rfl | exact gwf rfl | exact gwg rfl | exact gwh rfl | omega) (gg_f (gf_cons rfl (gf_cons rfl (gf_cons rfl (gf_cons rfl gf_nil)))) (ih65 (sI sc65 93 z96.toNatClampNeg z100) z102 hI101 (fr_sI rfl hFc65) (in_w 0 160 i102 rfl) (m_up mm65 (t_add e102 i74 (in_c 1 rfl) rfl) (in_w 1 1 (in_c 1 rfl) rfl))))
  have ct15 : ∀ (k15 : Nat) (sc15 : GS) (y15_3 : Int32), Inv sc15 → Fr fm_117_86_32 s sc15 → (In y15_3 0 160) → 160 - (y15_3).toInt < (k15 : Int) → GG Z (d - 1) 117 post (gx xp) (289803 + k15 * 900) 15 (fun j => xlook j [(0, .ref (A 86)), (1, .ref (A 32)), (2, .int x2), (3, .int y15_3)]) [] (WW Z A sc15 ++ ex) 0 0 := by
    intro k15
    induction k15 with
    | zero => intro sc15 y15_3 hIc15 hFc15 j15_3 mm15; exact m_no mm15 j15_3 rfl
    | succ k15 ih15 =>
      intro sc15 y15_3 hIc15 hFc15 j15_3 mm15
      refine gg_w (M := 289803 + k15 * 900 + 900) gws ?_
      refine g_iload_n 16 (gd rfl) rfl rfl ?_
      refine g_aload_n 17 (gd rfl) rfl rfl ?_
      refine g_getA (q2 := 42) 20 (gd rfl) rfl rfl rfl rfl ?_
      refine g_iload_n 21 (gd rfl) rfl rfl ?_
      refine g_iconst 1 22 (gd rfl) rfl rfl ?_
      refine g_iadd 23 (gd rfl) rfl (fun z22 e22 => ?_)
      have i22 := in_add 1 32 e22 h2 (in_c 1 rfl) rfl rfl
      refine g_iaload 24 (gd rfl) rfl (n := 33) rfl (in_ix i22 rfl) (fun z23 e23 => ?_)
      have i23 := inv_I hIc15 (n := 33) (t := 0) 0 160 rfl (in_ix i22 rfl) rfl e23
      refine g_cmp_ge 27 58 (gd rfl) rfl rfl (fun c24 => ?_) (fun c24 => ?_)
      · skip
        refine g_aload_n 59 (gd rfl) rfl rfl ?_
        refine g_getA (q2 := 44) 62 (gd rfl) rfl rfl rfl rfl ?_
        refine g_iload_n 63 (gd rfl) rfl rfl ?_
        refine g_iaload 64 (gd rfl) rfl (n := 33) rfl (in_ix h2 rfl) (fun z63 e63 => ?_)
        have i63 := inv_I hIc15 (n := 33) (t := 0) 0 160 rfl (in_ix h2 rfl) rfl e63
        refine g_istore_n 65 (gd rfl) rfl (Nat.le_of_ble_eq_true rfl) ?_
        exact gg_w (by first | exact Nat.le_add_right _ _ | exact gw2 | exact gw3 | exact gwe rfl | exact gwf rfl | exact gwg rfl | exact gwh rfl | omega) (gg_f (gf_cons rfl (gf_cons rfl (gf_cons rfl (gf_cons rfl gf_nil)))) (ct65 161 sc15 z63 hIc15 hFc15 (in_w 0 160 i63 rfl) (m_in 161 (in_w 0 160 i63 rfl) rfl)))
      · skip
        have i24 := r_lt1 0 159 c24 j15_3 i23 rfl
        have i24a := r_lt2 1 160 c24 j15_3 i23 rfl
        refine g_aload_n 28 (gd rfl) rfl rfl ?_
        refine g_getA (q2 := 93) 31 (gd rfl) rfl rfl rfl rfl ?_
        refine g_aload_n 32 (gd rfl) rfl rfl ?_
        refine g_getA (q2 := 89) 35 (gd rfl) rfl rfl rfl rfl ?_
        refine g_aload_n 36 (gd rfl) rfl rfl ?_
        refine g_getA (q2 := 35) 39 (gd rfl) rfl rfl rfl rfl ?_
        refine g_aload_n 40 (gd rfl) rfl rfl ?_
        refine g_getA (q2 := 43) 43 (gd rfl) rfl rfl rfl rfl ?_
        refine g_iload_n 44 (gd rfl) rfl rfl ?_
        refine g_iaload 45 (gd rfl) rfl (n := 160) rfl (in_ix i24 rfl) (fun z44 e44 => ?_)
        have i44 := inv_I hIc15 (n := 160) (t := 0) 0 159 rfl (in_ix i24 rfl) rfl e44
        refine g_iaload 46 (gd rfl) rfl (n := 160) rfl (in_ix i44 rfl) (fun z45 e45 => ?_)
        have i45 := inv_I hIc15 (n := 160) (t := 0) 0 31 rfl (in_ix i44 rfl) rfl e45
        refine g_iaload 47 (gd rfl) rfl (n := 32) rfl (in_ix i45 rfl) (fun z46 e46 => ?_)
        have i46 := inv_I hIc15 (n := 32) (t := 0) 0 31 rfl (in_ix i45 rfl) rfl e46
        refine g_dup2 48 (gd rfl) rfl rfl rfl ?_
        refine g_iaload 49 (gd rfl) rfl (n := 32) rfl (in_ix i46 rfl) (fun z48 e48 => ?_)
        refine g_iconst 1 50 (gd rfl) rfl rfl ?_
        refine g_iadd 51 (gd rfl) rfl (fun z50 e50 => ?_)
        refine g_iastore 52 (gd rfl) rfl (n := 32) rfl (in_ix i46 rfl) ?_
        have hI51 := inv_sI (q := 93) (j := z46.toNatClampNeg) hIc15 rfl (in_w (-2147483648) 2147483647 (i_rng z50) rfl)
        refine g_iinc 55 (gd rfl) rfl rfl (Nat.le_of_ble_eq_true rfl) (fun z52 e52 => ?_)
        have i52 := in_add 1 160 e52 i24 (in_c 1 rfl) rfl rfl
        refine g_goto 15 (gd rfl) rfl ?_
        exact gg_w (by first | exact Nat.le_add_right _ _ | exact gw2 | exact gw3 | exact gwe rfl | exact gwf rfl | exact gwg rfl | exact gwh rfl | omega) (gg_f (gf_cons rfl (gf_cons rfl (gf_cons rfl (gf_cons rfl gf_nil)))) (ih15 (sI sc15 93 z46.toNatClampNeg z50) z52 hI51 (fr_sI rfl hFc15) (in_w 0 160 i52 rfl) (m_up mm15 (t_add e52 i24 (in_c 1 rfl) rfl) (in_w 1 1 (in_c 1 rfl) rfl))))
  refine g_enter2 (k := 117) (N := 435603) (by first | exact dq1 hd rfl | exact dq0 hd rfl | exact dq2 hd rfl | exact dq3 hd rfl | omega) rfl (Nat.le_of_ble_eq_true rfl) ?_
  refine g_aload_n 1 (gd rfl) rfl rfl ?_
  refine g_getA (q2 := 93) 4 (gd rfl) rfl rfl rfl rfl ?_
  refine g_iconst 0 5 (gd rfl) rfl rfl ?_
  refine g_calls (As := [.ref (A 93), .int (Int32.ofInt 0)]) (r := []) 8 (gd rfl) rfl rfl rfl rfl rfl (Nat.le_of_ble_eq_true rfl) (Nat.zero_le _) (Nat.zero_le _) (k_fillI 93 (by first | exact dq1 hd rfl | exact dq0 hd rfl | exact dq2 hd rfl | exact dq3 hd rfl | omega) hI (in_c 0 rfl) (n := 32) rfl rfl rfl rfl) (fun v u h => ?_)
  obtain ⟨s5, hI5, hF5, rfl, rfl, fl5⟩ := h
  show GG _ _ _ _ _ _ _ _ [] _ _ _
  refine g_aload_n 9 (gd rfl) rfl rfl ?_
  refine g_getA (q2 := 42) 12 (gd rfl) rfl rfl rfl rfl ?_
  refine g_iload_n 13 (gd rfl) rfl rfl ?_
  refine g_iaload 14 (gd rfl) rfl (n := 33) rfl (in_ix h2 rfl) (fun z13 e13 => ?_)
  have i13 := inv_I hI5 (n := 33) (t := 0) 0 160 rfl (in_ix h2 rfl) rfl e13
  refine g_istore_n 15 (gd rfl) rfl (Nat.le_of_ble_eq_true rfl) ?_
  exact gg_w (by first | exact Nat.le_of_ble_eq_true rfl | omega) (gg_f (gf_cons rfl (gf_cons rfl (gf_cons rfl (gf_cons rfl gf_nil)))) (ct15 161 s5 z13 hI5 (fr_tr rfl fr_rf hF5) (in_w 0 160 i13 rfl) (m_in 161 (in_w 0 160 i13 rfl) rfl)))

/-- GraphHouse$Groups.score -/
theorem k_118_86 {Z : AmZ} {A : Nat → Nat} {s : GS} {ex : va_W} {d : Nat} {X : AmX} {x1 : Int32} {x2 : Int32} (hd : 1 ≤ d) (hI : Inv s) (h1 : In x1 0 31) (h2 : In x2 0 31) : GC Z d 118 [.ref (A 86), .int x1, .int x2] (WW Z A s ++ ex) 0 0 (fun v u => ∃ z : Int64, v = some (.long z) ∧ u = WW Z A s ++ ex) X := by
  intro post xp hP hX
  obtain ⟨u_86_5, e_86_5⟩ : ∃ w, w = s.2.2.1 86 5 := ⟨_, rfl⟩
  have ro_86_5 := inv_F hI 0 160 rfl e_86_5
  refine g_enter2 (k := 118) (N := 900) (by first | exact dq1 hd rfl | exact dq0 hd rfl | exact dq2 hd rfl | exact dq3 hd rfl | omega) rfl (Nat.le_of_ble_eq_true rfl) ?_
  refine g_aload_n 1 (gd rfl) rfl rfl ?_
  refine g_getA (q2 := 89) 4 (gd rfl) rfl rfl rfl rfl ?_
  refine g_iload_n 5 (gd rfl) rfl rfl ?_
  refine g_iaload 6 (gd rfl) rfl (n := 32) rfl (in_ix h1 rfl) (fun z5 e5 => ?_)
  have i5 := inv_I hI (n := 32) (t := 0) 0 31 rfl (in_ix h1 rfl) rfl e5
  refine g_iload_n 7 (gd rfl) rfl rfl ?_
  refine g_cmp_ne 10 26 (gd rfl) rfl rfl (fun c7 => ?_) (fun c7 => ?_)
  · skip
    refine g_aload_n 27 (gd rfl) rfl rfl ?_
    refine g_getA (q2 := 92) 30 (gd rfl) rfl rfl rfl rfl ?_
    refine g_iload_n 31 (gd rfl) rfl rfl ?_
    refine g_iaload 32 (gd rfl) rfl (n := 32) rfl (in_ix h2 rfl) (fun z31 e31 => ?_)
    refine g_istore_n 33 (gd rfl) rfl (Nat.le_of_ble_eq_true rfl) ?_
    refine g_ldc2_w 2 36 (gd rfl) rfl rfl ?_
    refine g_aload_n 37 (gd rfl) rfl rfl ?_
    refine g_getI 40 (gd rfl) rfl rfl rfl (fun z37 e37 => ?_)
    have q37 : u_86_5 = z37 := (e_86_5).trans e37.symm
    subst q37
    refine g_i2l 41 (gd rfl) rfl (fun z40 e40 => ?_)
    have i40 := l_i e40 ro_86_5
    refine g_lmul 42 (gd rfl) rfl (fun z41 e41 => ?_)
    have i41 := l_mulc 2 0 320 (Or.inl e41) i40 rfl
    refine g_aload_n 43 (gd rfl) rfl rfl ?_
    refine g_getA (q2 := 93) 46 (gd rfl) rfl rfl rfl rfl ?_
    refine g_iload_n 47 (gd rfl) rfl rfl ?_
    refine g_iaload 48 (gd rfl) rfl (n := 32) rfl (in_ix h2 rfl) (fun z47 e47 => ?_)
    refine g_i2l 49 (gd rfl) rfl (fun z48 e48 => ?_)
    have i48 := l_i e48 (i_rng z47)
    refine g_lmul 50 (gd rfl) rfl (fun z49 e49 => ?_)
    refine g_aload_n 51 (gd rfl) rfl rfl ?_
    refine g_getA (q2 := 91) 54 (gd rfl) rfl rfl rfl rfl ?_
    refine g_iload_n 55 (gd rfl) rfl rfl ?_
    refine g_iaload 56 (gd rfl) rfl (n := 32) rfl (in_ix h1 rfl) (fun z55 e55 => ?_)
    refine g_i2l 57 (gd rfl) rfl (fun z56 e56 => ?_)
    have i56 := l_i e56 (i_rng z55)
    refine g_iload_n 58 (gd rfl) rfl rfl ?_
    refine g_i2l 59 (gd rfl) rfl (fun z58 e58 => ?_)
    have i58 := l_i e58 (i_rng z31)
    refine g_lmul 60 (gd rfl) rfl (fun z59 e59 => ?_)
    refine g_lsub 61 (gd rfl) rfl (fun z60 e60 => ?_)
    exact g_lreturn (gd rfl) rfl (hP _ _ ⟨z60, rfl, rfl⟩)
  · skip
    refine g_aload_n 11 (gd rfl) rfl rfl ?_
    refine g_getA (q2 := 92) 14 (gd rfl) rfl rfl rfl rfl ?_
    refine g_iload_n 15 (gd rfl) rfl rfl ?_
    refine g_iaload 16 (gd rfl) rfl (n := 32) rfl (in_ix h2 rfl) (fun z15 e15 => ?_)
    refine g_aload_n 17 (gd rfl) rfl rfl ?_
    refine g_getA (q2 := 91) 20 (gd rfl) rfl rfl rfl rfl ?_
    refine g_iload_n 21 (gd rfl) rfl rfl ?_
    refine g_iaload 22 (gd rfl) rfl (n := 32) rfl (in_ix h1 rfl) (fun z21 e21 => ?_)
    refine g_isub 23 (gd rfl) rfl (fun z22 e22 => ?_)
    refine g_goto 32 (gd rfl) rfl ?_
    refine g_istore_n 33 (gd rfl) rfl (Nat.le_of_ble_eq_true rfl) ?_
    refine g_ldc2_w 2 36 (gd rfl) rfl rfl ?_
    refine g_aload_n 37 (gd rfl) rfl rfl ?_
    refine g_getI 40 (gd rfl) rfl rfl rfl (fun z37 e37 => ?_)
    have q37 : u_86_5 = z37 := (e_86_5).trans e37.symm
    subst q37
    refine g_i2l 41 (gd rfl) rfl (fun z40 e40 => ?_)
    have i40 := l_i e40 ro_86_5
    refine g_lmul 42 (gd rfl) rfl (fun z41 e41 => ?_)
    have i41 := l_mulc 2 0 320 (Or.inl e41) i40 rfl
    refine g_aload_n 43 (gd rfl) rfl rfl ?_
    refine g_getA (q2 := 93) 46 (gd rfl) rfl rfl rfl rfl ?_
    refine g_iload_n 47 (gd rfl) rfl rfl ?_
    refine g_iaload 48 (gd rfl) rfl (n := 32) rfl (in_ix h2 rfl) (fun z47 e47 => ?_)
    refine g_i2l 49 (gd rfl) rfl (fun z48 e48 => ?_)
    have i48 := l_i e48 (i_rng z47)
    refine g_lmul 50 (gd rfl) rfl (fun z49 e49 => ?_)
    refine g_aload_n 51 (gd rfl) rfl rfl ?_
    refine g_getA (q2 := 91) 54 (gd rfl) rfl rfl rfl rfl ?_
    refine g_iload_n 55 (gd rfl) rfl rfl ?_
    refine g_iaload 56 (gd rfl) rfl (n := 32) rfl (in_ix h1 rfl) (fun z55 e55 => ?_)
    have q55 : z21 = z55 := (e21).trans e55.symm
    subst q55
    refine g_i2l 57 (gd rfl) rfl (fun z56 e56 => ?_)
    have i56 := l_i e56 (i_rng z21)
    refine g_iload_n 58 (gd rfl) rfl rfl ?_
    refine g_i2l 59 (gd rfl) rfl (fun z58 e58 => ?_)
    have i58 := l_i e58 (i_rng z22)
    refine g_lmul 60 (gd rfl) rfl (fun z59 e59 => ?_)
    refine g_lsub 61 (gd rfl) rfl (fun z60 e60 => ?_)
    exact g_lreturn (gd rfl) rfl (hP _ _ ⟨z60, rfl, rfl⟩)

/-- GraphHouse$Groups.freeGroup -/
theorem k_119_86 {Z : AmZ} {A : Nat → Nat} {s : GS} {ex : va_W} {d : Nat} {X : AmX}  (hd : 1 ≤ d) (hI : Inv s)  : GC Z d 119 [.ref (A 86)] (WW Z A s ++ ex) 0 0 (fun v u => ∃ z : Int32, v = some (.int z) ∧ u = WW Z A s ++ ex ∧ In z (-1) 31) X := by
  intro post xp hP hX
  have ct2 : ∀ (k2 : Nat) (y2_1 : Int32), (In y2_1 0 32) → 32 - (y2_1).toInt < (k2 : Int) → GG Z (d - 1) 119 post (gx xp) (1 + k2 * 900) 2 (fun j => xlook j [(0, .ref (A 86)), (1, .int y2_1)]) [] (WW Z A s ++ ex) 0 0 := by
    intro k2
    induction k2 with
    | zero => intro y2_1 j2_1 mm2; exact m_no mm2 j2_1 rfl
    | succ k2 ih2 =>
      intro y2_1 j2_1 mm2
      refine gg_w (M := 1 + k2 * 900 + 900) gws ?_
      refine g_iload_n 3 (gd rfl) rfl rfl ?_
      refine g_bipush 32 5 (gd rfl) rfl rfl ?_
      refine g_cmp_ge 8 25 (gd rfl) rfl rfl (fun c5 => ?_) (fun c5 => ?_)
      · skip
        have i5 := r_le2 32 32 c5 (in_c 32 rfl) j2_1 rfl
        refine g_iconst (-1) 26 (gd rfl) rfl rfl ?_
        exact g_ireturn (gd rfl) rfl rfl (hP _ _ ⟨(Int32.ofInt (-1)), rfl, rfl, in_w (-1) 31 (in_c (-1) rfl) rfl⟩)
      · skip
        have i5 := r_lt1 0 31 c5 j2_1 (in_c 32 rfl) rfl
        refine g_aload_n 9 (gd rfl) rfl rfl ?_
        refine g_getA (q2 := 90) 12 (gd rfl) rfl rfl rfl rfl ?_
        refine g_iload_n 13 (gd rfl) rfl rfl ?_
        refine g_iaload 14 (gd rfl) rfl (n := 32) rfl (in_ix i5 rfl) (fun z13 e13 => ?_)
        refine g_if_ne 17 19 (gd rfl) rfl rfl (fun c14 => ?_) (fun c14 => ?_)
        · skip
          refine g_iinc 22 (gd rfl) rfl rfl (Nat.le_of_ble_eq_true rfl) (fun z19 e19 => ?_)
          have i19 := in_add 1 32 e19 i5 (in_c 1 rfl) rfl rfl
          refine g_goto 2 (gd rfl) rfl ?_
          exact gg_w (by first | exact Nat.le_add_right _ _ | exact gw2 | exact gw3 | exact gwe rfl | exact gwf rfl | exact gwg rfl | exact gwh rfl | omega) (gg_f (gf_cons rfl (gf_cons rfl gf_nil)) (ih2  z19  (in_w 0 32 i19 rfl) (m_up mm2 (t_add e19 i5 (in_c 1 rfl) rfl) (in_w 1 1 (in_c 1 rfl) rfl))))
        · skip
          have i14 := z_eq 0 0 c14 (i_rng z13) rfl
          refine g_iload_n 18 (gd rfl) rfl rfl ?_
          exact g_ireturn (gd rfl) rfl rfl (hP _ _ ⟨y2_1, rfl, rfl, in_w (-1) 31 i5 rfl⟩)
  refine g_enter2 (k := 119) (N := 30601) (by first | exact dq1 hd rfl | exact dq0 hd rfl | exact dq2 hd rfl | exact dq3 hd rfl | omega) rfl (Nat.le_of_ble_eq_true rfl) ?_
  refine g_iconst 0 1 (gd rfl) rfl rfl ?_
  refine g_istore_n 2 (gd rfl) rfl (Nat.le_of_ble_eq_true rfl) ?_
  exact gg_w (by first | exact Nat.le_of_ble_eq_true rfl | omega) (gg_f (gf_cons rfl (gf_cons rfl gf_nil)) (ct2 33  (Int32.ofInt 0)  (in_w 0 32 (in_c 0 rfl) rfl) (m_in 33 (in_w 0 32 (in_c 0 rfl) rfl) rfl)))

def fm_120_86 : FM := ([89, 90, 92], [], [], [])
/-- GraphHouse$Groups.moveTo -/
theorem k_120_86 {Z : AmZ} {A : Nat → Nat} {s : GS} {ex : va_W} {d : Nat} {X : AmX} {x1 : Int32} {x2 : Int32} (hd : 1 ≤ d) (hI : Inv s) (h1 : In x1 0 31) (h2 : In x2 (-1) 31) : GC Z d 120 [.ref (A 86), .int x1, .int x2] (WW Z A s ++ ex) 0 0 (fun v u => ∃ t : GS, Inv t ∧ Fr fm_120_86 s t ∧ ∃ z : Int32, v = some (.int z) ∧ u = WW Z A t ++ ex ∧ In z 0 1) X := by
  intro post xp hP hX
  refine g_enter2 (k := 120) (N := 900) (by first | exact dq1 hd rfl | exact dq0 hd rfl | exact dq2 hd rfl | exact dq3 hd rfl | omega) rfl (Nat.le_of_ble_eq_true rfl) ?_
  refine g_iload_n 1 (gd rfl) rfl rfl ?_
  refine g_iconst (-1) 2 (gd rfl) rfl rfl ?_
  refine g_cmp_ne 5 7 (gd rfl) rfl rfl (fun c2 => ?_) (fun c2 => ?_)
  · skip
    have i2 := r_ne1 0 31 c2 h2 (in_c (-1) rfl) rfl
    refine g_aload_n 8 (gd rfl) rfl rfl ?_
    refine g_getA (q2 := 89) 11 (gd rfl) rfl rfl rfl rfl ?_
    refine g_iload_n 12 (gd rfl) rfl rfl ?_
    refine g_iaload 13 (gd rfl) rfl (n := 32) rfl (in_ix h1 rfl) (fun z12 e12 => ?_)
    have i12 := inv_I hI (n := 32) (t := 0) 0 31 rfl (in_ix h1 rfl) rfl e12
    refine g_istore_n 14 (gd rfl) rfl (Nat.le_of_ble_eq_true rfl) ?_
    refine g_aload_n 15 (gd rfl) rfl rfl ?_
    refine g_getA (q2 := 90) 18 (gd rfl) rfl rfl rfl rfl ?_
    refine g_iload_n 19 (gd rfl) rfl rfl ?_
    refine g_dup2 20 (gd rfl) rfl rfl rfl ?_
    refine g_iaload 21 (gd rfl) rfl (n := 32) rfl (in_ix i12 rfl) (fun z20 e20 => ?_)
    refine g_iconst 1 22 (gd rfl) rfl rfl ?_
    refine g_iload_n 23 (gd rfl) rfl rfl ?_
    refine g_ishl 24 (gd rfl) rfl (fun z23 e23 => ?_)
    refine g_iconst (-1) 25 (gd rfl) rfl rfl ?_
    refine g_ixor 26 (gd rfl) rfl (fun z25 e25 => ?_)
    refine g_iand 27 (gd rfl) rfl (fun z26 e26 => ?_)
    refine g_iastore 28 (gd rfl) rfl (n := 32) rfl (in_ix i12 rfl) ?_
    have hI27 := inv_sI (q := 90) (j := z12.toNatClampNeg) hI rfl (in_w (-2147483648) 2147483647 (i_rng z26) rfl)
    refine g_aload_n 29 (gd rfl) rfl rfl ?_
    refine g_getA (q2 := 92) 32 (gd rfl) rfl rfl rfl rfl ?_
    refine g_iload_n 33 (gd rfl) rfl rfl ?_
    refine g_dup2 34 (gd rfl) rfl rfl rfl ?_
    refine g_iaload 35 (gd rfl) rfl (n := 32) rfl (in_ix i12 rfl) (fun z34 e34 => ?_)
    refine g_aload_n 36 (gd rfl) rfl rfl ?_
    refine g_getA (q2 := 91) 39 (gd rfl) rfl rfl rfl rfl ?_
    refine g_iload_n 40 (gd rfl) rfl rfl ?_
    refine g_iaload 41 (gd rfl) rfl (n := 32) rfl (in_ix h1 rfl) (fun z40 e40 => ?_)
    refine g_isub 42 (gd rfl) rfl (fun z41 e41 => ?_)
    refine g_iastore 43 (gd rfl) rfl (n := 32) rfl (in_ix i12 rfl) ?_
    have hI42 := inv_sI (q := 92) (j := z12.toNatClampNeg) hI27 rfl (in_w (-2147483648) 2147483647 (i_rng z41) rfl)
    refine g_aload_n 44 (gd rfl) rfl rfl ?_
    refine g_getA (q2 := 92) 47 (gd rfl) rfl rfl rfl rfl ?_
    refine g_iload_n 48 (gd rfl) rfl rfl ?_
    refine g_aload_n 49 (gd rfl) rfl rfl ?_
    refine g_getA (q2 := 90) 52 (gd rfl) rfl rfl rfl rfl ?_
    refine g_iload_n 53 (gd rfl) rfl rfl ?_
    refine g_iaload 54 (gd rfl) rfl (n := 32) rfl (in_ix i2 rfl) (fun z53 e53 => ?_)
    refine g_if_ne 57 66 (gd rfl) rfl rfl (fun c54 => ?_) (fun c54 => ?_)
    · skip
      refine g_aload_n 67 (gd rfl) rfl rfl ?_
      refine g_getA (q2 := 92) 70 (gd rfl) rfl rfl rfl rfl ?_
      refine g_iload_n 71 (gd rfl) rfl rfl ?_
      refine g_iaload 72 (gd rfl) rfl (n := 32) rfl (in_ix i2 rfl) (fun z71 e71 => ?_)
      refine g_aload_n 73 (gd rfl) rfl rfl ?_
      refine g_getA (q2 := 91) 76 (gd rfl) rfl rfl rfl rfl ?_
      refine g_iload_n 77 (gd rfl) rfl rfl ?_
      refine g_iaload 78 (gd rfl) rfl (n := 32) rfl (in_ix h1 rfl) (fun z77 e77 => ?_)
      have q77 : z40 = z77 := (sI_ne rfl (e40)).trans e77.symm
      subst q77
      refine g_iadd 79 (gd rfl) rfl (fun z78 e78 => ?_)
      refine g_iastore 80 (gd rfl) rfl (n := 32) rfl (in_ix i2 rfl) ?_
      have hI79 := inv_sI (q := 92) (j := x2.toNatClampNeg) hI42 rfl (in_w (-2147483648) 2147483647 (i_rng z78) rfl)
      refine g_aload_n 81 (gd rfl) rfl rfl ?_
      refine g_getA (q2 := 90) 84 (gd rfl) rfl rfl rfl rfl ?_
      refine g_iload_n 85 (gd rfl) rfl rfl ?_
      refine g_dup2 86 (gd rfl) rfl rfl rfl ?_
      refine g_iaload 87 (gd rfl) rfl (n := 32) rfl (in_ix i2 rfl) (fun z86 e86 => ?_)
      have q86 : z53 = z86 := (sI_ne rfl (e53)).trans e86.symm
      subst q86
      refine g_iconst 1 88 (gd rfl) rfl rfl ?_
      refine g_iload_n 89 (gd rfl) rfl rfl ?_
      refine g_ishl 90 (gd rfl) rfl (fun z89 e89 => ?_)
      refine g_ior 91 (gd rfl) rfl (fun z90 e90 => ?_)
      refine g_iastore 92 (gd rfl) rfl (n := 32) rfl (in_ix i2 rfl) ?_
      have hI91 := inv_sI (q := 90) (j := x2.toNatClampNeg) hI79 rfl (in_w (-2147483648) 2147483647 (i_rng z90) rfl)
      refine g_aload_n 93 (gd rfl) rfl rfl ?_
      refine g_getA (q2 := 89) 96 (gd rfl) rfl rfl rfl rfl ?_
      refine g_iload_n 97 (gd rfl) rfl rfl ?_
      refine g_iload_n 98 (gd rfl) rfl rfl ?_
      refine g_iastore 99 (gd rfl) rfl (n := 32) rfl (in_ix h1 rfl) ?_
      have hI98 := inv_sI (q := 89) (j := x1.toNatClampNeg) hI91 rfl (in_w 0 31 i2 rfl)
      refine g_iconst 1 100 (gd rfl) rfl rfl ?_
      exact g_ireturn (gd rfl) rfl (nb01 (in_w 0 1 (in_c 1 rfl) rfl)) (hP _ _ ⟨(sI (sI (sI (sI (sI s 90 z12.toNatClampNeg z26) 92 z12.toNatClampNeg z41) 92 x2.toNatClampNeg z78) 90 x2.toNatClampNeg z90) 89 x1.toNatClampNeg x2), hI98, (fr_sI rfl (fr_sI rfl (fr_sI rfl (fr_sI rfl (fr_sI rfl fr_rf))))), (Int32.ofInt 1), rfl, rfl, in_w 0 1 (in_c 1 rfl) rfl⟩)
    · skip
      have i54 := z_eq 0 0 c54 (i_rng z53) rfl
      refine g_aload_n 58 (gd rfl) rfl rfl ?_
      refine g_getA (q2 := 91) 61 (gd rfl) rfl rfl rfl rfl ?_
      refine g_iload_n 62 (gd rfl) rfl rfl ?_
      refine g_iaload 63 (gd rfl) rfl (n := 32) rfl (in_ix h1 rfl) (fun z62 e62 => ?_)
      have q62 : z40 = z62 := (sI_ne rfl (e40)).trans e62.symm
      subst q62
      refine g_goto 79 (gd rfl) rfl ?_
      refine g_iastore 80 (gd rfl) rfl (n := 32) rfl (in_ix i2 rfl) ?_
      have hI79 := inv_sI (q := 92) (j := x2.toNatClampNeg) hI42 rfl (in_w (-2147483648) 2147483647 (i_rng z40) rfl)
      refine g_aload_n 81 (gd rfl) rfl rfl ?_
      refine g_getA (q2 := 90) 84 (gd rfl) rfl rfl rfl rfl ?_
      refine g_iload_n 85 (gd rfl) rfl rfl ?_
      refine g_dup2 86 (gd rfl) rfl rfl rfl ?_
      refine g_iaload 87 (gd rfl) rfl (n := 32) rfl (in_ix i2 rfl) (fun z86 e86 => ?_)
      have q86 : z53 = z86 := (sI_ne rfl (e53)).trans e86.symm
      subst q86
      refine g_iconst 1 88 (gd rfl) rfl rfl ?_
      refine g_iload_n 89 (gd rfl) rfl rfl ?_
      refine g_ishl 90 (gd rfl) rfl (fun z89 e89 => ?_)
      refine g_ior 91 (gd rfl) rfl (fun z90 e90 => ?_)
      refine g_iastore 92 (gd rfl) rfl (n := 32) rfl (in_ix i2 rfl) ?_
      have hI91 := inv_sI (q := 90) (j := x2.toNatClampNeg) hI79 rfl (in_w (-2147483648) 2147483647 (i_rng z90) rfl)
      refine g_aload_n 93 (gd rfl) rfl rfl ?_
      refine g_getA (q2 := 89) 96 (gd rfl) rfl rfl rfl rfl ?_
      refine g_iload_n 97 (gd rfl) rfl rfl ?_
      refine g_iload_n 98 (gd rfl) rfl rfl ?_
      refine g_iastore 99 (gd rfl) rfl (n := 32) rfl (in_ix h1 rfl) ?_
      have hI98 := inv_sI (q := 89) (j := x1.toNatClampNeg) hI91 rfl (in_w 0 31 i2 rfl)
      refine g_iconst 1 100 (gd rfl) rfl rfl ?_
      exact g_ireturn (gd rfl) rfl (nb01 (in_w 0 1 (in_c 1 rfl) rfl)) (hP _ _ ⟨(sI (sI (sI (sI (sI s 90 z12.toNatClampNeg z26) 92 z12.toNatClampNeg z41) 92 x2.toNatClampNeg z40) 90 x2.toNatClampNeg z90) 89 x1.toNatClampNeg x2), hI98, (fr_sI rfl (fr_sI rfl (fr_sI rfl (fr_sI rfl (fr_sI rfl fr_rf))))), (Int32.ofInt 1), rfl, rfl, in_w 0 1 (in_c 1 rfl) rfl⟩)
  · skip
    have i2 := r_eq1 (-1) (-1) c2 h2 (in_c (-1) rfl) rfl
    refine g_iconst 0 6 (gd rfl) rfl rfl ?_
    exact g_ireturn (gd rfl) rfl (nb01 (in_w 0 1 (in_c 0 rfl) rfl)) (hP _ _ ⟨s, hI, fr_rf, (Int32.ofInt 0), rfl, rfl, in_w 0 1 (in_c 0 rfl) rfl⟩)

/-- GraphHouse$Parts.firstFree -/
theorem k_146_2 {Z : AmZ} {A : Nat → Nat} {s : GS} {ex : va_W} {d : Nat} {X : AmX} {x1 : Int32} (hd : 4 ≤ d) (hI : Inv s)  : GC Z d 146 [.ref (A 2), .int x1] (WW Z A s ++ ex) 0 0 (fun v u => ∃ z : Int32, v = some (.int z) ∧ u = WW Z A s ++ ex ∧ In z (-1) 31) X := by
  intro post xp hP hX
  have ct2 : ∀ (k2 : Nat) (y2_2 : Int32), ((y2_2.toBitVec.toNat : Nat) : Int) < (k2 : Int) → GG Z (d - 1) 146 post (gx xp) (1 + k2 * 900) 2 (fun j => xlook j [(0, .ref (A 2)), (1, .int x1), (2, .int y2_2)]) [] (WW Z A s ++ ex) 0 0 := by
    intro k2
    induction k2 with
    | zero => intro y2_2  mm2; exact absurd mm2 (Int.not_lt.mpr (Int.natCast_nonneg _))
    | succ k2 ih2 =>
      intro y2_2  mm2
      refine gg_w (M := 1 + k2 * 900 + 900) gws ?_
      refine g_iload_n 3 (gd rfl) rfl rfl ?_
      refine g_if_eq 6 34 (gd rfl) rfl rfl (fun c3 => ?_) (fun c3 => ?_)
      · skip
        have i3 := z_eq 0 0 c3 (i_rng y2_2) rfl
        refine g_iconst (-1) 35 (gd rfl) rfl rfl ?_
        exact g_ireturn (gd rfl) rfl rfl (hP _ _ ⟨(Int32.ofInt (-1)), rfl, rfl, in_w (-1) 31 (in_c (-1) rfl) rfl⟩)
      · skip
        refine g_aload_n 7 (gd rfl) rfl rfl ?_
        refine g_getA (q2 := 11) 10 (gd rfl) rfl rfl rfl rfl ?_
        refine g_iload_n 11 (gd rfl) rfl rfl ?_
        refine g_calls (As := [.int y2_2]) (r := [.ref (A 11)]) 14 (gd rfl) rfl rfl rfl rfl rfl (Nat.le_of_ble_eq_true rfl) (Nat.zero_le _) (Nat.zero_le _) (k_264n (by first | exact dq1 hd rfl | exact dq0 hd rfl | exact dq2 hd rfl | exact dq3 hd rfl | omega) c3) (fun v u h => ?_)
        obtain ⟨z11, rfl, rfl, i11, hb11, hl11⟩ := h
        show GG _ _ _ _ _ _ _ _ [.int z11, .ref (A 11)] _ _ _
        refine g_iaload 15 (gd rfl) rfl (n := 32) rfl (in_ix i11 rfl) (fun z14 e14 => ?_)
        refine g_iload_n 16 (gd rfl) rfl rfl ?_
        refine g_iand 17 (gd rfl) rfl (fun z16 e16 => ?_)
        refine g_if_ne 20 25 (gd rfl) rfl rfl (fun c17 => ?_) (fun c17 => ?_)
        · skip
          refine g_iload_n 26 (gd rfl) rfl rfl ?_
          refine g_iload_n 27 (gd rfl) rfl rfl ?_
          refine g_iconst 1 28 (gd rfl) rfl rfl ?_
          refine g_isub 29 (gd rfl) rfl (fun z28 e28 => ?_)
          refine g_iand 30 (gd rfl) rfl (fun z29 e29 => ?_)
          refine g_istore_n 31 (gd rfl) rfl (Nat.le_of_ble_eq_true rfl) ?_
          refine g_goto 2 (gd rfl) rfl ?_
          exact gg_w (by first | exact Nat.le_add_right _ _ | exact gw2 | exact gw3 | exact gwe rfl | exact gwf rfl | exact gwg rfl | exact gwh rfl | omega) (gg_f (gf_cons rfl (gf_cons rfl (gf_cons rfl gf_nil))) (ih2  z29   (mb e29 e28 c3 mm2)))
        · skip
          have i17 := z_eq 0 0 c17 (i_rng z16) rfl
          refine g_iload_n 21 (gd rfl) rfl rfl ?_
          refine g_calls (As := [.int y2_2]) (r := []) 24 (gd rfl) rfl rfl rfl rfl rfl (Nat.le_of_ble_eq_true rfl) (Nat.zero_le _) (Nat.zero_le _) (k_264n (by first | exact dq1 hd rfl | exact dq0 hd rfl | exact dq2 hd rfl | exact dq3 hd rfl | omega) c3) (fun v u h => ?_)
          obtain ⟨z21, rfl, rfl, i21, hb21, hl21⟩ := h
          show GG _ _ _ _ _ _ _ _ [.int z21] _ _ _
          exact g_ireturn (gd rfl) rfl rfl (hP _ _ ⟨z21, rfl, rfl, in_w (-1) 31 i21 rfl⟩)
  refine g_enter2 (k := 146) (N := 3865470567301) (by first | exact dq1 hd rfl | exact dq0 hd rfl | exact dq2 hd rfl | exact dq3 hd rfl | omega) rfl (Nat.le_of_ble_eq_true rfl) ?_
  refine g_iload_n 1 (gd rfl) rfl rfl ?_
  refine g_istore_n 2 (gd rfl) rfl (Nat.le_of_ble_eq_true rfl) ?_
  exact gg_w (by first | exact Nat.le_of_ble_eq_true rfl | omega) (gg_f (gf_cons rfl (gf_cons rfl (gf_cons rfl gf_nil))) (ct2 4294967296  x1   (mb_in _)))

/-- GraphHouse$Parts.firstFree -/
theorem k_146_32 {Z : AmZ} {A : Nat → Nat} {s : GS} {ex : va_W} {d : Nat} {X : AmX} {x1 : Int32} (hd : 4 ≤ d) (hI : Inv s)  : GC Z d 146 [.ref (A 32), .int x1] (WW Z A s ++ ex) 0 0 (fun v u => ∃ z : Int32, v = some (.int z) ∧ u = WW Z A s ++ ex ∧ In z (-1) 31) X := by
  intro post xp hP hX
  have ct2 : ∀ (k2 : Nat) (y2_2 : Int32), ((y2_2.toBitVec.toNat : Nat) : Int) < (k2 : Int) → GG Z (d - 1) 146 post (gx xp) (1 + k2 * 900) 2 (fun j => xlook j [(0, .ref (A 32)), (1, .int x1), (2, .int y2_2)]) [] (WW Z A s ++ ex) 0 0 := by
    intro k2
    induction k2 with
    | zero => intro y2_2  mm2; exact absurd mm2 (Int.not_lt.mpr (Int.natCast_nonneg _))
    | succ k2 ih2 =>
      intro y2_2  mm2
      refine gg_w (M := 1 + k2 * 900 + 900) gws ?_
      refine g_iload_n 3 (gd rfl) rfl rfl ?_
      refine g_if_eq 6 34 (gd rfl) rfl rfl (fun c3 => ?_) (fun c3 => ?_)
      · skip
        have i3 := z_eq 0 0 c3 (i_rng y2_2) rfl
        refine g_iconst (-1) 35 (gd rfl) rfl rfl ?_
        exact g_ireturn (gd rfl) rfl rfl (hP _ _ ⟨(Int32.ofInt (-1)), rfl, rfl, in_w (-1) 31 (in_c (-1) rfl) rfl⟩)
      · skip
        refine g_aload_n 7 (gd rfl) rfl rfl ?_
        refine g_getA (q2 := 41) 10 (gd rfl) rfl rfl rfl rfl ?_
        refine g_iload_n 11 (gd rfl) rfl rfl ?_
        refine g_calls (As := [.int y2_2]) (r := [.ref (A 41)]) 14 (gd rfl) rfl rfl rfl rfl rfl (Nat.le_of_ble_eq_true rfl) (Nat.zero_le _) (Nat.zero_le _) (k_264n (by first | exact dq1 hd rfl | exact dq0 hd rfl | exact dq2 hd rfl | exact dq3 hd rfl | omega) c3) (fun v u h => ?_)
        obtain ⟨z11, rfl, rfl, i11, hb11, hl11⟩ := h
        show GG _ _ _ _ _ _ _ _ [.int z11, .ref (A 41)] _ _ _
        refine g_iaload 15 (gd rfl) rfl (n := 32) rfl (in_ix i11 rfl) (fun z14 e14 => ?_)
        refine g_iload_n 16 (gd rfl) rfl rfl ?_
        refine g_iand 17 (gd rfl) rfl (fun z16 e16 => ?_)
        refine g_if_ne 20 25 (gd rfl) rfl rfl (fun c17 => ?_) (fun c17 => ?_)
        · skip
          refine g_iload_n 26 (gd rfl) rfl rfl ?_
          refine g_iload_n 27 (gd rfl) rfl rfl ?_
          refine g_iconst 1 28 (gd rfl) rfl rfl ?_
          refine g_isub 29 (gd rfl) rfl (fun z28 e28 => ?_)
          refine g_iand 30 (gd rfl) rfl (fun z29 e29 => ?_)
          refine g_istore_n 31 (gd rfl) rfl (Nat.le_of_ble_eq_true rfl) ?_
          refine g_goto 2 (gd rfl) rfl ?_
          exact gg_w (by first | exact Nat.le_add_right _ _ | exact gw2 | exact gw3 | exact gwe rfl | exact gwf rfl | exact gwg rfl | exact gwh rfl | omega) (gg_f (gf_cons rfl (gf_cons rfl (gf_cons rfl gf_nil))) (ih2  z29   (mb e29 e28 c3 mm2)))
        · skip
          have i17 := z_eq 0 0 c17 (i_rng z16) rfl
          refine g_iload_n 21 (gd rfl) rfl rfl ?_
          refine g_calls (As := [.int y2_2]) (r := []) 24 (gd rfl) rfl rfl rfl rfl rfl (Nat.le_of_ble_eq_true rfl) (Nat.zero_le _) (Nat.zero_le _) (k_264n (by first | exact dq1 hd rfl | exact dq0 hd rfl | exact dq2 hd rfl | exact dq3 hd rfl | omega) c3) (fun v u h => ?_)
          obtain ⟨z21, rfl, rfl, i21, hb21, hl21⟩ := h
          show GG _ _ _ _ _ _ _ _ [.int z21] _ _ _
          exact g_ireturn (gd rfl) rfl rfl (hP _ _ ⟨z21, rfl, rfl, in_w (-1) 31 i21 rfl⟩)
  refine g_enter2 (k := 146) (N := 3865470567301) (by first | exact dq1 hd rfl | exact dq0 hd rfl | exact dq2 hd rfl | exact dq3 hd rfl | omega) rfl (Nat.le_of_ble_eq_true rfl) ?_
  refine g_iload_n 1 (gd rfl) rfl rfl ?_
  refine g_istore_n 2 (gd rfl) rfl (Nat.le_of_ble_eq_true rfl) ?_
  exact gg_w (by first | exact Nat.le_of_ble_eq_true rfl | omega) (gg_f (gf_cons rfl (gf_cons rfl (gf_cons rfl gf_nil))) (ct2 4294967296  x1   (mb_in _)))

/-- GraphHouse$Parts.loosest -/
theorem k_149_56 {Z : AmZ} {A : Nat → Nat} {s : GS} {ex : va_W} {d : Nat} {X : AmX} {x1 : Int32} (hd : 4 ≤ d) (hI : Inv s) (nza_1 : x1.toInt ≠ 0) : GC Z d 149 [.ref (A 56), .int x1] (WW Z A s ++ ex) 0 0 (fun v u => ∃ z : Int32, v = some (.int z) ∧ u = WW Z A s ++ ex ∧ In z 0 31 ∧ (bt x1 (z).toNatClampNeg = true)) X := by
  intro post xp hP hX
  have ct7 : ∀ (k7 : Nat) (y7_2 : Int32) (y7_3 : Int32), (In y7_2 0 31) → (bt x1 (y7_2).toNatClampNeg = true) → (∀ k, bt y7_3 k = true → bt x1 k = true) → ((y7_3.toBitVec.toNat : Nat) : Int) < (k7 : Int) → GG Z (d - 1) 149 post (gx xp) (1 + k7 * 900) 7 (fun j => xlook j [(0, .ref (A 56)), (1, .int x1), (2, .int y7_2), (3, .int y7_3)]) [] (WW Z A s ++ ex) 0 0 := by
    intro k7
    induction k7 with
    | zero => intro y7_2 y7_3 j7_2 g7_0 g7_1 mm7; exact absurd mm7 (Int.not_lt.mpr (Int.natCast_nonneg _))
    | succ k7 ih7 =>
      intro y7_2 y7_3 j7_2 g7_0 g7_1 mm7
      refine gg_w (M := 1 + k7 * 900 + 900) gws ?_
      refine g_iload_n 8 (gd rfl) rfl rfl ?_
      refine g_if_eq 11 43 (gd rfl) rfl rfl (fun c8 => ?_) (fun c8 => ?_)
      · skip
        have i8 := z_eq 0 0 c8 (i_rng y7_3) rfl
        refine g_iload_n 44 (gd rfl) rfl rfl ?_
        have n44 : bt x1 (y7_2).toNatClampNeg = true := by exact g7_0
        exact g_ireturn (gd rfl) rfl rfl (hP _ _ ⟨y7_2, rfl, rfl, in_w 0 31 j7_2 rfl, n44⟩)
      · skip
        refine g_aload_n 12 (gd rfl) rfl rfl ?_
        refine g_getA (q2 := 59) 15 (gd rfl) rfl rfl rfl rfl ?_
        refine g_iload_n 16 (gd rfl) rfl rfl ?_
        refine g_calls (As := [.int y7_3]) (r := [.ref (A 59)]) 19 (gd rfl) rfl rfl rfl rfl rfl (Nat.le_of_ble_eq_true rfl) (Nat.zero_le _) (Nat.zero_le _) (k_264n (by first | exact dq1 hd rfl | exact dq0 hd rfl | exact dq2 hd rfl | exact dq3 hd rfl | omega) c8) (fun v u h => ?_)
        obtain ⟨z16, rfl, rfl, i16, hb16, hl16⟩ := h
        show GG _ _ _ _ _ _ _ _ [.int z16, .ref (A 59)] _ _ _
        refine g_iaload 20 (gd rfl) rfl (n := 32) rfl (in_ix i16 rfl) (fun z19 e19 => ?_)
        refine g_aload_n 21 (gd rfl) rfl rfl ?_
        refine g_getA (q2 := 59) 24 (gd rfl) rfl rfl rfl rfl ?_
        refine g_iload_n 25 (gd rfl) rfl rfl ?_
        refine g_iaload 26 (gd rfl) rfl (n := 32) rfl (in_ix j7_2 rfl) (fun z25 e25 => ?_)
        refine g_cmp_ge 29 34 (gd rfl) rfl rfl (fun c26 => ?_) (fun c26 => ?_)
        · skip
          refine g_iload_n 35 (gd rfl) rfl rfl ?_
          refine g_iload_n 36 (gd rfl) rfl rfl ?_
          refine g_iconst 1 37 (gd rfl) rfl rfl ?_
          refine g_isub 38 (gd rfl) rfl (fun z37 e37 => ?_)
          refine g_iand 39 (gd rfl) rfl (fun z38 e38 => ?_)
          refine g_istore_n 40 (gd rfl) rfl (Nat.le_of_ble_eq_true rfl) ?_
          refine g_goto 7 (gd rfl) rfl ?_
          have n7 : bt x1 (y7_2).toNatClampNeg = true := by first | exact hb1 | exact g7_0 | exact g7_1 _ hb30
          have n7a : ∀ k, bt z38 k = true → bt x1 k = true := by first | exact fun k h => h | exact fun k h => g7_1 k (bt_and1 e38 h)
          exact gg_w (by first | exact Nat.le_add_right _ _ | exact gw2 | exact gw3 | exact gwe rfl | exact gwf rfl | exact gwg rfl | exact gwh rfl | omega) (gg_f (gf_cons rfl (gf_cons rfl (gf_cons rfl (gf_cons rfl gf_nil)))) (ih7  y7_2 z38  (in_w 0 31 j7_2 rfl) n7 n7a (mb e38 e37 c8 mm7)))
        · skip
          have i26 := r_lt1 (-2147483648) 2147483646 c26 (i_rng z19) (i_rng z25) rfl
          have i26a := r_lt2 (-2147483647) 2147483647 c26 (i_rng z19) (i_rng z25) rfl
          refine g_iload_n 30 (gd rfl) rfl rfl ?_
          refine g_calls (As := [.int y7_3]) (r := []) 33 (gd rfl) rfl rfl rfl rfl rfl (Nat.le_of_ble_eq_true rfl) (Nat.zero_le _) (Nat.zero_le _) (k_264n (by first | exact dq1 hd rfl | exact dq0 hd rfl | exact dq2 hd rfl | exact dq3 hd rfl | omega) c8) (fun v u h => ?_)
          obtain ⟨z30, rfl, rfl, i30, hb30, hl30⟩ := h
          show GG _ _ _ _ _ _ _ _ [.int z30] _ _ _
          refine g_istore_n 34 (gd rfl) rfl (Nat.le_of_ble_eq_true rfl) ?_
          refine g_iload_n 35 (gd rfl) rfl rfl ?_
          refine g_iload_n 36 (gd rfl) rfl rfl ?_
          refine g_iconst 1 37 (gd rfl) rfl rfl ?_
          refine g_isub 38 (gd rfl) rfl (fun z37 e37 => ?_)
          refine g_iand 39 (gd rfl) rfl (fun z38 e38 => ?_)
          refine g_istore_n 40 (gd rfl) rfl (Nat.le_of_ble_eq_true rfl) ?_
          refine g_goto 7 (gd rfl) rfl ?_
          have n7 : bt x1 (z30).toNatClampNeg = true := by first | exact hb1 | exact g7_0 | exact g7_1 _ hb30
          have n7a : ∀ k, bt z38 k = true → bt x1 k = true := by first | exact fun k h => h | exact fun k h => g7_1 k (bt_and1 e38 h)
          exact gg_w (by first | exact Nat.le_add_right _ _ | exact gw2 | exact gw3 | exact gwe rfl | exact gwf rfl | exact gwg rfl | exact gwh rfl | omega) (gg_f (gf_cons rfl (gf_cons rfl (gf_cons rfl (gf_cons rfl gf_nil)))) (ih7  z30 z38  (in_w 0 31 i30 rfl) n7 n7a (mb e38 e37 c8 mm7)))
  refine g_enter2 (k := 149) (N := 3865470567301) (by first | exact dq1 hd rfl | exact dq0 hd rfl | exact dq2 hd rfl | exact dq3 hd rfl | omega) rfl (Nat.le_of_ble_eq_true rfl) ?_
  refine g_iload_n 1 (gd rfl) rfl rfl ?_
  refine g_calls (As := [.int x1]) (r := []) 4 (gd rfl) rfl rfl rfl rfl rfl (Nat.le_of_ble_eq_true rfl) (Nat.zero_le _) (Nat.zero_le _) (k_264n (by first | exact dq1 hd rfl | exact dq0 hd rfl | exact dq2 hd rfl | exact dq3 hd rfl | omega) nza_1) (fun v u h => ?_)
  obtain ⟨z1, rfl, rfl, i1, hb1, hl1⟩ := h
  show GG _ _ _ _ _ _ _ _ [.int z1] _ _ _
  refine g_istore_n 5 (gd rfl) rfl (Nat.le_of_ble_eq_true rfl) ?_
  refine g_iload_n 6 (gd rfl) rfl rfl ?_
  refine g_istore_n 7 (gd rfl) rfl (Nat.le_of_ble_eq_true rfl) ?_
  have n7 : bt x1 (z1).toNatClampNeg = true := by first | exact hb1 | exact g7_0 | exact g7_1 _ hb30
  have n7a : ∀ k, bt x1 k = true → bt x1 k = true := by first | exact fun k h => h | exact fun k h => g7_1 k (bt_and1 e38 h)
  exact gg_w (by first | exact Nat.le_of_ble_eq_true rfl | omega) (gg_f (gf_cons rfl (gf_cons rfl (gf_cons rfl (gf_cons rfl gf_nil)))) (ct7 4294967296  z1 x1  (in_w 0 31 i1 rfl) n7 n7a (mb_in _)))

def fm_150_56_2 : FM := ([59], [], [], [])
/-- GraphHouse$Parts.loosen -/
theorem k_150_56_2 {Z : AmZ} {A : Nat → Nat} {s : GS} {ex : va_W} {d : Nat} {X : AmX} {x2 : Int32} {u_2_4 : Int32} {u_2_0 : Int32} (hd : 1 ≤ d) (hI : Inv s) (h2 : In x2 0 31) (e_2_4 : u_2_4 = s.2.2.1 2 4) (e_2_0 : u_2_0 = s.2.2.1 2 0) (p_0 : (u_2_4).toInt = (u_2_0).toInt) : GC Z d 150 [.ref (A 56), .ref (A 2), .int x2] (WW Z A s ++ ex) 0 0 (fun v u => ∃ t : GS, Inv t ∧ Fr fm_150_56_2 s t ∧ v = none ∧ u = WW Z A t ++ ex) X := by
  intro post xp hP hX
  have ro_2_4 := inv_F hI (-1) 4000 rfl e_2_4
  have ro_2_0 := inv_F hI 0 4000 rfl e_2_0
  have ct52 : ∀ (k52 : Nat) (sc52 : GS) (y52_3 : Int32), Inv sc52 → Fr fm_150_56_2 s sc52 → (In y52_3 0 160) → 160 - (y52_3).toInt < (k52 : Int) → GG Z (d - 1) 150 post (gx xp) (1 + k52 * 900) 52 (fun j => xlook j [(0, .ref (A 56)), (1, .ref (A 2)), (2, .int x2), (3, .int y52_3)]) [] (WW Z A sc52 ++ ex) 0 0 := by
    intro k52
    induction k52 with
    | zero => intro sc52 y52_3 hIc52 hFc52 j52_3 mm52; exact m_no mm52 j52_3 rfl
    | succ k52 ih52 =>
      intro sc52 y52_3 hIc52 hFc52 j52_3 mm52
      refine gg_w (M := 1 + k52 * 900 + 900) gws ?_
      refine g_iload_n 53 (gd rfl) rfl rfl ?_
      refine g_aload_n 54 (gd rfl) rfl rfl ?_
      refine g_getA (q2 := 14) 57 (gd rfl) rfl rfl rfl rfl ?_
      refine g_iload_n 58 (gd rfl) rfl rfl ?_
      refine g_iconst 1 59 (gd rfl) rfl rfl ?_
      refine g_iadd 60 (gd rfl) rfl (fun z59 e59 => ?_)
      have i59 := in_add 1 32 e59 h2 (in_c 1 rfl) rfl rfl
      refine g_iaload 61 (gd rfl) rfl (n := 33) rfl (in_ix i59 rfl) (fun z60 e60 => ?_)
      have i60 := inv_I hIc52 (n := 33) (t := 0) 0 160 rfl (in_ix i59 rfl) rfl e60
      refine g_cmp_ge 64 90 (gd rfl) rfl rfl (fun c61 => ?_) (fun c61 => ?_)
      · skip
        exact g_return (gd rfl) rfl (hP _ _ ⟨sc52, hIc52, hFc52, rfl, rfl⟩)
      · skip
        have i61 := r_lt1 0 159 c61 j52_3 i60 rfl
        have i61a := r_lt2 1 160 c61 j52_3 i60 rfl
        refine g_aload_n 65 (gd rfl) rfl rfl ?_
        refine g_getA (q2 := 59) 68 (gd rfl) rfl rfl rfl rfl ?_
        refine g_aload_n 69 (gd rfl) rfl rfl ?_
        refine g_getA (q2 := 4) 72 (gd rfl) rfl rfl rfl rfl ?_
        refine g_aload_n 73 (gd rfl) rfl rfl ?_
        refine g_getA (q2 := 15) 76 (gd rfl) rfl rfl rfl rfl ?_
        refine g_iload_n 77 (gd rfl) rfl rfl ?_
        refine g_iaload 78 (gd rfl) rfl (n := 160) rfl (in_ix i61 rfl) (fun z77 e77 => ?_)
        have i77 := inv_I hIc52 (n := 160) (t := 0) 0 159 rfl (in_ix i61 rfl) rfl e77
        refine g_iaload 79 (gd rfl) rfl (n := 160) rfl (in_ix i77 rfl) (fun z78 e78 => ?_)
        have i78 := inv_I hIc52 (n := 160) (t := 0) (-1) 31 rfl (in_ix i77 rfl) rfl e78
        have i79 : In z78 0 31 := by exact tg_b (b := 2) hIc52.2.1 rfl rfl rfl rfl rfl (by rw [← (show u_2_4 = sc52.2.2.1 2 4 from fr_F e_2_4 hFc52 rfl), ← (show u_2_0 = sc52.2.2.1 2 0 from fr_F e_2_0 hFc52 rfl)]; exact p_0) e60 i59 i61 c61 e77 e78 i78
        refine g_dup2 80 (gd rfl) rfl rfl rfl ?_
        refine g_iaload 81 (gd rfl) rfl (n := 32) rfl (in_ix i79 rfl) (fun z80 e80 => ?_)
        refine g_iconst 1 82 (gd rfl) rfl rfl ?_
        refine g_isub 83 (gd rfl) rfl (fun z82 e82 => ?_)
        refine g_iastore 84 (gd rfl) rfl (n := 32) rfl (in_ix i79 rfl) ?_
        have hI83 := inv_sI (q := 59) (j := z78.toNatClampNeg) hIc52 rfl (in_w (-2147483648) 2147483647 (i_rng z82) rfl)
        refine g_iinc 87 (gd rfl) rfl rfl (Nat.le_of_ble_eq_true rfl) (fun z84 e84 => ?_)
        have i84 := in_add 1 160 e84 i61 (in_c 1 rfl) rfl rfl
        refine g_goto 52 (gd rfl) rfl ?_
        exact gg_w (by first | exact Nat.le_add_right _ _ | exact gw2 | exact gw3 | exact gwe rfl | exact gwf rfl | exact gwg rfl | exact gwh rfl | omega) (gg_f (gf_cons rfl (gf_cons rfl (gf_cons rfl (gf_cons rfl gf_nil)))) (ih52 (sI sc52 59 z78.toNatClampNeg z82) z84 hI83 (fr_sI rfl hFc52) (in_w 0 160 i84 rfl) (m_up mm52 (t_add e84 i61 (in_c 1 rfl) rfl) (in_w 1 1 (in_c 1 rfl) rfl))))
  have ct7 : ∀ (k7 : Nat) (sc7 : GS) (y7_3 : Int32), Inv sc7 → Fr fm_150_56_2 s sc7 → (In y7_3 0 160) → 160 - (y7_3).toInt < (k7 : Int) → GG Z (d - 1) 150 post (gx xp) (144902 + k7 * 900) 7 (fun j => xlook j [(0, .ref (A 56)), (1, .ref (A 2)), (2, .int x2), (3, .int y7_3)]) [] (WW Z A sc7 ++ ex) 0 0 := by
    intro k7
    induction k7 with
    | zero => intro sc7 y7_3 hIc7 hFc7 j7_3 mm7; exact m_no mm7 j7_3 rfl
    | succ k7 ih7 =>
      intro sc7 y7_3 hIc7 hFc7 j7_3 mm7
      refine gg_w (M := 144902 + k7 * 900 + 900) gws ?_
      refine g_iload_n 8 (gd rfl) rfl rfl ?_
      refine g_aload_n 9 (gd rfl) rfl rfl ?_
      refine g_getA (q2 := 12) 12 (gd rfl) rfl rfl rfl rfl ?_
      refine g_iload_n 13 (gd rfl) rfl rfl ?_
      refine g_iconst 1 14 (gd rfl) rfl rfl ?_
      refine g_iadd 15 (gd rfl) rfl (fun z14 e14 => ?_)
      have i14 := in_add 1 32 e14 h2 (in_c 1 rfl) rfl rfl
      refine g_iaload 16 (gd rfl) rfl (n := 33) rfl (in_ix i14 rfl) (fun z15 e15 => ?_)
      have i15 := inv_I hIc7 (n := 33) (t := 0) 0 160 rfl (in_ix i14 rfl) rfl e15
      refine g_cmp_ge 19 45 (gd rfl) rfl rfl (fun c16 => ?_) (fun c16 => ?_)
      · skip
        refine g_aload_n 46 (gd rfl) rfl rfl ?_
        refine g_getA (q2 := 14) 49 (gd rfl) rfl rfl rfl rfl ?_
        refine g_iload_n 50 (gd rfl) rfl rfl ?_
        refine g_iaload 51 (gd rfl) rfl (n := 33) rfl (in_ix h2 rfl) (fun z50 e50 => ?_)
        have i50 := inv_I hIc7 (n := 33) (t := 0) 0 160 rfl (in_ix h2 rfl) rfl e50
        refine g_istore_n 52 (gd rfl) rfl (Nat.le_of_ble_eq_true rfl) ?_
        exact gg_w (by first | exact Nat.le_add_right _ _ | exact gw2 | exact gw3 | exact gwe rfl | exact gwf rfl | exact gwg rfl | exact gwh rfl | omega) (gg_f (gf_cons rfl (gf_cons rfl (gf_cons rfl (gf_cons rfl gf_nil)))) (ct52 161 sc7 z50 hIc7 hFc7 (in_w 0 160 i50 rfl) (m_in 161 (in_w 0 160 i50 rfl) rfl)))
      · skip
        have i16 := r_lt1 0 159 c16 j7_3 i15 rfl
        have i16a := r_lt2 1 160 c16 j7_3 i15 rfl
        refine g_aload_n 20 (gd rfl) rfl rfl ?_
        refine g_getA (q2 := 59) 23 (gd rfl) rfl rfl rfl rfl ?_
        refine g_aload_n 24 (gd rfl) rfl rfl ?_
        refine g_getA (q2 := 5) 27 (gd rfl) rfl rfl rfl rfl ?_
        refine g_aload_n 28 (gd rfl) rfl rfl ?_
        refine g_getA (q2 := 13) 31 (gd rfl) rfl rfl rfl rfl ?_
        refine g_iload_n 32 (gd rfl) rfl rfl ?_
        refine g_iaload 33 (gd rfl) rfl (n := 160) rfl (in_ix i16 rfl) (fun z32 e32 => ?_)
        have i32 := inv_I hIc7 (n := 160) (t := 0) 0 159 rfl (in_ix i16 rfl) rfl e32
        refine g_iaload 34 (gd rfl) rfl (n := 160) rfl (in_ix i32 rfl) (fun z33 e33 => ?_)
        have i33 := inv_I hIc7 (n := 160) (t := 0) 0 31 rfl (in_ix i32 rfl) rfl e33
        refine g_dup2 35 (gd rfl) rfl rfl rfl ?_
        refine g_iaload 36 (gd rfl) rfl (n := 32) rfl (in_ix i33 rfl) (fun z35 e35 => ?_)
        refine g_iconst 1 37 (gd rfl) rfl rfl ?_
        refine g_isub 38 (gd rfl) rfl (fun z37 e37 => ?_)
        refine g_iastore 39 (gd rfl) rfl (n := 32) rfl (in_ix i33 rfl) ?_
        have hI38 := inv_sI (q := 59) (j := z33.toNatClampNeg) hIc7 rfl (in_w (-2147483648) 2147483647 (i_rng z37) rfl)
        refine g_iinc 42 (gd rfl) rfl rfl (Nat.le_of_ble_eq_true rfl) (fun z39 e39 => ?_)
        have i39 := in_add 1 160 e39 i16 (in_c 1 rfl) rfl rfl
        refine g_goto 7 (gd rfl) rfl ?_
        exact gg_w (by first | exact Nat.le_add_right _ _ | exact gw2 | exact gw3 | exact gwe rfl | exact gwf rfl | exact gwg rfl | exact gwh rfl | omega) (gg_f (gf_cons rfl (gf_cons rfl (gf_cons rfl (gf_cons rfl gf_nil)))) (ih7 (sI sc7 59 z33.toNatClampNeg z37) z39 hI38 (fr_sI rfl hFc7) (in_w 0 160 i39 rfl) (m_up mm7 (t_add e39 i16 (in_c 1 rfl) rfl) (in_w 1 1 (in_c 1 rfl) rfl))))
  refine g_enter2 (k := 150) (N := 290702) (by first | exact dq1 hd rfl | exact dq0 hd rfl | exact dq2 hd rfl | exact dq3 hd rfl | omega) rfl (Nat.le_of_ble_eq_true rfl) ?_
  refine g_aload_n 1 (gd rfl) rfl rfl ?_
  refine g_getA (q2 := 12) 4 (gd rfl) rfl rfl rfl rfl ?_
  refine g_iload_n 5 (gd rfl) rfl rfl ?_
  refine g_iaload 6 (gd rfl) rfl (n := 33) rfl (in_ix h2 rfl) (fun z5 e5 => ?_)
  have i5 := inv_I hI (n := 33) (t := 0) 0 160 rfl (in_ix h2 rfl) rfl e5
  refine g_istore_n 7 (gd rfl) rfl (Nat.le_of_ble_eq_true rfl) ?_
  exact gg_w (by first | exact Nat.le_of_ble_eq_true rfl | omega) (gg_f (gf_cons rfl (gf_cons rfl (gf_cons rfl (gf_cons rfl gf_nil)))) (ct7 161 s z5 hI fr_rf (in_w 0 160 i5 rfl) (m_in 161 (in_w 0 160 i5 rfl) rfl)))

def fm_150_56_32 : FM := ([59], [], [], [])
/-- GraphHouse$Parts.loosen -/
theorem k_150_56_32 {Z : AmZ} {A : Nat → Nat} {s : GS} {ex : va_W} {d : Nat} {X : AmX} {x2 : Int32} {u_32_4 : Int32} {u_32_0 : Int32} (hd : 1 ≤ d) (hI : Inv s) (h2 : In x2 0 31) (e_32_4 : u_32_4 = s.2.2.1 32 4) (e_32_0 : u_32_0 = s.2.2.1 32 0) (p_0 : (u_32_4).toInt = (u_32_0).toInt) : GC Z d 150 [.ref (A 56), .ref (A 32), .int x2] (WW Z A s ++ ex) 0 0 (fun v u => ∃ t : GS, Inv t ∧ Fr fm_150_56_32 s t ∧ v = none ∧ u = WW Z A t ++ ex) X := by
  intro post xp hP hX
  have ro_32_4 := inv_F hI (-1) 4000 rfl e_32_4
  have ro_32_0 := inv_F hI 0 4000 rfl e_32_0
  have ct52 : ∀ (k52 : Nat) (sc52 : GS) (y52_3 : Int32), Inv sc52 → Fr fm_150_56_32 s sc52 → (In y52_3 0 160) → 160 - (y52_3).toInt < (k52 : Int) → GG Z (d - 1) 150 post (gx xp) (1 + k52 * 900) 52 (fun j => xlook j [(0, .ref (A 56)), (1, .ref (A 32)), (2, .int x2), (3, .int y52_3)]) [] (WW Z A sc52 ++ ex) 0 0 := by
    intro k52
    induction k52 with
    | zero => intro sc52 y52_3 hIc52 hFc52 j52_3 mm52; exact m_no mm52 j52_3 rfl
    | succ k52 ih52 =>
      intro sc52 y52_3 hIc52 hFc52 j52_3 mm52
      refine gg_w (M := 1 + k52 * 900 + 900) gws ?_
      refine g_iload_n 53 (gd rfl) rfl rfl ?_
      refine g_aload_n 54 (gd rfl) rfl rfl ?_
      refine g_getA (q2 := 44) 57 (gd rfl) rfl rfl rfl rfl ?_
      refine g_iload_n 58 (gd rfl) rfl rfl ?_
      refine g_iconst 1 59 (gd rfl) rfl rfl ?_
      refine g_iadd 60 (gd rfl) rfl (fun z59 e59 => ?_)
      have i59 := in_add 1 32 e59 h2 (in_c 1 rfl) rfl rfl
      refine g_iaload 61 (gd rfl) rfl (n := 33) rfl (in_ix i59 rfl) (fun z60 e60 => ?_)
      have i60 := inv_I hIc52 (n := 33) (t := 0) 0 160 rfl (in_ix i59 rfl) rfl e60
      refine g_cmp_ge 64 90 (gd rfl) rfl rfl (fun c61 => ?_) (fun c61 => ?_)
      · skip
        exact g_return (gd rfl) rfl (hP _ _ ⟨sc52, hIc52, hFc52, rfl, rfl⟩)
      · skip
        have i61 := r_lt1 0 159 c61 j52_3 i60 rfl
        have i61a := r_lt2 1 160 c61 j52_3 i60 rfl
        refine g_aload_n 65 (gd rfl) rfl rfl ?_
        refine g_getA (q2 := 59) 68 (gd rfl) rfl rfl rfl rfl ?_
        refine g_aload_n 69 (gd rfl) rfl rfl ?_
        refine g_getA (q2 := 34) 72 (gd rfl) rfl rfl rfl rfl ?_
        refine g_aload_n 73 (gd rfl) rfl rfl ?_
        refine g_getA (q2 := 45) 76 (gd rfl) rfl rfl rfl rfl ?_
        refine g_iload_n 77 (gd rfl) rfl rfl ?_
        refine g_iaload 78 (gd rfl) rfl (n := 160) rfl (in_ix i61 rfl) (fun z77 e77 => ?_)
        have i77 := inv_I hIc52 (n := 160) (t := 0) 0 159 rfl (in_ix i61 rfl) rfl e77
        refine g_iaload 79 (gd rfl) rfl (n := 160) rfl (in_ix i77 rfl) (fun z78 e78 => ?_)
        have i78 := inv_I hIc52 (n := 160) (t := 0) (-1) 31 rfl (in_ix i77 rfl) rfl e78
        have i79 : In z78 0 31 := by exact tg_b (b := 32) hIc52.2.2.1 rfl rfl rfl rfl rfl (by rw [← (show u_32_4 = sc52.2.2.1 32 4 from fr_F e_32_4 hFc52 rfl), ← (show u_32_0 = sc52.2.2.1 32 0 from fr_F e_32_0 hFc52 rfl)]; exact p_0) e60 i59 i61 c61 e77 e78 i78
        refine g_dup2 80 (gd rfl) rfl rfl rfl ?_
        refine g_iaload 81 (gd rfl) rfl (n := 32) rfl (in_ix i79 rfl) (fun z80 e80 => ?_)
        refine g_iconst 1 82 (gd rfl) rfl rfl ?_
        refine g_isub 83 (gd rfl) rfl (fun z82 e82 => ?_)
        refine g_iastore 84 (gd rfl) rfl (n := 32) rfl (in_ix i79 rfl) ?_
        have hI83 := inv_sI (q := 59) (j := z78.toNatClampNeg) hIc52 rfl (in_w (-2147483648) 2147483647 (i_rng z82) rfl)
        refine g_iinc 87 (gd rfl) rfl rfl (Nat.le_of_ble_eq_true rfl) (fun z84 e84 => ?_)
        have i84 := in_add 1 160 e84 i61 (in_c 1 rfl) rfl rfl
        refine g_goto 52 (gd rfl) rfl ?_
        exact gg_w (by first | exact Nat.le_add_right _ _ | exact gw2 | exact gw3 | exact gwe rfl | exact gwf rfl | exact gwg rfl | exact gwh rfl | omega) (gg_f (gf_cons rfl (gf_cons rfl (gf_cons rfl (gf_cons rfl gf_nil)))) (ih52 (sI sc52 59 z78.toNatClampNeg z82) z84 hI83 (fr_sI rfl hFc52) (in_w 0 160 i84 rfl) (m_up mm52 (t_add e84 i61 (in_c 1 rfl) rfl) (in_w 1 1 (in_c 1 rfl) rfl))))
  have ct7 : ∀ (k7 : Nat) (sc7 : GS) (y7_3 : Int32), Inv sc7 → Fr fm_150_56_32 s sc7 → (In y7_3 0 160) → 160 - (y7_3).toInt < (k7 : Int) → GG Z (d - 1) 150 post (gx xp) (144902 + k7 * 900) 7 (fun j => xlook j [(0, .ref (A 56)), (1, .ref (A 32)), (2, .int x2), (3, .int y7_3)]) [] (WW Z A sc7 ++ ex) 0 0 := by
    intro k7
    induction k7 with
    | zero => intro sc7 y7_3 hIc7 hFc7 j7_3 mm7; exact m_no mm7 j7_3 rfl
    | succ k7 ih7 =>
      intro sc7 y7_3 hIc7 hFc7 j7_3 mm7
      refine gg_w (M := 144902 + k7 * 900 + 900) gws ?_
      refine g_iload_n 8 (gd rfl) rfl rfl ?_
      refine g_aload_n 9 (gd rfl) rfl rfl ?_
      refine g_getA (q2 := 42) 12 (gd rfl) rfl rfl rfl rfl ?_
      refine g_iload_n 13 (gd rfl) rfl rfl ?_
      refine g_iconst 1 14 (gd rfl) rfl rfl ?_
      refine g_iadd 15 (gd rfl) rfl (fun z14 e14 => ?_)
      have i14 := in_add 1 32 e14 h2 (in_c 1 rfl) rfl rfl
      refine g_iaload 16 (gd rfl) rfl (n := 33) rfl (in_ix i14 rfl) (fun z15 e15 => ?_)
      have i15 := inv_I hIc7 (n := 33) (t := 0) 0 160 rfl (in_ix i14 rfl) rfl e15
      refine g_cmp_ge 19 45 (gd rfl) rfl rfl (fun c16 => ?_) (fun c16 => ?_)
      · skip
        refine g_aload_n 46 (gd rfl) rfl rfl ?_
        refine g_getA (q2 := 44) 49 (gd rfl) rfl rfl rfl rfl ?_
        refine g_iload_n 50 (gd rfl) rfl rfl ?_
        refine g_iaload 51 (gd rfl) rfl (n := 33) rfl (in_ix h2 rfl) (fun z50 e50 => ?_)
        have i50 := inv_I hIc7 (n := 33) (t := 0) 0 160 rfl (in_ix h2 rfl) rfl e50
        refine g_istore_n 52 (gd rfl) rfl (Nat.le_of_ble_eq_true rfl) ?_
        exact gg_w (by first | exact Nat.le_add_right _ _ | exact gw2 | exact gw3 | exact gwe rfl | exact gwf rfl | exact gwg rfl | exact gwh rfl | omega) (gg_f (gf_cons rfl (gf_cons rfl (gf_cons rfl (gf_cons rfl gf_nil)))) (ct52 161 sc7 z50 hIc7 hFc7 (in_w 0 160 i50 rfl) (m_in 161 (in_w 0 160 i50 rfl) rfl)))
      · skip
        have i16 := r_lt1 0 159 c16 j7_3 i15 rfl
        have i16a := r_lt2 1 160 c16 j7_3 i15 rfl
        refine g_aload_n 20 (gd rfl) rfl rfl ?_
        refine g_getA (q2 := 59) 23 (gd rfl) rfl rfl rfl rfl ?_
        refine g_aload_n 24 (gd rfl) rfl rfl ?_
        refine g_getA (q2 := 35) 27 (gd rfl) rfl rfl rfl rfl ?_
        refine g_aload_n 28 (gd rfl) rfl rfl ?_
        refine g_getA (q2 := 43) 31 (gd rfl) rfl rfl rfl rfl ?_
        refine g_iload_n 32 (gd rfl) rfl rfl ?_
        refine g_iaload 33 (gd rfl) rfl (n := 160) rfl (in_ix i16 rfl) (fun z32 e32 => ?_)
        have i32 := inv_I hIc7 (n := 160) (t := 0) 0 159 rfl (in_ix i16 rfl) rfl e32
        refine g_iaload 34 (gd rfl) rfl (n := 160) rfl (in_ix i32 rfl) (fun z33 e33 => ?_)
        have i33 := inv_I hIc7 (n := 160) (t := 0) 0 31 rfl (in_ix i32 rfl) rfl e33
        refine g_dup2 35 (gd rfl) rfl rfl rfl ?_
        refine g_iaload 36 (gd rfl) rfl (n := 32) rfl (in_ix i33 rfl) (fun z35 e35 => ?_)
        refine g_iconst 1 37 (gd rfl) rfl rfl ?_
        refine g_isub 38 (gd rfl) rfl (fun z37 e37 => ?_)
        refine g_iastore 39 (gd rfl) rfl (n := 32) rfl (in_ix i33 rfl) ?_
        have hI38 := inv_sI (q := 59) (j := z33.toNatClampNeg) hIc7 rfl (in_w (-2147483648) 2147483647 (i_rng z37) rfl)
        refine g_iinc 42 (gd rfl) rfl rfl (Nat.le_of_ble_eq_true rfl) (fun z39 e39 => ?_)
        have i39 := in_add 1 160 e39 i16 (in_c 1 rfl) rfl rfl
        refine g_goto 7 (gd rfl) rfl ?_
        exact gg_w (by first | exact Nat.le_add_right _ _ | exact gw2 | exact gw3 | exact gwe rfl | exact gwf rfl | exact gwg rfl | exact gwh rfl | omega) (gg_f (gf_cons rfl (gf_cons rfl (gf_cons rfl (gf_cons rfl gf_nil)))) (ih7 (sI sc7 59 z33.toNatClampNeg z37) z39 hI38 (fr_sI rfl hFc7) (in_w 0 160 i39 rfl) (m_up mm7 (t_add e39 i16 (in_c 1 rfl) rfl) (in_w 1 1 (in_c 1 rfl) rfl))))
  refine g_enter2 (k := 150) (N := 290702) (by first | exact dq1 hd rfl | exact dq0 hd rfl | exact dq2 hd rfl | exact dq3 hd rfl | omega) rfl (Nat.le_of_ble_eq_true rfl) ?_
  refine g_aload_n 1 (gd rfl) rfl rfl ?_
  refine g_getA (q2 := 42) 4 (gd rfl) rfl rfl rfl rfl ?_
  refine g_iload_n 5 (gd rfl) rfl rfl ?_
  refine g_iaload 6 (gd rfl) rfl (n := 33) rfl (in_ix h2 rfl) (fun z5 e5 => ?_)
  have i5 := inv_I hI (n := 33) (t := 0) 0 160 rfl (in_ix h2 rfl) rfl e5
  refine g_istore_n 7 (gd rfl) rfl (Nat.le_of_ble_eq_true rfl) ?_
  exact gg_w (by first | exact Nat.le_of_ble_eq_true rfl | omega) (gg_f (gf_cons rfl (gf_cons rfl (gf_cons rfl (gf_cons rfl gf_nil)))) (ct7 161 s z5 hI fr_rf (in_w 0 160 i5 rfl) (m_in 161 (in_w 0 160 i5 rfl) rfl)))

def fm_151_56_2 : FM := ([9, 10, 11, 12, 13, 14, 15], [], [(2, 4)], [])
/-- GraphHouse$Parts.triangles -/
theorem k_151_56_2 {Z : AmZ} {A : Nat → Nat} {s : GS} {ex : va_W} {d : Nat} {X : AmX}  (hd : 4 ≤ d) (hI : Inv s)  : GC Z d 151 [.ref (A 56), .ref (A 2)] (WW Z A s ++ ex) 0 0 (fun v u => ∃ t : GS, Inv t ∧ Fr fm_151_56_2 s t ∧ ∃ z : Int64, v = some (.long z) ∧ u = WW Z A t ++ ex) X := by
  intro post xp hP hX
  obtain ⟨u_2_1, e_2_1⟩ : ∃ w, w = s.2.2.1 2 1 := ⟨_, rfl⟩
  have ro_2_1 := inv_F hI 0 32 rfl e_2_1
  have ct9 : ∀ (k9 : Nat) (sc9 : GS) (y9_2 : Int64) (y9_4 : Int32), Inv sc9 → Fr fm_151_56_2 s sc9 → (In y9_4 0 32) → 32 - (y9_4).toInt < (k9 : Int) → GG Z (d - 1) 151 post (gx xp) (1 + k9 * 3865470569101) 9 (fun j => xlook j [(0, .ref (A 56)), (1, .ref (A 2)), (2, .long y9_2), (4, .int y9_4)]) [] (WW Z A sc9 ++ ex) 0 0 := by
    intro k9
    induction k9 with
    | zero => intro sc9 y9_2 y9_4 hIc9 hFc9 j9_4 mm9; exact m_no mm9 j9_4 rfl
    | succ k9 ih9 =>
      intro sc9 y9_2 y9_4 hIc9 hFc9 j9_4 mm9
      refine gg_w (M := 1 + k9 * 3865470569101 + 3865470569101) gws ?_
      have ct27 : ∀ (k27 : Nat) (sc27 : GS) (y27_2 : Int64) (y27_5 : Int32), Inv sc27 → Fr fm_151_56_2 s sc27 → (In y9_4 0 31) → ((y27_5.toBitVec.toNat : Nat) : Int) < (k27 : Int) → GG Z (d - 1) 151 post (gx xp) (1 + k9 * 3865470569101 + 1 + k27 * 900) 27 (fun j => xlook j [(0, .ref (A 56)), (1, .ref (A 2)), (2, .long y27_2), (4, .int y9_4), (5, .int y27_5)]) [] (WW Z A sc27 ++ ex) 0 0 := by
        intro k27
        induction k27 with
        | zero => intro sc27 y27_2 y27_5 hIc27 hFc27 j27_4 mm27; exact absurd mm27 (Int.not_lt.mpr (Int.natCast_nonneg _))
        | succ k27 ih27 =>
          intro sc27 y27_2 y27_5 hIc27 hFc27 j27_4 mm27
          refine gg_w (M := 1 + k9 * 3865470569101 + 1 + k27 * 900 + 900) gws ?_
          refine g_iload 29 (gd rfl) rfl rfl ?_
          refine g_if_eq 32 69 (gd rfl) rfl rfl (fun c29 => ?_) (fun c29 => ?_)
          · skip
            have i29 := z_eq 0 0 c29 (i_rng y27_5) rfl
            refine g_iinc 72 (gd rfl) rfl rfl (Nat.le_of_ble_eq_true rfl) (fun z69 e69 => ?_)
            have i69 := in_add 1 32 e69 j27_4 (in_c 1 rfl) rfl rfl
            refine g_goto 9 (gd rfl) rfl ?_
            exact gg_w (by first | exact Nat.le_add_right _ _ | exact gw2 | exact gw3 | exact gwe rfl | exact gwf rfl | exact gwg rfl | exact gwh rfl | omega) (gg_f (gf_cons rfl (gf_cons rfl (gf_cons rfl (gf_cons rfl gf_nil)))) (ih9 sc27 y27_2 z69 hIc27 hFc27 (in_w 0 32 i69 rfl) (m_up mm9 (t_add e69 j27_4 (in_c 1 rfl) rfl) (in_w 1 1 (in_c 1 rfl) rfl))))
          · skip
            refine g_lload_n 33 (gd rfl) rfl rfl ?_
            refine g_aload_n 34 (gd rfl) rfl rfl ?_
            refine g_getA (q2 := 9) 37 (gd rfl) rfl rfl rfl rfl ?_
            refine g_iload 39 (gd rfl) rfl rfl ?_
            refine g_iaload 40 (gd rfl) rfl (n := 32) rfl (in_ix j27_4 rfl) (fun z39 e39 => ?_)
            refine g_aload_n 41 (gd rfl) rfl rfl ?_
            refine g_getA (q2 := 9) 44 (gd rfl) rfl rfl rfl rfl ?_
            refine g_iload 46 (gd rfl) rfl rfl ?_
            refine g_calls (As := [.int y27_5]) (r := [.ref (A 9), .int z39, .long y27_2]) 49 (gd rfl) rfl rfl rfl rfl rfl (Nat.le_of_ble_eq_true rfl) (Nat.zero_le _) (Nat.zero_le _) (k_264n (by first | exact dq1 hd rfl | exact dq0 hd rfl | exact dq2 hd rfl | exact dq3 hd rfl | omega) c29) (fun v u h => ?_)
            obtain ⟨z46, rfl, rfl, i46, hb46, hl46⟩ := h
            show GG _ _ _ _ _ _ _ _ [.int z46, .ref (A 9), .int z39, .long y27_2] _ _ _
            refine g_iaload 50 (gd rfl) rfl (n := 32) rfl (in_ix i46 rfl) (fun z49 e49 => ?_)
            refine g_iand 51 (gd rfl) rfl (fun z50 e50 => ?_)
            refine g_calls (As := [.int z50]) (r := [.long y27_2]) 54 (gd rfl) rfl rfl rfl rfl rfl (Nat.le_of_ble_eq_true rfl) (Nat.zero_le _) (Nat.zero_le _) (k_414b (by first | exact dq1 hd rfl | exact dq0 hd rfl | exact dq2 hd rfl | exact dq3 hd rfl | omega) hIc27 ) (fun v u h => ?_)
            obtain ⟨z51, rfl, rfl, i51⟩ := h
            show GG _ _ _ _ _ _ _ _ [.int z51, .long y27_2] _ _ _
            refine g_i2l 55 (gd rfl) rfl (fun z54 e54 => ?_)
            have i54 := l_i e54 i51
            refine g_ladd 56 (gd rfl) rfl (fun z55 e55 => ?_)
            refine g_lstore_n 57 (gd rfl) rfl (Nat.le_of_ble_eq_true rfl) ?_
            refine g_iload 59 (gd rfl) rfl rfl ?_
            refine g_iload 61 (gd rfl) rfl rfl ?_
            refine g_iconst 1 62 (gd rfl) rfl rfl ?_
            refine g_isub 63 (gd rfl) rfl (fun z62 e62 => ?_)
            refine g_iand 64 (gd rfl) rfl (fun z63 e63 => ?_)
            refine g_istore 66 (gd rfl) rfl (Nat.le_of_ble_eq_true rfl) ?_
            refine g_goto 27 (gd rfl) rfl ?_
            exact gg_w (by first | exact Nat.le_add_right _ _ | exact gw2 | exact gw3 | exact gwe rfl | exact gwf rfl | exact gwg rfl | exact gwh rfl | omega) (gg_f (gf_cons rfl (gf_cons rfl (gf_cons rfl (gf_cons rfl (gf_cons rfl gf_nil))))) (ih27 sc27 z55 z63 hIc27 hFc27 (in_w 0 31 j27_4 rfl) (mb e63 e62 c29 mm27)))
      refine g_iload 11 (gd rfl) rfl rfl ?_
      refine g_aload_n 12 (gd rfl) rfl rfl ?_
      refine g_getI 15 (gd rfl) rfl rfl rfl (fun z12 e12 => ?_)
      have q12 : u_2_1 = z12 := (fr_F e_2_1 hFc9 rfl).trans e12.symm
      subst q12
      refine g_cmp_ge 18 75 (gd rfl) rfl rfl (fun c15 => ?_) (fun c15 => ?_)
      · skip
        refine g_lload_n 76 (gd rfl) rfl rfl ?_
        refine g_ldc2_w 6 79 (gd rfl) rfl rfl ?_
        refine g_ldiv 80 (gd rfl) rfl (by decide) (fun z79 e79 => ?_)
        exact g_lreturn (gd rfl) rfl (hP _ _ ⟨sc9, hIc9, hFc9, z79, rfl, rfl⟩)
      · skip
        have i15 := r_lt1 0 31 c15 j9_4 ro_2_1 rfl
        have i15a := r_lt2 1 32 c15 j9_4 ro_2_1 rfl
        refine g_aload_n 19 (gd rfl) rfl rfl ?_
        refine g_getA (q2 := 9) 22 (gd rfl) rfl rfl rfl rfl ?_
        refine g_iload 24 (gd rfl) rfl rfl ?_
        refine g_iaload 25 (gd rfl) rfl (n := 32) rfl (in_ix i15 rfl) (fun z24 e24 => ?_)
        refine g_istore 27 (gd rfl) rfl (Nat.le_of_ble_eq_true rfl) ?_
        exact gg_w (by first | exact Nat.le_add_right _ _ | exact gw2 | exact gw3 | exact gwe rfl | exact gwf rfl | exact gwg rfl | exact gwh rfl | omega) (gg_f (gf_cons rfl (gf_cons rfl (gf_cons rfl (gf_cons rfl (gf_cons rfl gf_nil))))) (ct27 4294967296 sc9 y9_2 z24 hIc9 hFc9 (in_w 0 31 i15 rfl) (mb_in _)))
  refine g_enter2 (k := 151) (N := 127560528781234) (by first | exact dq1 hd rfl | exact dq0 hd rfl | exact dq2 hd rfl | exact dq3 hd rfl | omega) rfl (Nat.le_of_ble_eq_true rfl) ?_
  refine g_aload_n 1 (gd rfl) rfl rfl ?_
  refine g_callv (X := _) (As := []) (r := []) (b := A 2) (q := 2) 4 (gd rfl) rfl rfl rfl rfl rfl (ww_o rfl) (Nat.le_of_ble_eq_true rfl) (Nat.zero_le _) (Nat.zero_le _) (k_106_2 (by first | exact dq1 hd rfl | exact dq0 hd rfl | exact dq2 hd rfl | exact dq3 hd rfl | omega) hI ) (fun e u h => h) (fun v u h => ?_)
  obtain ⟨s1, hI1, hF1, n1, rfl, rfl⟩ := h
  obtain ⟨z1a, e1⟩ : ∃ w, w = s1.2.2.1 2 4 := ⟨_, rfl⟩
  have i1a := inv_F hI1 (-1) 4000 rfl e1
  obtain ⟨z1b, e1a⟩ : ∃ w, w = s1.2.2.1 2 0 := ⟨_, rfl⟩
  have i1b := inv_F hI1 0 4000 rfl e1a
  rw [← (show z1a = s1.2.2.1 2 4 from e1)] at n1
  rw [← (show z1b = s1.2.2.1 2 0 from e1a)] at n1
  show GG _ _ _ _ _ _ _ _ [] _ _ _
  refine g_lconst 0 5 (gd rfl) rfl rfl ?_
  refine g_lstore_n 6 (gd rfl) rfl (Nat.le_of_ble_eq_true rfl) ?_
  refine g_iconst 0 7 (gd rfl) rfl rfl ?_
  refine g_istore 9 (gd rfl) rfl (Nat.le_of_ble_eq_true rfl) ?_
  exact gg_w (by first | exact Nat.le_of_ble_eq_true rfl | omega) (gg_f (gf_cons rfl (gf_cons rfl (gf_cons rfl (gf_cons rfl gf_nil)))) (ct9 33 s1 (Int64.ofInt 0) (Int32.ofInt 0) hI1 (fr_tr rfl fr_rf hF1) (in_w 0 32 (in_c 0 rfl) rfl) (m_in 33 (in_w 0 32 (in_c 0 rfl) rfl) rfl)))

def fm_151_56_32 : FM := ([39, 40, 41, 42, 43, 44, 45], [], [(32, 4)], [])
/-- GraphHouse$Parts.triangles -/
theorem k_151_56_32 {Z : AmZ} {A : Nat → Nat} {s : GS} {ex : va_W} {d : Nat} {X : AmX}  (hd : 4 ≤ d) (hI : Inv s)  : GC Z d 151 [.ref (A 56), .ref (A 32)] (WW Z A s ++ ex) 0 0 (fun v u => ∃ t : GS, Inv t ∧ Fr fm_151_56_32 s t ∧ ∃ z : Int64, v = some (.long z) ∧ u = WW Z A t ++ ex) X := by
  intro post xp hP hX
  obtain ⟨u_32_1, e_32_1⟩ : ∃ w, w = s.2.2.1 32 1 := ⟨_, rfl⟩
  have ro_32_1 := inv_F hI 0 32 rfl e_32_1
  have ct9 : ∀ (k9 : Nat) (sc9 : GS) (y9_2 : Int64) (y9_4 : Int32), Inv sc9 → Fr fm_151_56_32 s sc9 → (In y9_4 0 32) → 32 - (y9_4).toInt < (k9 : Int) → GG Z (d - 1) 151 post (gx xp) (1 + k9 * 3865470569101) 9 (fun j => xlook j [(0, .ref (A 56)), (1, .ref (A 32)), (2, .long y9_2), (4, .int y9_4)]) [] (WW Z A sc9 ++ ex) 0 0 := by
    intro k9
    induction k9 with
    | zero => intro sc9 y9_2 y9_4 hIc9 hFc9 j9_4 mm9; exact m_no mm9 j9_4 rfl
    | succ k9 ih9 =>
      intro sc9 y9_2 y9_4 hIc9 hFc9 j9_4 mm9
      refine gg_w (M := 1 + k9 * 3865470569101 + 3865470569101) gws ?_
      have ct27 : ∀ (k27 : Nat) (sc27 : GS) (y27_2 : Int64) (y27_5 : Int32), Inv sc27 → Fr fm_151_56_32 s sc27 → (In y9_4 0 31) → ((y27_5.toBitVec.toNat : Nat) : Int) < (k27 : Int) → GG Z (d - 1) 151 post (gx xp) (1 + k9 * 3865470569101 + 1 + k27 * 900) 27 (fun j => xlook j [(0, .ref (A 56)), (1, .ref (A 32)), (2, .long y27_2), (4, .int y9_4), (5, .int y27_5)]) [] (WW Z A sc27 ++ ex) 0 0 := by
        intro k27
        induction k27 with
        | zero => intro sc27 y27_2 y27_5 hIc27 hFc27 j27_4 mm27; exact absurd mm27 (Int.not_lt.mpr (Int.natCast_nonneg _))
        | succ k27 ih27 =>
          intro sc27 y27_2 y27_5 hIc27 hFc27 j27_4 mm27
          refine gg_w (M := 1 + k9 * 3865470569101 + 1 + k27 * 900 + 900) gws ?_
          refine g_iload 29 (gd rfl) rfl rfl ?_
          refine g_if_eq 32 69 (gd rfl) rfl rfl (fun c29 => ?_) (fun c29 => ?_)
          · skip
            have i29 := z_eq 0 0 c29 (i_rng y27_5) rfl
            refine g_iinc 72 (gd rfl) rfl rfl (Nat.le_of_ble_eq_true rfl) (fun z69 e69 => ?_)
            have i69 := in_add 1 32 e69 j27_4 (in_c 1 rfl) rfl rfl
            refine g_goto 9 (gd rfl) rfl ?_
            exact gg_w (by first | exact Nat.le_add_right _ _ | exact gw2 | exact gw3 | exact gwe rfl | exact gwf rfl | exact gwg rfl | exact gwh rfl | omega) (gg_f (gf_cons rfl (gf_cons rfl (gf_cons rfl (gf_cons rfl gf_nil)))) (ih9 sc27 y27_2 z69 hIc27 hFc27 (in_w 0 32 i69 rfl) (m_up mm9 (t_add e69 j27_4 (in_c 1 rfl) rfl) (in_w 1 1 (in_c 1 rfl) rfl))))
          · skip
            refine g_lload_n 33 (gd rfl) rfl rfl ?_
            refine g_aload_n 34 (gd rfl) rfl rfl ?_
            refine g_getA (q2 := 39) 37 (gd rfl) rfl rfl rfl rfl ?_
            refine g_iload 39 (gd rfl) rfl rfl ?_
            refine g_iaload 40 (gd rfl) rfl (n := 32) rfl (in_ix j27_4 rfl) (fun z39 e39 => ?_)
            refine g_aload_n 41 (gd rfl) rfl rfl ?_
            refine g_getA (q2 := 39) 44 (gd rfl) rfl rfl rfl rfl ?_
            refine g_iload 46 (gd rfl) rfl rfl ?_
            refine g_calls (As := [.int y27_5]) (r := [.ref (A 39), .int z39, .long y27_2]) 49 (gd rfl) rfl rfl rfl rfl rfl (Nat.le_of_ble_eq_true rfl) (Nat.zero_le _) (Nat.zero_le _) (k_264n (by first | exact dq1 hd rfl | exact dq0 hd rfl | exact dq2 hd rfl | exact dq3 hd rfl | omega) c29) (fun v u h => ?_)
            obtain ⟨z46, rfl, rfl, i46, hb46, hl46⟩ := h
            show GG _ _ _ _ _ _ _ _ [.int z46, .ref (A 39), .int z39, .long y27_2] _ _ _
            refine g_iaload 50 (gd rfl) rfl (n := 32) rfl (in_ix i46 rfl) (fun z49 e49 => ?_)
            refine g_iand 51 (gd rfl) rfl (fun z50 e50 => ?_)
            refine g_calls (As := [.int z50]) (r := [.long y27_2]) 54 (gd rfl) rfl rfl rfl rfl rfl (Nat.le_of_ble_eq_true rfl) (Nat.zero_le _) (Nat.zero_le _) (k_414b (by first | exact dq1 hd rfl | exact dq0 hd rfl | exact dq2 hd rfl | exact dq3 hd rfl | omega) hIc27 ) (fun v u h => ?_)
            obtain ⟨z51, rfl, rfl, i51⟩ := h
            show GG _ _ _ _ _ _ _ _ [.int z51, .long y27_2] _ _ _
            refine g_i2l 55 (gd rfl) rfl (fun z54 e54 => ?_)
            have i54 := l_i e54 i51
            refine g_ladd 56 (gd rfl) rfl (fun z55 e55 => ?_)
            refine g_lstore_n 57 (gd rfl) rfl (Nat.le_of_ble_eq_true rfl) ?_
            refine g_iload 59 (gd rfl) rfl rfl ?_
            refine g_iload 61 (gd rfl) rfl rfl ?_
            refine g_iconst 1 62 (gd rfl) rfl rfl ?_
            refine g_isub 63 (gd rfl) rfl (fun z62 e62 => ?_)
            refine g_iand 64 (gd rfl) rfl (fun z63 e63 => ?_)
            refine g_istore 66 (gd rfl) rfl (Nat.le_of_ble_eq_true rfl) ?_
            refine g_goto 27 (gd rfl) rfl ?_
            exact gg_w (by first | exact Nat.le_add_right _ _ | exact gw2 | exact gw3 | exact gwe rfl | exact gwf rfl | exact gwg rfl | exact gwh rfl | omega) (gg_f (gf_cons rfl (gf_cons rfl (gf_cons rfl (gf_cons rfl (gf_cons rfl gf_nil))))) (ih27 sc27 z55 z63 hIc27 hFc27 (in_w 0 31 j27_4 rfl) (mb e63 e62 c29 mm27)))
      refine g_iload 11 (gd rfl) rfl rfl ?_
      refine g_aload_n 12 (gd rfl) rfl rfl ?_
      refine g_getI 15 (gd rfl) rfl rfl rfl (fun z12 e12 => ?_)
      have q12 : u_32_1 = z12 := (fr_F e_32_1 hFc9 rfl).trans e12.symm
      subst q12
      refine g_cmp_ge 18 75 (gd rfl) rfl rfl (fun c15 => ?_) (fun c15 => ?_)
      · skip
        refine g_lload_n 76 (gd rfl) rfl rfl ?_
        refine g_ldc2_w 6 79 (gd rfl) rfl rfl ?_
        refine g_ldiv 80 (gd rfl) rfl (by decide) (fun z79 e79 => ?_)
        exact g_lreturn (gd rfl) rfl (hP _ _ ⟨sc9, hIc9, hFc9, z79, rfl, rfl⟩)
      · skip
        have i15 := r_lt1 0 31 c15 j9_4 ro_32_1 rfl
        have i15a := r_lt2 1 32 c15 j9_4 ro_32_1 rfl
        refine g_aload_n 19 (gd rfl) rfl rfl ?_
        refine g_getA (q2 := 39) 22 (gd rfl) rfl rfl rfl rfl ?_
        refine g_iload 24 (gd rfl) rfl rfl ?_
        refine g_iaload 25 (gd rfl) rfl (n := 32) rfl (in_ix i15 rfl) (fun z24 e24 => ?_)
        refine g_istore 27 (gd rfl) rfl (Nat.le_of_ble_eq_true rfl) ?_
        exact gg_w (by first | exact Nat.le_add_right _ _ | exact gw2 | exact gw3 | exact gwe rfl | exact gwf rfl | exact gwg rfl | exact gwh rfl | omega) (gg_f (gf_cons rfl (gf_cons rfl (gf_cons rfl (gf_cons rfl (gf_cons rfl gf_nil))))) (ct27 4294967296 sc9 y9_2 z24 hIc9 hFc9 (in_w 0 31 i15 rfl) (mb_in _)))
  refine g_enter2 (k := 151) (N := 127560528781234) (by first | exact dq1 hd rfl | exact dq0 hd rfl | exact dq2 hd rfl | exact dq3 hd rfl | omega) rfl (Nat.le_of_ble_eq_true rfl) ?_
  refine g_aload_n 1 (gd rfl) rfl rfl ?_
  refine g_callv (X := _) (As := []) (r := []) (b := A 32) (q := 32) 4 (gd rfl) rfl rfl rfl rfl rfl (ww_o rfl) (Nat.le_of_ble_eq_true rfl) (Nat.zero_le _) (Nat.zero_le _) (k_106_32 (by first | exact dq1 hd rfl | exact dq0 hd rfl | exact dq2 hd rfl | exact dq3 hd rfl | omega) hI ) (fun e u h => h) (fun v u h => ?_)
  obtain ⟨s1, hI1, hF1, n1, rfl, rfl⟩ := h
  obtain ⟨z1a, e1⟩ : ∃ w, w = s1.2.2.1 32 4 := ⟨_, rfl⟩
  have i1a := inv_F hI1 (-1) 4000 rfl e1
  obtain ⟨z1b, e1a⟩ : ∃ w, w = s1.2.2.1 32 0 := ⟨_, rfl⟩
  have i1b := inv_F hI1 0 4000 rfl e1a
  rw [← (show z1a = s1.2.2.1 32 4 from e1)] at n1
  rw [← (show z1b = s1.2.2.1 32 0 from e1a)] at n1
  show GG _ _ _ _ _ _ _ _ [] _ _ _
  refine g_lconst 0 5 (gd rfl) rfl rfl ?_
  refine g_lstore_n 6 (gd rfl) rfl (Nat.le_of_ble_eq_true rfl) ?_
  refine g_iconst 0 7 (gd rfl) rfl rfl ?_
  refine g_istore 9 (gd rfl) rfl (Nat.le_of_ble_eq_true rfl) ?_
  exact gg_w (by first | exact Nat.le_of_ble_eq_true rfl | omega) (gg_f (gf_cons rfl (gf_cons rfl (gf_cons rfl (gf_cons rfl gf_nil)))) (ct9 33 s1 (Int64.ofInt 0) (Int32.ofInt 0) hI1 (fr_tr rfl fr_rf hF1) (in_w 0 32 (in_c 0 rfl) rfl) (m_in 33 (in_w 0 32 (in_c 0 rfl) rfl) rfl)))
