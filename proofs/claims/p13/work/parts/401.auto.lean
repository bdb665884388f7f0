/-! methods, by vc.py -/
/-- GraphHouse$Graph.copyOf -/
theorem k_93_16_2 {Z : AmZ} {A : Nat → Nat} {s : GS} {ex : va_W} {d : Nat} {X : AmX}  (hd : 1 ≤ d) (hI : Inv s)  : GC Z d 93 [.ref (A 16), .ref (A 2)] (WW Z A s ++ ex) 0 0 (fun v u => ∃ t : GS, Inv t ∧ v = none ∧ u = WW Z A t ++ ex) X := by
  intro post xp hP hX
  refine g_enter2 (k := 93) (N := 900) (by omega) rfl (Nat.le_of_ble_eq_true rfl) ?_
  refine g_aload_n 1 (gd rfl) rfl rfl ?_
  refine g_aload_n 2 (gd rfl) rfl rfl ?_
  refine g_getI 5 (gd rfl) rfl rfl rfl (fun z1 e2 => ?_)
  have i3 := inv_F hI 0 4000 rfl e2
  refine g_putI 8 (gd rfl) rfl rfl rfl rfl ?_
  have hI4 := inv_sF (q := 16) (j := 0) hI rfl (in_w 0 4000 i3 rfl)
  refine g_aload_n 9 (gd rfl) rfl rfl ?_
  refine g_aload_n 10 (gd rfl) rfl rfl ?_
  refine g_getI 13 (gd rfl) rfl rfl rfl (fun z5 e6 => ?_)
  have i7 := inv_F hI4 0 32 rfl e6
  refine g_putI 16 (gd rfl) rfl rfl rfl rfl ?_
  have hI8 := inv_sF (q := 16) (j := 1) hI4 rfl (in_w 0 32 i7 rfl)
  refine g_aload_n 17 (gd rfl) rfl rfl ?_
  refine g_aload_n 18 (gd rfl) rfl rfl ?_
  refine g_getI 21 (gd rfl) rfl rfl rfl (fun z9 e10 => ?_)
  have i11 := inv_F hI8 0 160 rfl e10
  refine g_putI 24 (gd rfl) rfl rfl rfl rfl ?_
  have hI12 := inv_sF (q := 16) (j := 2) hI8 rfl (in_w 0 160 i11 rfl)
  refine g_aload_n 25 (gd rfl) rfl rfl ?_
  refine g_aload_n 26 (gd rfl) rfl rfl ?_
  refine g_getI 29 (gd rfl) rfl rfl rfl (fun z13 e14 => ?_)
  have i15 := inv_F hI12 0 160 rfl e14
  refine g_putI 32 (gd rfl) rfl rfl rfl rfl ?_
  have hI16 := inv_sF (q := 16) (j := 3) hI12 rfl (in_w 0 160 i15 rfl)
  refine g_aload_n 33 (gd rfl) rfl rfl ?_
  refine g_iconst (-1) 34 (gd rfl) rfl rfl ?_
  refine g_putI 37 (gd rfl) rfl rfl rfl rfl ?_
  have hI17 := inv_sF (q := 16) (j := 4) hI16 rfl (in_w (-1) 4000 (in_c (-1) rfl) rfl)
  refine g_aload_n 38 (gd rfl) rfl rfl ?_
  refine g_getA (q2 := 3) 41 (gd rfl) rfl rfl rfl rfl rfl ?_
  refine g_iconst 0 42 (gd rfl) rfl rfl ?_
  refine g_aload_n 43 (gd rfl) rfl rfl ?_
  refine g_getA (q2 := 17) 46 (gd rfl) rfl rfl rfl rfl rfl ?_
  refine g_iconst 0 47 (gd rfl) rfl rfl ?_
  refine g_bipush 32 49 (gd rfl) rfl rfl ?_
  refine g_copyI (n0 := 32) (n1 := 32) 52 (gd rfl) rfl rfl rfl rfl (Nat.le_of_ble_eq_true rfl) (cp_0 (in_c 0 rfl) rfl) (cp_0 (in_c 0 rfl) rfl) (cp_0 (in_c 32 rfl) rfl) (cp_1 (in_c 0 rfl) (in_c 32 rfl) rfl) (cp_1 (in_c 0 rfl) (in_c 32 rfl) rfl) ?_
  have hI18 := inv_cpy (q := 17) (q2 := 3) (n0 := 32) (n1 := 32) (sp := (Int32.ofInt 0).toNatClampNeg) (dp := (Int32.ofInt 0).toNatClampNeg) (n := (Int32.ofInt 32).toNatClampNeg) hI17 rfl rfl (cp_2 (in_c 0 rfl) (in_c 32 rfl) rfl) rfl rfl rfl
  refine g_aload_n 53 (gd rfl) rfl rfl ?_
  refine g_getA (q2 := 4) 56 (gd rfl) rfl rfl rfl rfl rfl ?_
  refine g_iconst 0 57 (gd rfl) rfl rfl ?_
  refine g_aload_n 58 (gd rfl) rfl rfl ?_
  refine g_getA (q2 := 18) 61 (gd rfl) rfl rfl rfl rfl rfl ?_
  refine g_iconst 0 62 (gd rfl) rfl rfl ?_
  refine g_sipush 160 65 (gd rfl) rfl rfl ?_
  refine g_copyI (n0 := 160) (n1 := 160) 68 (gd rfl) rfl rfl rfl rfl (Nat.le_of_ble_eq_true rfl) (cp_0 (in_c 0 rfl) rfl) (cp_0 (in_c 0 rfl) rfl) (cp_0 (in_c 160 rfl) rfl) (cp_1 (in_c 0 rfl) (in_c 160 rfl) rfl) (cp_1 (in_c 0 rfl) (in_c 160 rfl) rfl) ?_
  have hI19 := inv_cpy (q := 18) (q2 := 4) (n0 := 160) (n1 := 160) (sp := (Int32.ofInt 0).toNatClampNeg) (dp := (Int32.ofInt 0).toNatClampNeg) (n := (Int32.ofInt 160).toNatClampNeg) hI18 rfl rfl (cp_2 (in_c 0 rfl) (in_c 160 rfl) rfl) rfl rfl rfl
  refine g_aload_n 69 (gd rfl) rfl rfl ?_
  refine g_getA (q2 := 5) 72 (gd rfl) rfl rfl rfl rfl rfl ?_
  refine g_iconst 0 73 (gd rfl) rfl rfl ?_
  refine g_aload_n 74 (gd rfl) rfl rfl ?_
  refine g_getA (q2 := 19) 77 (gd rfl) rfl rfl rfl rfl rfl ?_
  refine g_iconst 0 78 (gd rfl) rfl rfl ?_
  refine g_sipush 160 81 (gd rfl) rfl rfl ?_
  refine g_copyI (n0 := 160) (n1 := 160) 84 (gd rfl) rfl rfl rfl rfl (Nat.le_of_ble_eq_true rfl) (cp_0 (in_c 0 rfl) rfl) (cp_0 (in_c 0 rfl) rfl) (cp_0 (in_c 160 rfl) rfl) (cp_1 (in_c 0 rfl) (in_c 160 rfl) rfl) (cp_1 (in_c 0 rfl) (in_c 160 rfl) rfl) ?_
  have hI20 := inv_cpy (q := 19) (q2 := 5) (n0 := 160) (n1 := 160) (sp := (Int32.ofInt 0).toNatClampNeg) (dp := (Int32.ofInt 0).toNatClampNeg) (n := (Int32.ofInt 160).toNatClampNeg) hI19 rfl rfl (cp_2 (in_c 0 rfl) (in_c 160 rfl) rfl) rfl rfl rfl
  refine g_aload_n 85 (gd rfl) rfl rfl ?_
  refine g_getA (q2 := 6) 88 (gd rfl) rfl rfl rfl rfl rfl ?_
  refine g_iconst 0 89 (gd rfl) rfl rfl ?_
  refine g_aload_n 90 (gd rfl) rfl rfl ?_
  refine g_getA (q2 := 20) 93 (gd rfl) rfl rfl rfl rfl rfl ?_
  refine g_iconst 0 94 (gd rfl) rfl rfl ?_
  refine g_sipush 160 97 (gd rfl) rfl rfl ?_
  refine g_copyI (n0 := 160) (n1 := 160) 100 (gd rfl) rfl rfl rfl rfl (Nat.le_of_ble_eq_true rfl) (cp_0 (in_c 0 rfl) rfl) (cp_0 (in_c 0 rfl) rfl) (cp_0 (in_c 160 rfl) rfl) (cp_1 (in_c 0 rfl) (in_c 160 rfl) rfl) (cp_1 (in_c 0 rfl) (in_c 160 rfl) rfl) ?_
  have hI21 := inv_cpy (q := 20) (q2 := 6) (n0 := 160) (n1 := 160) (sp := (Int32.ofInt 0).toNatClampNeg) (dp := (Int32.ofInt 0).toNatClampNeg) (n := (Int32.ofInt 160).toNatClampNeg) hI20 rfl rfl (cp_2 (in_c 0 rfl) (in_c 160 rfl) rfl) rfl rfl rfl
  refine g_aload_n 101 (gd rfl) rfl rfl ?_
  refine g_getA (q2 := 7) 104 (gd rfl) rfl rfl rfl rfl rfl ?_
  refine g_iconst 0 105 (gd rfl) rfl rfl ?_
  refine g_aload_n 106 (gd rfl) rfl rfl ?_
  refine g_getA (q2 := 21) 109 (gd rfl) rfl rfl rfl rfl rfl ?_
  refine g_iconst 0 110 (gd rfl) rfl rfl ?_
  refine g_sipush 160 113 (gd rfl) rfl rfl ?_
  refine g_copyI (n0 := 160) (n1 := 160) 116 (gd rfl) rfl rfl rfl rfl (Nat.le_of_ble_eq_true rfl) (cp_0 (in_c 0 rfl) rfl) (cp_0 (in_c 0 rfl) rfl) (cp_0 (in_c 160 rfl) rfl) (cp_1 (in_c 0 rfl) (in_c 160 rfl) rfl) (cp_1 (in_c 0 rfl) (in_c 160 rfl) rfl) ?_
  have hI22 := inv_cpy (q := 21) (q2 := 7) (n0 := 160) (n1 := 160) (sp := (Int32.ofInt 0).toNatClampNeg) (dp := (Int32.ofInt 0).toNatClampNeg) (n := (Int32.ofInt 160).toNatClampNeg) hI21 rfl rfl (cp_2 (in_c 0 rfl) (in_c 160 rfl) rfl) rfl rfl rfl
  refine g_aload_n 117 (gd rfl) rfl rfl ?_
  refine g_getA (q2 := 8) 120 (gd rfl) rfl rfl rfl rfl rfl ?_
  refine g_iconst 0 121 (gd rfl) rfl rfl ?_
  refine g_aload_n 122 (gd rfl) rfl rfl ?_
  refine g_getA (q2 := 22) 125 (gd rfl) rfl rfl rfl rfl rfl ?_
  refine g_iconst 0 126 (gd rfl) rfl rfl ?_
  refine g_sipush 160 129 (gd rfl) rfl rfl ?_
  refine g_copyI (n0 := 160) (n1 := 160) 132 (gd rfl) rfl rfl rfl rfl (Nat.le_of_ble_eq_true rfl) (cp_0 (in_c 0 rfl) rfl) (cp_0 (in_c 0 rfl) rfl) (cp_0 (in_c 160 rfl) rfl) (cp_1 (in_c 0 rfl) (in_c 160 rfl) rfl) (cp_1 (in_c 0 rfl) (in_c 160 rfl) rfl) ?_
  have hI23 := inv_cpy (q := 22) (q2 := 8) (n0 := 160) (n1 := 160) (sp := (Int32.ofInt 0).toNatClampNeg) (dp := (Int32.ofInt 0).toNatClampNeg) (n := (Int32.ofInt 160).toNatClampNeg) hI22 rfl rfl (cp_2 (in_c 0 rfl) (in_c 160 rfl) rfl) rfl rfl rfl
  exact g_return (gd rfl) rfl (hP _ _ ⟨(sA (sA (sA (sA (sA (sA (sF (sF (sF (sF (sF s 16 0 z1) 16 1 z5) 16 2 z9) 16 3 z13) 16 4 (Int32.ofInt (-1))) 17 (va_cpy ((sF (sF (sF (sF (sF s 16 0 z1) 16 1 z5) 16 2 z9) 16 3 z13) 16 4 (Int32.ofInt (-1))).1 3) ((sF (sF (sF (sF (sF s 16 0 z1) 16 1 z5) 16 2 z9) 16 3 z13) 16 4 (Int32.ofInt (-1))).1 17) (Int32.ofInt 0).toNatClampNeg (Int32.ofInt 0).toNatClampNeg (Int32.ofInt 32).toNatClampNeg)) 18 (va_cpy ((sA (sF (sF (sF (sF (sF s 16 0 z1) 16 1 z5) 16 2 z9) 16 3 z13) 16 4 (Int32.ofInt (-1))) 17 (va_cpy ((sF (sF (sF (sF (sF s 16 0 z1) 16 1 z5) 16 2 z9) 16 3 z13) 16 4 (Int32.ofInt (-1))).1 3) ((sF (sF (sF (sF (sF s 16 0 z1) 16 1 z5) 16 2 z9) 16 3 z13) 16 4 (Int32.ofInt (-1))).1 17) (Int32.ofInt 0).toNatClampNeg (Int32.ofInt 0).toNatClampNeg (Int32.ofInt 32).toNatClampNeg)).1 4) ((sA (sF (sF (sF (sF (sF s 16 0 z1) 16 1 z5) 16 2 z9) 16 3 z13) 16 4 (Int32.ofInt (-1))) 17 (va_cpy ((sF (sF (sF (sF (sF s 16 0 z1) 16 1 z5) 16 2 z9) 16 3 z13) 16 4 (Int32.ofInt (-1))).1 3) ((sF (sF (sF (sF (sF s 16 0 z1) 16 1 z5) 16 2 z9) 16 3 z13) 16 4 (Int32.ofInt (-1))).1 17) (Int32.ofInt 0).toNatClampNeg (Int32.ofInt 0).toNatClampNeg (Int32.ofInt 32).toNatClampNeg)).1 18) (Int32.ofInt 0).toNatClampNeg (Int32.ofInt 0).toNatClampNeg (Int32.ofInt 160).toNatClampNeg)) 19 (va_cpy ((sA (sA (sF (sF (sF (sF (sF s 16 0 z1) 16 1 z5) 16 2 z9) 16 3 z13) 16 4 (Int32.ofInt (-1))) 17 (va_cpy ((sF (sF (sF (sF (sF s 16 0 z1) 16 1 z5) 16 2 z9) 16 3 z13) 16 4 (Int32.ofInt (-1))).1 3) ((sF (sF (sF (sF (sF s 16 0 z1) 16 1 z5) 16 2 z9) 16 3 z13) 16 4 (Int32.ofInt (-1))).1 17) (Int32.ofInt 0).toNatClampNeg (Int32.ofInt 0).toNatClampNeg (Int32.ofInt 32).toNatClampNeg)) 18 (va_cpy ((sA (sF (sF (sF (sF (sF s 16 0 z1) 16 1 z5) 16 2 z9) 16 3 z13) 16 4 (Int32.ofInt (-1))) 17 (va_cpy ((sF (sF (sF (sF (sF s 16 0 z1) 16 1 z5) 16 2 z9) 16 3 z13) 16 4 (Int32.ofInt (-1))).1 3) ((sF (sF (sF (sF (sF s 16 0 z1) 16 1 z5) 16 2 z9) 16 3 z13) 16 4 (Int32.ofInt (-1))).1 17) (Int32.ofInt 0).toNatClampNeg (Int32.ofInt 0).toNatClampNeg (Int32.ofInt 32).toNatClampNeg)).1 4) ((sA (sF (sF (sF (sF (sF s 16 0 z1) 16 1 z5) 16 2 z9) 16 3 z13) 16 4 (Int32.ofInt (-1))) 17 (va_cpy ((sF (sF (sF (sF (sF s 16 0 z1) 16 1 z5) 16 2 z9) 16 3 z13) 16 4 (Int32.ofInt (-1))).1 3) ((sF (sF (sF (sF (sF s 16 0 z1) 16 1 z5) 16 2 z9) 16 3 z13) 16 4 (Int32.ofInt (-1))).1 17) (Int32.ofInt 0).toNatClampNeg (Int32.ofInt 0).toNatClampNeg (Int32.ofInt 32).toNatClampNeg)).1 18) (Int32.ofInt 0).toNatClampNeg (Int32.ofInt 0).toNatClampNeg (Int32.ofInt 160).toNatClampNeg)).1 5) ((sA (sA (sF (sF (sF (sF (sF s 16 0 z1) 16 1 z5) 16 2 z9) 16 3 z13) 16 4 (Int32.ofInt (-1))) 17 (va_cpy ((sF (sF (sF (sF (sF s 16 0 z1) 16 1 z5) 16 2 z9) 16 3 z13) 16 4 (Int32.ofInt (-1))).1 3) ((sF (sF (sF (sF (sF s 16 0 z1) 16 1 z5) 16 2 z9) 16 3 z13) 16 4 (Int32.ofInt (-1))).1 17) (Int32.ofInt 0).toNatClampNeg (Int32.ofInt 0).toNatClampNeg (Int32.ofInt 32).toNatClampNeg)) 18 (va_cpy ((sA (sF (sF (sF (sF (sF s 16 0 z1) 16 1 z5) 16 2 z9) 16 3 z13) 16 4 (Int32.ofInt (-1))) 17 (va_cpy ((sF (sF (sF (sF (sF s 16 0 z1) 16 1 z5) 16 2 z9) 16 3 z13) 16 4 (Int32.ofInt (-1))).1 3) ((sF (sF (sF (sF (sF s 16 0 z1) 16 1 z5) 16 2 z9) 16 3 z13) 16 4 (Int32.ofInt (-1))).1 17) (Int32.ofInt 0).toNatClampNeg (Int32.ofInt 0).toNatClampNeg (Int32.ofInt 32).toNatClampNeg)).1 4) ((sA (sF (sF (sF (sF (sF s 16 0 z1) 16 1 z5) 16 2 z9) 16 3 z13) 16 4 (Int32.ofInt (-1))) 17 (va_cpy ((sF (sF (sF (sF (sF s 16 0 z1) 16 1 z5) 16 2 z9) 16 3 z13) 16 4 (Int32.ofInt (-1))).1 3) ((sF (sF (sF (sF (sF s 16 0 z1) 16 1 z5) 16 2 z9) 16 3 z13) 16 4 (Int32.ofInt (-1))).1 17) (Int32.ofInt 0).toNatClampNeg (Int32.ofInt 0).toNatClampNeg (Int32.ofInt 32).toNatClampNeg)).1 18) (Int32.ofInt 0).toNatClampNeg (Int32.ofInt 0).toNatClampNeg (Int32.ofInt 160).toNatClampNeg)).1 19) (Int32.ofInt 0).toNatClampNeg (Int32.ofInt 0).toNatClampNeg (Int32.ofInt 160).toNatClampNeg)) 20 (va_cpy ((sA (sA (sA (sF (sF (sF (sF (sF s 16 0 z1) 16 1 z5) 16 2 z9) 16 3 z13) 16 4 (Int32.ofInt (-1))) 17 (va_cpy ((sF (sF (sF (sF (sF s 16 0 z1) 16 1 z5) 16 2 z9) 16 3 z13) 16 4 (Int32.ofInt (-1))).1 3) ((sF (sF (sF (sF (sF s 16 0 z1) 16 1 z5) 16 2 z9) 16 3 z13) 16 4 (Int32.ofInt (-1))).1 17) (Int32.ofInt 0).toNatClampNeg (Int32.ofInt 0).toNatClampNeg (Int32.ofInt 32).toNatClampNeg)) 18 (va_cpy ((sA (sF (sF (sF (sF (sF s 16 0 z1) 16 1 z5) 16 2 z9) 16 3 z13) 16 4 (Int32.ofInt (-1))) 17 (va_cpy ((sF (sF (sF (sF (sF s 16 0 z1) 16 1 z5) 16 2 z9) 16 3 z13) 16 4 (Int32.ofInt (-1))).1 3) ((sF (sF (sF (sF (sF s 16 0 z1) 16 1 z5) 16 2 z9) 16 3 z13) 16 4 (Int32.ofInt (-1))).1 17) (Int32.ofInt 0).toNatClampNeg (Int32.ofInt 0).toNatClampNeg (Int32.ofInt 32).toNatClampNeg)).1 4) ((sA (sF (sF (sF (sF (sF s 16 0 z1) 16 1 z5) 16 2 z9) 16 3 z13) 16 4 (Int32.ofInt (-1))) 17 (va_cpy ((sF (sF (sF (sF (sF s 16 0 z1) 16 1 z5) 16 2 z9) 16 3 z13) 16 4 (Int32.ofInt (-1))).1 3) ((sF (sF (sF (sF (sF s 16 0 z1) 16 1 z5) 16 2 z9) 16 3 z13) 16 4 (Int32.ofInt (-1))).1 17) (Int32.ofInt 0).toNatClampNeg (Int32.ofInt 0).toNatClampNeg (Int32.ofInt 32).toNatClampNeg)).1 18) (Int32.ofInt 0).toNatClampNeg (Int32.ofInt 0).toNatClampNeg (Int32.ofInt 160).toNatClampNeg)) 19 (va_cpy ((sA (sA (sF (sF (sF (sF (sF s 16 0 z1) 16 1 z5) 16 2 z9) 16 3 z13) 16 4 (Int32.ofInt (-1))) 17 (va_cpy ((sF (sF (sF (sF (sF s 16 0 z1) 16 1 z5) 16 2 z9) 16 3 z13) 16 4 (Int32.ofInt (-1))).1 3) ((sF (sF (sF (sF (sF s 16 0 z1) 16 1 z5) 16 2 z9) 16 3 z13) 16 4 (Int32.ofInt (-1))).1 17) (Int32.ofInt 0).toNatClampNeg (Int32.ofInt 0).toNatClampNeg (Int32.ofInt 32).toNatClampNeg)) 18 (va_cpy ((sA (sF (sF (sF (sF (sF s 16 0 z1) 16 1 z5) 16 2 z9) 16 3 z13) 16 4 (Int32.ofInt (-1))) 17 (va_cpy ((sF (sF (sF (sF (sF s 16 0 z1) 16 1 z5) 16 2 z9) 16 3 z13) 16 4 (Int32.ofInt (-1))).1 3) ((sF (sF (sF (sF (sF s 16 0 z1) 16 1 z5) 16 2 z9) 16 3 z13) 16 4 (Int32.ofInt (-1))).1 17) (Int32.ofInt 0).toNatClampNeg (Int32.ofInt 0).toNatClampNeg (Int32.ofInt 32).toNatClampNeg)).1 4) ((sA (sF (sF (sF (sF (sF s 16 0 z1) 16 1 z5) 16 2 z9) 16 3 z13) 16 4 (Int32.ofInt (-1))) 17 (va_cpy ((sF (sF (sF (sF (sF s 16 0 z1) 16 1 z5) 16 2 z9) 16 3 z13) 16 4 (Int32.ofInt (-1))).1 3) ((sF (sF (sF (sF (sF s 16 0 z1) 16 1 z5) 16 2 z9) 16 3 z13) 16 4 (Int32.ofInt (-1))).1 17) (Int32.ofInt 0).toNatClampNeg (Int32.ofInt 0).toNatClampNeg (Int32.ofInt 32).toNatClampNeg)).1 18) (Int32.ofInt 0).toNatClampNeg (Int32.ofInt 0).toNatClampNeg (Int32.ofInt 160).toNatClampNeg)).1 5) ((sA (sA (sF (sF (sF (sF (sF s 16 0 z1) 16 1 z5) 16 2 z9) 16 3 z13) 16 4 (Int32.ofInt (-1))) 17 (va_cpy ((sF (sF (sF (sF (sF s 16 0 z1) 16 1 z5) 16 2 z9) 16 3 z13) 16 4 (Int32.ofInt (-1))).1 3) ((sF (sF (sF (sF (sF s 16 0 z1) 16 1 z5) 16 2 z9) 16 3 z13) 16 4 (Int32.ofInt (-1))).1 17) (Int32.ofInt 0).toNatClampNeg (Int32.ofInt 0).toNatClampNeg (Int32.ofInt 32).toNatClampNeg)) 18 (va_cpy ((sA (sF (sF (sF (sF (sF s 16 0 z1) 16 1 z5) 16 2 z9) 16 3 z13) 16 4 (Int32.ofInt (-1))) 17 (va_cpy ((sF (sF (sF (sF (sF s 16 0 z1) 16 1 z5) 16 2 z9) 16 3 z13) 16 4 (Int32.ofInt (-1))).1 3) ((sF (sF (sF (sF (sF s 16 0 z1) 16 1 z5) 16 2 z9) 16 3 z13) 16 4 (Int32.ofInt (-1))).1 17) (Int32.ofInt 0).toNatClampNeg (Int32.ofInt 0).toNatClampNeg (Int32.ofInt 32).toNatClampNeg)).1 4) ((sA (sF (sF (sF (sF (sF s 16 0 z1) 16 1 z5) 16 2 z9) 16 3 z13) 16 4 (Int32.ofInt (-1))) 17 (va_cpy ((sF (sF (sF (sF (sF s 16 0 z1) 16 1 z5) 16 2 z9) 16 3 z13) 16 4 (Int32.ofInt (-1))).1 3) ((sF (sF (sF (sF (sF s 16 0 z1) 16 1 z5) 16 2 z9) 16 3 z13) 16 4 (Int32.ofInt (-1))).1 17) (Int32.ofInt 0).toNatClampNeg (Int32.ofInt 0).toNatClampNeg (Int32.ofInt 32).toNatClampNeg)).1 18) (Int32.ofInt 0).toNatClampNeg (Int32.ofInt 0).toNatClampNeg (Int32.ofInt 160).toNatClampNeg)).1 19) (Int32.ofInt 0).toNatClampNeg (Int32.ofInt 0).toNatClampNeg (Int32.ofInt 160).toNatClampNeg)).1 6) ((sA (sA (sA (sF (sF (sF (sF (sF s 16 0 z1) 16 1 z5) 16 2 z9) 16 3 z13) 16 4 (Int32.ofInt (-1))) 17 (va_cpy ((sF (sF (sF (sF (sF s 16 0 z1) 16 1 z5) 16 2 z9) 16 3 z13) 16 4 (Int32.ofInt (-1))).1 3) ((sF (sF (sF (sF (sF s 16 0 z1) 16 1 z5) 16 2 z9) 16 3 z13) 16 4 (Int32.ofInt (-1))).1 17) (Int32.ofInt 0).toNatClampNeg (Int32.ofInt 0).toNatClampNeg (Int32.ofInt 32).toNatClampNeg)) 18 (va_cpy ((sA (sF (sF (sF (sF (sF s 16 0 z1) 16 1 z5) 16 2 z9) 16 3 z13) 16 4 (Int32.ofInt (-1))) 17 (va_cpy ((sF (sF (sF (sF (sF s 16 0 z1) 16 1 z5) 16 2 z9) 16 3 z13) 16 4 (Int32.ofInt (-1))).1 3) ((sF (sF (sF (sF (sF s 16 0 z1) 16 1 z5) 16 2 z9) 16 3 z13) 16 4 (Int32.ofInt (-1))).1 17) (Int32.ofInt 0).toNatClampNeg (Int32.ofInt 0).toNatClampNeg (Int32.ofInt 32).toNatClampNeg)).1 4) ((sA (sF (sF (sF (sF (sF s 16 0 z1) 16 1 z5) 16 2 z9) 16 3 z13) 16 4 (Int32.ofInt (-1))) 17 (va_cpy ((sF (sF (sF (sF (sF s 16 0 z1) 16 1 z5) 16 2 z9) 16 3 z13) 16 4 (Int32.ofInt (-1))).1 3) ((sF (sF (sF (sF (sF s 16 0 z1) 16 1 z5) 16 2 z9) 16 3 z13) 16 4 (Int32.ofInt (-1))).1 17) (Int32.ofInt 0).toNatClampNeg (Int32.ofInt 0).toNatClampNeg (Int32.ofInt 32).toNatClampNeg)).1 18) (Int32.ofInt 0).toNatClampNeg (Int32.ofInt 0).toNatClampNeg (Int32.ofInt 160).toNatClampNeg)) 19 (va_cpy ((sA (sA (sF (sF (sF (sF (sF s 16 0 z1) 16 1 z5) 16 2 z9) 16 3 z13) 16 4 (Int32.ofInt (-1))) 17 (va_cpy ((sF (sF (sF (sF (sF s 16 0 z1) 16 1 z5) 16 2 z9) 16 3 z13) 16 4 (Int32.ofInt (-1))).1 3) ((sF (sF (sF (sF (sF s 16 0 z1) 16 1 z5) 16 2 z9) 16 3 z13) 16 4 (Int32.ofInt (-1))).1 17) (Int32.ofInt 0).toNatClampNeg (Int32.ofInt 0).toNatClampNeg (Int32.ofInt 32).toNatClampNeg)) 18 (va_cpy ((sA (sF (sF (sF (sF (sF s 16 0 z1) 16 1 z5) 16 2 z9) 16 3 z13) 16 4 (Int32.ofInt (-1))) 17 (va_cpy ((sF (sF (sF (sF (sF s 16 0 z1) 16 1 z5) 16 2 z9) 16 3 z13) 16 4 (Int32.ofInt (-1))).1 3) ((sF (sF (sF (sF (sF s 16 0 z1) 16 1 z5) 16 2 z9) 16 3 z13) 16 4 (Int32.ofInt (-1))).1 17) (Int32.ofInt 0).toNatClampNeg (Int32.ofInt 0).toNatClampNeg (Int32.ofInt 32).toNatClampNeg)).1 4) ((sA (sF (sF (sF (sF (sF s 16 0 z1) 16 1 z5) 16 2 z9) 16 3 z13) 16 4 (Int32.ofInt (-1))) 17 (va_cpy ((sF (sF (sF (sF (sF s 16 0 z1) 16 1 z5) 16 2 z9) 16 3 z13) 16 4 (Int32.ofInt (-1))).1 3) ((sF (sF (sF (sF (sF s 16 0 z1) 16 1 z5) 16 2 z9) 16 3 z13) 16 4 (Int32.ofInt (-1))).1 17) (Int32.ofInt 0).toNatClampNeg (Int32.ofInt 0).toNatClampNeg (Int32.ofInt 32).toNatClampNeg)).1 18) (Int32.ofInt 0).toNatClampNeg (Int32.ofInt 0).toNatClampNeg (Int32.ofInt 160).toNatClampNeg)).1 5) ((sA (sA (sF (sF (sF (sF (sF s 16 0 z1) 16 1 z5) 16 2 z9) 16 3 z13) 16 4 (Int32.ofInt (-1))) 17 (va_cpy ((sF (sF (sF (sF (sF s 16 0 z1) 16 1 z5) 16 2 z9) 16 3 z13) 16 4 (Int32.ofInt (-1))).1 3) ((sF (sF (sF (sF (sF s 16 0 z1) 16 1 z5) 16 2 z9) 16 3 z13) 16 4 (Int32.ofInt (-1))).1 17) (Int32.ofInt 0).toNatClampNeg (Int32.ofInt 0).toNatClampNeg (Int32.ofInt 32).toNatClampNeg)) 18 (va_cpy ((sA (sF (sF (sF (sF (sF s 16 0 z1) 16 1 z5) 16 2 z9) 16 3 z13) 16 4 (Int32.ofInt (-1))) 17 (va_cpy ((sF (sF (sF (sF (sF s 16 0 z1) 16 1 z5) 16 2 z9) 16 3 z13) 16 4 (Int32.ofInt (-1))).1 3) ((sF (sF (sF (sF (sF s 16 0 z1) 16 1 z5) 16 2 z9) 16 3 z13) 16 4 (Int32.ofInt (-1))).1 17) (Int32.ofInt 0).toNatClampNeg (Int32.ofInt 0).toNatClampNeg (Int32.ofInt 32).toNatClampNeg)).1 4) ((sA (sF (sF (sF (sF (sF s 16 0 z1) 16 1 z5) 16 2 z9) 16 3 z13) 16 4 (Int32.ofInt (-1))) 17 (va_cpy ((sF (sF (sF (sF (sF s 16 0 z1) 16 1 z5) 16 2 z9) 16 3 z13) 16 4 (Int32.ofInt (-1))).1 3) ((sF (sF (sF (sF (sF s 16 0 z1) 16 1 z5) 16 2 z9) 16 3 z13) 16 4 (Int32.ofInt (-1))).1 17) (Int32.ofInt 0).toNatClampNeg (Int32.ofInt 0).toNatClampNeg (Int32.ofInt 32).toNatClampNeg)).1 18) (Int32.ofInt 0).toNatClampNeg (Int32.ofInt 0).toNatClampNeg (Int32.ofInt 160).toNatClampNeg)).1 19) (Int32.ofInt 0).toNatClampNeg (Int32.ofInt 0).toNatClampNeg (Int32.ofInt 160).toNatClampNeg)).1 20) (Int32.ofInt 0).toNatClampNeg (Int32.ofInt 0).toNatClampNeg (Int32.ofInt 160).toNatClampNeg)) 21 (va_cpy ((sA (sA (sA (sA (sF (sF (sF (sF (sF s 16 0 z1) 16 1 z5) 16 2 z9) 16 3 z13) 16 4 (Int32.ofInt (-1))) 17 (va_cpy ((sF (sF (sF (sF (sF s 16 0 z1) 16 1 z5) 16 2 z9) 16 3 z13) 16 4 (Int32.ofInt (-1))).1 3) ((sF (sF (sF (sF (sF s 16 0 z1) 16 1 z5) 16 2 z9) 16 3 z13) 16 4 (Int32.ofInt (-1))).1 17) (Int32.ofInt 0).toNatClampNeg (Int32.ofInt 0).toNatClampNeg (Int32.ofInt 32).toNatClampNeg)) 18 (va_cpy ((sA (sF (sF (sF (sF (sF s 16 0 z1) 16 1 z5) 16 2 z9) 16 3 z13) 16 4 (Int32.ofInt (-1))) 17 (va_cpy ((sF (sF (sF (sF (sF s 16 0 z1) 16 1 z5) 16 2 z9) 16 3 z13) 16 4 (Int32.ofInt (-1))).1 3) ((sF (sF (sF (sF (sF s 16 0 z1) 16 1 z5) 16 2 z9) 16 3 z13) 16 4 (Int32.ofInt (-1))).1 17) (Int32.ofInt 0).toNatClampNeg (Int32.ofInt 0).toNatClampNeg (Int32.ofInt 32).toNatClampNeg)).1 4) ((sA (sF (sF (sF (sF (sF s 16 0 z1) 16 1 z5) 16 2 z9) 16 3 z13) 16 4 (Int32.ofInt (-1))) 17 (va_cpy ((sF (sF (sF (sF (sF s 16 0 z1) 16 1 z5) 16 2 z9) 16 3 z13) 16 4 (Int32.ofInt (-1))).1 3) ((sF (sF (sF (sF (sF s 16 0 z1) 16 1 z5) 16 2 z9) 16 3 z13) 16 4 (Int32.ofInt (-1))).1 17) (Int32.ofInt 0).toNatClampNeg (Int32.ofInt 0).toNatClampNeg (Int32.ofInt 32).toNatClampNeg)).1 18) (Int32.ofInt 0).toNatClampNeg (Int32.ofInt 0).toNatClampNeg (Int32.ofInt 160).toNatClampNeg)) 19 (va_cpy ((sA (sA (sF (sF (sF (sF (sF s 16 0 z1) 16 1 z5) 16 2 z9) 16 3 z13) 16 4 (Int32.ofInt (-1))) 17 (va_cpy ((sF (sF (sF (sF (sF s 16 0 z1) 16 1 z5) 16 2 z9) 16 3 z13) 16 4 (Int32.ofInt (-1))).1 3) ((sF (sF (sF (sF (sF s 16 0 z1) 16 1 z5) 16 2 z9) 16 3 z13) 16 4 (Int32.ofInt (-1))).1 17) (Int32.ofInt 0).toNatClampNeg (Int32.ofInt 0).toNatClampNeg (Int32.ofInt 32).toNatClampNeg)) 18 (va_cpy ((sA (sF (sF (sF (sF (sF s 16 0 z1) 16 1 z5) 16 2 z9) 16 3 z13) 16 4 (Int32.ofInt (-1))) 17 (va_cpy ((sF (sF (sF (sF (sF s 16 0 z1) 16 1 z5) 16 2 z9) 16 3 z13) 16 4 (Int32.ofInt (-1))).1 3) ((sF (sF (sF (sF (sF s 16 0 z1) 16 1 z5) 16 2 z9) 16 3 z13) 16 4 (Int32.ofInt (-1))).1 17) (Int32.ofInt 0).toNatClampNeg (Int32.ofInt 0).toNatClampNeg (Int32.ofInt 32).toNatClampNeg)).1 4) ((sA (sF (sF (sF (sF (sF s 16 0 z1) 16 1 z5) 16 2 z9) 16 3 z13) 16 4 (Int32.ofInt (-1))) 17 (va_cpy ((sF (sF (sF (sF (sF s 16 0 z1) 16 1 z5) 16 2 z9) 16 3 z13) 16 4 (Int32.ofInt (-1))).1 3) ((sF (sF (sF (sF (sF s 16 0 z1) 16 1 z5) 16 2 z9) 16 3 z13) 16 4 (Int32.ofInt (-1))).1 17) (Int32.ofInt 0).toNatClampNeg (Int32.ofInt 0).toNatClampNeg (Int32.ofInt 32).toNatClampNeg)).1 18) (Int32.ofInt 0).toNatClampNeg (Int32.ofInt 0).toNatClampNeg (Int32.ofInt 160).toNatClampNeg)).1 5) ((sA (sA (sF (sF (sF (sF (sF s 16 0 z1) 16 1 z5) 16 2 z9) 16 3 z13) 16 4 (Int32.ofInt (-1))) 17 (va_cpy ((sF (sF (sF (sF (sF s 16 0 z1) 16 1 z5) 16 2 z9) 16 3 z13) 16 4 (Int32.ofInt (-1))).1 3) ((sF (sF (sF (sF (sF s 16 0 z1) 16 1 z5) 16 2 z9) 16 3 z13) 16 4 (Int32.ofInt (-1))).1 17) (Int32.ofInt 0).toNatClampNeg (Int32.ofInt 0).toNatClampNeg (Int32.ofInt 32).toNatClampNeg)) 18 (va_cpy ((sA (sF (sF (sF (sF (sF s 16 0 z1) 16 1 z5) 16 2 z9) 16 3 z13) 16 4 (Int32.ofInt (-1))) 17 (va_cpy ((sF (sF (sF (sF (sF s 16 0 z1) 16 1 z5) 16 2 z9) 16 3 z13) 16 4 (Int32.ofInt (-1))).1 3) ((sF (sF (sF (sF (sF s 16 0 z1) 16 1 z5) 16 2 z9) 16 3 z13) 16 4 (Int32.ofInt (-1))).1 17) (Int32.ofInt 0).toNatClampNeg (Int32.ofInt 0).toNatClampNeg (Int32.ofInt 32).toNatClampNeg)).1 4) ((sA (sF (sF (sF (sF (sF s 16 0 z1) 16 1 z5) 16 2 z9) 16 3 z13) 16 4 (Int32.ofInt (-1))) 17 (va_cpy ((sF (sF (sF (sF (sF s 16 0 z1) 16 1 z5) 16 2 z9) 16 3 z13) 16 4 (Int32.ofInt (-1))).1 3) ((sF (sF (sF (sF (sF s 16 0 z1) 16 1 z5) 16 2 z9) 16 3 z13) 16 4 (Int32.ofInt (-1))).1 17) (Int32.ofInt 0).toNatClampNeg (Int32.ofInt 0).toNatClampNeg (Int32.ofInt 32).toNatClampNeg)).1 18) (Int32.ofInt 0).toNatClampNeg (Int32.ofInt 0).toNatClampNeg (Int32.ofInt 160).toNatClampNeg)).1 19) (Int32.ofInt 0).toNatClampNeg (Int32.ofInt 0).toNatClampNeg (Int32.ofInt 160).toNatClampNeg)) 20 (va_cpy ((sA (sA (sA (sF (sF (sF (sF (sF s 16 0 z1) 16 1 z5) 16 2 z9) 16 3 z13) 16 4 (Int32.ofInt (-1))) 17 (va_cpy ((sF (sF (sF (sF (sF s 16 0 z1) 16 1 z5) 16 2 z9) 16 3 z13) 16 4 (Int32.ofInt (-1))).1 3) ((sF (sF (sF (sF (sF s 16 0 z1) 16 1 z5) 16 2 z9) 16 3 z13) 16 4 (Int32.ofInt (-1))).1 17) (Int32.ofInt 0).toNatClampNeg (Int32.ofInt 0).toNatClampNeg (Int32.ofInt 32).toNatClampNeg)) 18 (va_cpy ((sA (sF (sF (sF (sF (sF s 16 0 z1) 16 1 z5) 16 2 z9) 16 3 z13) 16 4 (Int32.ofInt (-1))) 17 (va_cpy ((sF (sF (sF (sF (sF s 16 0 z1) 16 1 z5) 16 2 z9) 16 3 z13) 16 4 (Int32.ofInt (-1))).1 3) ((sF (sF (sF (sF (sF s 16 0 z1) 16 1 z5) 16 2 z9) 16 3 z13) 16 4 (Int32.ofInt (-1))).1 17) (Int32.ofInt 0).toNatClampNeg (Int32.ofInt 0).toNatClampNeg (Int32.ofInt 32).toNatClampNeg)).1 4) ((sA (sF (sF (sF (sF (sF s 16 0 z1) 16 1 z5) 16 2 z9) 16 3 z13) 16 4 (Int32.ofInt (-1))) 17 (va_cpy ((sF (sF (sF (sF (sF s 16 0 z1) 16 1 z5) 16 2 z9) 16 3 z13) 16 4 (Int32.ofInt (-1))).1 3) ((sF (sF (sF (sF (sF s 16 0 z1) 16 1 z5) 16 2 z9) 16 3 z13) 16 4 (Int32.ofInt (-1))).1 17) (Int32.ofInt 0).toNatClampNeg (Int32.ofInt 0).toNatClampNeg (Int32.ofInt 32).toNatClampNeg)).1 18) (Int32.ofInt 0).toNatClampNeg (Int32.ofInt 0).toNatClampNeg (Int32.ofInt 160).toNatClampNeg)) 19 (va_cpy ((sA (sA (sF (sF (sF (sF (sF s 16 0 z1) 16 1 z5) 16 2 z9) 16 3 z13) 16 4 (Int32.ofInt (-1))) 17 (va_cpy ((sF (sF (sF (sF (sF s 16 0 z1) 16 1 z5) 16 2 z9) 16 3 z13) 16 4 (Int32.ofInt (-1))).1 3) ((sF (sF (sF (sF (sF s 16 0 z1) 16 1 z5) 16 2 z9) 16 3 z13) 16 4 (Int32.ofInt (-1))).1 17) (Int32.ofInt 0).toNatClampNeg (Int32.ofInt 0).toNatClampNeg (Int32.ofInt 32).toNatClampNeg)) 18 (va_cpy ((sA (sF (sF (sF (sF (sF s 16 0 z1) 16 1 z5) 16 2 z9) 16 3 z13) 16 4 (Int32.ofInt (-1))) 17 (va_cpy ((sF (sF (sF (sF (sF s 16 0 z1) 16 1 z5) 16 2 z9) 16 3 z13) 16 4 (Int32.ofInt (-1))).1 3) ((sF (sF (sF (sF (sF s 16 0 z1) 16 1 z5) 16 2 z9) 16 3 z13) 16 4 (Int32.ofInt (-1))).1 17) (Int32.ofInt 0).toNatClampNeg (Int32.ofInt 0).toNatClampNeg (Int32.ofInt 32).toNatClampNeg)).1 4) ((sA (sF (sF (sF (sF (sF s 16 0 z1) 16 1 z5) 16 2 z9) 16 3 z13) 16 4 (Int32.ofInt (-1))) 17 (va_cpy ((sF (sF (sF (sF (sF s 16 0 z1) 16 1 z5) 16 2 z9) 16 3 z13) 16 4 (Int32.ofInt (-1))).1 3) ((sF (sF (sF (sF (sF s 16 0 z1) 16 1 z5) 16 2 z9) 16 3 z13) 16 4 (Int32.ofInt (-1))).1 17) (Int32.ofInt 0).toNatClampNeg (Int32.ofInt 0).toNatClampNeg (Int32.ofInt 32).toNatClampNeg)).1 18) (Int32.ofInt 0).toNatClampNeg (Int32.ofInt 0).toNatClampNeg (Int32.ofInt 160).toNatClampNeg)).1 5) ((sA (sA (sF (sF (sF (sF (sF s 16 0 z1) 16 1 z5) 16 2 z9) 16 3 z13) 16 4 (Int32.ofInt (-1))) 17 (va_cpy ((sF (sF (sF (sF (sF s 16 0 z1) 16 1 z5) 16 2 z9) 16 3 z13) 16 4 (Int32.ofInt (-1))).1 3) ((sF (sF (sF (sF (sF s 16 0 z1) 16 1 z5) 16 2 z9) 16 3 z13) 16 4 (Int32.ofInt (-1))).1 17) (Int32.ofInt 0).toNatClampNeg (Int32.ofInt 0).toNatClampNeg (Int32.ofInt 32).toNatClampNeg)) 18 (va_cpy ((sA (sF (sF (sF (sF (sF s 16 0 z1) 16 1 z5) 16 2 z9) 16 3 z13) 16 4 (Int32.ofInt (-1))) 17 (va_cpy ((sF (sF (sF (sF (sF s 16 0 z1) 16 1 z5) 16 2 z9) 16 3 z13) 16 4 (Int32.ofInt (-1))).1 3) ((sF (sF (sF (sF (sF s 16 0 z1) 16 1 z5) 16 2 z9) 16 3 z13) 16 4 (Int32.ofInt (-1))).1 17) (Int32.ofInt 0).toNatClampNeg (Int32.ofInt 0).toNatClampNeg (Int32.ofInt 32).toNatClampNeg)).1 4) ((sA (sF (sF (sF (sF (sF s 16 0 z1) 16 1 z5) 16 2 z9) 16 3 z13) 16 4 (Int32.ofInt (-1))) 17 (va_cpy ((sF (sF (sF (sF (sF s 16 0 z1) 16 1 z5) 16 2 z9) 16 3 z13) 16 4 (Int32.ofInt (-1))).1 3) ((sF (sF (sF (sF (sF s 16 0 z1) 16 1 z5) 16 2 z9) 16 3 z13) 16 4 (Int32.ofInt (-1))).1 17) (Int32.ofInt 0).toNatClampNeg (Int32.ofInt 0).toNatClampNeg (Int32.ofInt 32).toNatClampNeg)).1 18) (Int32.ofInt 0).toNatClampNeg (Int32.ofInt 0).toNatClampNeg (Int32.ofInt 160).toNatClampNeg)).1 19) (Int32.ofInt 0).toNatClampNeg (Int32.ofInt 0).toNatClampNeg (Int32.ofInt 160).toNatClampNeg)).1 6) ((sA (sA (sA (sF (sF (sF (sF (sF s 16 0 z1) 16 1 z5) 16 2 z9) 16 3 z13) 16 4 (Int32.ofInt (-1))) 17 (va_cpy ((sF (sF (sF (sF (sF s 16 0 z1) 16 1 z5) 16 2 z9) 16 3 z13) 16 4 (Int32.ofInt (-1))).1 3) ((sF (sF (sF (sF (sF s 16 0 z1) 16 1 z5) 16 2 z9) 16 3 z13) 16 4 (Int32.ofInt (-1))).1 17) (Int32.ofInt 0).toNatClampNeg (Int32.ofInt 0).toNatClampNeg (Int32.ofInt 32).toNatClampNeg)) 18 (va_cpy ((sA (sF (sF (sF (sF (sF s 16 0 z1) 16 1 z5) 16 2 z9) 16 3 z13) 16 4 (Int32.ofInt (-1))) 17 (va_cpy ((sF (sF (sF (sF (sF s 16 0 z1) 16 1 z5) 16 2 z9) 16 3 z13) 16 4 (Int32.ofInt (-1))).1 3) ((sF (sF (sF (sF (sF s 16 0 z1) 16 1 z5) 16 2 z9) 16 3 z13) 16 4 (Int32.ofInt (-1))).1 17) (Int32.ofInt 0).toNatClampNeg (Int32.ofInt 0).toNatClampNeg (Int32.ofInt 32).toNatClampNeg)).1 4) ((sA (sF (sF (sF (sF (sF s 16 0 z1) 16 1 z5) 16 2 z9) 16 3 z13) 16 4 (Int32.ofInt (-1))) 17 (va_cpy ((sF (sF (sF (sF (sF s 16 0 z1) 16 1 z5) 16 2 z9) 16 3 z13) 16 4 (Int32.ofInt (-1))).1 3) ((sF (sF (sF (sF (sF s 16 0 z1) 16 1 z5) 16 2 z9) 16 3 z13) 16 4 (Int32.ofInt (-1))).1 17) (Int32.ofInt 0).toNatClampNeg (Int32.ofInt 0).toNatClampNeg (Int32.ofInt 32).toNatClampNeg)).1 18) (Int32.ofInt 0).toNatClampNeg (Int32.ofInt 0).toNatClampNeg (Int32.ofInt 160).toNatClampNeg)) 19 (va_cpy ((sA (sA (sF (sF (sF (sF (sF s 16 0 z1) 16 1 z5) 16 2 z9) 16 3 z13) 16 4 (Int32.ofInt (-1))) 17 (va_cpy ((sF (sF (sF (sF (sF s 16 0 z1) 16 1 z5) 16 2 z9) 16 3 z13) 16 4 (Int32.ofInt (-1))).1 3) ((sF (sF (sF (sF (sF s 16 0 z1) 16 1 z5) 16 2 z9) 16 3 z13) 16 4 (Int32.ofInt (-1))).1 17) (Int32.ofInt 0).toNatClampNeg (Int32.ofInt 0).toNatClampNeg (Int32.ofInt 32).toNatClampNeg)) 18 (va_cpy ((sA (sF (sF (sF (sF (sF s 16 0 z1) 16 1 z5) 16 2 z9) 16 3 z13) 16 4 (Int32.ofInt (-1))) 17 (va_cpy ((sF (sF (sF (sF (sF s 16 0 z1) 16 1 z5) 16 2 z9) 16 3 z13) 16 4 (Int32.ofInt (-1))).1 3) ((sF (sF (sF (sF (sF s 16 0 z1) 16 1 z5) 16 2 z9) 16 3 z13) 16 4 (Int32.ofInt (-1))).1 17) (Int32.ofInt 0).toNatClampNeg (Int32.ofInt 0).toNatClampNeg (Int32.ofInt 32).toNatClampNeg)).1 4) ((sA (sF (sF (sF (sF (sF s 16 0 z1) 16 1 z5) 16 2 z9) 16 3 z13) 16 4 (Int32.ofInt (-1))) 17 (va_cpy ((sF (sF (sF (sF (sF s 16 0 z1) 16 1 z5) 16 2 z9) 16 3 z13) 16 4 (Int32.ofInt (-1))).1 3) ((sF (sF (sF (sF (sF s 16 0 z1) 16 1 z5) 16 2 z9) 16 3 z13) 16 4 (Int32.ofInt (-1))).1 17) (Int32.ofInt 0).toNatClampNeg (Int32.ofInt 0).toNatClampNeg (Int32.ofInt 32).toNatClampNeg)).1 18) (Int32.ofInt 0).toNatClampNeg (Int32.ofInt 0).toNatClampNeg (Int32.ofInt 160).toNatClampNeg)).1 5) ((sA (sA (sF (sF (sF (sF (sF s 16 0 z1) 16 1 z5) 16 2 z9) 16 3 z13) 16 4 (Int32.ofInt (-1))) 17 (va_cpy ((sF (sF (sF (sF (sF s 16 0 z1) 16 1 z5) 16 2 z9) 16 3 z13) 16 4 (Int32.ofInt (-1))).1 3) ((sF (sF (sF (sF (sF s 16 0 z1) 16 1 z5) 16 2 z9) 16 3 z13) 16 4 (Int32.ofInt (-1))).1 17) (Int32.ofInt 0).toNatClampNeg (Int32.ofInt 0).toNatClampNeg (Int32.ofInt 32).toNatClampNeg)) 18 (va_cpy ((sA (sF (sF (sF (sF (sF s 16 0 z1) 16 1 z5) 16 2 z9) 16 3 z13) 16 4 (Int32.ofInt (-1))) 17 (va_cpy ((sF (sF (sF (sF (sF s 16 0 z1) 16 1 z5) 16 2 z9) 16 3 z13) 16 4 (Int32.ofInt (-1))).1 3) ((sF (sF (sF (sF (sF s 16 0 z1) 16 1 z5) 16 2 z9) 16 3 z13) 16 4 (Int32.ofInt (-1))).1 17) (Int32.ofInt 0).toNatClampNeg (Int32.ofInt 0).toNatClampNeg (Int32.ofInt 32).toNatClampNeg)).1 4) ((sA (sF (sF (sF (sF (sF s 16 0 z1) 16 1 z5) 16 2 z9) 16 3 z13) 16 4 (Int32.ofInt (-1))) 17 (va_cpy ((sF (sF (sF (sF (sF s 16 0 z1) 16 1 z5) 16 2 z9) 16 3 z13) 16 4 (Int32.ofInt (-1))).1 3) ((sF (sF (sF (sF (sF s 16 0 z1) 16 1 z5) 16 2 z9) 16 3 z13) 16 4 (Int32.ofInt (-1))).1 17) (Int32.ofInt 0).toNatClampNeg (Int32.ofInt 0).toNatClampNeg (Int32.ofInt 32).toNatClampNeg)).1 18) (Int32.ofInt 0).toNatClampNeg (Int32.ofInt 0).toNatClampNeg (Int32.ofInt 160).toNatClampNeg)).1 19) (Int32.ofInt 0).toNatClampNeg (Int32.ofInt 0).toNatClampNeg (Int32.ofInt 160).toNatClampNeg)).1 20) (Int32.ofInt 0).toNatClampNeg (Int32.ofInt 0).toNatClampNeg (Int32.ofInt 160).toNatClampNeg)).1 7) ((sA (sA (sA (sA (sF (sF (sF (sF (sF s 16 0 z1) 16 1 z5) 16 2 z9) 16 3 z13) 16 4 (Int32.ofInt (-1))) 17 (va_cpy ((sF (sF (sF (sF (sF s 16 0 z1) 16 1 z5) 16 2 z9) 16 3 z13) 16 4 (Int32.ofInt (-1))).1 3) ((sF (sF (sF (sF (sF s 16 0 z1) 16 1 z5) 16 2 z9) 16 3 z13) 16 4 (Int32.ofInt (-1))).1 17) (Int32.ofInt 0).toNatClampNeg (Int32.ofInt 0).toNatClampNeg (Int32.ofInt 32).toNatClampNeg)) 18 (va_cpy ((sA (sF (sF (sF (sF (sF s 16 0 z1) 16 1 z5) 16 2 z9) 16 3 z13) 16 4 (Int32.ofInt (-1))) 17 (va_cpy ((sF (sF (sF (sF (sF s 16 0 z1) 16 1 z5) 16 2 z9) 16 3 z13) 16 4 (Int32.ofInt (-1))).1 3) ((sF (sF (sF (sF (sF s 16 0 z1) 16 1 z5) 16 2 z9) 16 3 z13) 16 4 (Int32.ofInt (-1))).1 17) (Int32.ofInt 0).toNatClampNeg (Int32.ofInt 0).toNatClampNeg (Int32.ofInt 32).toNatClampNeg)).1 4) ((sA (sF (sF (sF (sF (sF s 16 0 z1) 16 1 z5) 16 2 z9) 16 3 z13) 16 4 (Int32.ofInt (-1))) 17 (va_cpy ((sF (sF (sF (sF (sF s 16 0 z1) 16 1 z5) 16 2 z9) 16 3 z13) 16 4 (Int32.ofInt (-1))).1 3) ((sF (sF (sF (sF (sF s 16 0 z1) 16 1 z5) 16 2 z9) 16 3 z13) 16 4 (Int32.ofInt (-1))).1 17) (Int32.ofInt 0).toNatClampNeg (Int32.ofInt 0).toNatClampNeg (Int32.ofInt 32).toNatClampNeg)).1 18) (Int32.ofInt 0).toNatClampNeg (Int32.ofInt 0).toNatClampNeg (Int32.ofInt 160).toNatClampNeg)) 19 (va_cpy ((sA (sA (sF (sF (sF (sF (sF s 16 0 z1) 16 1 z5) 16 2 z9) 16 3 z13) 16 4 (Int32.ofInt (-1))) 17 (va_cpy ((sF (sF (sF (sF (sF s 16 0 z1) 16 1 z5) 16 2 z9) 16 3 z13) 16 4 (Int32.ofInt (-1))).1 3) ((sF (sF (sF (sF (sF s 16 0 z1) 16 1 z5) 16 2 z9) 16 3 z13) 16 4 (Int32.ofInt (-1))).1 17) (Int32.ofInt 0).toNatClampNeg (Int32.ofInt 0).toNatClampNeg (Int32.ofInt 32).toNatClampNeg)) 18 (va_cpy ((sA (sF (sF (sF (sF (sF s 16 0 z1) 16 1 z5) 16 2 z9) 16 3 z13) 16 4 (Int32.ofInt (-1))) 17 (va_cpy ((sF (sF (sF (sF (sF s 16 0 z1) 16 1 z5) 16 2 z9) 16 3 z13) 16 4 (Int32.ofInt (-1))).1 3) ((sF (sF (sF (sF (sF s 16 0 z1) 16 1 z5) 16 2 z9) 16 3 z13) 16 4 (Int32.ofInt (-1))).1 17) (Int32.ofInt 0).toNatClampNeg (Int32.ofInt 0).toNatClampNeg (Int32.ofInt 32).toNatClampNeg)).1 4) ((sA (sF (sF (sF (sF (sF s 16 0 z1) 16 1 z5) 16 2 z9) 16 3 z13) 16 4 (Int32.ofInt (-1))) 17 (va_cpy ((sF (sF (sF (sF (sF s 16 0 z1) 16 1 z5) 16 2 z9) 16 3 z13) 16 4 (Int32.ofInt (-1))).1 3) ((sF (sF (sF (sF (sF s 16 0 z1) 16 1 z5) 16 2 z9) 16 3 z13) 16 4 (Int32.ofInt (-1))).1 17) (Int32.ofInt 0).toNatClampNeg (Int32.ofInt 0).toNatClampNeg (Int32.ofInt 32).toNatClampNeg)).1 18) (Int32.ofInt 0).toNatClampNeg (Int32.ofInt 0).toNatClampNeg (Int32.ofInt 160).toNatClampNeg)).1 5) ((sA (sA (sF (sF (sF (sF (sF s 16 0 z1) 16 1 z5) 16 2 z9) 16 3 z13) 16 4 (Int32.ofInt (-1))) 17 (va_cpy ((sF (sF (sF (sF (sF s 16 0 z1) 16 1 z5) 16 2 z9) 16 3 z13) 16 4 (Int32.ofInt (-1))).1 3) ((sF (sF (sF (sF (sF s 16 0 z1) 16 1 z5) 16 2 z9) 16 3 z13) 16 4 (Int32.ofInt (-1))).1 17) (Int32.ofInt 0).toNatClampNeg (Int32.ofInt 0).toNatClampNeg (Int32.ofInt 32).toNatClampNeg)) 18 (va_cpy ((sA (sF (sF (sF (sF (sF s 16 0 z1) 16 1 z5) 16 2 z9) 16 3 z13) 16 4 (Int32.ofInt (-1))) 17 (va_cpy ((sF (sF (sF (sF (sF s 16 0 z1) 16 1 z5) 16 2 z9) 16 3 z13) 16 4 (Int32.ofInt (-1))).1 3) ((sF (sF (sF (sF (sF s 16 0 z1) 16 1 z5) 16 2 z9) 16 3 z13) 16 4 (Int32.ofInt (-1))).1 17) (Int32.ofInt 0).toNatClampNeg (Int32.ofInt 0).toNatClampNeg (Int32.ofInt 32).toNatClampNeg)).1 4) ((sA (sF (sF (sF (sF (sF s 16 0 z1) 16 1 z5) 16 2 z9) 16 3 z13) 16 4 (Int32.ofInt (-1))) 17 (va_cpy ((sF (sF (sF (sF (sF s 16 0 z1) 16 1 z5) 16 2 z9) 16 3 z13) 16 4 (Int32.ofInt (-1))).1 3) ((sF (sF (sF (sF (sF s 16 0 z1) 16 1 z5) 16 2 z9) 16 3 z13) 16 4 (Int32.ofInt (-1))).1 17) (Int32.ofInt 0).toNatClampNeg (Int32.ofInt 0).toNatClampNeg (Int32.ofInt 32).toNatClampNeg)).1 18) (Int32.ofInt 0).toNatClampNeg (Int32.ofInt 0).toNatClampNeg (Int32.ofInt 160).toNatClampNeg)).1 19) (Int32.ofInt 0).toNatClampNeg (Int32.ofInt 0).toNatClampNeg (Int32.ofInt 160).toNatClampNeg)) 20 (va_cpy ((sA (sA (sA (sF (sF (sF (sF (sF s 16 0 z1) 16 1 z5) 16 2 z9) 16 3 z13) 16 4 (Int32.ofInt (-1))) 17 (va_cpy ((sF (sF (sF (sF (sF s 16 0 z1) 16 1 z5) 16 2 z9) 16 3 z13) 16 4 (Int32.ofInt (-1))).1 3) ((sF (sF (sF (sF (sF s 16 0 z1) 16 1 z5) 16 2 z9) 16 3 z13) 16 4 (Int32.ofInt (-1))).1 17) (Int32.ofInt 0).toNatClampNeg (Int32.ofInt 0).toNatClampNeg (Int32.ofInt 32).toNatClampNeg)) 18 (va_cpy ((sA (sF (sF (sF (sF (sF s 16 0 z1) 16 1 z5) 16 2 z9) 16 3 z13) 16 4 (Int32.ofInt (-1))) 17 (va_cpy ((sF (sF (sF (sF (sF s 16 0 z1) 16 1 z5) 16 2 z9) 16 3 z13) 16 4 (Int32.ofInt (-1))).1 3) ((sF (sF (sF (sF (sF s 16 0 z1) 16 1 z5) 16 2 z9) 16 3 z13) 16 4 (Int32.ofInt (-1))).1 17) (Int32.ofInt 0).toNatClampNeg (Int32.ofInt 0).toNatClampNeg (Int32.ofInt 32).toNatClampNeg)).1 4) ((sA (sF (sF (sF (sF (sF s 16 0 z1) 16 1 z5) 16 2 z9) 16 3 z13) 16 4 (Int32.ofInt (-1))) 17 (va_cpy ((sF (sF (sF (sF (sF s 16 0 z1) 16 1 z5) 16 2 z9) 16 3 z13) 16 4 (Int32.ofInt (-1))).1 3) ((sF (sF (sF (sF (sF s 16 0 z1) 16 1 z5) 16 2 z9) 16 3 z13) 16 4 (Int32.ofInt (-1))).1 17) (Int32.ofInt 0).toNatClampNeg (Int32.ofInt 0).toNatClampNeg (Int32.ofInt 32).toNatClampNeg)).1 18) (Int32.ofInt 0).toNatClampNeg (Int32.ofInt 0).toNatClampNeg (Int32.ofInt 160).toNatClampNeg)) 19 (va_cpy ((sA (sA (sF (sF (sF (sF (sF s 16 0 z1) 16 1 z5) 16 2 z9) 16 3 z13) 16 4 (Int32.ofInt (-1))) 17 (va_cpy ((sF (sF (sF (sF (sF s 16 0 z1) 16 1 z5) 16 2 z9) 16 3 z13) 16 4 (Int32.ofInt (-1))).1 3) ((sF (sF (sF (sF (sF s 16 0 z1) 16 1 z5) 16 2 z9) 16 3 z13) 16 4 (Int32.ofInt (-1))).1 17) (Int32.ofInt 0).toNatClampNeg (Int32.ofInt 0).toNatClampNeg (Int32.ofInt 32).toNatClampNeg)) 18 (va_cpy ((sA (sF (sF (sF (sF (sF s 16 0 z1) 16 1 z5) 16 2 z9) 16 3 z13) 16 4 (Int32.ofInt (-1))) 17 (va_cpy ((sF (sF (sF (sF (sF s 16 0 z1) 16 1 z5) 16 2 z9) 16 3 z13) 16 4 (Int32.ofInt (-1))).1 3) ((sF (sF (sF (sF (sF s 16 0 z1) 16 1 z5) 16 2 z9) 16 3 z13) 16 4 (Int32.ofInt (-1))).1 17) (Int32.ofInt 0).toNatClampNeg (Int32.ofInt 0).toNatClampNeg (Int32.ofInt 32).toNatClampNeg)).1 4) ((sA (sF (sF (sF (sF (sF s 16 0 z1) 16 1 z5) 16 2 z9) 16 3 z13) 16 4 (Int32.ofInt (-1))) 17 (va_cpy ((sF (sF (sF (sF (sF s 16 0 z1) 16 1 z5) 16 2 z9) 16 3 z13) 16 4 (Int32.ofInt (-1))).1 3) ((sF (sF (sF (sF (sF s 16 0 z1) 16 1 z5) 16 2 z9) 16 3 z13) 16 4 (Int32.ofInt (-1))).1 17) (Int32.ofInt 0).toNatClampNeg (Int32.ofInt 0).toNatClampNeg (Int32.ofInt 32).toNatClampNeg)).1 18) (Int32.ofInt 0).toNatClampNeg (Int32.ofInt 0).toNatClampNeg (Int32.ofInt 160).toNatClampNeg)).1 5) ((sA (sA (sF (sF (sF (sF (sF s 16 0 z1) 16 1 z5) 16 2 z9) 16 3 z13) 16 4 (Int32.ofInt (-1))) 17 (va_cpy ((sF (sF (sF (sF (sF s 16 0 z1) 16 1 z5) 16 2 z9) 16 3 z13) 16 4 (Int32.ofInt (-1))).1 3) ((sF (sF (sF (sF (sF s 16 0 z1) 16 1 z5) 16 2 z9) 16 3 z13) 16 4 (Int32.ofInt (-1))).1 17) (Int32.ofInt 0).toNatClampNeg (Int32.ofInt 0).toNatClampNeg (Int32.ofInt 32).toNatClampNeg)) 18 (va_cpy ((sA (sF (sF (sF (sF (sF s 16 0 z1) 16 1 z5) 16 2 z9) 16 3 z13) 16 4 (Int32.ofInt (-1))) 17 (va_cpy ((sF (sF (sF (sF (sF s 16 0 z1) 16 1 z5) 16 2 z9) 16 3 z13) 16 4 (Int32.ofInt (-1))).1 3) ((sF (sF (sF (sF (sF s 16 0 z1) 16 1 z5) 16 2 z9) 16 3 z13) 16 4 (Int32.ofInt (-1))).1 17) (Int32.ofInt 0).toNatClampNeg (Int32.ofInt 0).toNatClampNeg (Int32.ofInt 32).toNatClampNeg)).1 4) ((sA (sF (sF (sF (sF (sF s 16 0 z1) 16 1 z5) 16 2 z9) 16 3 z13) 16 4 (Int32.ofInt (-1))) 17 (va_cpy ((sF (sF (sF (sF (sF s 16 0 z1) 16 1 z5) 16 2 z9) 16 3 z13) 16 4 (Int32.ofInt (-1))).1 3) ((sF (sF (sF (sF (sF s 16 0 z1) 16 1 z5) 16 2 z9) 16 3 z13) 16 4 (Int32.ofInt (-1))).1 17) (Int32.ofInt 0).toNatClampNeg (Int32.ofInt 0).toNatClampNeg (Int32.ofInt 32).toNatClampNeg)).1 18) (Int32.ofInt 0).toNatClampNeg (Int32.ofInt 0).toNatClampNeg (Int32.ofInt 160).toNatClampNeg)).1 19) (Int32.ofInt 0).toNatClampNeg (Int32.ofInt 0).toNatClampNeg (Int32.ofInt 160).toNatClampNeg)).1 6) ((sA (sA (sA (sF (sF (sF (sF (sF s 16 0 z1) 16 1 z5) 16 2 z9) 16 3 z13) 16 4 (Int32.ofInt (-1))) 17 (va_cpy ((sF (sF (sF (sF (sF s 16 0 z1) 16 1 z5) 16 2 z9) 16 3 z13) 16 4 (Int32.ofInt (-1))).1 3) ((sF (sF (sF (sF (sF s 16 0 z1) 16 1 z5) 16 2 z9) 16 3 z13) 16 4 (Int32.ofInt (-1))).1 17) (Int32.ofInt 0).toNatClampNeg (Int32.ofInt 0).toNatClampNeg (Int32.ofInt 32).toNatClampNeg)) 18 (va_cpy ((sA (sF (sF (sF (sF (sF s 16 0 z1) 16 1 z5) 16 2 z9) 16 3 z13) 16 4 (Int32.ofInt (-1))) 17 (va_cpy ((sF (sF (sF (sF (sF s 16 0 z1) 16 1 z5) 16 2 z9) 16 3 z13) 16 4 (Int32.ofInt (-1))).1 3) ((sF (sF (sF (sF (sF s 16 0 z1) 16 1 z5) 16 2 z9) 16 3 z13) 16 4 (Int32.ofInt (-1))).1 17) (Int32.ofInt 0).toNatClampNeg (Int32.ofInt 0).toNatClampNeg (Int32.ofInt 32).toNatClampNeg)).1 4) ((sA (sF (sF (sF (sF (sF s 16 0 z1) 16 1 z5) 16 2 z9) 16 3 z13) 16 4 (Int32.ofInt (-1))) 17 (va_cpy ((sF (sF (sF (sF (sF s 16 0 z1) 16 1 z5) 16 2 z9) 16 3 z13) 16 4 (Int32.ofInt (-1))).1 3) ((sF (sF (sF (sF (sF s 16 0 z1) 16 1 z5) 16 2 z9) 16 3 z13) 16 4 (Int32.ofInt (-1))).1 17) (Int32.ofInt 0).toNatClampNeg (Int32.ofInt 0).toNatClampNeg (Int32.ofInt 32).toNatClampNeg)).1 18) (Int32.ofInt 0).toNatClampNeg (Int32.ofInt 0).toNatClampNeg (Int32.ofInt 160).toNatClampNeg)) 19 (va_cpy ((sA (sA (sF (sF (sF (sF (sF s 16 0 z1) 16 1 z5) 16 2 z9) 16 3 z13) 16 4 (Int32.ofInt (-1))) 17 (va_cpy ((sF (sF (sF (sF (sF s 16 0 z1) 16 1 z5) 16 2 z9) 16 3 z13) 16 4 (Int32.ofInt (-1))).1 3) ((sF (sF (sF (sF (sF s 16 0 z1) 16 1 z5) 16 2 z9) 16 3 z13) 16 4 (Int32.ofInt (-1))).1 17) (Int32.ofInt 0).toNatClampNeg (Int32.ofInt 0).toNatClampNeg (Int32.ofInt 32).toNatClampNeg)) 18 (va_cpy ((sA (sF (sF (sF (sF (sF s 16 0 z1) 16 1 z5) 16 2 z9) 16 3 z13) 16 4 (Int32.ofInt (-1))) 17 (va_cpy ((sF (sF (sF (sF (sF s 16 0 z1) 16 1 z5) 16 2 z9) 16 3 z13) 16 4 (Int32.ofInt (-1))).1 3) ((sF (sF (sF (sF (sF s 16 0 z1) 16 1 z5) 16 2 z9) 16 3 z13) 16 4 (Int32.ofInt (-1))).1 17) (Int32.ofInt 0).toNatClampNeg (Int32.ofInt 0).toNatClampNeg (Int32.ofInt 32).toNatClampNeg)).1 4) ((sA (sF (sF (sF (sF (sF s 16 0 z1) 16 1 z5) 16 2 z9) 16 3 z13) 16 4 (Int32.ofInt (-1))) 17 (va_cpy ((sF (sF (sF (sF (sF s 16 0 z1) 16 1 z5) 16 2 z9) 16 3 z13) 16 4 (Int32.ofInt (-1))).1 3) ((sF (sF (sF (sF (sF s 16 0 z1) 16 1 z5) 16 2 z9) 16 3 z13) 16 4 (Int32.ofInt (-1))).1 17) (Int32.ofInt 0).toNatClampNeg (Int32.ofInt 0).toNatClampNeg (Int32.ofInt 32).toNatClampNeg)).1 18) (Int32.ofInt 0).toNatClampNeg (Int32.ofInt 0).toNatClampNeg (Int32.ofInt 160).toNatClampNeg)).1 5) ((sA (sA (sF (sF (sF (sF (sF s 16 0 z1) 16 1 z5) 16 2 z9) 16 3 z13) 16 4 (Int32.ofInt (-1))) 17 (va_cpy ((sF (sF (sF (sF (sF s 16 0 z1) 16 1 z5) 16 2 z9) 16 3 z13) 16 4 (Int32.ofInt (-1))).1 3) ((sF (sF (sF (sF (sF s 16 0 z1) 16 1 z5) 16 2 z9) 16 3 z13) 16 4 (Int32.ofInt (-1))).1 17) (Int32.ofInt 0).toNatClampNeg (Int32.ofInt 0).toNatClampNeg (Int32.ofInt 32).toNatClampNeg)) 18 (va_cpy ((sA (sF (sF (sF (sF (sF s 16 0 z1) 16 1 z5) 16 2 z9) 16 3 z13) 16 4 (Int32.ofInt (-1))) 17 (va_cpy ((sF (sF (sF (sF (sF s 16 0 z1) 16 1 z5) 16 2 z9) 16 3 z13) 16 4 (Int32.ofInt (-1))).1 3) ((sF (sF (sF (sF (sF s 16 0 z1) 16 1 z5) 16 2 z9) 16 3 z13) 16 4 (Int32.ofInt (-1))).1 17) (Int32.ofInt 0).toNatClampNeg (Int32.ofInt 0).toNatClampNeg (Int32.ofInt 32).toNatClampNeg)).1 4) ((sA (sF (sF (sF (sF (sF s 16 0 z1) 16 1 z5) 16 2 z9) 16 3 z13) 16 4 (Int32.ofInt (-1))) 17 (va_cpy ((sF (sF (sF (sF (sF s 16 0 z1) 16 1 z5) 16 2 z9) 16 3 z13) 16 4 (Int32.ofInt (-1))).1 3) ((sF (sF (sF (sF (sF s 16 0 z1) 16 1 z5) 16 2 z9) 16 3 z13) 16 4 (Int32.ofInt (-1))).1 17) (Int32.ofInt 0).toNatClampNeg (Int32.ofInt 0).toNatClampNeg (Int32.ofInt 32).toNatClampNeg)).1 18) (Int32.ofInt 0).toNatClampNeg (Int32.ofInt 0).toNatClampNeg (Int32.ofInt 160).toNatClampNeg)).1 19) (Int32.ofInt 0).toNatClampNeg (Int32.ofInt 0).toNatClampNeg (Int32.ofInt 160).toNatClampNeg)).1 20) (Int32.ofInt 0).toNatClampNeg (Int32.ofInt 0).toNatClampNeg (Int32.ofInt 160).toNatClampNeg)).1 21) (Int32.ofInt 0).toNatClampNeg (Int32.ofInt 0).toNatClampNeg (Int32.ofInt 160).toNatClampNeg)) 22 (va_cpy ((sA (sA (sA (sA (sA (sF (sF (sF (sF (sF s 16 0 z1) 16 1 z5) 16 2 z9) 16 3 z13) 16 4 (Int32.ofInt (-1))) 17 (va_cpy ((sF (sF (sF (sF (sF s 16 0 z1) 16 1 z5) 16 2 z9) 16 3 z13) 16 4 (Int32.ofInt (-1))).1 3) ((sF (sF (sF (sF (sF s 16 0 z1) 16 1 z5) 16 2 z9) 16 3 z13) 16 4 (Int32.ofInt (-1))).1 17) (Int32.ofInt 0).toNatClampNeg (Int32.ofInt 0).toNatClampNeg (Int32.ofInt 32).toNatClampNeg)) 18 (va_cpy ((sA (sF (sF (sF (sF (sF s 16 0 z1) 16 1 z5) 16 2 z9) 16 3 z13) 16 4 (Int32.ofInt (-1))) 17 (va_cpy ((sF (sF (sF (sF (sF s 16 0 z1) 16 1 z5) 16 2 z9) 16 3 z13) 16 4 (Int32.ofInt (-1))).1 3) ((sF (sF (sF (sF (sF s 16 0 z1) 16 1 z5) 16 2 z9) 16 3 z13) 16 4 (Int32.ofInt (-1))).1 17) (Int32.ofInt 0).toNatClampNeg (Int32.ofInt 0).toNatClampNeg (Int32.ofInt 32).toNatClampNeg)).1 4) ((sA (sF (sF (sF (sF (sF s 16 0 z1) 16 1 z5) 16 2 z9) 16 3 z13) 16 4 (Int32.ofInt (-1))) 17 (va_cpy ((sF (sF (sF (sF (sF s 16 0 z1) 16 1 z5) 16 2 z9) 16 3 z13) 16 4 (Int32.ofInt (-1))).1 3) ((sF (sF (sF (sF (sF s 16 0 z1) 16 1 z5) 16 2 z9) 16 3 z13) 16 4 (Int32.ofInt (-1))).1 17) (Int32.ofInt 0).toNatClampNeg (Int32.ofInt 0).toNatClampNeg (Int32.ofInt 32).toNatClampNeg)).1 18) (Int32.ofInt 0).toNatClampNeg (Int32.ofInt 0).toNatClampNeg (Int32.ofInt 160).toNatClampNeg)) 19 (va_cpy ((sA (sA (sF (sF (sF (sF (sF s 16 0 z1) 16 1 z5) 16 2 z9) 16 3 z13) 16 4 (Int32.ofInt (-1))) 17 (va_cpy ((sF (sF (sF (sF (sF s 16 0 z1) 16 1 z5) 16 2 z9) 16 3 z13) 16 4 (Int32.ofInt (-1))).1 3) ((sF (sF (sF (sF (sF s 16 0 z1) 16 1 z5) 16 2 z9) 16 3 z13) 16 4 (Int32.ofInt (-1))).1 17) (Int32.ofInt 0).toNatClampNeg (Int32.ofInt 0).toNatClampNeg (Int32.ofInt 32).toNatClampNeg)) 18 (va_cpy ((sA (sF (sF (sF (sF (sF s 16 0 z1) 16 1 z5) 16 2 z9) 16 3 z13) 16 4 (Int32.ofInt (-1))) 17 (va_cpy ((sF (sF (sF (sF (sF s 16 0 z1) 16 1 z5) 16 2 z9) 16 3 z13) 16 4 (Int32.ofInt (-1))).1 3) ((sF (sF (sF (sF (sF s 16 0 z1) 16 1 z5) 16 2 z9) 16 3 z13) 16 4 (Int32.ofInt (-1))).1 17) (Int32.ofInt 0).toNatClampNeg (Int32.ofInt 0).toNatClampNeg (Int32.ofInt 32).toNatClampNeg)).1 4) ((sA (sF (sF (sF (sF (sF s 16 0 z1) 16 1 z5) 16 2 z9) 16 3 z13) 16 4 (Int32.ofInt (-1))) 17 (va_cpy ((sF (sF (sF (sF (sF s 16 0 z1) 16 1 z5) 16 2 z9) 16 3 z13) 16 4 (Int32.ofInt (-1))).1 3) ((sF (sF (sF (sF (sF s 16 0 z1) 16 1 z5) 16 2 z9) 16 3 z13) 16 4 (Int32.ofInt (-1))).1 17) (Int32.ofInt 0).toNatClampNeg (Int32.ofInt 0).toNatClampNeg (Int32.ofInt 32).toNatClampNeg)).1 18) (Int32.ofInt 0).toNatClampNeg (Int32.ofInt 0).toNatClampNeg (Int32.ofInt 160).toNatClampNeg)).1 5) ((sA (sA (sF (sF (sF (sF (sF s 16 0 z1) 16 1 z5) 16 2 z9) 16 3 z13) 16 4 (Int32.ofInt (-1))) 17 (va_cpy ((sF (sF (sF (sF (sF s 16 0 z1) 16 1 z5) 16 2 z9) 16 3 z13) 16 4 (Int32.ofInt (-1))).1 3) ((sF (sF (sF (sF (sF s 16 0 z1) 16 1 z5) 16 2 z9) 16 3 z13) 16 4 (Int32.ofInt (-1))).1 17) (Int32.ofInt 0).toNatClampNeg (Int32.ofInt 0).toNatClampNeg (Int32.ofInt 32).toNatClampNeg)) 18 (va_cpy ((sA (sF (sF (sF (sF (sF s 16 0 z1) 16 1 z5) 16 2 z9) 16 3 z13) 16 4 (Int32.ofInt (-1))) 17 (va_cpy ((sF (sF (sF (sF (sF s 16 0 z1) 16 1 z5) 16 2 z9) 16 3 z13) 16 4 (Int32.ofInt (-1))).1 3) ((sF (sF (sF (sF (sF s 16 0 z1) 16 1 z5) 16 2 z9) 16 3 z13) 16 4 (Int32.ofInt (-1))).1 17) (Int32.ofInt 0).toNatClampNeg (Int32.ofInt 0).toNatClampNeg (Int32.ofInt 32).toNatClampNeg)).1 4) ((sA (sF (sF (sF (sF (sF s 16 0 z1) 16 1 z5) 16 2 z9) 16 3 z13) 16 4 (Int32.ofInt (-1))) 17 (va_cpy ((sF (sF (sF (sF (sF s 16 0 z1) 16 1 z5) 16 2 z9) 16 3 z13) 16 4 (Int32.ofInt (-1))).1 3) ((sF (sF (sF (sF (sF s 16 0 z1) 16 1 z5) 16 2 z9) 16 3 z13) 16 4 (Int32.ofInt (-1))).1 17) (Int32.ofInt 0).toNatClampNeg (Int32.ofInt 0).toNatClampNeg (Int32.ofInt 32).toNatClampNeg)).1 18) (Int32.ofInt 0).toNatClampNeg (Int32.ofInt 0).toNatClampNeg (Int32.ofInt 160).toNatClampNeg)).1 19) (Int32.ofInt 0).toNatClampNeg (Int32.ofInt 0).toNatClampNeg (Int32.ofInt 160).toNatClampNeg)) 20 (va_cpy ((sA (sA (sA (sF (sF (sF (sF (sF s 16 0 z1) 16 1 z5) 16 2 z9) 16 3 z13) 16 4 (Int32.ofInt (-1))) 17 (va_cpy ((sF (sF (sF (sF (sF s 16 0 z1) 16 1 z5) 16 2 z9) 16 3 z13) 16 4 (Int32.ofInt (-1))).1 3) ((sF (sF (sF (sF (sF s 16 0 z1) 16 1 z5) 16 2 z9) 16 3 z13) 16 4 (Int32.ofInt (-1))).1 17) (Int32.ofInt 0).toNatClampNeg (Int32.ofInt 0).toNatClampNeg (Int32.ofInt 32).toNatClampNeg)) 18 (va_cpy ((sA (sF (sF (sF (sF (sF s 16 0 z1) 16 1 z5) 16 2 z9) 16 3 z13) 16 4 (Int32.ofInt (-1))) 17 (va_cpy ((sF (sF (sF (sF (sF s 16 0 z1) 16 1 z5) 16 2 z9) 16 3 z13) 16 4 (Int32.ofInt (-1))).1 3) ((sF (sF (sF (sF (sF s 16 0 z1) 16 1 z5) 16 2 z9) 16 3 z13) 16 4 (Int32.ofInt (-1))).1 17) (Int32.ofInt 0).toNatClampNeg (Int32.ofInt 0).toNatClampNeg (Int32.ofInt 32).toNatClampNeg)).1 4) ((sA (sF (sF (sF (sF (sF s 16 0 z1) 16 1 z5) 16 2 z9) 16 3 z13) 16 4 (Int32.ofInt (-1))) 17 (va_cpy ((sF (sF (sF (sF (sF s 16 0 z1) 16 1 z5) 16 2 z9) 16 3 z13) 16 4 (Int32.ofInt (-1))).1 3) ((sF (sF (sF (sF (sF s 16 0 z1) 16 1 z5) 16 2 z9) 16 3 z13) 16 4 (Int32.ofInt (-1))).1 17) (Int32.ofInt 0).toNatClampNeg (Int32.ofInt 0).toNatClampNeg (Int32.ofInt 32).toNatClampNeg)).1 18) (Int32.ofInt 0).toNatClampNeg (Int32.ofInt 0).toNatClampNeg (Int32.ofInt 160).toNatClampNeg)) 19 (va_cpy ((sA (sA (sF (sF (sF (sF (sF s 16 0 z1) 16 1 z5) 16 2 z9) 16 3 z13) 16 4 (Int32.ofInt (-1))) 17 (va_cpy ((sF (sF (sF (sF (sF s 16 0 z1) 16 1 z5) 16 2 z9) 16 3 z13) 16 4 (Int32.ofInt (-1))).1 3) ((sF (sF (sF (sF (sF s 16 0 z1) 16 1 z5) 16 2 z9) 16 3 z13) 16 4 (Int32.ofInt (-1))).1 17) (Int32.ofInt 0).toNatClampNeg (Int32.ofInt 0).toNatClampNeg (Int32.ofInt 32).toNatClampNeg)) 18 (va_cpy ((sA (sF (sF (sF (sF (sF s 16 0 z1) 16 1 z5) 16 2 z9) 16 3 z13) 16 4 (Int32.ofInt (-1))) 17 (va_cpy ((sF (sF (sF (sF (sF s 16 0 z1) 16 1 z5) 16 2 z9) 16 3 z13) 16 4 (Int32.ofInt (-1))).1 3) ((sF (sF (sF (sF (sF s 16 0 z1) 16 1 z5) 16 2 z9) 16 3 z13) 16 4 (Int32.ofInt (-1))).1 17) (Int32.ofInt 0).toNatClampNeg (Int32.ofInt 0).toNatClampNeg (Int32.ofInt 32).toNatClampNeg)).1 4) ((sA (sF (sF (sF (sF (sF s 16 0 z1) 16 1 z5) 16 2 z9) 16 3 z13) 16 4 (Int32.ofInt (-1))) 17 (va_cpy ((sF (sF (sF (sF (sF s 16 0 z1) 16 1 z5) 16 2 z9) 16 3 z13) 16 4 (Int32.ofInt (-1))).1 3) ((sF (sF (sF (sF (sF s 16 0 z1) 16 1 z5) 16 2 z9) 16 3 z13) 16 4 (Int32.ofInt (-1))).1 17) (Int32.ofInt 0).toNatClampNeg (Int32.ofInt 0).toNatClampNeg (Int32.ofInt 32).toNatClampNeg)).1 18) (Int32.ofInt 0).toNatClampNeg (Int32.ofInt 0).toNatClampNeg (Int32.ofInt 160).toNatClampNeg)).1 5) ((sA (sA (sF (sF (sF (sF (sF s 16 0 z1) 16 1 z5) 16 2 z9) 16 3 z13) 16 4 (Int32.ofInt (-1))) 17 (va_cpy ((sF (sF (sF (sF (sF s 16 0 z1) 16 1 z5) 16 2 z9) 16 3 z13) 16 4 (Int32.ofInt (-1))).1 3) ((sF (sF (sF (sF (sF s 16 0 z1) 16 1 z5) 16 2 z9) 16 3 z13) 16 4 (Int32.ofInt (-1))).1 17) (Int32.ofInt 0).toNatClampNeg (Int32.ofInt 0).toNatClampNeg (Int32.ofInt 32).toNatClampNeg)) 18 (va_cpy ((sA (sF (sF (sF (sF (sF s 16 0 z1) 16 1 z5) 16 2 z9) 16 3 z13) 16 4 (Int32.ofInt (-1))) 17 (va_cpy ((sF (sF (sF (sF (sF s 16 0 z1) 16 1 z5) 16 2 z9) 16 3 z13) 16 4 (Int32.ofInt (-1))).1 3) ((sF (sF (sF (sF (sF s 16 0 z1) 16 1 z5) 16 2 z9) 16 3 z13) 16 4 (Int32.ofInt (-1))).1 17) (Int32.ofInt 0).toNatClampNeg (Int32.ofInt 0).toNatClampNeg (Int32.ofInt 32).toNatClampNeg)).1 4) ((sA (sF (sF (sF (sF (sF s 16 0 z1) 16 1 z5) 16 2 z9) 16 3 z13) 16 4 (Int32.ofInt (-1))) 17 (va_cpy ((sF (sF (sF (sF (sF s 16 0 z1) 16 1 z5) 16 2 z9) 16 3 z13) 16 4 (Int32.ofInt (-1))).1 3) ((sF (sF (sF (sF (sF s 16 0 z1) 16 1 z5) 16 2 z9) 16 3 z13) 16 4 (Int32.ofInt (-1))).1 17) (Int32.ofInt 0).toNatClampNeg (Int32.ofInt 0).toNatClampNeg (Int32.ofInt 32).toNatClampNeg)).1 18) (Int32.ofInt 0).toNatClampNeg (Int32.ofInt 0).toNatClampNeg (Int32.ofInt 160).toNatClampNeg)).1 19) (Int32.ofInt 0).toNatClampNeg (Int32.ofInt 0).toNatClampNeg (Int32.ofInt 160).toNatClampNeg)).1 6) ((sA (sA (sA (sF (sF (sF (sF (sF s 16 0 z1) 16 1 z5) 16 2 z9) 16 3 z13) 16 4 (Int32.ofInt (-1))) 17 (va_cpy ((sF (sF (sF (sF (sF s 16 0 z1) 16 1 z5) 16 2 z9) 16 3 z13) 16 4 (Int32.ofInt (-1))).1 3) ((sF (sF (sF (sF (sF s 16 0 z1) 16 1 z5) 16 2 z9) 16 3 z13) 16 4 (Int32.ofInt (-1))).1 17) (Int32.ofInt 0).toNatClampNeg (Int32.ofInt 0).toNatClampNeg (Int32.ofInt 32).toNatClampNeg)) 18 (va_cpy ((sA (sF (sF (sF (sF (sF s 16 0 z1) 16 1 z5) 16 2 z9) 16 3 z13) 16 4 (Int32.ofInt (-1))) 17 (va_cpy ((sF (sF (sF (sF (sF s 16 0 z1) 16 1 z5) 16 2 z9) 16 3 z13) 16 4 (Int32.ofInt (-1))).1 3) ((sF (sF (sF (sF (sF s 16 0 z1) 16 1 z5) 16 2 z9) 16 3 z13) 16 4 (Int32.ofInt (-1))).1 17) (Int32.ofInt 0).toNatClampNeg (Int32.ofInt 0).toNatClampNeg (Int32.ofInt 32).toNatClampNeg)).1 4) ((sA (sF (sF (sF (sF (sF s 16 0 z1) 16 1 z5) 16 2 z9) 16 3 z13) 16 4 (Int32.ofInt (-1))) 17 (va_cpy ((sF (sF (sF (sF (sF s 16 0 z1) 16 1 z5) 16 2 z9) 16 3 z13) 16 4 (Int32.ofInt (-1))).1 3) ((sF (sF (sF (sF (sF s 16 0 z1) 16 1 z5) 16 2 z9) 16 3 z13) 16 4 (Int32.ofInt (-1))).1 17) (Int32.ofInt 0).toNatClampNeg (Int32.ofInt 0).toNatClampNeg (Int32.ofInt 32).toNatClampNeg)).1 18) (Int32.ofInt 0).toNatClampNeg (Int32.ofInt 0).toNatClampNeg (Int32.ofInt 160).toNatClampNeg)) 19 (va_cpy ((sA (sA (sF (sF (sF (sF (sF s 16 0 z1) 16 1 z5) 16 2 z9) 16 3 z13) 16 4 (Int32.ofInt (-1))) 17 (va_cpy ((sF (sF (sF (sF (sF s 16 0 z1) 16 1 z5) 16 2 z9) 16 3 z13) 16 4 (Int32.ofInt (-1))).1 3) ((sF (sF (sF (sF (sF s 16 0 z1) 16 1 z5) 16 2 z9) 16 3 z13) 16 4 (Int32.ofInt (-1))).1 17) (Int32.ofInt 0).toNatClampNeg (Int32.ofInt 0).toNatClampNeg (Int32.ofInt 32).toNatClampNeg)) 18 (va_cpy ((sA (sF (sF (sF (sF (sF s 16 0 z1) 16 1 z5) 16 2 z9) 16 3 z13) 16 4 (Int32.ofInt (-1))) 17 (va_cpy ((sF (sF (sF (sF (sF s 16 0 z1) 16 1 z5) 16 2 z9) 16 3 z13) 16 4 (Int32.ofInt (-1))).1 3) ((sF (sF (sF (sF (sF s 16 0 z1) 16 1 z5) 16 2 z9) 16 3 z13) 16 4 (Int32.ofInt (-1))).1 17) (Int32.ofInt 0).toNatClampNeg (Int32.ofInt 0).toNatClampNeg (Int32.ofInt 32).toNatClampNeg)).1 4) ((sA (sF (sF (sF (sF (sF s 16 0 z1) 16 1 z5) 16 2 z9) 16 3 z13) 16 4 (Int32.ofInt (-1))) 17 (va_cpy ((sF (sF (sF (sF (sF s 16 0 z1) 16 1 z5) 16 2 z9) 16 3 z13) 16 4 (Int32.ofInt (-1))).1 3) ((sF (sF (sF (sF (sF s 16 0 z1) 16 1 z5) 16 2 z9) 16 3 z13) 16 4 (Int32.ofInt (-1))).1 17) (Int32.ofInt 0).toNatClampNeg (Int32.ofInt 0).toNatClampNeg (Int32.ofInt 32).toNatClampNeg)).1 18) (Int32.ofInt 0).toNatClampNeg (Int32.ofInt 0).toNatClampNeg (Int32.ofInt 160).toNatClampNeg)).1 5) ((sA (sA (sF (sF (sF (sF (sF s 16 0 z1) 16 1 z5) 16 2 z9) 16 3 z13) 16 4 (Int32.ofInt (-1))) 17 (va_cpy ((sF (sF (sF (sF (sF s 16 0 z1) 16 1 z5) 16 2 z9) 16 3 z13) 16 4 (Int32.ofInt (-1))).1 3) ((sF (sF (sF (sF (sF s 16 0 z1) 16 1 z5) 16 2 z9) 16 3 z13) 16 4 (Int32.ofInt (-1))).1 17) (Int32.ofInt 0).toNatClampNeg (Int32.ofInt 0).toNatClampNeg (Int32.ofInt 32).toNatClampNeg)) 18 (va_cpy ((sA (sF (sF (sF (sF (sF s 16 0 z1) 16 1 z5) 16 2 z9) 16 3 z13) 16 4 (Int32.ofInt (-1))) 17 (va_cpy ((sF (sF (sF (sF (sF s 16 0 z1) 16 1 z5) 16 2 z9) 16 3 z13) 16 4 (Int32.ofInt (-1))).1 3) ((sF (sF (sF (sF (sF s 16 0 z1) 16 1 z5) 16 2 z9) 16 3 z13) 16 4 (Int32.ofInt (-1))).1 17) (Int32.ofInt 0).toNatClampNeg (Int32.ofInt 0).toNatClampNeg (Int32.ofInt 32).toNatClampNeg)).1 4) ((sA (sF (sF (sF (sF (sF s 16 0 z1) 16 1 z5) 16 2 z9) 16 3 z13) 16 4 (Int32.ofInt (-1))) 17 (va_cpy ((sF (sF (sF (sF (sF s 16 0 z1) 16 1 z5) 16 2 z9) 16 3 z13) 16 4 (Int32.ofInt (-1))).1 3) ((sF (sF (sF (sF (sF s 16 0 z1) 16 1 z5) 16 2 z9) 16 3 z13) 16 4 (Int32.ofInt (-1))).1 17) (Int32.ofInt 0).toNatClampNeg (Int32.ofInt 0).toNatClampNeg (Int32.ofInt 32).toNatClampNeg)).1 18) (Int32.ofInt 0).toNatClampNeg (Int32.ofInt 0).toNatClampNeg (Int32.ofInt 160).toNatClampNeg)).1 19) (Int32.ofInt 0).toNatClampNeg (Int32.ofInt 0).toNatClampNeg (Int32.ofInt 160).toNatClampNeg)).1 20) (Int32.ofInt 0).toNatClampNeg (Int32.ofInt 0).toNatClampNeg (Int32.ofInt 160).toNatClampNeg)) 21 (va_cpy ((sA (sA (sA (sA (sF (sF (sF (sF (sF s 16 0 z1) 16 1 z5) 16 2 z9) 16 3 z13) 16 4 (Int32.ofInt (-1))) 17 (va_cpy ((sF (sF (sF (sF (sF s 16 0 z1) 16 1 z5) 16 2 z9) 16 3 z13) 16 4 (Int32.ofInt (-1))).1 3) ((sF (sF (sF (sF (sF s 16 0 z1) 16 1 z5) 16 2 z9) 16 3 z13) 16 4 (Int32.ofInt (-1))).1 17) (Int32.ofInt 0).toNatClampNeg (Int32.ofInt 0).toNatClampNeg (Int32.ofInt 32).toNatClampNeg)) 18 (va_cpy ((sA (sF (sF (sF (sF (sF s 16 0 z1) 16 1 z5) 16 2 z9) 16 3 z13) 16 4 (Int32.ofInt (-1))) 17 (va_cpy ((sF (sF (sF (sF (sF s 16 0 z1) 16 1 z5) 16 2 z9) 16 3 z13) 16 4 (Int32.ofInt (-1))).1 3) ((sF (sF (sF (sF (sF s 16 0 z1) 16 1 z5) 16 2 z9) 16 3 z13) 16 4 (Int32.ofInt (-1))).1 17) (Int32.ofInt 0).toNatClampNeg (Int32.ofInt 0).toNatClampNeg (Int32.ofInt 32).toNatClampNeg)).1 4) ((sA (sF (sF (sF (sF (sF s 16 0 z1) 16 1 z5) 16 2 z9) 16 3 z13) 16 4 (Int32.ofInt (-1))) 17 (va_cpy ((sF (sF (sF (sF (sF s 16 0 z1) 16 1 z5) 16 2 z9) 16 3 z13) 16 4 (Int32.ofInt (-1))).1 3) ((sF (sF (sF (sF (sF s 16 0 z1) 16 1 z5) 16 2 z9) 16 3 z13) 16 4 (Int32.ofInt (-1))).1 17) (Int32.ofInt 0).toNatClampNeg (Int32.ofInt 0).toNatClampNeg (Int32.ofInt 32).toNatClampNeg)).1 18) (Int32.ofInt 0).toNatClampNeg (Int32.ofInt 0).toNatClampNeg (Int32.ofInt 160).toNatClampNeg)) 19 (va_cpy ((sA (sA (sF (sF (sF (sF (sF s 16 0 z1) 16 1 z5) 16 2 z9) 16 3 z13) 16 4 (Int32.ofInt (-1))) 17 (va_cpy ((sF (sF (sF (sF (sF s 16 0 z1) 16 1 z5) 16 2 z9) 16 3 z13) 16 4 (Int32.ofInt (-1))).1 3) ((sF (sF (sF (sF (sF s 16 0 z1) 16 1 z5) 16 2 z9) 16 3 z13) 16 4 (Int32.ofInt (-1))).1 17) (Int32.ofInt 0).toNatClampNeg (Int32.ofInt 0).toNatClampNeg (Int32.ofInt 32).toNatClampNeg)) 18 (va_cpy ((sA (sF (sF (sF (sF (sF s 16 0 z1) 16 1 z5) 16 2 z9) 16 3 z13) 16 4 (Int32.ofInt (-1))) 17 (va_cpy ((sF (sF (sF (sF (sF s 16 0 z1) 16 1 z5) 16 2 z9) 16 3 z13) 16 4 (Int32.ofInt (-1))).1 3) ((sF (sF (sF (sF (sF s 16 0 z1) 16 1 z5) 16 2 z9) 16 3 z13) 16 4 (Int32.ofInt (-1))).1 17) (Int32.ofInt 0).toNatClampNeg (Int32.ofInt 0).toNatClampNeg (Int32.ofInt 32).toNatClampNeg)).1 4) ((sA (sF (sF (sF (sF (sF s 16 0 z1) 16 1 z5) 16 2 z9) 16 3 z13) 16 4 (Int32.ofInt (-1))) 17 (va_cpy ((sF (sF (sF (sF (sF s 16 0 z1) 16 1 z5) 16 2 z9) 16 3 z13) 16 4 (Int32.ofInt (-1))).1 3) ((sF (sF (sF (sF (sF s 16 0 z1) 16 1 z5) 16 2 z9) 16 3 z13) 16 4 (Int32.ofInt (-1))).1 17) (Int32.ofInt 0).toNatClampNeg (Int32.ofInt 0).toNatClampNeg (Int32.ofInt 32).toNatClampNeg)).1 18) (Int32.ofInt 0).toNatClampNeg (Int32.ofInt 0).toNatClampNeg (Int32.ofInt 160).toNatClampNeg)).1 5) ((sA (sA (sF (sF (sF (sF (sF s 16 0 z1) 16 1 z5) 16 2 z9) 16 3 z13) 16 4 (Int32.ofInt (-1))) 17 (va_cpy ((sF (sF (sF (sF (sF s 16 0 z1) 16 1 z5) 16 2 z9) 16 3 z13) 16 4 (Int32.ofInt (-1))).1 3) ((sF (sF (sF (sF (sF s 16 0 z1) 16 1 z5) 16 2 z9) 16 3 z13) 16 4 (Int32.ofInt (-1))).1 17) (Int32.ofInt 0).toNatClampNeg (Int32.ofInt 0).toNatClampNeg (Int32.ofInt 32).toNatClampNeg)) 18 (va_cpy ((sA (sF (sF (sF (sF (sF s 16 0 z1) 16 1 z5) 16 2 z9) 16 3 z13) 16 4 (Int32.ofInt (-1))) 17 (va_cpy ((sF (sF (sF (sF (sF s 16 0 z1) 16 1 z5) 16 2 z9) 16 3 z13) 16 4 (Int32.ofInt (-1))).1 3) ((sF (sF (sF (sF (sF s 16 0 z1) 16 1 z5) 16 2 z9) 16 3 z13) 16 4 (Int32.ofInt (-1))).1 17) (Int32.ofInt 0).toNatClampNeg (Int32.ofInt 0).toNatClampNeg (Int32.ofInt 32).toNatClampNeg)).1 4) ((sA (sF (sF (sF (sF (sF s 16 0 z1) 16 1 z5) 16 2 z9) 16 3 z13) 16 4 (Int32.ofInt (-1))) 17 (va_cpy ((sF (sF (sF (sF (sF s 16 0 z1) 16 1 z5) 16 2 z9) 16 3 z13) 16 4 (Int32.ofInt (-1))).1 3) ((sF (sF (sF (sF (sF s 16 0 z1) 16 1 z5) 16 2 z9) 16 3 z13) 16 4 (Int32.ofInt (-1))).1 17) (Int32.ofInt 0).toNatClampNeg (Int32.ofInt 0).toNatClampNeg (Int32.ofInt 32).toNatClampNeg)).1 18) (Int32.ofInt 0).toNatClampNeg (Int32.ofInt 0).toNatClampNeg (Int32.ofInt 160).toNatClampNeg)).1 19) (Int32.ofInt 0).toNatClampNeg (Int32.ofInt 0).toNatClampNeg (Int32.ofInt 160).toNatClampNeg)) 20 (va_cpy ((sA (sA (sA (sF (sF (sF (sF (sF s 16 0 z1) 16 1 z5) 16 2 z9) 16 3 z13) 16 4 (Int32.ofInt (-1))) 17 (va_cpy ((sF (sF (sF (sF (sF s 16 0 z1) 16 1 z5) 16 2 z9) 16 3 z13) 16 4 (Int32.ofInt (-1))).1 3) ((sF (sF (sF (sF (sF s 16 0 z1) 16 1 z5) 16 2 z9) 16 3 z13) 16 4 (Int32.ofInt (-1))).1 17) (Int32.ofInt 0).toNatClampNeg (Int32.ofInt 0).toNatClampNeg (Int32.ofInt 32).toNatClampNeg)) 18 (va_cpy ((sA (sF (sF (sF (sF (sF s 16 0 z1) 16 1 z5) 16 2 z9) 16 3 z13) 16 4 (Int32.ofInt (-1))) 17 (va_cpy ((sF (sF (sF (sF (sF s 16 0 z1) 16 1 z5) 16 2 z9) 16 3 z13) 16 4 (Int32.ofInt (-1))).1 3) ((sF (sF (sF (sF (sF s 16 0 z1) 16 1 z5) 16 2 z9) 16 3 z13) 16 4 (Int32.ofInt (-1))).1 17) (Int32.ofInt 0).toNatClampNeg (Int32.ofInt 0).toNatClampNeg (Int32.ofInt 32).toNatClampNeg)).1 4) ((sA (sF (sF (sF (sF (sF s 16 0 z1) 16 1 z5) 16 2 z9) 16 3 z13) 16 4 (Int32.ofInt (-1))) 17 (va_cpy ((sF (sF (sF (sF (sF s 16 0 z1) 16 1 z5) 16 2 z9) 16 3 z13) 16 4 (Int32.ofInt (-1))).1 3) ((sF (sF (sF (sF (sF s 16 0 z1) 16 1 z5) 16 2 z9) 16 3 z13) 16 4 (Int32.ofInt (-1))).1 17) (Int32.ofInt 0).toNatClampNeg (Int32.ofInt 0).toNatClampNeg (Int32.ofInt 32).toNatClampNeg)).1 18) (Int32.ofInt 0).toNatClampNeg (Int32.ofInt 0).toNatClampNeg (Int32.ofInt 160).toNatClampNeg)) 19 (va_cpy ((sA (sA (sF (sF (sF (sF (sF s 16 0 z1) 16 1 z5) 16 2 z9) 16 3 z13) 16 4 (Int32.ofInt (-1))) 17 (va_cpy ((sF (sF (sF (sF (sF s 16 0 z1) 16 1 z5) 16 2 z9) 16 3 z13) 16 4 (Int32.ofInt (-1))).1 3) ((sF (sF (sF (sF (sF s 16 0 z1) 16 1 z5) 16 2 z9) 16 3 z13) 16 4 (Int32.ofInt (-1))).1 17) (Int32.ofInt 0).toNatClampNeg (Int32.ofInt 0).toNatClampNeg (Int32.ofInt 32).toNatClampNeg)) 18 (va_cpy ((sA (sF (sF (sF (sF (sF s 16 0 z1) 16 1 z5) 16 2 z9) 16 3 z13) 16 4 (Int32.ofInt (-1))) 17 (va_cpy ((sF (sF (sF (sF (sF s 16 0 z1) 16 1 z5) 16 2 z9) 16 3 z13) 16 4 (Int32.ofInt (-1))).1 3) ((sF (sF (sF (sF (sF s 16 0 z1) 16 1 z5) 16 2 z9) 16 3 z13) 16 4 (Int32.ofInt (-1))).1 17) (Int32.ofInt 0).toNatClampNeg (Int32.ofInt 0).toNatClampNeg (Int32.ofInt 32).toNatClampNeg)).1 4) ((sA (sF (sF (sF (sF (sF s 16 0 z1) 16 1 z5) 16 2 z9) 16 3 z13) 16 4 (Int32.ofInt (-1))) 17 (va_cpy ((sF (sF (sF (sF (sF s 16 0 z1) 16 1 z5) 16 2 z9) 16 3 z13) 16 4 (Int32.ofInt (-1))).1 3) ((sF (sF (sF (sF (sF s 16 0 z1) 16 1 z5) 16 2 z9) 16 3 z13) 16 4 (Int32.ofInt (-1))).1 17) (Int32.ofInt 0).toNatClampNeg (Int32.ofInt 0).toNatClampNeg (Int32.ofInt 32).toNatClampNeg)).1 18) (Int32.ofInt 0).toNatClampNeg (Int32.ofInt 0).toNatClampNeg (Int32.ofInt 160).toNatClampNeg)).1 5) ((sA (sA (sF (sF (sF (sF (sF s 16 0 z1) 16 1 z5) 16 2 z9) 16 3 z13) 16 4 (Int32.ofInt (-1))) 17 (va_cpy ((sF (sF (sF (sF (sF s 16 0 z1) 16 1 z5) 16 2 z9) 16 3 z13) 16 4 (Int32.ofInt (-1))).1 3) ((sF (sF (sF (sF (sF s 16 0 z1) 16 1 z5) 16 2 z9) 16 3 z13) 16 4 (Int32.ofInt (-1))).1 17) (Int32.ofInt 0).toNatClampNeg (Int32.ofInt 0).toNatClampNeg (Int32.ofInt 32).toNatClampNeg)) 18 (va_cpy ((sA (sF (sF (sF (sF (sF s 16 0 z1) 16 1 z5) 16 2 z9) 16 3 z13) 16 4 (Int32.ofInt (-1))) 17 (va_cpy ((sF (sF (sF (sF (sF s 16 0 z1) 16 1 z5) 16 2 z9) 16 3 z13) 16 4 (Int32.ofInt (-1))).1 3) ((sF (sF (sF (sF (sF s 16 0 z1) 16 1 z5) 16 2 z9) 16 3 z13) 16 4 (Int32.ofInt (-1))).1 17) (Int32.ofInt 0).toNatClampNeg (Int32.ofInt 0).toNatClampNeg (Int32.ofInt 32).toNatClampNeg)).1 4) ((sA (sF (sF (sF (sF (sF s 16 0 z1) 16 1 z5) 16 2 z9) 16 3 z13) 16 4 (Int32.ofInt (-1))) 17 (va_cpy ((sF (sF (sF (sF (sF s 16 0 z1) 16 1 z5) 16 2 z9) 16 3 z13) 16 4 (Int32.ofInt (-1))).1 3) ((sF (sF (sF (sF (sF s 16 0 z1) 16 1 z5) 16 2 z9) 16 3 z13) 16 4 (Int32.ofInt (-1))).1 17) (Int32.ofInt 0).toNatClampNeg (Int32.ofInt 0).toNatClampNeg (Int32.ofInt 32).toNatClampNeg)).1 18) (Int32.ofInt 0).toNatClampNeg (Int32.ofInt 0).toNatClampNeg (Int32.ofInt 160).toNatClampNeg)).1 19) (Int32.ofInt 0).toNatClampNeg (Int32.ofInt 0).toNatClampNeg (Int32.ofInt 160).toNatClampNeg)).1 6) ((sA (sA (sA (sF (sF (sF (sF (sF s 16 0 z1) 16 1 z5) 16 2 z9) 16 3 z13) 16 4 (Int32.ofInt (-1))) 17 (va_cpy ((sF (sF (sF (sF (sF s 16 0 z1) 16 1 z5) 16 2 z9) 16 3 z13) 16 4 (Int32.ofInt (-1))).1 3) ((sF (sF (sF (sF (sF s 16 0 z1) 16 1 z5) 16 2 z9) 16 3 z13) 16 4 (Int32.ofInt (-1))).1 17) (Int32.ofInt 0).toNatClampNeg (Int32.ofInt 0).toNatClampNeg (Int32.ofInt 32).toNatClampNeg)) 18 (va_cpy ((sA (sF (sF (sF (sF (sF s 16 0 z1) 16 1 z5) 16 2 z9) 16 3 z13) 16 4 (Int32.ofInt (-1))) 17 (va_cpy ((sF (sF (sF (sF (sF s 16 0 z1) 16 1 z5) 16 2 z9) 16 3 z13) 16 4 (Int32.ofInt (-1))).1 3) ((sF (sF (sF (sF (sF s 16 0 z1) 16 1 z5) 16 2 z9) 16 3 z13) 16 4 (Int32.ofInt (-1))).1 17) (Int32.ofInt 0).toNatClampNeg (Int32.ofInt 0).toNatClampNeg (Int32.ofInt 32).toNatClampNeg)).1 4) ((sA (sF (sF (sF (sF (sF s 16 0 z1) 16 1 z5) 16 2 z9) 16 3 z13) 16 4 (Int32.ofInt (-1))) 17 (va_cpy ((sF (sF (sF (sF (sF s 16 0 z1) 16 1 z5) 16 2 z9) 16 3 z13) 16 4 (Int32.ofInt (-1))).1 3) ((sF (sF (sF (sF (sF s 16 0 z1) 16 1 z5) 16 2 z9) 16 3 z13) 16 4 (Int32.ofInt (-1))).1 17) (Int32.ofInt 0).toNatClampNeg (Int32.ofInt 0).toNatClampNeg (Int32.ofInt 32).toNatClampNeg)).1 18) (Int32.ofInt 0).toNatClampNeg (Int32.ofInt 0).toNatClampNeg (Int32.ofInt 160).toNatClampNeg)) 19 (va_cpy ((sA (sA (sF (sF (sF (sF (sF s 16 0 z1) 16 1 z5) 16 2 z9) 16 3 z13) 16 4 (Int32.ofInt (-1))) 17 (va_cpy ((sF (sF (sF (sF (sF s 16 0 z1) 16 1 z5) 16 2 z9) 16 3 z13) 16 4 (Int32.ofInt (-1))).1 3) ((sF (sF (sF (sF (sF s 16 0 z1) 16 1 z5) 16 2 z9) 16 3 z13) 16 4 (Int32.ofInt (-1))).1 17) (Int32.ofInt 0).toNatClampNeg (Int32.ofInt 0).toNatClampNeg (Int32.ofInt 32).toNatClampNeg)) 18 (va_cpy ((sA (sF (sF (sF (sF (sF s 16 0 z1) 16 1 z5) 16 2 z9) 16 3 z13) 16 4 (Int32.ofInt (-1))) 17 (va_cpy ((sF (sF (sF (sF (sF s 16 0 z1) 16 1 z5) 16 2 z9) 16 3 z13) 16 4 (Int32.ofInt (-1))).1 3) ((sF (sF (sF (sF (sF s 16 0 z1) 16 1 z5) 16 2 z9) 16 3 z13) 16 4 (Int32.ofInt (-1))).1 17) (Int32.ofInt 0).toNatClampNeg (Int32.ofInt 0).toNatClampNeg (Int32.ofInt 32).toNatClampNeg)).1 4) ((sA (sF (sF (sF (sF (sF s 16 0 z1) 16 1 z5) 16 2 z9) 16 3 z13) 16 4 (Int32.ofInt (-1))) 17 (va_cpy ((sF (sF (sF (sF (sF s 16 0 z1) 16 1 z5) 16 2 z9) 16 3 z13) 16 4 (Int32.ofInt (-1))).1 3) ((sF (sF (sF (sF (sF s 16 0 z1) 16 1 z5) 16 2 z9) 16 3 z13) 16 4 (Int32.ofInt (-1))).1 17) (Int32.ofInt 0).toNatClampNeg (Int32.ofInt 0).toNatClampNeg (Int32.ofInt 32).toNatClampNeg)).1 18) (Int32.ofInt 0).toNatClampNeg (Int32.ofInt 0).toNatClampNeg (Int32.ofInt 160).toNatClampNeg)).1 5) ((sA (sA (sF (sF (sF (sF (sF s 16 0 z1) 16 1 z5) 16 2 z9) 16 3 z13) 16 4 (Int32.ofInt (-1))) 17 (va_cpy ((sF (sF (sF (sF (sF s 16 0 z1) 16 1 z5) 16 2 z9) 16 3 z13) 16 4 (Int32.ofInt (-1))).1 3) ((sF (sF (sF (sF (sF s 16 0 z1) 16 1 z5) 16 2 z9) 16 3 z13) 16 4 (Int32.ofInt (-1))).1 17) (Int32.ofInt 0).toNatClampNeg (Int32.ofInt 0).toNatClampNeg (Int32.ofInt 32).toNatClampNeg)) 18 (va_cpy ((sA (sF (sF (sF (sF (sF s 16 0 z1) 16 1 z5) 16 2 z9) 16 3 z13) 16 4 (Int32.ofInt (-1))) 17 (va_cpy ((sF (sF (sF (sF (sF s 16 0 z1) 16 1 z5) 16 2 z9) 16 3 z13) 16 4 (Int32.ofInt (-1))).1 3) ((sF (sF (sF (sF (sF s 16 0 z1) 16 1 z5) 16 2 z9) 16 3 z13) 16 4 (Int32.ofInt (-1))).1 17) (Int32.ofInt 0).toNatClampNeg (Int32.ofInt 0).toNatClampNeg (Int32.ofInt 32).toNatClampNeg)).1 4) ((sA (sF (sF (sF (sF (sF s 16 0 z1) 16 1 z5) 16 2 z9) 16 3 z13) 16 4 (Int32.ofInt (-1))) 17 (va_cpy ((sF (sF (sF (sF (sF s 16 0 z1) 16 1 z5) 16 2 z9) 16 3 z13) 16 4 (Int32.ofInt (-1))).1 3) ((sF (sF (sF (sF (sF s 16 0 z1) 16 1 z5) 16 2 z9) 16 3 z13) 16 4 (Int32.ofInt (-1))).1 17) (Int32.ofInt 0).toNatClampNeg (Int32.ofInt 0).toNatClampNeg (Int32.ofInt 32).toNatClampNeg)).1 18) (Int32.ofInt 0).toNatClampNeg (Int32.ofInt 0).toNatClampNeg (Int32.ofInt 160).toNatClampNeg)).1 19) (Int32.ofInt 0).toNatClampNeg (Int32.ofInt 0).toNatClampNeg (Int32.ofInt 160).toNatClampNeg)).1 20) (Int32.ofInt 0).toNatClampNeg (Int32.ofInt 0).toNatClampNeg (Int32.ofInt 160).toNatClampNeg)).1 7) ((sA (sA (sA (sA (sF (sF (sF (sF (sF s 16 0 z1) 16 1 z5) 16 2 z9) 16 3 z13) 16 4 (Int32.ofInt (-1))) 17 (va_cpy ((sF (sF (sF (sF (sF s 16 0 z1) 16 1 z5) 16 2 z9) 16 3 z13) 16 4 (Int32.ofInt (-1))).1 3) ((sF (sF (sF (sF (sF s 16 0 z1) 16 1 z5) 16 2 z9) 16 3 z13) 16 4 (Int32.ofInt (-1))).1 17) (Int32.ofInt 0).toNatClampNeg (Int32.ofInt 0).toNatClampNeg (Int32.ofInt 32).toNatClampNeg)) 18 (va_cpy ((sA (sF (sF (sF (sF (sF s 16 0 z1) 16 1 z5) 16 2 z9) 16 3 z13) 16 4 (Int32.ofInt (-1))) 17 (va_cpy ((sF (sF (sF (sF (sF s 16 0 z1) 16 1 z5) 16 2 z9) 16 3 z13) 16 4 (Int32.ofInt (-1))).1 3) ((sF (sF (sF (sF (sF s 16 0 z1) 16 1 z5) 16 2 z9) 16 3 z13) 16 4 (Int32.ofInt (-1))).1 17) (Int32.ofInt 0).toNatClampNeg (Int32.ofInt 0).toNatClampNeg (Int32.ofInt 32).toNatClampNeg)).1 4) ((sA (sF (sF (sF (sF (sF s 16 0 z1) 16 1 z5) 16 2 z9) 16 3 z13) 16 4 (Int32.ofInt (-1))) 17 (va_cpy ((sF (sF (sF (sF (sF s 16 0 z1) 16 1 z5) 16 2 z9) 16 3 z13) 16 4 (Int32.ofInt (-1))).1 3) ((sF (sF (sF (sF (sF s 16 0 z1) 16 1 z5) 16 2 z9) 16 3 z13) 16 4 (Int32.ofInt (-1))).1 17) (Int32.ofInt 0).toNatClampNeg (Int32.ofInt 0).toNatClampNeg (Int32.ofInt 32).toNatClampNeg)).1 18) (Int32.ofInt 0).toNatClampNeg (Int32.ofInt 0).toNatClampNeg (Int32.ofInt 160).toNatClampNeg)) 19 (va_cpy ((sA (sA (sF (sF (sF (sF (sF s 16 0 z1) 16 1 z5) 16 2 z9) 16 3 z13) 16 4 (Int32.ofInt (-1))) 17 (va_cpy ((sF (sF (sF (sF (sF s 16 0 z1) 16 1 z5) 16 2 z9) 16 3 z13) 16 4 (Int32.ofInt (-1))).1 3) ((sF (sF (sF (sF (sF s 16 0 z1) 16 1 z5) 16 2 z9) 16 3 z13) 16 4 (Int32.ofInt (-1))).1 17) (Int32.ofInt 0).toNatClampNeg (Int32.ofInt 0).toNatClampNeg (Int32.ofInt 32).toNatClampNeg)) 18 (va_cpy ((sA (sF (sF (sF (sF (sF s 16 0 z1) 16 1 z5) 16 2 z9) 16 3 z13) 16 4 (Int32.ofInt (-1))) 17 (va_cpy ((sF (sF (sF (sF (sF s 16 0 z1) 16 1 z5) 16 2 z9) 16 3 z13) 16 4 (Int32.ofInt (-1))).1 3) ((sF (sF (sF (sF (sF s 16 0 z1) 16 1 z5) 16 2 z9) 16 3 z13) 16 4 (Int32.ofInt (-1))).1 17) (Int32.ofInt 0).toNatClampNeg (Int32.ofInt 0).toNatClampNeg (Int32.ofInt 32).toNatClampNeg)).1 4) ((sA (sF (sF (sF (sF (sF s 16 0 z1) 16 1 z5) 16 2 z9) 16 3 z13) 16 4 (Int32.ofInt (-1))) 17 (va_cpy ((sF (sF (sF (sF (sF s 16 0 z1) 16 1 z5) 16 2 z9) 16 3 z13) 16 4 (Int32.ofInt (-1))).1 3) ((sF (sF (sF (sF (sF s 16 0 z1) 16 1 z5) 16 2 z9) 16 3 z13) 16 4 (Int32.ofInt (-1))).1 17) (Int32.ofInt 0).toNatClampNeg (Int32.ofInt 0).toNatClampNeg (Int32.ofInt 32).toNatClampNeg)).1 18) (Int32.ofInt 0).toNatClampNeg (Int32.ofInt 0).toNatClampNeg (Int32.ofInt 160).toNatClampNeg)).1 5) ((sA (sA (sF (sF (sF (sF (sF s 16 0 z1) 16 1 z5) 16 2 z9) 16 3 z13) 16 4 (Int32.ofInt (-1))) 17 (va_cpy ((sF (sF (sF (sF (sF s 16 0 z1) 16 1 z5) 16 2 z9) 16 3 z13) 16 4 (Int32.ofInt (-1))).1 3) ((sF (sF (sF (sF (sF s 16 0 z1) 16 1 z5) 16 2 z9) 16 3 z13) 16 4 (Int32.ofInt (-1))).1 17) (Int32.ofInt 0).toNatClampNeg (Int32.ofInt 0).toNatClampNeg (Int32.ofInt 32).toNatClampNeg)) 18 (va_cpy ((sA (sF (sF (sF (sF (sF s 16 0 z1) 16 1 z5) 16 2 z9) 16 3 z13) 16 4 (Int32.ofInt (-1))) 17 (va_cpy ((sF (sF (sF (sF (sF s 16 0 z1) 16 1 z5) 16 2 z9) 16 3 z13) 16 4 (Int32.ofInt (-1))).1 3) ((sF (sF (sF (sF (sF s 16 0 z1) 16 1 z5) 16 2 z9) 16 3 z13) 16 4 (Int32.ofInt (-1))).1 17) (Int32.ofInt 0).toNatClampNeg (Int32.ofInt 0).toNatClampNeg (Int32.ofInt 32).toNatClampNeg)).1 4) ((sA (sF (sF (sF (sF (sF s 16 0 z1) 16 1 z5) 16 2 z9) 16 3 z13) 16 4 (Int32.ofInt (-1))) 17 (va_cpy ((sF (sF (sF (sF (sF s 16 0 z1) 16 1 z5) 16 2 z9) 16 3 z13) 16 4 (Int32.ofInt (-1))).1 3) ((sF (sF (sF (sF (sF s 16 0 z1) 16 1 z5) 16 2 z9) 16 3 z13) 16 4 (Int32.ofInt (-1))).1 17) (Int32.ofInt 0).toNatClampNeg (Int32.ofInt 0).toNatClampNeg (Int32.ofInt 32).toNatClampNeg)).1 18) (Int32.ofInt 0).toNatClampNeg (Int32.ofInt 0).toNatClampNeg (Int32.ofInt 160).toNatClampNeg)).1 19) (Int32.ofInt 0).toNatClampNeg (Int32.ofInt 0).toNatClampNeg (Int32.ofInt 160).toNatClampNeg)) 20 (va_cpy ((sA (sA (sA (sF (sF (sF (sF (sF s 16 0 z1) 16 1 z5) 16 2 z9) 16 3 z13) 16 4 (Int32.ofInt (-1))) 17 (va_cpy ((sF (sF (sF (sF (sF s 16 0 z1) 16 1 z5) 16 2 z9) 16 3 z13) 16 4 (Int32.ofInt (-1))).1 3) ((sF (sF (sF (sF (sF s 16 0 z1) 16 1 z5) 16 2 z9) 16 3 z13) 16 4 (Int32.ofInt (-1))).1 17) (Int32.ofInt 0).toNatClampNeg (Int32.ofInt 0).toNatClampNeg (Int32.ofInt 32).toNatClampNeg)) 18 (va_cpy ((sA (sF (sF (sF (sF (sF s 16 0 z1) 16 1 z5) 16 2 z9) 16 3 z13) 16 4 (Int32.ofInt (-1))) 17 (va_cpy ((sF (sF (sF (sF (sF s 16 0 z1) 16 1 z5) 16 2 z9) 16 3 z13) 16 4 (Int32.ofInt (-1))).1 3) ((sF (sF (sF (sF (sF s 16 0 z1) 16 1 z5) 16 2 z9) 16 3 z13) 16 4 (Int32.ofInt (-1))).1 17) (Int32.ofInt 0).toNatClampNeg (Int32.ofInt 0).toNatClampNeg (Int32.ofInt 32).toNatClampNeg)).1 4) ((sA (sF (sF (sF (sF (sF s 16 0 z1) 16 1 z5) 16 2 z9) 16 3 z13) 16 4 (Int32.ofInt (-1))) 17 (va_cpy ((sF (sF (sF (sF (sF s 16 0 z1) 16 1 z5) 16 2 z9) 16 3 z13) 16 4 (Int32.ofInt (-1))).1 3) ((sF (sF (sF (sF (sF s 16 0 z1) 16 1 z5) 16 2 z9) 16 3 z13) 16 4 (Int32.ofInt (-1))).1 17) (Int32.ofInt 0).toNatClampNeg (Int32.ofInt 0).toNatClampNeg (Int32.ofInt 32).toNatClampNeg)).1 18) (Int32.ofInt 0).toNatClampNeg (Int32.ofInt 0).toNatClampNeg (Int32.ofInt 160).toNatClampNeg)) 19 (va_cpy ((sA (sA (sF (sF (sF (sF (sF s 16 0 z1) 16 1 z5) 16 2 z9) 16 3 z13) 16 4 (Int32.ofInt (-1))) 17 (va_cpy ((sF (sF (sF (sF (sF s 16 0 z1) 16 1 z5) 16 2 z9) 16 3 z13) 16 4 (Int32.ofInt (-1))).1 3) ((sF (sF (sF (sF (sF s 16 0 z1) 16 1 z5) 16 2 z9) 16 3 z13) 16 4 (Int32.ofInt (-1))).1 17) (Int32.ofInt 0).toNatClampNeg (Int32.ofInt 0).toNatClampNeg (Int32.ofInt 32).toNatClampNeg)) 18 (va_cpy ((sA (sF (sF (sF (sF (sF s 16 0 z1) 16 1 z5) 16 2 z9) 16 3 z13) 16 4 (Int32.ofInt (-1))) 17 (va_cpy ((sF (sF (sF (sF (sF s 16 0 z1) 16 1 z5) 16 2 z9) 16 3 z13) 16 4 (Int32.ofInt (-1))).1 3) ((sF (sF (sF (sF (sF s 16 0 z1) 16 1 z5) 16 2 z9) 16 3 z13) 16 4 (Int32.ofInt (-1))).1 17) (Int32.ofInt 0).toNatClampNeg (Int32.ofInt 0).toNatClampNeg (Int32.ofInt 32).toNatClampNeg)).1 4) ((sA (sF (sF (sF (sF (sF s 16 0 z1) 16 1 z5) 16 2 z9) 16 3 z13) 16 4 (Int32.ofInt (-1))) 17 (va_cpy ((sF (sF (sF (sF (sF s 16 0 z1) 16 1 z5) 16 2 z9) 16 3 z13) 16 4 (Int32.ofInt (-1))).1 3) ((sF (sF (sF (sF (sF s 16 0 z1) 16 1 z5) 16 2 z9) 16 3 z13) 16 4 (Int32.ofInt (-1))).1 17) (Int32.ofInt 0).toNatClampNeg (Int32.ofInt 0).toNatClampNeg (Int32.ofInt 32).toNatClampNeg)).1 18) (Int32.ofInt 0).toNatClampNeg (Int32.ofInt 0).toNatClampNeg (Int32.ofInt 160).toNatClampNeg)).1 5) ((sA (sA (sF (sF (sF (sF (sF s 16 0 z1) 16 1 z5) 16 2 z9) 16 3 z13) 16 4 (Int32.ofInt (-1))) 17 (va_cpy ((sF (sF (sF (sF (sF s 16 0 z1) 16 1 z5) 16 2 z9) 16 3 z13) 16 4 (Int32.ofInt (-1))).1 3) ((sF (sF (sF (sF (sF s 16 0 z1) 16 1 z5) 16 2 z9) 16 3 z13) 16 4 (Int32.ofInt (-1))).1 17) (Int32.ofInt 0).toNatClampNeg (Int32.ofInt 0).toNatClampNeg (Int32.ofInt 32).toNatClampNeg)) 18 (va_cpy ((sA (sF (sF (sF (sF (sF s 16 0 z1) 16 1 z5) 16 2 z9) 16 3 z13) 16 4 (Int32.ofInt (-1))) 17 (va_cpy ((sF (sF (sF (sF (sF s 16 0 z1) 16 1 z5) 16 2 z9) 16 3 z13) 16 4 (Int32.ofInt (-1))).1 3) ((sF (sF (sF (sF (sF s 16 0 z1) 16 1 z5) 16 2 z9) 16 3 z13) 16 4 (Int32.ofInt (-1))).1 17) (Int32.ofInt 0).toNatClampNeg (Int32.ofInt 0).toNatClampNeg (Int32.ofInt 32).toNatClampNeg)).1 4) ((sA (sF (sF (sF (sF (sF s 16 0 z1) 16 1 z5) 16 2 z9) 16 3 z13) 16 4 (Int32.ofInt (-1))) 17 (va_cpy ((sF (sF (sF (sF (sF s 16 0 z1) 16 1 z5) 16 2 z9) 16 3 z13) 16 4 (Int32.ofInt (-1))).1 3) ((sF (sF (sF (sF (sF s 16 0 z1) 16 1 z5) 16 2 z9) 16 3 z13) 16 4 (Int32.ofInt (-1))).1 17) (Int32.ofInt 0).toNatClampNeg (Int32.ofInt 0).toNatClampNeg (Int32.ofInt 32).toNatClampNeg)).1 18) (Int32.ofInt 0).toNatClampNeg (Int32.ofInt 0).toNatClampNeg (Int32.ofInt 160).toNatClampNeg)).1 19) (Int32.ofInt 0).toNatClampNeg (Int32.ofInt 0).toNatClampNeg (Int32.ofInt 160).toNatClampNeg)).1 6) ((sA (sA (sA (sF (sF (sF (sF (sF s 16 0 z1) 16 1 z5) 16 2 z9) 16 3 z13) 16 4 (Int32.ofInt (-1))) 17 (va_cpy ((sF (sF (sF (sF (sF s 16 0 z1) 16 1 z5) 16 2 z9) 16 3 z13) 16 4 (Int32.ofInt (-1))).1 3) ((sF (sF (sF (sF (sF s 16 0 z1) 16 1 z5) 16 2 z9) 16 3 z13) 16 4 (Int32.ofInt (-1))).1 17) (Int32.ofInt 0).toNatClampNeg (Int32.ofInt 0).toNatClampNeg (Int32.ofInt 32).toNatClampNeg)) 18 (va_cpy ((sA (sF (sF (sF (sF (sF s 16 0 z1) 16 1 z5) 16 2 z9) 16 3 z13) 16 4 (Int32.ofInt (-1))) 17 (va_cpy ((sF (sF (sF (sF (sF s 16 0 z1) 16 1 z5) 16 2 z9) 16 3 z13) 16 4 (Int32.ofInt (-1))).1 3) ((sF (sF (sF (sF (sF s 16 0 z1) 16 1 z5) 16 2 z9) 16 3 z13) 16 4 (Int32.ofInt (-1))).1 17) (Int32.ofInt 0).toNatClampNeg (Int32.ofInt 0).toNatClampNeg (Int32.ofInt 32).toNatClampNeg)).1 4) ((sA (sF (sF (sF (sF (sF s 16 0 z1) 16 1 z5) 16 2 z9) 16 3 z13) 16 4 (Int32.ofInt (-1))) 17 (va_cpy ((sF (sF (sF (sF (sF s 16 0 z1) 16 1 z5) 16 2 z9) 16 3 z13) 16 4 (Int32.ofInt (-1))).1 3) ((sF (sF (sF (sF (sF s 16 0 z1) 16 1 z5) 16 2 z9) 16 3 z13) 16 4 (Int32.ofInt (-1))).1 17) (Int32.ofInt 0).toNatClampNeg (Int32.ofInt 0).toNatClampNeg (Int32.ofInt 32).toNatClampNeg)).1 18) (Int32.ofInt 0).toNatClampNeg (Int32.ofInt 0).toNatClampNeg (Int32.ofInt 160).toNatClampNeg)) 19 (va_cpy ((sA (sA (sF (sF (sF (sF (sF s 16 0 z1) 16 1 z5) 16 2 z9) 16 3 z13) 16 4 (Int32.ofInt (-1))) 17 (va_cpy ((sF (sF (sF (sF (sF s 16 0 z1) 16 1 z5) 16 2 z9) 16 3 z13) 16 4 (Int32.ofInt (-1))).1 3) ((sF (sF (sF (sF (sF s 16 0 z1) 16 1 z5) 16 2 z9) 16 3 z13) 16 4 (Int32.ofInt (-1))).1 17) (Int32.ofInt 0).toNatClampNeg (Int32.ofInt 0).toNatClampNeg (Int32.ofInt 32).toNatClampNeg)) 18 (va_cpy ((sA (sF (sF (sF (sF (sF s 16 0 z1) 16 1 z5) 16 2 z9) 16 3 z13) 16 4 (Int32.ofInt (-1))) 17 (va_cpy ((sF (sF (sF (sF (sF s 16 0 z1) 16 1 z5) 16 2 z9) 16 3 z13) 16 4 (Int32.ofInt (-1))).1 3) ((sF (sF (sF (sF (sF s 16 0 z1) 16 1 z5) 16 2 z9) 16 3 z13) 16 4 (Int32.ofInt (-1))).1 17) (Int32.ofInt 0).toNatClampNeg (Int32.ofInt 0).toNatClampNeg (Int32.ofInt 32).toNatClampNeg)).1 4) ((sA (sF (sF (sF (sF (sF s 16 0 z1) 16 1 z5) 16 2 z9) 16 3 z13) 16 4 (Int32.ofInt (-1))) 17 (va_cpy ((sF (sF (sF (sF (sF s 16 0 z1) 16 1 z5) 16 2 z9) 16 3 z13) 16 4 (Int32.ofInt (-1))).1 3) ((sF (sF (sF (sF (sF s 16 0 z1) 16 1 z5) 16 2 z9) 16 3 z13) 16 4 (Int32.ofInt (-1))).1 17) (Int32.ofInt 0).toNatClampNeg (Int32.ofInt 0).toNatClampNeg (Int32.ofInt 32).toNatClampNeg)).1 18) (Int32.ofInt 0).toNatClampNeg (Int32.ofInt 0).toNatClampNeg (Int32.ofInt 160).toNatClampNeg)).1 5) ((sA (sA (sF (sF (sF (sF (sF s 16 0 z1) 16 1 z5) 16 2 z9) 16 3 z13) 16 4 (Int32.ofInt (-1))) 17 (va_cpy ((sF (sF (sF (sF (sF s 16 0 z1) 16 1 z5) 16 2 z9) 16 3 z13) 16 4 (Int32.ofInt (-1))).1 3) ((sF (sF (sF (sF (sF s 16 0 z1) 16 1 z5) 16 2 z9) 16 3 z13) 16 4 (Int32.ofInt (-1))).1 17) (Int32.ofInt 0).toNatClampNeg (Int32.ofInt 0).toNatClampNeg (Int32.ofInt 32).toNatClampNeg)) 18 (va_cpy ((sA (sF (sF (sF (sF (sF s 16 0 z1) 16 1 z5) 16 2 z9) 16 3 z13) 16 4 (Int32.ofInt (-1))) 17 (va_cpy ((sF (sF (sF (sF (sF s 16 0 z1) 16 1 z5) 16 2 z9) 16 3 z13) 16 4 (Int32.ofInt (-1))).1 3) ((sF (sF (sF (sF (sF s 16 0 z1) 16 1 z5) 16 2 z9) 16 3 z13) 16 4 (Int32.ofInt (-1))).1 17) (Int32.ofInt 0).toNatClampNeg (Int32.ofInt 0).toNatClampNeg (Int32.ofInt 32).toNatClampNeg)).1 4) ((sA (sF (sF (sF (sF (sF s 16 0 z1) 16 1 z5) 16 2 z9) 16 3 z13) 16 4 (Int32.ofInt (-1))) 17 (va_cpy ((sF (sF (sF (sF (sF s 16 0 z1) 16 1 z5) 16 2 z9) 16 3 z13) 16 4 (Int32.ofInt (-1))).1 3) ((sF (sF (sF (sF (sF s 16 0 z1) 16 1 z5) 16 2 z9) 16 3 z13) 16 4 (Int32.ofInt (-1))).1 17) (Int32.ofInt 0).toNatClampNeg (Int32.ofInt 0).toNatClampNeg (Int32.ofInt 32).toNatClampNeg)).1 18) (Int32.ofInt 0).toNatClampNeg (Int32.ofInt 0).toNatClampNeg (Int32.ofInt 160).toNatClampNeg)).1 19) (Int32.ofInt 0).toNatClampNeg (Int32.ofInt 0).toNatClampNeg (Int32.ofInt 160).toNatClampNeg)).1 20) (Int32.ofInt 0).toNatClampNeg (Int32.ofInt 0).toNatClampNeg (Int32.ofInt 160).toNatClampNeg)).1 21) (Int32.ofInt 0).toNatClampNeg (Int32.ofInt 0).toNatClampNeg (Int32.ofInt 160).toNatClampNeg)).1 8) ((sA (sA (sA (sA (sA (sF (sF (sF (sF (sF s 16 0 z1) 16 1 z5) 16 2 z9) 16 3 z13) 16 4 (Int32.ofInt (-1))) 17 (va_cpy ((sF (sF (sF (sF (sF s 16 0 z1) 16 1 z5) 16 2 z9) 16 3 z13) 16 4 (Int32.ofInt (-1))).1 3) ((sF (sF (sF (sF (sF s 16 0 z1) 16 1 z5) 16 2 z9) 16 3 z13) 16 4 (Int32.ofInt (-1))).1 17) (Int32.ofInt 0).toNatClampNeg (Int32.ofInt 0).toNatClampNeg (Int32.ofInt 32).toNatClampNeg)) 18 (va_cpy ((sA (sF (sF (sF (sF (sF s 16 0 z1) 16 1 z5) 16 2 z9) 16 3 z13) 16 4 (Int32.ofInt (-1))) 17 (va_cpy ((sF (sF (sF (sF (sF s 16 0 z1) 16 1 z5) 16 2 z9) 16 3 z13) 16 4 (Int32.ofInt (-1))).1 3) ((sF (sF (sF (sF (sF s 16 0 z1) 16 1 z5) 16 2 z9) 16 3 z13) 16 4 (Int32.ofInt (-1))).1 17) (Int32.ofInt 0).toNatClampNeg (Int32.ofInt 0).toNatClampNeg (Int32.ofInt 32).toNatClampNeg)).1 4) ((sA (sF (sF (sF (sF (sF s 16 0 z1) 16 1 z5) 16 2 z9) 16 3 z13) 16 4 (Int32.ofInt (-1))) 17 (va_cpy ((sF (sF (sF (sF (sF s 16 0 z1) 16 1 z5) 16 2 z9) 16 3 z13) 16 4 (Int32.ofInt (-1))).1 3) ((sF (sF (sF (sF (sF s 16 0 z1) 16 1 z5) 16 2 z9) 16 3 z13) 16 4 (Int32.ofInt (-1))).1 17) (Int32.ofInt 0).toNatClampNeg (Int32.ofInt 0).toNatClampNeg (Int32.ofInt 32).toNatClampNeg)).1 18) (Int32.ofInt 0).toNatClampNeg (Int32.ofInt 0).toNatClampNeg (Int32.ofInt 160).toNatClampNeg)) 19 (va_cpy ((sA (sA (sF (sF (sF (sF (sF s 16 0 z1) 16 1 z5) 16 2 z9) 16 3 z13) 16 4 (Int32.ofInt (-1))) 17 (va_cpy ((sF (sF (sF (sF (sF s 16 0 z1) 16 1 z5) 16 2 z9) 16 3 z13) 16 4 (Int32.ofInt (-1))).1 3) ((sF (sF (sF (sF (sF s 16 0 z1) 16 1 z5) 16 2 z9) 16 3 z13) 16 4 (Int32.ofInt (-1))).1 17) (Int32.ofInt 0).toNatClampNeg (Int32.ofInt 0).toNatClampNeg (Int32.ofInt 32).toNatClampNeg)) 18 (va_cpy ((sA (sF (sF (sF (sF (sF s 16 0 z1) 16 1 z5) 16 2 z9) 16 3 z13) 16 4 (Int32.ofInt (-1))) 17 (va_cpy ((sF (sF (sF (sF (sF s 16 0 z1) 16 1 z5) 16 2 z9) 16 3 z13) 16 4 (Int32.ofInt (-1))).1 3) ((sF (sF (sF (sF (sF s 16 0 z1) 16 1 z5) 16 2 z9) 16 3 z13) 16 4 (Int32.ofInt (-1))).1 17) (Int32.ofInt 0).toNatClampNeg (Int32.ofInt 0).toNatClampNeg (Int32.ofInt 32).toNatClampNeg)).1 4) ((sA (sF (sF (sF (sF (sF s 16 0 z1) 16 1 z5) 16 2 z9) 16 3 z13) 16 4 (Int32.ofInt (-1))) 17 (va_cpy ((sF (sF (sF (sF (sF s 16 0 z1) 16 1 z5) 16 2 z9) 16 3 z13) 16 4 (Int32.ofInt (-1))).1 3) ((sF (sF (sF (sF (sF s 16 0 z1) 16 1 z5) 16 2 z9) 16 3 z13) 16 4 (Int32.ofInt (-1))).1 17) (Int32.ofInt 0).toNatClampNeg (Int32.ofInt 0).toNatClampNeg (Int32.ofInt 32).toNatClampNeg)).1 18) (Int32.ofInt 0).toNatClampNeg (Int32.ofInt 0).toNatClampNeg (Int32.ofInt 160).toNatClampNeg)).1 5) ((sA (sA (sF (sF (sF (sF (sF s 16 0 z1) 16 1 z5) 16 2 z9) 16 3 z13) 16 4 (Int32.ofInt (-1))) 17 (va_cpy ((sF (sF (sF (sF (sF s 16 0 z1) 16 1 z5) 16 2 z9) 16 3 z13) 16 4 (Int32.ofInt (-1))).1 3) ((sF (sF (sF (sF (sF s 16 0 z1) 16 1 z5) 16 2 z9) 16 3 z13) 16 4 (Int32.ofInt (-1))).1 17) (Int32.ofInt 0).toNatClampNeg (Int32.ofInt 0).toNatClampNeg (Int32.ofInt 32).toNatClampNeg)) 18 (va_cpy ((sA (sF (sF (sF (sF (sF s 16 0 z1) 16 1 z5) 16 2 z9) 16 3 z13) 16 4 (Int32.ofInt (-1))) 17 (va_cpy ((sF (sF (sF (sF (sF s 16 0 z1) 16 1 z5) 16 2 z9) 16 3 z13) 16 4 (Int32.ofInt (-1))).1 3) ((sF (sF (sF (sF (sF s 16 0 z1) 16 1 z5) 16 2 z9) 16 3 z13) 16 4 (Int32.ofInt (-1))).1 17) (Int32.ofInt 0).toNatClampNeg (Int32.ofInt 0).toNatClampNeg (Int32.ofInt 32).toNatClampNeg)).1 4) ((sA (sF (sF (sF (sF (sF s 16 0 z1) 16 1 z5) 16 2 z9) 16 3 z13) 16 4 (Int32.ofInt (-1))) 17 (va_cpy ((sF (sF (sF (sF (sF s 16 0 z1) 16 1 z5) 16 2 z9) 16 3 z13) 16 4 (Int32.ofInt (-1))).1 3) ((sF (sF (sF (sF (sF s 16 0 z1) 16 1 z5) 16 2 z9) 16 3 z13) 16 4 (Int32.ofInt (-1))).1 17) (Int32.ofInt 0).toNatClampNeg (Int32.ofInt 0).toNatClampNeg (Int32.ofInt 32).toNatClampNeg)).1 18) (Int32.ofInt 0).toNatClampNeg (Int32.ofInt 0).toNatClampNeg (Int32.ofInt 160).toNatClampNeg)).1 19) (Int32.ofInt 0).toNatClampNeg (Int32.ofInt 0).toNatClampNeg (Int32.ofInt 160).toNatClampNeg)) 20 (va_cpy ((sA (sA (sA (sF (sF (sF (sF (sF s 16 0 z1) 16 1 z5) 16 2 z9) 16 3 z13) 16 4 (Int32.ofInt (-1))) 17 (va_cpy ((sF (sF (sF (sF (sF s 16 0 z1) 16 1 z5) 16 2 z9) 16 3 z13) 16 4 (Int32.ofInt (-1))).1 3) ((sF (sF (sF (sF (sF s 16 0 z1) 16 1 z5) 16 2 z9) 16 3 z13) 16 4 (Int32.ofInt (-1))).1 17) (Int32.ofInt 0).toNatClampNeg (Int32.ofInt 0).toNatClampNeg (Int32.ofInt 32).toNatClampNeg)) 18 (va_cpy ((sA (sF (sF (sF (sF (sF s 16 0 z1) 16 1 z5) 16 2 z9) 16 3 z13) 16 4 (Int32.ofInt (-1))) 17 (va_cpy ((sF (sF (sF (sF (sF s 16 0 z1) 16 1 z5) 16 2 z9) 16 3 z13) 16 4 (Int32.ofInt (-1))).1 3) ((sF (sF (sF (sF (sF s 16 0 z1) 16 1 z5) 16 2 z9) 16 3 z13) 16 4 (Int32.ofInt (-1))).1 17) (Int32.ofInt 0).toNatClampNeg (Int32.ofInt 0).toNatClampNeg (Int32.ofInt 32).toNatClampNeg)).1 4) ((sA (sF (sF (sF (sF (sF s 16 0 z1) 16 1 z5) 16 2 z9) 16 3 z13) 16 4 (Int32.ofInt (-1))) 17 (va_cpy ((sF (sF (sF (sF (sF s 16 0 z1) 16 1 z5) 16 2 z9) 16 3 z13) 16 4 (Int32.ofInt (-1))).1 3) ((sF (sF (sF (sF (sF s 16 0 z1) 16 1 z5) 16 2 z9) 16 3 z13) 16 4 (Int32.ofInt (-1))).1 17) (Int32.ofInt 0).toNatClampNeg (Int32.ofInt 0).toNatClampNeg (Int32.ofInt 32).toNatClampNeg)).1 18) (Int32.ofInt 0).toNatClampNeg (Int32.ofInt 0).toNatClampNeg (Int32.ofInt 160).toNatClampNeg)) 19 (va_cpy ((sA (sA (sF (sF (sF (sF (sF s 16 0 z1) 16 1 z5) 16 2 z9) 16 3 z13) 16 4 (Int32.ofInt (-1))) 17 (va_cpy ((sF (sF (sF (sF (sF s 16 0 z1) 16 1 z5) 16 2 z9) 16 3 z13) 16 4 (Int32.ofInt (-1))).1 3) ((sF (sF (sF (sF (sF s 16 0 z1) 16 1 z5) 16 2 z9) 16 3 z13) 16 4 (Int32.ofInt (-1))).1 17) (Int32.ofInt 0).toNatClampNeg (Int32.ofInt 0).toNatClampNeg (Int32.ofInt 32).toNatClampNeg)) 18 (va_cpy ((sA (sF (sF (sF (sF (sF s 16 0 z1) 16 1 z5) 16 2 z9) 16 3 z13) 16 4 (Int32.ofInt (-1))) 17 (va_cpy ((sF (sF (sF (sF (sF s 16 0 z1) 16 1 z5) 16 2 z9) 16 3 z13) 16 4 (Int32.ofInt (-1))).1 3) ((sF (sF (sF (sF (sF s 16 0 z1) 16 1 z5) 16 2 z9) 16 3 z13) 16 4 (Int32.ofInt (-1))).1 17) (Int32.ofInt 0).toNatClampNeg (Int32.ofInt 0).toNatClampNeg (Int32.ofInt 32).toNatClampNeg)).1 4) ((sA (sF (sF (sF (sF (sF s 16 0 z1) 16 1 z5) 16 2 z9) 16 3 z13) 16 4 (Int32.ofInt (-1))) 17 (va_cpy ((sF (sF (sF (sF (sF s 16 0 z1) 16 1 z5) 16 2 z9) 16 3 z13) 16 4 (Int32.ofInt (-1))).1 3) ((sF (sF (sF (sF (sF s 16 0 z1) 16 1 z5) 16 2 z9) 16 3 z13) 16 4 (Int32.ofInt (-1))).1 17) (Int32.ofInt 0).toNatClampNeg (Int32.ofInt 0).toNatClampNeg (Int32.ofInt 32).toNatClampNeg)).1 18) (Int32.ofInt 0).toNatClampNeg (Int32.ofInt 0).toNatClampNeg (Int32.ofInt 160).toNatClampNeg)).1 5) ((sA (sA (sF (sF (sF (sF (sF s 16 0 z1) 16 1 z5) 16 2 z9) 16 3 z13) 16 4 (Int32.ofInt (-1))) 17 (va_cpy ((sF (sF (sF (sF (sF s 16 0 z1) 16 1 z5) 16 2 z9) 16 3 z13) 16 4 (Int32.ofInt (-1))).1 3) ((sF (sF (sF (sF (sF s 16 0 z1) 16 1 z5) 16 2 z9) 16 3 z13) 16 4 (Int32.ofInt (-1))).1 17) (Int32.ofInt 0).toNatClampNeg (Int32.ofInt 0).toNatClampNeg (Int32.ofInt 32).toNatClampNeg)) 18 (va_cpy ((sA (sF (sF (sF (sF (sF s 16 0 z1) 16 1 z5) 16 2 z9) 16 3 z13) 16 4 (Int32.ofInt (-1))) 17 (va_cpy ((sF (sF (sF (sF (sF s 16 0 z1) 16 1 z5) 16 2 z9) 16 3 z13) 16 4 (Int32.ofInt (-1))).1 3) ((sF (sF (sF (sF (sF s 16 0 z1) 16 1 z5) 16 2 z9) 16 3 z13) 16 4 (Int32.ofInt (-1))).1 17) (Int32.ofInt 0).toNatClampNeg (Int32.ofInt 0).toNatClampNeg (Int32.ofInt 32).toNatClampNeg)).1 4) ((sA (sF (sF (sF (sF (sF s 16 0 z1) 16 1 z5) 16 2 z9) 16 3 z13) 16 4 (Int32.ofInt (-1))) 17 (va_cpy ((sF (sF (sF (sF (sF s 16 0 z1) 16 1 z5) 16 2 z9) 16 3 z13) 16 4 (Int32.ofInt (-1))).1 3) ((sF (sF (sF (sF (sF s 16 0 z1) 16 1 z5) 16 2 z9) 16 3 z13) 16 4 (Int32.ofInt (-1))).1 17) (Int32.ofInt 0).toNatClampNeg (Int32.ofInt 0).toNatClampNeg (Int32.ofInt 32).toNatClampNeg)).1 18) (Int32.ofInt 0).toNatClampNeg (Int32.ofInt 0).toNatClampNeg (Int32.ofInt 160).toNatClampNeg)).1 19) (Int32.ofInt 0).toNatClampNeg (Int32.ofInt 0).toNatClampNeg (Int32.ofInt 160).toNatClampNeg)).1 6) ((sA (sA (sA (sF (sF (sF (sF (sF s 16 0 z1) 16 1 z5) 16 2 z9) 16 3 z13) 16 4 (Int32.ofInt (-1))) 17 (va_cpy ((sF (sF (sF (sF (sF s 16 0 z1) 16 1 z5) 16 2 z9) 16 3 z13) 16 4 (Int32.ofInt (-1))).1 3) ((sF (sF (sF (sF (sF s 16 0 z1) 16 1 z5) 16 2 z9) 16 3 z13) 16 4 (Int32.ofInt (-1))).1 17) (Int32.ofInt 0).toNatClampNeg (Int32.ofInt 0).toNatClampNeg (Int32.ofInt 32).toNatClampNeg)) 18 (va_cpy ((sA (sF (sF (sF (sF (sF s 16 0 z1) 16 1 z5) 16 2 z9) 16 3 z13) 16 4 (Int32.ofInt (-1))) 17 (va_cpy ((sF (sF (sF (sF (sF s 16 0 z1) 16 1 z5) 16 2 z9) 16 3 z13) 16 4 (Int32.ofInt (-1))).1 3) ((sF (sF (sF (sF (sF s 16 0 z1) 16 1 z5) 16 2 z9) 16 3 z13) 16 4 (Int32.ofInt (-1))).1 17) (Int32.ofInt 0).toNatClampNeg (Int32.ofInt 0).toNatClampNeg (Int32.ofInt 32).toNatClampNeg)).1 4) ((sA (sF (sF (sF (sF (sF s 16 0 z1) 16 1 z5) 16 2 z9) 16 3 z13) 16 4 (Int32.ofInt (-1))) 17 (va_cpy ((sF (sF (sF (sF (sF s 16 0 z1) 16 1 z5) 16 2 z9) 16 3 z13) 16 4 (Int32.ofInt (-1))).1 3) ((sF (sF (sF (sF (sF s 16 0 z1) 16 1 z5) 16 2 z9) 16 3 z13) 16 4 (Int32.ofInt (-1))).1 17) (Int32.ofInt 0).toNatClampNeg (Int32.ofInt 0).toNatClampNeg (Int32.ofInt 32).toNatClampNeg)).1 18) (Int32.ofInt 0).toNatClampNeg (Int32.ofInt 0).toNatClampNeg (Int32.ofInt 160).toNatClampNeg)) 19 (va_cpy ((sA (sA (sF (sF (sF (sF (sF s 16 0 z1) 16 1 z5) 16 2 z9) 16 3 z13) 16 4 (Int32.ofInt (-1))) 17 (va_cpy ((sF (sF (sF (sF (sF s 16 0 z1) 16 1 z5) 16 2 z9) 16 3 z13) 16 4 (Int32.ofInt (-1))).1 3) ((sF (sF (sF (sF (sF s 16 0 z1) 16 1 z5) 16 2 z9) 16 3 z13) 16 4 (Int32.ofInt (-1))).1 17) (Int32.ofInt 0).toNatClampNeg (Int32.ofInt 0).toNatClampNeg (Int32.ofInt 32).toNatClampNeg)) 18 (va_cpy ((sA (sF (sF (sF (sF (sF s 16 0 z1) 16 1 z5) 16 2 z9) 16 3 z13) 16 4 (Int32.ofInt (-1))) 17 (va_cpy ((sF (sF (sF (sF (sF s 16 0 z1) 16 1 z5) 16 2 z9) 16 3 z13) 16 4 (Int32.ofInt (-1))).1 3) ((sF (sF (sF (sF (sF s 16 0 z1) 16 1 z5) 16 2 z9) 16 3 z13) 16 4 (Int32.ofInt (-1))).1 17) (Int32.ofInt 0).toNatClampNeg (Int32.ofInt 0).toNatClampNeg (Int32.ofInt 32).toNatClampNeg)).1 4) ((sA (sF (sF (sF (sF (sF s 16 0 z1) 16 1 z5) 16 2 z9) 16 3 z13) 16 4 (Int32.ofInt (-1))) 17 (va_cpy ((sF (sF (sF (sF (sF s 16 0 z1) 16 1 z5) 16 2 z9) 16 3 z13) 16 4 (Int32.ofInt (-1))).1 3) ((sF (sF (sF (sF (sF s 16 0 z1) 16 1 z5) 16 2 z9) 16 3 z13) 16 4 (Int32.ofInt (-1))).1 17) (Int32.ofInt 0).toNatClampNeg (Int32.ofInt 0).toNatClampNeg (Int32.ofInt 32).toNatClampNeg)).1 18) (Int32.ofInt 0).toNatClampNeg (Int32.ofInt 0).toNatClampNeg (Int32.ofInt 160).toNatClampNeg)).1 5) ((sA (sA (sF (sF (sF (sF (sF s 16 0 z1) 16 1 z5) 16 2 z9) 16 3 z13) 16 4 (Int32.ofInt (-1))) 17 (va_cpy ((sF (sF (sF (sF (sF s 16 0 z1) 16 1 z5) 16 2 z9) 16 3 z13) 16 4 (Int32.ofInt (-1))).1 3) ((sF (sF (sF (sF (sF s 16 0 z1) 16 1 z5) 16 2 z9) 16 3 z13) 16 4 (Int32.ofInt (-1))).1 17) (Int32.ofInt 0).toNatClampNeg (Int32.ofInt 0).toNatClampNeg (Int32.ofInt 32).toNatClampNeg)) 18 (va_cpy ((sA (sF (sF (sF (sF (sF s 16 0 z1) 16 1 z5) 16 2 z9) 16 3 z13) 16 4 (Int32.ofInt (-1))) 17 (va_cpy ((sF (sF (sF (sF (sF s 16 0 z1) 16 1 z5) 16 2 z9) 16 3 z13) 16 4 (Int32.ofInt (-1))).1 3) ((sF (sF (sF (sF (sF s 16 0 z1) 16 1 z5) 16 2 z9) 16 3 z13) 16 4 (Int32.ofInt (-1))).1 17) (Int32.ofInt 0).toNatClampNeg (Int32.ofInt 0).toNatClampNeg (Int32.ofInt 32).toNatClampNeg)).1 4) ((sA (sF (sF (sF (sF (sF s 16 0 z1) 16 1 z5) 16 2 z9) 16 3 z13) 16 4 (Int32.ofInt (-1))) 17 (va_cpy ((sF (sF (sF (sF (sF s 16 0 z1) 16 1 z5) 16 2 z9) 16 3 z13) 16 4 (Int32.ofInt (-1))).1 3) ((sF (sF (sF (sF (sF s 16 0 z1) 16 1 z5) 16 2 z9) 16 3 z13) 16 4 (Int32.ofInt (-1))).1 17) (Int32.ofInt 0).toNatClampNeg (Int32.ofInt 0).toNatClampNeg (Int32.ofInt 32).toNatClampNeg)).1 18) (Int32.ofInt 0).toNatClampNeg (Int32.ofInt 0).toNatClampNeg (Int32.ofInt 160).toNatClampNeg)).1 19) (Int32.ofInt 0).toNatClampNeg (Int32.ofInt 0).toNatClampNeg (Int32.ofInt 160).toNatClampNeg)).1 20) (Int32.ofInt 0).toNatClampNeg (Int32.ofInt 0).toNatClampNeg (Int32.ofInt 160).toNatClampNeg)) 21 (va_cpy ((sA (sA (sA (sA (sF (sF (sF (sF (sF s 16 0 z1) 16 1 z5) 16 2 z9) 16 3 z13) 16 4 (Int32.ofInt (-1))) 17 (va_cpy ((sF (sF (sF (sF (sF s 16 0 z1) 16 1 z5) 16 2 z9) 16 3 z13) 16 4 (Int32.ofInt (-1))).1 3) ((sF (sF (sF (sF (sF s 16 0 z1) 16 1 z5) 16 2 z9) 16 3 z13) 16 4 (Int32.ofInt (-1))).1 17) (Int32.ofInt 0).toNatClampNeg (Int32.ofInt 0).toNatClampNeg (Int32.ofInt 32).toNatClampNeg)) 18 (va_cpy ((sA (sF (sF (sF (sF (sF s 16 0 z1) 16 1 z5) 16 2 z9) 16 3 z13) 16 4 (Int32.ofInt (-1))) 17 (va_cpy ((sF (sF (sF (sF (sF s 16 0 z1) 16 1 z5) 16 2 z9) 16 3 z13) 16 4 (Int32.ofInt (-1))).1 3) ((sF (sF (sF (sF (sF s 16 0 z1) 16 1 z5) 16 2 z9) 16 3 z13) 16 4 (Int32.ofInt (-1))).1 17) (Int32.ofInt 0).toNatClampNeg (Int32.ofInt 0).toNatClampNeg (Int32.ofInt 32).toNatClampNeg)).1 4) ((sA (sF (sF (sF (sF (sF s 16 0 z1) 16 1 z5) 16 2 z9) 16 3 z13) 16 4 (Int32.ofInt (-1))) 17 (va_cpy ((sF (sF (sF (sF (sF s 16 0 z1) 16 1 z5) 16 2 z9) 16 3 z13) 16 4 (Int32.ofInt (-1))).1 3) ((sF (sF (sF (sF (sF s 16 0 z1) 16 1 z5) 16 2 z9) 16 3 z13) 16 4 (Int32.ofInt (-1))).1 17) (Int32.ofInt 0).toNatClampNeg (Int32.ofInt 0).toNatClampNeg (Int32.ofInt 32).toNatClampNeg)).1 18) (Int32.ofInt 0).toNatClampNeg (Int32.ofInt 0).toNatClampNeg (Int32.ofInt 160).toNatClampNeg)) 19 (va_cpy ((sA (sA (sF (sF (sF (sF (sF s 16 0 z1) 16 1 z5) 16 2 z9) 16 3 z13) 16 4 (Int32.ofInt (-1))) 17 (va_cpy ((sF (sF (sF (sF (sF s 16 0 z1) 16 1 z5) 16 2 z9) 16 3 z13) 16 4 (Int32.ofInt (-1))).1 3) ((sF (sF (sF (sF (sF s 16 0 z1) 16 1 z5) 16 2 z9) 16 3 z13) 16 4 (Int32.ofInt (-1))).1 17) (Int32.ofInt 0).toNatClampNeg (Int32.ofInt 0).toNatClampNeg (Int32.ofInt 32).toNatClampNeg)) 18 (va_cpy ((sA (sF (sF (sF (sF (sF s 16 0 z1) 16 1 z5) 16 2 z9) 16 3 z13) 16 4 (Int32.ofInt (-1))) 17 (va_cpy ((sF (sF (sF (sF (sF s 16 0 z1) 16 1 z5) 16 2 z9) 16 3 z13) 16 4 (Int32.ofInt (-1))).1 3) ((sF (sF (sF (sF (sF s 16 0 z1) 16 1 z5) 16 2 z9) 16 3 z13) 16 4 (Int32.ofInt (-1))).1 17) (Int32.ofInt 0).toNatClampNeg (Int32.ofInt 0).toNatClampNeg (Int32.ofInt 32).toNatClampNeg)).1 4) ((sA (sF (sF (sF (sF (sF s 16 0 z1) 16 1 z5) 16 2 z9) 16 3 z13) 16 4 (Int32.ofInt (-1))) 17 (va_cpy ((sF (sF (sF (sF (sF s 16 0 z1) 16 1 z5) 16 2 z9) 16 3 z13) 16 4 (Int32.ofInt (-1))).1 3) ((sF (sF (sF (sF (sF s 16 0 z1) 16 1 z5) 16 2 z9) 16 3 z13) 16 4 (Int32.ofInt (-1))).1 17) (Int32.ofInt 0).toNatClampNeg (Int32.ofInt 0).toNatClampNeg (Int32.ofInt 32).toNatClampNeg)).1 18) (Int32.ofInt 0).toNatClampNeg (Int32.ofInt 0).toNatClampNeg (Int32.ofInt 160).toNatClampNeg)).1 5) ((sA (sA (sF (sF (sF (sF (sF s 16 0 z1) 16 1 z5) 16 2 z9) 16 3 z13) 16 4 (Int32.ofInt (-1))) 17 (va_cpy ((sF (sF (sF (sF (sF s 16 0 z1) 16 1 z5) 16 2 z9) 16 3 z13) 16 4 (Int32.ofInt (-1))).1 3) ((sF (sF (sF (sF (sF s 16 0 z1) 16 1 z5) 16 2 z9) 16 3 z13) 16 4 (Int32.ofInt (-1))).1 17) (Int32.ofInt 0).toNatClampNeg (Int32.ofInt 0).toNatClampNeg (Int32.ofInt 32).toNatClampNeg)) 18 (va_cpy ((sA (sF (sF (sF (sF (sF s 16 0 z1) 16 1 z5) 16 2 z9) 16 3 z13) 16 4 (Int32.ofInt (-1))) 17 (va_cpy ((sF (sF (sF (sF (sF s 16 0 z1) 16 1 z5) 16 2 z9) 16 3 z13) 16 4 (Int32.ofInt (-1))).1 3) ((sF (sF (sF (sF (sF s 16 0 z1) 16 1 z5) 16 2 z9) 16 3 z13) 16 4 (Int32.ofInt (-1))).1 17) (Int32.ofInt 0).toNatClampNeg (Int32.ofInt 0).toNatClampNeg (Int32.ofInt 32).toNatClampNeg)).1 4) ((sA (sF (sF (sF (sF (sF s 16 0 z1) 16 1 z5) 16 2 z9) 16 3 z13) 16 4 (Int32.ofInt (-1))) 17 (va_cpy ((sF (sF (sF (sF (sF s 16 0 z1) 16 1 z5) 16 2 z9) 16 3 z13) 16 4 (Int32.ofInt (-1))).1 3) ((sF (sF (sF (sF (sF s 16 0 z1) 16 1 z5) 16 2 z9) 16 3 z13) 16 4 (Int32.ofInt (-1))).1 17) (Int32.ofInt 0).toNatClampNeg (Int32.ofInt 0).toNatClampNeg (Int32.ofInt 32).toNatClampNeg)).1 18) (Int32.ofInt 0).toNatClampNeg (Int32.ofInt 0).toNatClampNeg (Int32.ofInt 160).toNatClampNeg)).1 19) (Int32.ofInt 0).toNatClampNeg (Int32.ofInt 0).toNatClampNeg (Int32.ofInt 160).toNatClampNeg)) 20 (va_cpy ((sA (sA (sA (sF (sF (sF (sF (sF s 16 0 z1) 16 1 z5) 16 2 z9) 16 3 z13) 16 4 (Int32.ofInt (-1))) 17 (va_cpy ((sF (sF (sF (sF (sF s 16 0 z1) 16 1 z5) 16 2 z9) 16 3 z13) 16 4 (Int32.ofInt (-1))).1 3) ((sF (sF (sF (sF (sF s 16 0 z1) 16 1 z5) 16 2 z9) 16 3 z13) 16 4 (Int32.ofInt (-1))).1 17) (Int32.ofInt 0).toNatClampNeg (Int32.ofInt 0).toNatClampNeg (Int32.ofInt 32).toNatClampNeg)) 18 (va_cpy ((sA (sF (sF (sF (sF (sF s 16 0 z1) 16 1 z5) 16 2 z9) 16 3 z13) 16 4 (Int32.ofInt (-1))) 17 (va_cpy ((sF (sF (sF (sF (sF s 16 0 z1) 16 1 z5) 16 2 z9) 16 3 z13) 16 4 (Int32.ofInt (-1))).1 3) ((sF (sF (sF (sF (sF s 16 0 z1) 16 1 z5) 16 2 z9) 16 3 z13) 16 4 (Int32.ofInt (-1))).1 17) (Int32.ofInt 0).toNatClampNeg (Int32.ofInt 0).toNatClampNeg (Int32.ofInt 32).toNatClampNeg)).1 4) ((sA (sF (sF (sF (sF (sF s 16 0 z1) 16 1 z5) 16 2 z9) 16 3 z13) 16 4 (Int32.ofInt (-1))) 17 (va_cpy ((sF (sF (sF (sF (sF s 16 0 z1) 16 1 z5) 16 2 z9) 16 3 z13) 16 4 (Int32.ofInt (-1))).1 3) ((sF (sF (sF (sF (sF s 16 0 z1) 16 1 z5) 16 2 z9) 16 3 z13) 16 4 (Int32.ofInt (-1))).1 17) (Int32.ofInt 0).toNatClampNeg (Int32.ofInt 0).toNatClampNeg (Int32.ofInt 32).toNatClampNeg)).1 18) (Int32.ofInt 0).toNatClampNeg (Int32.ofInt 0).toNatClampNeg (Int32.ofInt 160).toNatClampNeg)) 19 (va_cpy ((sA (sA (sF (sF (sF (sF (sF s 16 0 z1) 16 1 z5) 16 2 z9) 16 3 z13) 16 4 (Int32.ofInt (-1))) 17 (va_cpy ((sF (sF (sF (sF (sF s 16 0 z1) 16 1 z5) 16 2 z9) 16 3 z13) 16 4 (Int32.ofInt (-1))).1 3) ((sF (sF (sF (sF (sF s 16 0 z1) 16 1 z5) 16 2 z9) 16 3 z13) 16 4 (Int32.ofInt (-1))).1 17) (Int32.ofInt 0).toNatClampNeg (Int32.ofInt 0).toNatClampNeg (Int32.ofInt 32).toNatClampNeg)) 18 (va_cpy ((sA (sF (sF (sF (sF (sF s 16 0 z1) 16 1 z5) 16 2 z9) 16 3 z13) 16 4 (Int32.ofInt (-1))) 17 (va_cpy ((sF (sF (sF (sF (sF s 16 0 z1) 16 1 z5) 16 2 z9) 16 3 z13) 16 4 (Int32.ofInt (-1))).1 3) ((sF (sF (sF (sF (sF s 16 0 z1) 16 1 z5) 16 2 z9) 16 3 z13) 16 4 (Int32.ofInt (-1))).1 17) (Int32.ofInt 0).toNatClampNeg (Int32.ofInt 0).toNatClampNeg (Int32.ofInt 32).toNatClampNeg)).1 4) ((sA (sF (sF (sF (sF (sF s 16 0 z1) 16 1 z5) 16 2 z9) 16 3 z13) 16 4 (Int32.ofInt (-1))) 17 (va_cpy ((sF (sF (sF (sF (sF s 16 0 z1) 16 1 z5) 16 2 z9) 16 3 z13) 16 4 (Int32.ofInt (-1))).1 3) ((sF (sF (sF (sF (sF s 16 0 z1) 16 1 z5) 16 2 z9) 16 3 z13) 16 4 (Int32.ofInt (-1))).1 17) (Int32.ofInt 0).toNatClampNeg (Int32.ofInt 0).toNatClampNeg (Int32.ofInt 32).toNatClampNeg)).1 18) (Int32.ofInt 0).toNatClampNeg (Int32.ofInt 0).toNatClampNeg (Int32.ofInt 160).toNatClampNeg)).1 5) ((sA (sA (sF (sF (sF (sF (sF s 16 0 z1) 16 1 z5) 16 2 z9) 16 3 z13) 16 4 (Int32.ofInt (-1))) 17 (va_cpy ((sF (sF (sF (sF (sF s 16 0 z1) 16 1 z5) 16 2 z9) 16 3 z13) 16 4 (Int32.ofInt (-1))).1 3) ((sF (sF (sF (sF (sF s 16 0 z1) 16 1 z5) 16 2 z9) 16 3 z13) 16 4 (Int32.ofInt (-1))).1 17) (Int32.ofInt 0).toNatClampNeg (Int32.ofInt 0).toNatClampNeg (Int32.ofInt 32).toNatClampNeg)) 18 (va_cpy ((sA (sF (sF (sF (sF (sF s 16 0 z1) 16 1 z5) 16 2 z9) 16 3 z13) 16 4 (Int32.ofInt (-1))) 17 (va_cpy ((sF (sF (sF (sF (sF s 16 0 z1) 16 1 z5) 16 2 z9) 16 3 z13) 16 4 (Int32.ofInt (-1))).1 3) ((sF (sF (sF (sF (sF s 16 0 z1) 16 1 z5) 16 2 z9) 16 3 z13) 16 4 (Int32.ofInt (-1))).1 17) (Int32.ofInt 0).toNatClampNeg (Int32.ofInt 0).toNatClampNeg (Int32.ofInt 32).toNatClampNeg)).1 4) ((sA (sF (sF (sF (sF (sF s 16 0 z1) 16 1 z5) 16 2 z9) 16 3 z13) 16 4 (Int32.ofInt (-1))) 17 (va_cpy ((sF (sF (sF (sF (sF s 16 0 z1) 16 1 z5) 16 2 z9) 16 3 z13) 16 4 (Int32.ofInt (-1))).1 3) ((sF (sF (sF (sF (sF s 16 0 z1) 16 1 z5) 16 2 z9) 16 3 z13) 16 4 (Int32.ofInt (-1))).1 17) (Int32.ofInt 0).toNatClampNeg (Int32.ofInt 0).toNatClampNeg (Int32.ofInt 32).toNatClampNeg)).1 18) (Int32.ofInt 0).toNatClampNeg (Int32.ofInt 0).toNatClampNeg (Int32.ofInt 160).toNatClampNeg)).1 19) (Int32.ofInt 0).toNatClampNeg (Int32.ofInt 0).toNatClampNeg (Int32.ofInt 160).toNatClampNeg)).1 6) ((sA (sA (sA (sF (sF (sF (sF (sF s 16 0 z1) 16 1 z5) 16 2 z9) 16 3 z13) 16 4 (Int32.ofInt (-1))) 17 (va_cpy ((sF (sF (sF (sF (sF s 16 0 z1) 16 1 z5) 16 2 z9) 16 3 z13) 16 4 (Int32.ofInt (-1))).1 3) ((sF (sF (sF (sF (sF s 16 0 z1) 16 1 z5) 16 2 z9) 16 3 z13) 16 4 (Int32.ofInt (-1))).1 17) (Int32.ofInt 0).toNatClampNeg (Int32.ofInt 0).toNatClampNeg (Int32.ofInt 32).toNatClampNeg)) 18 (va_cpy ((sA (sF (sF (sF (sF (sF s 16 0 z1) 16 1 z5) 16 2 z9) 16 3 z13) 16 4 (Int32.ofInt (-1))) 17 (va_cpy ((sF (sF (sF (sF (sF s 16 0 z1) 16 1 z5) 16 2 z9) 16 3 z13) 16 4 (Int32.ofInt (-1))).1 3) ((sF (sF (sF (sF (sF s 16 0 z1) 16 1 z5) 16 2 z9) 16 3 z13) 16 4 (Int32.ofInt (-1))).1 17) (Int32.ofInt 0).toNatClampNeg (Int32.ofInt 0).toNatClampNeg (Int32.ofInt 32).toNatClampNeg)).1 4) ((sA (sF (sF (sF (sF (sF s 16 0 z1) 16 1 z5) 16 2 z9) 16 3 z13) 16 4 (Int32.ofInt (-1))) 17 (va_cpy ((sF (sF (sF (sF (sF s 16 0 z1) 16 1 z5) 16 2 z9) 16 3 z13) 16 4 (Int32.ofInt (-1))).1 3) ((sF (sF (sF (sF (sF s 16 0 z1) 16 1 z5) 16 2 z9) 16 3 z13) 16 4 (Int32.ofInt (-1))).1 17) (Int32.ofInt 0).toNatClampNeg (Int32.ofInt 0).toNatClampNeg (Int32.ofInt 32).toNatClampNeg)).1 18) (Int32.ofInt 0).toNatClampNeg (Int32.ofInt 0).toNatClampNeg (Int32.ofInt 160).toNatClampNeg)) 19 (va_cpy ((sA (sA (sF (sF (sF (sF (sF s 16 0 z1) 16 1 z5) 16 2 z9) 16 3 z13) 16 4 (Int32.ofInt (-1))) 17 (va_cpy ((sF (sF (sF (sF (sF s 16 0 z1) 16 1 z5) 16 2 z9) 16 3 z13) 16 4 (Int32.ofInt (-1))).1 3) ((sF (sF (sF (sF (sF s 16 0 z1) 16 1 z5) 16 2 z9) 16 3 z13) 16 4 (Int32.ofInt (-1))).1 17) (Int32.ofInt 0).toNatClampNeg (Int32.ofInt 0).toNatClampNeg (Int32.ofInt 32).toNatClampNeg)) 18 (va_cpy ((sA (sF (sF (sF (sF (sF s 16 0 z1) 16 1 z5) 16 2 z9) 16 3 z13) 16 4 (Int32.ofInt (-1))) 17 (va_cpy ((sF (sF (sF (sF (sF s 16 0 z1) 16 1 z5) 16 2 z9) 16 3 z13) 16 4 (Int32.ofInt (-1))).1 3) ((sF (sF (sF (sF (sF s 16 0 z1) 16 1 z5) 16 2 z9) 16 3 z13) 16 4 (Int32.ofInt (-1))).1 17) (Int32.ofInt 0).toNatClampNeg (Int32.ofInt 0).toNatClampNeg (Int32.ofInt 32).toNatClampNeg)).1 4) ((sA (sF (sF (sF (sF (sF s 16 0 z1) 16 1 z5) 16 2 z9) 16 3 z13) 16 4 (Int32.ofInt (-1))) 17 (va_cpy ((sF (sF (sF (sF (sF s 16 0 z1) 16 1 z5) 16 2 z9) 16 3 z13) 16 4 (Int32.ofInt (-1))).1 3) ((sF (sF (sF (sF (sF s 16 0 z1) 16 1 z5) 16 2 z9) 16 3 z13) 16 4 (Int32.ofInt (-1))).1 17) (Int32.ofInt 0).toNatClampNeg (Int32.ofInt 0).toNatClampNeg (Int32.ofInt 32).toNatClampNeg)).1 18) (Int32.ofInt 0).toNatClampNeg (Int32.ofInt 0).toNatClampNeg (Int32.ofInt 160).toNatClampNeg)).1 5) ((sA (sA (sF (sF (sF (sF (sF s 16 0 z1) 16 1 z5) 16 2 z9) 16 3 z13) 16 4 (Int32.ofInt (-1))) 17 (va_cpy ((sF (sF (sF (sF (sF s 16 0 z1) 16 1 z5) 16 2 z9) 16 3 z13) 16 4 (Int32.ofInt (-1))).1 3) ((sF (sF (sF (sF (sF s 16 0 z1) 16 1 z5) 16 2 z9) 16 3 z13) 16 4 (Int32.ofInt (-1))).1 17) (Int32.ofInt 0).toNatClampNeg (Int32.ofInt 0).toNatClampNeg (Int32.ofInt 32).toNatClampNeg)) 18 (va_cpy ((sA (sF (sF (sF (sF (sF s 16 0 z1) 16 1 z5) 16 2 z9) 16 3 z13) 16 4 (Int32.ofInt (-1))) 17 (va_cpy ((sF (sF (sF (sF (sF s 16 0 z1) 16 1 z5) 16 2 z9) 16 3 z13) 16 4 (Int32.ofInt (-1))).1 3) ((sF (sF (sF (sF (sF s 16 0 z1) 16 1 z5) 16 2 z9) 16 3 z13) 16 4 (Int32.ofInt (-1))).1 17) (Int32.ofInt 0).toNatClampNeg (Int32.ofInt 0).toNatClampNeg (Int32.ofInt 32).toNatClampNeg)).1 4) ((sA (sF (sF (sF (sF (sF s 16 0 z1) 16 1 z5) 16 2 z9) 16 3 z13) 16 4 (Int32.ofInt (-1))) 17 (va_cpy ((sF (sF (sF (sF (sF s 16 0 z1) 16 1 z5) 16 2 z9) 16 3 z13) 16 4 (Int32.ofInt (-1))).1 3) ((sF (sF (sF (sF (sF s 16 0 z1) 16 1 z5) 16 2 z9) 16 3 z13) 16 4 (Int32.ofInt (-1))).1 17) (Int32.ofInt 0).toNatClampNeg (Int32.ofInt 0).toNatClampNeg (Int32.ofInt 32).toNatClampNeg)).1 18) (Int32.ofInt 0).toNatClampNeg (Int32.ofInt 0).toNatClampNeg (Int32.ofInt 160).toNatClampNeg)).1 19) (Int32.ofInt 0).toNatClampNeg (Int32.ofInt 0).toNatClampNeg (Int32.ofInt 160).toNatClampNeg)).1 20) (Int32.ofInt 0).toNatClampNeg (Int32.ofInt 0).toNatClampNeg (Int32.ofInt 160).toNatClampNeg)).1 7) ((sA (sA (sA (sA (sF (sF (sF (sF (sF s 16 0 z1) 16 1 z5) 16 2 z9) 16 3 z13) 16 4 (Int32.ofInt (-1))) 17 (va_cpy ((sF (sF (sF (sF (sF s 16 0 z1) 16 1 z5) 16 2 z9) 16 3 z13) 16 4 (Int32.ofInt (-1))).1 3) ((sF (sF (sF (sF (sF s 16 0 z1) 16 1 z5) 16 2 z9) 16 3 z13) 16 4 (Int32.ofInt (-1))).1 17) (Int32.ofInt 0).toNatClampNeg (Int32.ofInt 0).toNatClampNeg (Int32.ofInt 32).toNatClampNeg)) 18 (va_cpy ((sA (sF (sF (sF (sF (sF s 16 0 z1) 16 1 z5) 16 2 z9) 16 3 z13) 16 4 (Int32.ofInt (-1))) 17 (va_cpy ((sF (sF (sF (sF (sF s 16 0 z1) 16 1 z5) 16 2 z9) 16 3 z13) 16 4 (Int32.ofInt (-1))).1 3) ((sF (sF (sF (sF (sF s 16 0 z1) 16 1 z5) 16 2 z9) 16 3 z13) 16 4 (Int32.ofInt (-1))).1 17) (Int32.ofInt 0).toNatClampNeg (Int32.ofInt 0).toNatClampNeg (Int32.ofInt 32).toNatClampNeg)).1 4) ((sA (sF (sF (sF (sF (sF s 16 0 z1) 16 1 z5) 16 2 z9) 16 3 z13) 16 4 (Int32.ofInt (-1))) 17 (va_cpy ((sF (sF (sF (sF (sF s 16 0 z1) 16 1 z5) 16 2 z9) 16 3 z13) 16 4 (Int32.ofInt (-1))).1 3) ((sF (sF (sF (sF (sF s 16 0 z1) 16 1 z5) 16 2 z9) 16 3 z13) 16 4 (Int32.ofInt (-1))).1 17) (Int32.ofInt 0).toNatClampNeg (Int32.ofInt 0).toNatClampNeg (Int32.ofInt 32).toNatClampNeg)).1 18) (Int32.ofInt 0).toNatClampNeg (Int32.ofInt 0).toNatClampNeg (Int32.ofInt 160).toNatClampNeg)) 19 (va_cpy ((sA (sA (sF (sF (sF (sF (sF s 16 0 z1) 16 1 z5) 16 2 z9) 16 3 z13) 16 4 (Int32.ofInt (-1))) 17 (va_cpy ((sF (sF (sF (sF (sF s 16 0 z1) 16 1 z5) 16 2 z9) 16 3 z13) 16 4 (Int32.ofInt (-1))).1 3) ((sF (sF (sF (sF (sF s 16 0 z1) 16 1 z5) 16 2 z9) 16 3 z13) 16 4 (Int32.ofInt (-1))).1 17) (Int32.ofInt 0).toNatClampNeg (Int32.ofInt 0).toNatClampNeg (Int32.ofInt 32).toNatClampNeg)) 18 (va_cpy ((sA (sF (sF (sF (sF (sF s 16 0 z1) 16 1 z5) 16 2 z9) 16 3 z13) 16 4 (Int32.ofInt (-1))) 17 (va_cpy ((sF (sF (sF (sF (sF s 16 0 z1) 16 1 z5) 16 2 z9) 16 3 z13) 16 4 (Int32.ofInt (-1))).1 3) ((sF (sF (sF (sF (sF s 16 0 z1) 16 1 z5) 16 2 z9) 16 3 z13) 16 4 (Int32.ofInt (-1))).1 17) (Int32.ofInt 0).toNatClampNeg (Int32.ofInt 0).toNatClampNeg (Int32.ofInt 32).toNatClampNeg)).1 4) ((sA (sF (sF (sF (sF (sF s 16 0 z1) 16 1 z5) 16 2 z9) 16 3 z13) 16 4 (Int32.ofInt (-1))) 17 (va_cpy ((sF (sF (sF (sF (sF s 16 0 z1) 16 1 z5) 16 2 z9) 16 3 z13) 16 4 (Int32.ofInt (-1))).1 3) ((sF (sF (sF (sF (sF s 16 0 z1) 16 1 z5) 16 2 z9) 16 3 z13) 16 4 (Int32.ofInt (-1))).1 17) (Int32.ofInt 0).toNatClampNeg (Int32.ofInt 0).toNatClampNeg (Int32.ofInt 32).toNatClampNeg)).1 18) (Int32.ofInt 0).toNatClampNeg (Int32.ofInt 0).toNatClampNeg (Int32.ofInt 160).toNatClampNeg)).1 5) ((sA (sA (sF (sF (sF (sF (sF s 16 0 z1) 16 1 z5) 16 2 z9) 16 3 z13) 16 4 (Int32.ofInt (-1))) 17 (va_cpy ((sF (sF (sF (sF (sF s 16 0 z1) 16 1 z5) 16 2 z9) 16 3 z13) 16 4 (Int32.ofInt (-1))).1 3) ((sF (sF (sF (sF (sF s 16 0 z1) 16 1 z5) 16 2 z9) 16 3 z13) 16 4 (Int32.ofInt (-1))).1 17) (Int32.ofInt 0).toNatClampNeg (Int32.ofInt 0).toNatClampNeg (Int32.ofInt 32).toNatClampNeg)) 18 (va_cpy ((sA (sF (sF (sF (sF (sF s 16 0 z1) 16 1 z5) 16 2 z9) 16 3 z13) 16 4 (Int32.ofInt (-1))) 17 (va_cpy ((sF (sF (sF (sF (sF s 16 0 z1) 16 1 z5) 16 2 z9) 16 3 z13) 16 4 (Int32.ofInt (-1))).1 3) ((sF (sF (sF (sF (sF s 16 0 z1) 16 1 z5) 16 2 z9) 16 3 z13) 16 4 (Int32.ofInt (-1))).1 17) (Int32.ofInt 0).toNatClampNeg (Int32.ofInt 0).toNatClampNeg (Int32.ofInt 32).toNatClampNeg)).1 4) ((sA (sF (sF (sF (sF (sF s 16 0 z1) 16 1 z5) 16 2 z9) 16 3 z13) 16 4 (Int32.ofInt (-1))) 17 (va_cpy ((sF (sF (sF (sF (sF s 16 0 z1) 16 1 z5) 16 2 z9) 16 3 z13) 16 4 (Int32.ofInt (-1))).1 3) ((sF (sF (sF (sF (sF s 16 0 z1) 16 1 z5) 16 2 z9) 16 3 z13) 16 4 (Int32.ofInt (-1))).1 17) (Int32.ofInt 0).toNatClampNeg (Int32.ofInt 0).toNatClampNeg (Int32.ofInt 32).toNatClampNeg)).1 18) (Int32.ofInt 0).toNatClampNeg (Int32.ofInt 0).toNatClampNeg (Int32.ofInt 160).toNatClampNeg)).1 19) (Int32.ofInt 0).toNatClampNeg (Int32.ofInt 0).toNatClampNeg (Int32.ofInt 160).toNatClampNeg)) 20 (va_cpy ((sA (sA (sA (sF (sF (sF (sF (sF s 16 0 z1) 16 1 z5) 16 2 z9) 16 3 z13) 16 4 (Int32.ofInt (-1))) 17 (va_cpy ((sF (sF (sF (sF (sF s 16 0 z1) 16 1 z5) 16 2 z9) 16 3 z13) 16 4 (Int32.ofInt (-1))).1 3) ((sF (sF (sF (sF (sF s 16 0 z1) 16 1 z5) 16 2 z9) 16 3 z13) 16 4 (Int32.ofInt (-1))).1 17) (Int32.ofInt 0).toNatClampNeg (Int32.ofInt 0).toNatClampNeg (Int32.ofInt 32).toNatClampNeg)) 18 (va_cpy ((sA (sF (sF (sF (sF (sF s 16 0 z1) 16 1 z5) 16 2 z9) 16 3 z13) 16 4 (Int32.ofInt (-1))) 17 (va_cpy ((sF (sF (sF (sF (sF s 16 0 z1) 16 1 z5) 16 2 z9) 16 3 z13) 16 4 (Int32.ofInt (-1))).1 3) ((sF (sF (sF (sF (sF s 16 0 z1) 16 1 z5) 16 2 z9) 16 3 z13) 16 4 (Int32.ofInt (-1))).1 17) (Int32.ofInt 0).toNatClampNeg (Int32.ofInt 0).toNatClampNeg (Int32.ofInt 32).toNatClampNeg)).1 4) ((sA (sF (sF (sF (sF (sF s 16 0 z1) 16 1 z5) 16 2 z9) 16 3 z13) 16 4 (Int32.ofInt (-1))) 17 (va_cpy ((sF (sF (sF (sF (sF s 16 0 z1) 16 1 z5) 16 2 z9) 16 3 z13) 16 4 (Int32.ofInt (-1))).1 3) ((sF (sF (sF (sF (sF s 16 0 z1) 16 1 z5) 16 2 z9) 16 3 z13) 16 4 (Int32.ofInt (-1))).1 17) (Int32.ofInt 0).toNatClampNeg (Int32.ofInt 0).toNatClampNeg (Int32.ofInt 32).toNatClampNeg)).1 18) (Int32.ofInt 0).toNatClampNeg (Int32.ofInt 0).toNatClampNeg (Int32.ofInt 160).toNatClampNeg)) 19 (va_cpy ((sA (sA (sF (sF (sF (sF (sF s 16 0 z1) 16 1 z5) 16 2 z9) 16 3 z13) 16 4 (Int32.ofInt (-1))) 17 (va_cpy ((sF (sF (sF (sF (sF s 16 0 z1) 16 1 z5) 16 2 z9) 16 3 z13) 16 4 (Int32.ofInt (-1))).1 3) ((sF (sF (sF (sF (sF s 16 0 z1) 16 1 z5) 16 2 z9) 16 3 z13) 16 4 (Int32.ofInt (-1))).1 17) (Int32.ofInt 0).toNatClampNeg (Int32.ofInt 0).toNatClampNeg (Int32.ofInt 32).toNatClampNeg)) 18 (va_cpy ((sA (sF (sF (sF (sF (sF s 16 0 z1) 16 1 z5) 16 2 z9) 16 3 z13) 16 4 (Int32.ofInt (-1))) 17 (va_cpy ((sF (sF (sF (sF (sF s 16 0 z1) 16 1 z5) 16 2 z9) 16 3 z13) 16 4 (Int32.ofInt (-1))).1 3) ((sF (sF (sF (sF (sF s 16 0 z1) 16 1 z5) 16 2 z9) 16 3 z13) 16 4 (Int32.ofInt (-1))).1 17) (Int32.ofInt 0).toNatClampNeg (Int32.ofInt 0).toNatClampNeg (Int32.ofInt 32).toNatClampNeg)).1 4) ((sA (sF (sF (sF (sF (sF s 16 0 z1) 16 1 z5) 16 2 z9) 16 3 z13) 16 4 (Int32.ofInt (-1))) 17 (va_cpy ((sF (sF (sF (sF (sF s 16 0 z1) 16 1 z5) 16 2 z9) 16 3 z13) 16 4 (Int32.ofInt (-1))).1 3) ((sF (sF (sF (sF (sF s 16 0 z1) 16 1 z5) 16 2 z9) 16 3 z13) 16 4 (Int32.ofInt (-1))).1 17) (Int32.ofInt 0).toNatClampNeg (Int32.ofInt 0).toNatClampNeg (Int32.ofInt 32).toNatClampNeg)).1 18) (Int32.ofInt 0).toNatClampNeg (Int32.ofInt 0).toNatClampNeg (Int32.ofInt 160).toNatClampNeg)).1 5) ((sA (sA (sF (sF (sF (sF (sF s 16 0 z1) 16 1 z5) 16 2 z9) 16 3 z13) 16 4 (Int32.ofInt (-1))) 17 (va_cpy ((sF (sF (sF (sF (sF s 16 0 z1) 16 1 z5) 16 2 z9) 16 3 z13) 16 4 (Int32.ofInt (-1))).1 3) ((sF (sF (sF (sF (sF s 16 0 z1) 16 1 z5) 16 2 z9) 16 3 z13) 16 4 (Int32.ofInt (-1))).1 17) (Int32.ofInt 0).toNatClampNeg (Int32.ofInt 0).toNatClampNeg (Int32.ofInt 32).toNatClampNeg)) 18 (va_cpy ((sA (sF (sF (sF (sF (sF s 16 0 z1) 16 1 z5) 16 2 z9) 16 3 z13) 16 4 (Int32.ofInt (-1))) 17 (va_cpy ((sF (sF (sF (sF (sF s 16 0 z1) 16 1 z5) 16 2 z9) 16 3 z13) 16 4 (Int32.ofInt (-1))).1 3) ((sF (sF (sF (sF (sF s 16 0 z1) 16 1 z5) 16 2 z9) 16 3 z13) 16 4 (Int32.ofInt (-1))).1 17) (Int32.ofInt 0).toNatClampNeg (Int32.ofInt 0).toNatClampNeg (Int32.ofInt 32).toNatClampNeg)).1 4) ((sA (sF (sF (sF (sF (sF s 16 0 z1) 16 1 z5) 16 2 z9) 16 3 z13) 16 4 (Int32.ofInt (-1))) 17 (va_cpy ((sF (sF (sF (sF (sF s 16 0 z1) 16 1 z5) 16 2 z9) 16 3 z13) 16 4 (Int32.ofInt (-1))).1 3) ((sF (sF (sF (sF (sF s 16 0 z1) 16 1 z5) 16 2 z9) 16 3 z13) 16 4 (Int32.ofInt (-1))).1 17) (Int32.ofInt 0).toNatClampNeg (Int32.ofInt 0).toNatClampNeg (Int32.ofInt 32).toNatClampNeg)).1 18) (Int32.ofInt 0).toNatClampNeg (Int32.ofInt 0).toNatClampNeg (Int32.ofInt 160).toNatClampNeg)).1 19) (Int32.ofInt 0).toNatClampNeg (Int32.ofInt 0).toNatClampNeg (Int32.ofInt 160).toNatClampNeg)).1 6) ((sA (sA (sA (sF (sF (sF (sF (sF s 16 0 z1) 16 1 z5) 16 2 z9) 16 3 z13) 16 4 (Int32.ofInt (-1))) 17 (va_cpy ((sF (sF (sF (sF (sF s 16 0 z1) 16 1 z5) 16 2 z9) 16 3 z13) 16 4 (Int32.ofInt (-1))).1 3) ((sF (sF (sF (sF (sF s 16 0 z1) 16 1 z5) 16 2 z9) 16 3 z13) 16 4 (Int32.ofInt (-1))).1 17) (Int32.ofInt 0).toNatClampNeg (Int32.ofInt 0).toNatClampNeg (Int32.ofInt 32).toNatClampNeg)) 18 (va_cpy ((sA (sF (sF (sF (sF (sF s 16 0 z1) 16 1 z5) 16 2 z9) 16 3 z13) 16 4 (Int32.ofInt (-1))) 17 (va_cpy ((sF (sF (sF (sF (sF s 16 0 z1) 16 1 z5) 16 2 z9) 16 3 z13) 16 4 (Int32.ofInt (-1))).1 3) ((sF (sF (sF (sF (sF s 16 0 z1) 16 1 z5) 16 2 z9) 16 3 z13) 16 4 (Int32.ofInt (-1))).1 17) (Int32.ofInt 0).toNatClampNeg (Int32.ofInt 0).toNatClampNeg (Int32.ofInt 32).toNatClampNeg)).1 4) ((sA (sF (sF (sF (sF (sF s 16 0 z1) 16 1 z5) 16 2 z9) 16 3 z13) 16 4 (Int32.ofInt (-1))) 17 (va_cpy ((sF (sF (sF (sF (sF s 16 0 z1) 16 1 z5) 16 2 z9) 16 3 z13) 16 4 (Int32.ofInt (-1))).1 3) ((sF (sF (sF (sF (sF s 16 0 z1) 16 1 z5) 16 2 z9) 16 3 z13) 16 4 (Int32.ofInt (-1))).1 17) (Int32.ofInt 0).toNatClampNeg (Int32.ofInt 0).toNatClampNeg (Int32.ofInt 32).toNatClampNeg)).1 18) (Int32.ofInt 0).toNatClampNeg (Int32.ofInt 0).toNatClampNeg (Int32.ofInt 160).toNatClampNeg)) 19 (va_cpy ((sA (sA (sF (sF (sF (sF (sF s 16 0 z1) 16 1 z5) 16 2 z9) 16 3 z13) 16 4 (Int32.ofInt (-1))) 17 (va_cpy ((sF (sF (sF (sF (sF s 16 0 z1) 16 1 z5) 16 2 z9) 16 3 z13) 16 4 (Int32.ofInt (-1))).1 3) ((sF (sF (sF (sF (sF s 16 0 z1) 16 1 z5) 16 2 z9) 16 3 z13) 16 4 (Int32.ofInt (-1))).1 17) (Int32.ofInt 0).toNatClampNeg (Int32.ofInt 0).toNatClampNeg (Int32.ofInt 32).toNatClampNeg)) 18 (va_cpy ((sA (sF (sF (sF (sF (sF s 16 0 z1) 16 1 z5) 16 2 z9) 16 3 z13) 16 4 (Int32.ofInt (-1))) 17 (va_cpy ((sF (sF (sF (sF (sF s 16 0 z1) 16 1 z5) 16 2 z9) 16 3 z13) 16 4 (Int32.ofInt (-1))).1 3) ((sF (sF (sF (sF (sF s 16 0 z1) 16 1 z5) 16 2 z9) 16 3 z13) 16 4 (Int32.ofInt (-1))).1 17) (Int32.ofInt 0).toNatClampNeg (Int32.ofInt 0).toNatClampNeg (Int32.ofInt 32).toNatClampNeg)).1 4) ((sA (sF (sF (sF (sF (sF s 16 0 z1) 16 1 z5) 16 2 z9) 16 3 z13) 16 4 (Int32.ofInt (-1))) 17 (va_cpy ((sF (sF (sF (sF (sF s 16 0 z1) 16 1 z5) 16 2 z9) 16 3 z13) 16 4 (Int32.ofInt (-1))).1 3) ((sF (sF (sF (sF (sF s 16 0 z1) 16 1 z5) 16 2 z9) 16 3 z13) 16 4 (Int32.ofInt (-1))).1 17) (Int32.ofInt 0).toNatClampNeg (Int32.ofInt 0).toNatClampNeg (Int32.ofInt 32).toNatClampNeg)).1 18) (Int32.ofInt 0).toNatClampNeg (Int32.ofInt 0).toNatClampNeg (Int32.ofInt 160).toNatClampNeg)).1 5) ((sA (sA (sF (sF (sF (sF (sF s 16 0 z1) 16 1 z5) 16 2 z9) 16 3 z13) 16 4 (Int32.ofInt (-1))) 17 (va_cpy ((sF (sF (sF (sF (sF s 16 0 z1) 16 1 z5) 16 2 z9) 16 3 z13) 16 4 (Int32.ofInt (-1))).1 3) ((sF (sF (sF (sF (sF s 16 0 z1) 16 1 z5) 16 2 z9) 16 3 z13) 16 4 (Int32.ofInt (-1))).1 17) (Int32.ofInt 0).toNatClampNeg (Int32.ofInt 0).toNatClampNeg (Int32.ofInt 32).toNatClampNeg)) 18 (va_cpy ((sA (sF (sF (sF (sF (sF s 16 0 z1) 16 1 z5) 16 2 z9) 16 3 z13) 16 4 (Int32.ofInt (-1))) 17 (va_cpy ((sF (sF (sF (sF (sF s 16 0 z1) 16 1 z5) 16 2 z9) 16 3 z13) 16 4 (Int32.ofInt (-1))).1 3) ((sF (sF (sF (sF (sF s 16 0 z1) 16 1 z5) 16 2 z9) 16 3 z13) 16 4 (Int32.ofInt (-1))).1 17) (Int32.ofInt 0).toNatClampNeg (Int32.ofInt 0).toNatClampNeg (Int32.ofInt 32).toNatClampNeg)).1 4) ((sA (sF (sF (sF (sF (sF s 16 0 z1) 16 1 z5) 16 2 z9) 16 3 z13) 16 4 (Int32.ofInt (-1))) 17 (va_cpy ((sF (sF (sF (sF (sF s 16 0 z1) 16 1 z5) 16 2 z9) 16 3 z13) 16 4 (Int32.ofInt (-1))).1 3) ((sF (sF (sF (sF (sF s 16 0 z1) 16 1 z5) 16 2 z9) 16 3 z13) 16 4 (Int32.ofInt (-1))).1 17) (Int32.ofInt 0).toNatClampNeg (Int32.ofInt 0).toNatClampNeg (Int32.ofInt 32).toNatClampNeg)).1 18) (Int32.ofInt 0).toNatClampNeg (Int32.ofInt 0).toNatClampNeg (Int32.ofInt 160).toNatClampNeg)).1 19) (Int32.ofInt 0).toNatClampNeg (Int32.ofInt 0).toNatClampNeg (Int32.ofInt 160).toNatClampNeg)).1 20) (Int32.ofInt 0).toNatClampNeg (Int32.ofInt 0).toNatClampNeg (Int32.ofInt 160).toNatClampNeg)).1 21) (Int32.ofInt 0).toNatClampNeg (Int32.ofInt 0).toNatClampNeg (Int32.ofInt 160).toNatClampNeg)).1 22) (Int32.ofInt 0).toNatClampNeg (Int32.ofInt 0).toNatClampNeg (Int32.ofInt 160).toNatClampNeg)), hI23, rfl, rfl⟩)

/-- GraphHouse$Graph.joints -/
theorem k_98_2 {Z : AmZ} {A : Nat → Nat} {s : GS} {ex : va_W} {d : Nat} {X : AmX}  (hd : 3 ≤ d) (hI : Inv s)  : GC Z d 98 [.ref (A 2)] (WW Z A s ++ ex) 0 0 (fun v u => ∃ z : Int32, v = some (.int z) ∧ u = WW Z A s ++ ex ∧ In z (-2147483648) 2147483647) X := by
  intro post xp hP hX
  have ct4 : ∀ (k4 : Nat) (y4_1 : Int32) (y4_2 : Int32), In y4_2 0 160 → 160 - (y4_2).toInt < (k4 : Int) → GG Z (d - 1) 98 post (gx xp) (1 + k4 * 900) 4 (fun j => xlook j [(0, .ref (A 2)), (1, .int y4_1), (2, .int y4_2)]) [] (WW Z A s ++ ex) 0 0 := by
    intro k4
    induction k4 with
    | zero => intro y4_1 y4_2 j4_2 mm4; exact m_no mm4 j4_2 rfl
    | succ k4 ih4 =>
      intro y4_1 y4_2 j4_2 mm4
      refine gg_w (M := 1 + k4 * 900 + 900) (by omega) ?_
      refine g_iload_n 5 (gd rfl) rfl rfl ?_
      refine g_aload_n 6 (gd rfl) rfl rfl ?_
      refine g_getI 9 (gd rfl) rfl rfl rfl (fun z1 e2 => ?_)
      have i3 := inv_F hI 0 160 rfl e2
      refine g_cmp_ge 12 29 (gd rfl) rfl rfl (fun c4 => ?_) (fun c4 => ?_)
      · skip
        refine g_iload_n 30 (gd rfl) rfl rfl ?_
        exact g_ireturn (gd rfl) rfl rfl (hP _ _ ⟨y4_1, rfl, rfl, in_w (-2147483648) 2147483647 (i_rng y4_1) rfl⟩)
      · skip
        have i5 := r_lt1 0 159 c4 j4_2 i3 rfl
        have i6 := r_lt2 1 160 c4 j4_2 i3 rfl
        refine g_aload_n 13 (gd rfl) rfl rfl ?_
        refine g_iload_n 14 (gd rfl) rfl rfl ?_
        refine g_callv (X := _) (As := [.int y4_2]) (r := []) (b := A 2) (q := 2) 17 (gd rfl) rfl rfl rfl rfl rfl (ww_o rfl) (Nat.le_of_ble_eq_true rfl) (mc := 0) (ms := 0) (Nat.zero_le _) (Nat.zero_le _) (P := fun v u => _) ?_ (fun e u h => h) (fun v u h => h)
        intro po7 xx8 hp9 hx10
        refine g_enter2 (k := 97) (N := 300) (by omega) rfl (Nat.le_of_ble_eq_true rfl) ?_
        refine g_aload_n 1 (gd rfl) rfl rfl ?_
        refine g_getA (q2 := 4) 4 (gd rfl) rfl rfl rfl rfl rfl ?_
        refine g_iload_n 5 (gd rfl) rfl rfl ?_
        refine g_iaload 6 (gd rfl) rfl (n := 160) rfl (in_ix i5 rfl) (fun z11 e12 => ?_)
        have i13 := inv_I hI (n := 160) (t := 0) (-1) 31 rfl (in_ix i5 rfl) rfl e12
        refine g_iconst (-1) 7 (gd rfl) rfl rfl ?_
        refine g_cmp_eq 10 29 (gd rfl) rfl rfl (fun c14 => ?_) (fun c14 => ?_)
        · skip
          have i15 := r_eq1 (-1) (-1) c14 i13 (in_c (-1) rfl) rfl
          refine g_iconst 0 30 (gd rfl) rfl rfl ?_
          refine g_ireturn (gd rfl) rfl (nb01 (in_w 0 1 (in_c 0 rfl) rfl)) (hp9 _ _ ?_)
          show GG _ _ _ _ _ _ _ _ [.int (Int32.ofInt 0)] _ _ _
          refine g_if_eq 20 23 (gd rfl) rfl rfl (fun c16 => ?_) (fun c16 => ?_)
          · skip
            refine g_iinc 26 (gd rfl) rfl rfl (Nat.le_of_ble_eq_true rfl) (fun z17 e18 => ?_)
            have i19 := in_add 1 160 e18 i5 (in_c 1 rfl) rfl rfl
            refine g_goto 4 (gd rfl) rfl ?_
            exact gg_w (by omega) (gg_f (gf_cons rfl (gf_cons rfl (gf_cons rfl gf_nil))) (ih4  y4_1 z17  (in_w 0 160 i19 rfl) (m_up mm4 (t_add e18 i5 (in_c 1 rfl) rfl) (in_w 1 1 (in_c 1 rfl) rfl))))
          · skip
            exact zn_ne c16 (in_c 0 rfl) rfl
        · skip
          have i20 := r_ne1 0 31 c14 i13 (in_c (-1) rfl) rfl
          refine g_aload_n 11 (gd rfl) rfl rfl ?_
          refine g_getA (q2 := 4) 14 (gd rfl) rfl rfl rfl rfl rfl ?_
          refine g_iload_n 15 (gd rfl) rfl rfl ?_
          refine g_iaload 16 (gd rfl) rfl (n := 160) rfl (in_ix i5 rfl) (fun z21 e22 => ?_)
          have q23 : z11 = z21 := e12.trans e22.symm
          subst q23
          refine g_aload_n 17 (gd rfl) rfl rfl ?_
          refine g_getA (q2 := 5) 20 (gd rfl) rfl rfl rfl rfl rfl ?_
          refine g_iload_n 21 (gd rfl) rfl rfl ?_
          refine g_iaload 22 (gd rfl) rfl (n := 160) rfl (in_ix i5 rfl) (fun z24 e25 => ?_)
          have i26 := inv_I hI (n := 160) (t := 0) 0 31 rfl (in_ix i5 rfl) rfl e25
          refine g_cmp_eq 25 29 (gd rfl) rfl rfl (fun c27 => ?_) (fun c27 => ?_)
          · skip
            refine g_iconst 0 30 (gd rfl) rfl rfl ?_
            refine g_ireturn (gd rfl) rfl (nb01 (in_w 0 1 (in_c 0 rfl) rfl)) (hp9 _ _ ?_)
            show GG _ _ _ _ _ _ _ _ [.int (Int32.ofInt 0)] _ _ _
            refine g_if_eq 20 23 (gd rfl) rfl rfl (fun c28 => ?_) (fun c28 => ?_)
            · skip
              refine g_iinc 26 (gd rfl) rfl rfl (Nat.le_of_ble_eq_true rfl) (fun z29 e30 => ?_)
              have i31 := in_add 1 160 e30 i5 (in_c 1 rfl) rfl rfl
              refine g_goto 4 (gd rfl) rfl ?_
              exact gg_w (by omega) (gg_f (gf_cons rfl (gf_cons rfl (gf_cons rfl gf_nil))) (ih4  y4_1 z29  (in_w 0 160 i31 rfl) (m_up mm4 (t_add e30 i5 (in_c 1 rfl) rfl) (in_w 1 1 (in_c 1 rfl) rfl))))
            · skip
              exact zn_ne c28 (in_c 0 rfl) rfl
          · skip
            refine g_iconst 1 26 (gd rfl) rfl rfl ?_
            refine g_goto 30 (gd rfl) rfl ?_
            refine g_ireturn (gd rfl) rfl (nb01 (in_w 0 1 (in_c 1 rfl) rfl)) (hp9 _ _ ?_)
            show GG _ _ _ _ _ _ _ _ [.int (Int32.ofInt 1)] _ _ _
            refine g_if_eq 20 23 (gd rfl) rfl rfl (fun c32 => ?_) (fun c32 => ?_)
            · skip
              exact zn_eq c32 (in_c 1 rfl) rfl
            · skip
              refine g_iinc 23 (gd rfl) rfl rfl (Nat.le_of_ble_eq_true rfl) (fun z33 e34 => ?_)
              refine g_iinc 26 (gd rfl) rfl rfl (Nat.le_of_ble_eq_true rfl) (fun z35 e36 => ?_)
              have i37 := in_add 1 160 e36 i5 (in_c 1 rfl) rfl rfl
              refine g_goto 4 (gd rfl) rfl ?_
              exact gg_w (by omega) (gg_f (gf_cons rfl (gf_cons rfl (gf_cons rfl gf_nil))) (ih4  z33 z35  (in_w 0 160 i37 rfl) (m_up mm4 (t_add e36 i5 (in_c 1 rfl) rfl) (in_w 1 1 (in_c 1 rfl) rfl))))
  refine g_enter2 (k := 98) (N := 145801) (by omega) rfl (Nat.le_of_ble_eq_true rfl) ?_
  refine g_iconst 0 1 (gd rfl) rfl rfl ?_
  refine g_istore_n 2 (gd rfl) rfl (Nat.le_of_ble_eq_true rfl) ?_
  refine g_iconst 0 3 (gd rfl) rfl rfl ?_
  refine g_istore_n 4 (gd rfl) rfl (Nat.le_of_ble_eq_true rfl) ?_
  exact gg_w (by omega) (gg_f (gf_cons rfl (gf_cons rfl (gf_cons rfl gf_nil))) (ct4 161  (Int32.ofInt 0) (Int32.ofInt 0)  (in_w 0 160 (in_c 0 rfl) rfl) (m_in 161 (in_w 0 160 (in_c 0 rfl) rfl) rfl)))

/-- GraphHouse$Graph.joints -/
theorem k_98_32 {Z : AmZ} {A : Nat → Nat} {s : GS} {ex : va_W} {d : Nat} {X : AmX}  (hd : 3 ≤ d) (hI : Inv s)  : GC Z d 98 [.ref (A 32)] (WW Z A s ++ ex) 0 0 (fun v u => ∃ z : Int32, v = some (.int z) ∧ u = WW Z A s ++ ex ∧ In z (-2147483648) 2147483647) X := by
  intro post xp hP hX
  have ct4 : ∀ (k4 : Nat) (y4_1 : Int32) (y4_2 : Int32), In y4_2 0 160 → 160 - (y4_2).toInt < (k4 : Int) → GG Z (d - 1) 98 post (gx xp) (1 + k4 * 900) 4 (fun j => xlook j [(0, .ref (A 32)), (1, .int y4_1), (2, .int y4_2)]) [] (WW Z A s ++ ex) 0 0 := by
    intro k4
    induction k4 with
    | zero => intro y4_1 y4_2 j4_2 mm4; exact m_no mm4 j4_2 rfl
    | succ k4 ih4 =>
      intro y4_1 y4_2 j4_2 mm4
      refine gg_w (M := 1 + k4 * 900 + 900) (by omega) ?_
      refine g_iload_n 5 (gd rfl) rfl rfl ?_
      refine g_aload_n 6 (gd rfl) rfl rfl ?_
      refine g_getI 9 (gd rfl) rfl rfl rfl (fun z1 e2 => ?_)
      have i3 := inv_F hI 0 160 rfl e2
      refine g_cmp_ge 12 29 (gd rfl) rfl rfl (fun c4 => ?_) (fun c4 => ?_)
      · skip
        refine g_iload_n 30 (gd rfl) rfl rfl ?_
        exact g_ireturn (gd rfl) rfl rfl (hP _ _ ⟨y4_1, rfl, rfl, in_w (-2147483648) 2147483647 (i_rng y4_1) rfl⟩)
      · skip
        have i5 := r_lt1 0 159 c4 j4_2 i3 rfl
        have i6 := r_lt2 1 160 c4 j4_2 i3 rfl
        refine g_aload_n 13 (gd rfl) rfl rfl ?_
        refine g_iload_n 14 (gd rfl) rfl rfl ?_
        refine g_callv (X := _) (As := [.int y4_2]) (r := []) (b := A 32) (q := 32) 17 (gd rfl) rfl rfl rfl rfl rfl (ww_o rfl) (Nat.le_of_ble_eq_true rfl) (mc := 0) (ms := 0) (Nat.zero_le _) (Nat.zero_le _) (P := fun v u => _) ?_ (fun e u h => h) (fun v u h => h)
        intro po7 xx8 hp9 hx10
        refine g_enter2 (k := 97) (N := 300) (by omega) rfl (Nat.le_of_ble_eq_true rfl) ?_
        refine g_aload_n 1 (gd rfl) rfl rfl ?_
        refine g_getA (q2 := 34) 4 (gd rfl) rfl rfl rfl rfl rfl ?_
        refine g_iload_n 5 (gd rfl) rfl rfl ?_
        refine g_iaload 6 (gd rfl) rfl (n := 160) rfl (in_ix i5 rfl) (fun z11 e12 => ?_)
        have i13 := inv_I hI (n := 160) (t := 0) (-1) 31 rfl (in_ix i5 rfl) rfl e12
        refine g_iconst (-1) 7 (gd rfl) rfl rfl ?_
        refine g_cmp_eq 10 29 (gd rfl) rfl rfl (fun c14 => ?_) (fun c14 => ?_)
        · skip
          have i15 := r_eq1 (-1) (-1) c14 i13 (in_c (-1) rfl) rfl
          refine g_iconst 0 30 (gd rfl) rfl rfl ?_
          refine g_ireturn (gd rfl) rfl (nb01 (in_w 0 1 (in_c 0 rfl) rfl)) (hp9 _ _ ?_)
          show GG _ _ _ _ _ _ _ _ [.int (Int32.ofInt 0)] _ _ _
          refine g_if_eq 20 23 (gd rfl) rfl rfl (fun c16 => ?_) (fun c16 => ?_)
          · skip
            refine g_iinc 26 (gd rfl) rfl rfl (Nat.le_of_ble_eq_true rfl) (fun z17 e18 => ?_)
            have i19 := in_add 1 160 e18 i5 (in_c 1 rfl) rfl rfl
            refine g_goto 4 (gd rfl) rfl ?_
            exact gg_w (by omega) (gg_f (gf_cons rfl (gf_cons rfl (gf_cons rfl gf_nil))) (ih4  y4_1 z17  (in_w 0 160 i19 rfl) (m_up mm4 (t_add e18 i5 (in_c 1 rfl) rfl) (in_w 1 1 (in_c 1 rfl) rfl))))
          · skip
            exact zn_ne c16 (in_c 0 rfl) rfl
        · skip
          have i20 := r_ne1 0 31 c14 i13 (in_c (-1) rfl) rfl
          refine g_aload_n 11 (gd rfl) rfl rfl ?_
          refine g_getA (q2 := 34) 14 (gd rfl) rfl rfl rfl rfl rfl ?_
          refine g_iload_n 15 (gd rfl) rfl rfl ?_
          refine g_iaload 16 (gd rfl) rfl (n := 160) rfl (in_ix i5 rfl) (fun z21 e22 => ?_)
          have q23 : z11 = z21 := e12.trans e22.symm
          subst q23
          refine g_aload_n 17 (gd rfl) rfl rfl ?_
          refine g_getA (q2 := 35) 20 (gd rfl) rfl rfl rfl rfl rfl ?_
          refine g_iload_n 21 (gd rfl) rfl rfl ?_
          refine g_iaload 22 (gd rfl) rfl (n := 160) rfl (in_ix i5 rfl) (fun z24 e25 => ?_)
          have i26 := inv_I hI (n := 160) (t := 0) 0 31 rfl (in_ix i5 rfl) rfl e25
          refine g_cmp_eq 25 29 (gd rfl) rfl rfl (fun c27 => ?_) (fun c27 => ?_)
          · skip
            refine g_iconst 0 30 (gd rfl) rfl rfl ?_
            refine g_ireturn (gd rfl) rfl (nb01 (in_w 0 1 (in_c 0 rfl) rfl)) (hp9 _ _ ?_)
            show GG _ _ _ _ _ _ _ _ [.int (Int32.ofInt 0)] _ _ _
            refine g_if_eq 20 23 (gd rfl) rfl rfl (fun c28 => ?_) (fun c28 => ?_)
            · skip
              refine g_iinc 26 (gd rfl) rfl rfl (Nat.le_of_ble_eq_true rfl) (fun z29 e30 => ?_)
              have i31 := in_add 1 160 e30 i5 (in_c 1 rfl) rfl rfl
              refine g_goto 4 (gd rfl) rfl ?_
              exact gg_w (by omega) (gg_f (gf_cons rfl (gf_cons rfl (gf_cons rfl gf_nil))) (ih4  y4_1 z29  (in_w 0 160 i31 rfl) (m_up mm4 (t_add e30 i5 (in_c 1 rfl) rfl) (in_w 1 1 (in_c 1 rfl) rfl))))
            · skip
              exact zn_ne c28 (in_c 0 rfl) rfl
          · skip
            refine g_iconst 1 26 (gd rfl) rfl rfl ?_
            refine g_goto 30 (gd rfl) rfl ?_
            refine g_ireturn (gd rfl) rfl (nb01 (in_w 0 1 (in_c 1 rfl) rfl)) (hp9 _ _ ?_)
            show GG _ _ _ _ _ _ _ _ [.int (Int32.ofInt 1)] _ _ _
            refine g_if_eq 20 23 (gd rfl) rfl rfl (fun c32 => ?_) (fun c32 => ?_)
            · skip
              exact zn_eq c32 (in_c 1 rfl) rfl
            · skip
              refine g_iinc 23 (gd rfl) rfl rfl (Nat.le_of_ble_eq_true rfl) (fun z33 e34 => ?_)
              refine g_iinc 26 (gd rfl) rfl rfl (Nat.le_of_ble_eq_true rfl) (fun z35 e36 => ?_)
              have i37 := in_add 1 160 e36 i5 (in_c 1 rfl) rfl rfl
              refine g_goto 4 (gd rfl) rfl ?_
              exact gg_w (by omega) (gg_f (gf_cons rfl (gf_cons rfl (gf_cons rfl gf_nil))) (ih4  z33 z35  (in_w 0 160 i37 rfl) (m_up mm4 (t_add e36 i5 (in_c 1 rfl) rfl) (in_w 1 1 (in_c 1 rfl) rfl))))
  refine g_enter2 (k := 98) (N := 145801) (by omega) rfl (Nat.le_of_ble_eq_true rfl) ?_
  refine g_iconst 0 1 (gd rfl) rfl rfl ?_
  refine g_istore_n 2 (gd rfl) rfl (Nat.le_of_ble_eq_true rfl) ?_
  refine g_iconst 0 3 (gd rfl) rfl rfl ?_
  refine g_istore_n 4 (gd rfl) rfl (Nat.le_of_ble_eq_true rfl) ?_
  exact gg_w (by omega) (gg_f (gf_cons rfl (gf_cons rfl (gf_cons rfl gf_nil))) (ct4 161  (Int32.ofInt 0) (Int32.ofInt 0)  (in_w 0 160 (in_c 0 rfl) rfl) (m_in 161 (in_w 0 160 (in_c 0 rfl) rfl) rfl)))

/-- GraphHouse$Graph.freePlace -/
theorem k_101_2 {Z : AmZ} {A : Nat → Nat} {s : GS} {ex : va_W} {d : Nat} {X : AmX}  (hd : 1 ≤ d) (hI : Inv s)  : GC Z d 101 [.ref (A 2)] (WW Z A s ++ ex) 0 0 (fun v u => ∃ z : Int32, v = some (.int z) ∧ u = WW Z A s ++ ex ∧ In z (-1) 159) X := by
  intro post xp hP hX
  have ct2 : ∀ (k2 : Nat) (y2_1 : Int32), In y2_1 0 160 → 160 - (y2_1).toInt < (k2 : Int) → GG Z (d - 1) 101 post (gx xp) (1 + k2 * 900) 2 (fun j => xlook j [(0, .ref (A 2)), (1, .int y2_1)]) [] (WW Z A s ++ ex) 0 0 := by
    intro k2
    induction k2 with
    | zero => intro y2_1 j2_1 mm2; exact m_no mm2 j2_1 rfl
    | succ k2 ih2 =>
      intro y2_1 j2_1 mm2
      refine gg_w (M := 1 + k2 * 900 + 900) (by omega) ?_
      refine g_iload_n 3 (gd rfl) rfl rfl ?_
      refine g_sipush 160 6 (gd rfl) rfl rfl ?_
      refine g_cmp_ge 9 27 (gd rfl) rfl rfl (fun c1 => ?_) (fun c1 => ?_)
      · skip
        have i2 := r_le2 160 160 c1 (in_c 160 rfl) j2_1 rfl
        refine g_iconst (-1) 28 (gd rfl) rfl rfl ?_
        exact g_ireturn (gd rfl) rfl rfl (hP _ _ ⟨(Int32.ofInt (-1)), rfl, rfl, in_w (-1) 159 (in_c (-1) rfl) rfl⟩)
      · skip
        have i3 := r_lt1 0 159 c1 j2_1 (in_c 160 rfl) rfl
        refine g_aload_n 10 (gd rfl) rfl rfl ?_
        refine g_getA (q2 := 4) 13 (gd rfl) rfl rfl rfl rfl rfl ?_
        refine g_iload_n 14 (gd rfl) rfl rfl ?_
        refine g_iaload 15 (gd rfl) rfl (n := 160) rfl (in_ix i3 rfl) (fun z4 e5 => ?_)
        have i6 := inv_I hI (n := 160) (t := 0) (-1) 31 rfl (in_ix i3 rfl) rfl e5
        refine g_iconst (-1) 16 (gd rfl) rfl rfl ?_
        refine g_cmp_ne 19 21 (gd rfl) rfl rfl (fun c7 => ?_) (fun c7 => ?_)
        · skip
          have i8 := r_ne1 0 31 c7 i6 (in_c (-1) rfl) rfl
          refine g_iinc 24 (gd rfl) rfl rfl (Nat.le_of_ble_eq_true rfl) (fun z9 e10 => ?_)
          have i11 := in_add 1 160 e10 i3 (in_c 1 rfl) rfl rfl
          refine g_goto 2 (gd rfl) rfl ?_
          exact gg_w (by omega) (gg_f (gf_cons rfl (gf_cons rfl gf_nil)) (ih2  z9  (in_w 0 160 i11 rfl) (m_up mm2 (t_add e10 i3 (in_c 1 rfl) rfl) (in_w 1 1 (in_c 1 rfl) rfl))))
        · skip
          have i12 := r_eq1 (-1) (-1) c7 i6 (in_c (-1) rfl) rfl
          refine g_iload_n 20 (gd rfl) rfl rfl ?_
          exact g_ireturn (gd rfl) rfl rfl (hP _ _ ⟨y2_1, rfl, rfl, in_w (-1) 159 i3 rfl⟩)
  refine g_enter2 (k := 101) (N := 145801) (by omega) rfl (Nat.le_of_ble_eq_true rfl) ?_
  refine g_iconst 0 1 (gd rfl) rfl rfl ?_
  refine g_istore_n 2 (gd rfl) rfl (Nat.le_of_ble_eq_true rfl) ?_
  exact gg_w (by omega) (gg_f (gf_cons rfl (gf_cons rfl gf_nil)) (ct2 161  (Int32.ofInt 0)  (in_w 0 160 (in_c 0 rfl) rfl) (m_in 161 (in_w 0 160 (in_c 0 rfl) rfl) rfl)))

/-- GraphHouse$Groups.score -/
theorem k_118_86 {Z : AmZ} {A : Nat → Nat} {s : GS} {ex : va_W} {d : Nat} {X : AmX} {x1 : Int32} {x2 : Int32} (hd : 1 ≤ d) (hI : Inv s) (h1 : In x1 0 31) (h2 : In x2 0 31) : GC Z d 118 [.ref (A 86), .int x1, .int x2] (WW Z A s ++ ex) 0 0 (fun v u => ∃ z : Int64, v = some (.long z) ∧ u = WW Z A s ++ ex) X := by
  intro post xp hP hX
  refine g_enter2 (k := 118) (N := 900) (by omega) rfl (Nat.le_of_ble_eq_true rfl) ?_
  refine g_aload_n 1 (gd rfl) rfl rfl ?_
  refine g_getA (q2 := 89) 4 (gd rfl) rfl rfl rfl rfl rfl ?_
  refine g_iload_n 5 (gd rfl) rfl rfl ?_
  refine g_iaload 6 (gd rfl) rfl (n := 32) rfl (in_ix h1 rfl) (fun z1 e2 => ?_)
  have i3 := inv_I hI (n := 32) (t := 0) 0 31 rfl (in_ix h1 rfl) rfl e2
  refine g_iload_n 7 (gd rfl) rfl rfl ?_
  refine g_cmp_ne 10 26 (gd rfl) rfl rfl (fun c4 => ?_) (fun c4 => ?_)
  · skip
    refine g_aload_n 27 (gd rfl) rfl rfl ?_
    refine g_getA (q2 := 92) 30 (gd rfl) rfl rfl rfl rfl rfl ?_
    refine g_iload_n 31 (gd rfl) rfl rfl ?_
    refine g_iaload 32 (gd rfl) rfl (n := 32) rfl (in_ix h2 rfl) (fun z5 e6 => ?_)
    refine g_istore_n 33 (gd rfl) rfl (Nat.le_of_ble_eq_true rfl) ?_
    refine g_ldc2_w 2 36 (gd rfl) rfl rfl ?_
    refine g_aload_n 37 (gd rfl) rfl rfl ?_
    refine g_getI 40 (gd rfl) rfl rfl rfl (fun z7 e8 => ?_)
    have i9 := inv_F hI 0 160 rfl e8
    refine g_i2l 41 (gd rfl) rfl (fun z10 e11 => ?_)
    have i12 := l_i e11 i9
    refine g_lmul 42 (gd rfl) rfl (fun z13 e14 => ?_)
    refine g_aload_n 43 (gd rfl) rfl rfl ?_
    refine g_getA (q2 := 93) 46 (gd rfl) rfl rfl rfl rfl rfl ?_
    refine g_iload_n 47 (gd rfl) rfl rfl ?_
    refine g_iaload 48 (gd rfl) rfl (n := 32) rfl (in_ix h2 rfl) (fun z15 e16 => ?_)
    refine g_i2l 49 (gd rfl) rfl (fun z17 e18 => ?_)
    have i19 := l_i e18 (i_rng z15)
    refine g_lmul 50 (gd rfl) rfl (fun z20 e21 => ?_)
    refine g_aload_n 51 (gd rfl) rfl rfl ?_
    refine g_getA (q2 := 91) 54 (gd rfl) rfl rfl rfl rfl rfl ?_
    refine g_iload_n 55 (gd rfl) rfl rfl ?_
    refine g_iaload 56 (gd rfl) rfl (n := 32) rfl (in_ix h1 rfl) (fun z22 e23 => ?_)
    refine g_i2l 57 (gd rfl) rfl (fun z24 e25 => ?_)
    have i26 := l_i e25 (i_rng z22)
    refine g_iload_n 58 (gd rfl) rfl rfl ?_
    refine g_i2l 59 (gd rfl) rfl (fun z27 e28 => ?_)
    have i29 := l_i e28 (i_rng z5)
    refine g_lmul 60 (gd rfl) rfl (fun z30 e31 => ?_)
    refine g_lsub 61 (gd rfl) rfl (fun z32 e33 => ?_)
    exact g_lreturn (gd rfl) rfl (hP _ _ ⟨z32, rfl, rfl⟩)
  · skip
    refine g_aload_n 11 (gd rfl) rfl rfl ?_
    refine g_getA (q2 := 92) 14 (gd rfl) rfl rfl rfl rfl rfl ?_
    refine g_iload_n 15 (gd rfl) rfl rfl ?_
    refine g_iaload 16 (gd rfl) rfl (n := 32) rfl (in_ix h2 rfl) (fun z34 e35 => ?_)
    refine g_aload_n 17 (gd rfl) rfl rfl ?_
    refine g_getA (q2 := 91) 20 (gd rfl) rfl rfl rfl rfl rfl ?_
    refine g_iload_n 21 (gd rfl) rfl rfl ?_
    refine g_iaload 22 (gd rfl) rfl (n := 32) rfl (in_ix h1 rfl) (fun z36 e37 => ?_)
    refine g_isub 23 (gd rfl) rfl (fun z38 e39 => ?_)
    refine g_goto 32 (gd rfl) rfl ?_
    refine g_istore_n 33 (gd rfl) rfl (Nat.le_of_ble_eq_true rfl) ?_
    refine g_ldc2_w 2 36 (gd rfl) rfl rfl ?_
    refine g_aload_n 37 (gd rfl) rfl rfl ?_
    refine g_getI 40 (gd rfl) rfl rfl rfl (fun z40 e41 => ?_)
    have i42 := inv_F hI 0 160 rfl e41
    refine g_i2l 41 (gd rfl) rfl (fun z43 e44 => ?_)
    have i45 := l_i e44 i42
    refine g_lmul 42 (gd rfl) rfl (fun z46 e47 => ?_)
    refine g_aload_n 43 (gd rfl) rfl rfl ?_
    refine g_getA (q2 := 93) 46 (gd rfl) rfl rfl rfl rfl rfl ?_
    refine g_iload_n 47 (gd rfl) rfl rfl ?_
    refine g_iaload 48 (gd rfl) rfl (n := 32) rfl (in_ix h2 rfl) (fun z48 e49 => ?_)
    refine g_i2l 49 (gd rfl) rfl (fun z50 e51 => ?_)
    have i52 := l_i e51 (i_rng z48)
    refine g_lmul 50 (gd rfl) rfl (fun z53 e54 => ?_)
    refine g_aload_n 51 (gd rfl) rfl rfl ?_
    refine g_getA (q2 := 91) 54 (gd rfl) rfl rfl rfl rfl rfl ?_
    refine g_iload_n 55 (gd rfl) rfl rfl ?_
    refine g_iaload 56 (gd rfl) rfl (n := 32) rfl (in_ix h1 rfl) (fun z55 e56 => ?_)
    have q57 : z36 = z55 := e37.trans e56.symm
    subst q57
    refine g_i2l 57 (gd rfl) rfl (fun z58 e59 => ?_)
    have i60 := l_i e59 (i_rng z36)
    refine g_iload_n 58 (gd rfl) rfl rfl ?_
    refine g_i2l 59 (gd rfl) rfl (fun z61 e62 => ?_)
    have i63 := l_i e62 (i_rng z38)
    refine g_lmul 60 (gd rfl) rfl (fun z64 e65 => ?_)
    refine g_lsub 61 (gd rfl) rfl (fun z66 e67 => ?_)
    exact g_lreturn (gd rfl) rfl (hP _ _ ⟨z66, rfl, rfl⟩)

/-- GraphHouse$Groups.freeGroup -/
theorem k_119_86 {Z : AmZ} {A : Nat → Nat} {s : GS} {ex : va_W} {d : Nat} {X : AmX}  (hd : 1 ≤ d) (hI : Inv s)  : GC Z d 119 [.ref (A 86)] (WW Z A s ++ ex) 0 0 (fun v u => ∃ z : Int32, v = some (.int z) ∧ u = WW Z A s ++ ex ∧ In z (-1) 31) X := by
  intro post xp hP hX
  have ct2 : ∀ (k2 : Nat) (y2_1 : Int32), In y2_1 0 32 → 32 - (y2_1).toInt < (k2 : Int) → GG Z (d - 1) 119 post (gx xp) (1 + k2 * 900) 2 (fun j => xlook j [(0, .ref (A 86)), (1, .int y2_1)]) [] (WW Z A s ++ ex) 0 0 := by
    intro k2
    induction k2 with
    | zero => intro y2_1 j2_1 mm2; exact m_no mm2 j2_1 rfl
    | succ k2 ih2 =>
      intro y2_1 j2_1 mm2
      refine gg_w (M := 1 + k2 * 900 + 900) (by omega) ?_
      refine g_iload_n 3 (gd rfl) rfl rfl ?_
      refine g_bipush 32 5 (gd rfl) rfl rfl ?_
      refine g_cmp_ge 8 25 (gd rfl) rfl rfl (fun c1 => ?_) (fun c1 => ?_)
      · skip
        have i2 := r_le2 32 32 c1 (in_c 32 rfl) j2_1 rfl
        refine g_iconst (-1) 26 (gd rfl) rfl rfl ?_
        exact g_ireturn (gd rfl) rfl rfl (hP _ _ ⟨(Int32.ofInt (-1)), rfl, rfl, in_w (-1) 31 (in_c (-1) rfl) rfl⟩)
      · skip
        have i3 := r_lt1 0 31 c1 j2_1 (in_c 32 rfl) rfl
        refine g_aload_n 9 (gd rfl) rfl rfl ?_
        refine g_getA (q2 := 90) 12 (gd rfl) rfl rfl rfl rfl rfl ?_
        refine g_iload_n 13 (gd rfl) rfl rfl ?_
        refine g_iaload 14 (gd rfl) rfl (n := 32) rfl (in_ix i3 rfl) (fun z4 e5 => ?_)
        refine g_if_ne 17 19 (gd rfl) rfl rfl (fun c6 => ?_) (fun c6 => ?_)
        · skip
          refine g_iinc 22 (gd rfl) rfl rfl (Nat.le_of_ble_eq_true rfl) (fun z7 e8 => ?_)
          have i9 := in_add 1 32 e8 i3 (in_c 1 rfl) rfl rfl
          refine g_goto 2 (gd rfl) rfl ?_
          exact gg_w (by omega) (gg_f (gf_cons rfl (gf_cons rfl gf_nil)) (ih2  z7  (in_w 0 32 i9 rfl) (m_up mm2 (t_add e8 i3 (in_c 1 rfl) rfl) (in_w 1 1 (in_c 1 rfl) rfl))))
        · skip
          have i10 := z_eq 0 0 c6 (i_rng z4) rfl
          refine g_iload_n 18 (gd rfl) rfl rfl ?_
          exact g_ireturn (gd rfl) rfl rfl (hP _ _ ⟨y2_1, rfl, rfl, in_w (-1) 31 i3 rfl⟩)
  refine g_enter2 (k := 119) (N := 30601) (by omega) rfl (Nat.le_of_ble_eq_true rfl) ?_
  refine g_iconst 0 1 (gd rfl) rfl rfl ?_
  refine g_istore_n 2 (gd rfl) rfl (Nat.le_of_ble_eq_true rfl) ?_
  exact gg_w (by omega) (gg_f (gf_cons rfl (gf_cons rfl gf_nil)) (ct2 33  (Int32.ofInt 0)  (in_w 0 32 (in_c 0 rfl) rfl) (m_in 33 (in_w 0 32 (in_c 0 rfl) rfl) rfl)))

/-- GraphHouse$Parts.firstFree -/
theorem k_146_2 {Z : AmZ} {A : Nat → Nat} {s : GS} {ex : va_W} {d : Nat} {X : AmX} {x1 : Int32} (hd : 4 ≤ d) (hI : Inv s)  : GC Z d 146 [.ref (A 2), .int x1] (WW Z A s ++ ex) 0 0 (fun v u => ∃ z : Int32, v = some (.int z) ∧ u = WW Z A s ++ ex ∧ In z (-1) 31) X := by
  intro post xp hP hX
  have ct2 : ∀ (k2 : Nat) (y2_1 : Int32) (y2_2 : Int32), ((y2_2.toBitVec.toNat : Nat) : Int) < (k2 : Int) → GG Z (d - 1) 146 post (gx xp) (1 + k2 * 900) 2 (fun j => xlook j [(0, .ref (A 2)), (1, .int y2_1), (2, .int y2_2)]) [] (WW Z A s ++ ex) 0 0 := by
    intro k2
    induction k2 with
    | zero => intro y2_1 y2_2  mm2; exact absurd mm2 (Int.not_lt.mpr (Int.natCast_nonneg _))
    | succ k2 ih2 =>
      intro y2_1 y2_2  mm2
      refine gg_w (M := 1 + k2 * 900 + 900) (by omega) ?_
      refine g_iload_n 3 (gd rfl) rfl rfl ?_
      refine g_if_eq 6 34 (gd rfl) rfl rfl (fun c1 => ?_) (fun c1 => ?_)
      · skip
        have i2 := z_eq 0 0 c1 (i_rng y2_2) rfl
        refine g_iconst (-1) 35 (gd rfl) rfl rfl ?_
        exact g_ireturn (gd rfl) rfl rfl (hP _ _ ⟨(Int32.ofInt (-1)), rfl, rfl, in_w (-1) 31 (in_c (-1) rfl) rfl⟩)
      · skip
        refine g_aload_n 7 (gd rfl) rfl rfl ?_
        refine g_getA (q2 := 11) 10 (gd rfl) rfl rfl rfl rfl rfl ?_
        refine g_iload_n 11 (gd rfl) rfl rfl ?_
        refine g_calls (As := [.int y2_2]) (r := [.ref (A 11)]) 14 (gd rfl) rfl rfl rfl rfl rfl (Nat.le_of_ble_eq_true rfl) (Nat.zero_le _) (Nat.zero_le _) (k_264n (by omega) c1) (fun v u h => ?_)
        obtain ⟨z3, rfl, rfl, i4⟩ := h
        show GG _ _ _ _ _ _ _ _ [.int z3, .ref (A 11)] _ _ _
        refine g_iaload 15 (gd rfl) rfl (n := 32) rfl (in_ix i4 rfl) (fun z5 e6 => ?_)
        refine g_iload_n 16 (gd rfl) rfl rfl ?_
        refine g_iand 17 (gd rfl) rfl (fun z7 e8 => ?_)
        refine g_if_ne 20 25 (gd rfl) rfl rfl (fun c9 => ?_) (fun c9 => ?_)
        · skip
          refine g_iload_n 26 (gd rfl) rfl rfl ?_
          refine g_iload_n 27 (gd rfl) rfl rfl ?_
          refine g_iconst 1 28 (gd rfl) rfl rfl ?_
          refine g_isub 29 (gd rfl) rfl (fun z10 e11 => ?_)
          refine g_iand 30 (gd rfl) rfl (fun z12 e13 => ?_)
          refine g_istore_n 31 (gd rfl) rfl (Nat.le_of_ble_eq_true rfl) ?_
          refine g_goto 2 (gd rfl) rfl ?_
          exact gg_w (by omega) (gg_f (gf_cons rfl (gf_cons rfl (gf_cons rfl gf_nil))) (ih2  y2_1 z12   (mb e13 e11 c1 mm2)))
        · skip
          have i14 := z_eq 0 0 c9 (i_rng z7) rfl
          refine g_iload_n 21 (gd rfl) rfl rfl ?_
          refine g_calls (As := [.int y2_2]) (r := []) 24 (gd rfl) rfl rfl rfl rfl rfl (Nat.le_of_ble_eq_true rfl) (Nat.zero_le _) (Nat.zero_le _) (k_264n (by omega) c1) (fun v u h => ?_)
          obtain ⟨z15, rfl, rfl, i16⟩ := h
          show GG _ _ _ _ _ _ _ _ [.int z15] _ _ _
          exact g_ireturn (gd rfl) rfl rfl (hP _ _ ⟨z15, rfl, rfl, in_w (-1) 31 i16 rfl⟩)
  refine g_enter2 (k := 146) (N := 3865470567301) (by omega) rfl (Nat.le_of_ble_eq_true rfl) ?_
  refine g_iload_n 1 (gd rfl) rfl rfl ?_
  refine g_istore_n 2 (gd rfl) rfl (Nat.le_of_ble_eq_true rfl) ?_
  exact gg_w (by omega) (gg_f (gf_cons rfl (gf_cons rfl (gf_cons rfl gf_nil))) (ct2 4294967296  x1 x1   (mb_in _)))

/-- GraphHouse$Parts.firstFree -/
theorem k_146_32 {Z : AmZ} {A : Nat → Nat} {s : GS} {ex : va_W} {d : Nat} {X : AmX} {x1 : Int32} (hd : 4 ≤ d) (hI : Inv s)  : GC Z d 146 [.ref (A 32), .int x1] (WW Z A s ++ ex) 0 0 (fun v u => ∃ z : Int32, v = some (.int z) ∧ u = WW Z A s ++ ex ∧ In z (-1) 31) X := by
  intro post xp hP hX
  have ct2 : ∀ (k2 : Nat) (y2_1 : Int32) (y2_2 : Int32), ((y2_2.toBitVec.toNat : Nat) : Int) < (k2 : Int) → GG Z (d - 1) 146 post (gx xp) (1 + k2 * 900) 2 (fun j => xlook j [(0, .ref (A 32)), (1, .int y2_1), (2, .int y2_2)]) [] (WW Z A s ++ ex) 0 0 := by
    intro k2
    induction k2 with
    | zero => intro y2_1 y2_2  mm2; exact absurd mm2 (Int.not_lt.mpr (Int.natCast_nonneg _))
    | succ k2 ih2 =>
      intro y2_1 y2_2  mm2
      refine gg_w (M := 1 + k2 * 900 + 900) (by omega) ?_
      refine g_iload_n 3 (gd rfl) rfl rfl ?_
      refine g_if_eq 6 34 (gd rfl) rfl rfl (fun c1 => ?_) (fun c1 => ?_)
      · skip
        have i2 := z_eq 0 0 c1 (i_rng y2_2) rfl
        refine g_iconst (-1) 35 (gd rfl) rfl rfl ?_
        exact g_ireturn (gd rfl) rfl rfl (hP _ _ ⟨(Int32.ofInt (-1)), rfl, rfl, in_w (-1) 31 (in_c (-1) rfl) rfl⟩)
      · skip
        refine g_aload_n 7 (gd rfl) rfl rfl ?_
        refine g_getA (q2 := 41) 10 (gd rfl) rfl rfl rfl rfl rfl ?_
        refine g_iload_n 11 (gd rfl) rfl rfl ?_
        refine g_calls (As := [.int y2_2]) (r := [.ref (A 41)]) 14 (gd rfl) rfl rfl rfl rfl rfl (Nat.le_of_ble_eq_true rfl) (Nat.zero_le _) (Nat.zero_le _) (k_264n (by omega) c1) (fun v u h => ?_)
        obtain ⟨z3, rfl, rfl, i4⟩ := h
        show GG _ _ _ _ _ _ _ _ [.int z3, .ref (A 41)] _ _ _
        refine g_iaload 15 (gd rfl) rfl (n := 32) rfl (in_ix i4 rfl) (fun z5 e6 => ?_)
        refine g_iload_n 16 (gd rfl) rfl rfl ?_
        refine g_iand 17 (gd rfl) rfl (fun z7 e8 => ?_)
        refine g_if_ne 20 25 (gd rfl) rfl rfl (fun c9 => ?_) (fun c9 => ?_)
        · skip
          refine g_iload_n 26 (gd rfl) rfl rfl ?_
          refine g_iload_n 27 (gd rfl) rfl rfl ?_
          refine g_iconst 1 28 (gd rfl) rfl rfl ?_
          refine g_isub 29 (gd rfl) rfl (fun z10 e11 => ?_)
          refine g_iand 30 (gd rfl) rfl (fun z12 e13 => ?_)
          refine g_istore_n 31 (gd rfl) rfl (Nat.le_of_ble_eq_true rfl) ?_
          refine g_goto 2 (gd rfl) rfl ?_
          exact gg_w (by omega) (gg_f (gf_cons rfl (gf_cons rfl (gf_cons rfl gf_nil))) (ih2  y2_1 z12   (mb e13 e11 c1 mm2)))
        · skip
          have i14 := z_eq 0 0 c9 (i_rng z7) rfl
          refine g_iload_n 21 (gd rfl) rfl rfl ?_
          refine g_calls (As := [.int y2_2]) (r := []) 24 (gd rfl) rfl rfl rfl rfl rfl (Nat.le_of_ble_eq_true rfl) (Nat.zero_le _) (Nat.zero_le _) (k_264n (by omega) c1) (fun v u h => ?_)
          obtain ⟨z15, rfl, rfl, i16⟩ := h
          show GG _ _ _ _ _ _ _ _ [.int z15] _ _ _
          exact g_ireturn (gd rfl) rfl rfl (hP _ _ ⟨z15, rfl, rfl, in_w (-1) 31 i16 rfl⟩)
  refine g_enter2 (k := 146) (N := 3865470567301) (by omega) rfl (Nat.le_of_ble_eq_true rfl) ?_
  refine g_iload_n 1 (gd rfl) rfl rfl ?_
  refine g_istore_n 2 (gd rfl) rfl (Nat.le_of_ble_eq_true rfl) ?_
  exact gg_w (by omega) (gg_f (gf_cons rfl (gf_cons rfl (gf_cons rfl gf_nil))) (ct2 4294967296  x1 x1   (mb_in _)))

/-- GraphHouse$Question.isGood -/
theorem k_155_46 {Z : AmZ} {A : Nat → Nat} {s : GS} {ex : va_W} {d : Nat} {X : AmX}  (hd : 4 ≤ d) (hI : Inv s)  : GC Z d 155 [.ref (A 46)] (WW Z A s ++ ex) 0 0 (fun v u => ∃ t : GS, Inv t ∧ ∃ z : Int32, v = some (.int z) ∧ u = WW Z A t ++ ex ∧ In z 0 1) X := by
  intro post xp hP hX
  have ct108 : ∀ (s : GS) (y108_1 : Int32) (y108_2 : Int32) (y108_3 : Int32), Inv s → In y108_1 0 0 → In y108_2 0 1 → In y108_3 0 2001 → GG Z (d - 1) 155 post (gx xp) (901) 108 (fun j => xlook j [(0, .ref (A 46)), (1, .int y108_1), (2, .int y108_2), (3, .int y108_3)]) [] (WW Z A s ++ ex) 0 0 := by
    intro s y108_1 y108_2 y108_3 hI j108_1 j108_2 j108_3
    refine g_iconst 1 109 (gd rfl) rfl rfl ?_
    refine g_goto 113 (gd rfl) rfl ?_
    exact g_ireturn (gd rfl) rfl (nb01 (in_w 0 1 (in_c 1 rfl) rfl)) (hP _ _ ⟨s, hI, (Int32.ofInt 1), rfl, rfl, in_w 0 1 (in_c 1 rfl) rfl⟩)
  have ct6 : ∀ (k6 : Nat) (s : GS) (y6_1 : Int32) (y6_2 : Int32) (y6_3 : Int32), Inv s → In y6_2 0 1 → In y6_3 0 2001 → 2001 - (y6_3).toInt < (k6 : Int) → GG Z (d - 1) 155 post (gx xp) (902 + k6 * 3603) 6 (fun j => xlook j [(0, .ref (A 46)), (1, .int y6_1), (2, .int y6_2), (3, .int y6_3)]) [] (WW Z A s ++ ex) 0 0 := by
    intro k6
    induction k6 with
    | zero => intro s y6_1 y6_2 y6_3 hI j6_2 j6_3 mm6; exact m_no mm6 j6_3 rfl
    | succ k6 ih6 =>
      intro s y6_1 y6_2 y6_3 hI j6_2 j6_3 mm6
      refine gg_w (M := 902 + k6 * 3603 + 3603) (by omega) ?_
      have ct80 : ∀ (s : GS) (y80_1 : Int32) (y80_4 : Int32) (y80_5 : Int32), Inv s → In y6_3 0 1000 → In y80_4 41 122 → In y80_5 (-1) (-1) → GG Z (d - 1) 155 post (gx xp) (902 + k6 * 3603 + 901) 80 (fun j => xlook j [(0, .ref (A 46)), (1, .int y80_1), (2, .int y6_2), (3, .int y6_3), (4, .int y80_4), (5, .int y80_5)]) [] (WW Z A s ++ ex) 0 0 := by
        intro s y80_1 y80_4 y80_5 hI j80_3 j80_4 j80_5
        refine g_iconst 1 81 (gd rfl) rfl rfl ?_
        refine g_goto 85 (gd rfl) rfl ?_
        refine g_istore_n 86 (gd rfl) rfl (Nat.le_of_ble_eq_true rfl) ?_
        refine g_iinc 89 (gd rfl) rfl rfl (Nat.le_of_ble_eq_true rfl) (fun z1 e2 => ?_)
        have i3 := in_add 1 1001 e2 j80_3 (in_c 1 rfl) rfl rfl
        refine g_goto 6 (gd rfl) rfl ?_
        exact gg_w (by omega) (gg_f (gf_cons rfl (gf_cons rfl (gf_cons rfl (gf_cons rfl gf_nil)))) (ih6 s y80_1 (Int32.ofInt 1) z1 hI (in_w 0 1 (in_c 1 rfl) rfl) (in_w 0 2001 i3 rfl) (m_up mm6 (t_add e2 j80_3 (in_c 1 rfl) rfl) (in_w 1 1 (in_c 1 rfl) rfl))))
      have ct65 : ∀ (s : GS) (y65_1 : Int32) (y65_4 : Int32) (y65_5 : Int32), Inv s → In y6_3 0 1000 → In y65_4 40 124 → In y65_5 (-1) (-1) → GG Z (d - 1) 155 post (gx xp) (902 + k6 * 3603 + 1802) 65 (fun j => xlook j [(0, .ref (A 46)), (1, .int y65_1), (2, .int y6_2), (3, .int y6_3), (4, .int y65_4), (5, .int y65_5)]) [] (WW Z A s ++ ex) 0 0 := by
        intro s y65_1 y65_4 y65_5 hI j65_3 j65_4 j65_5
        refine g_iload 67 (gd rfl) rfl rfl ?_
        refine g_bipush 41 69 (gd rfl) rfl rfl ?_
        refine g_cmp_eq 72 80 (gd rfl) rfl rfl (fun c4 => ?_) (fun c4 => ?_)
        · skip
          have i5 := r_eq1 41 41 c4 j65_4 (in_c 41 rfl) rfl
          exact gg_w (by omega) (gg_f (gf_cons rfl (gf_cons rfl (gf_cons rfl (gf_cons rfl (gf_cons rfl (gf_cons rfl gf_nil)))))) (ct80 s y65_1 y65_4 y65_5 hI (in_w 0 1000 j65_3 rfl) (in_w 41 122 i5 rfl) (in_w (-1) (-1) j65_5 rfl)))
        · skip
          refine g_iload 74 (gd rfl) rfl rfl ?_
          refine g_calls (As := [.int y65_4]) (r := []) 77 (gd rfl) rfl rfl rfl rfl rfl (Nat.le_of_ble_eq_true rfl) (mc := 0) (ms := 0) (Nat.zero_le _) (Nat.zero_le _) (P := fun v u => _) ?_ (fun v u h => h)
          intro po6 xx7 hp8 hx9
          refine g_enter2 (k := 157) (N := 300) (by omega) rfl (Nat.le_of_ble_eq_true rfl) ?_
          refine g_iload_n 1 (gd rfl) rfl rfl ?_
          refine g_bipush 46 3 (gd rfl) rfl rfl ?_
          refine g_cmp_eq 6 18 (gd rfl) rfl rfl (fun c10 => ?_) (fun c10 => ?_)
          · skip
            have i11 := r_eq1 46 46 c10 j65_4 (in_c 46 rfl) rfl
            refine g_iconst 1 19 (gd rfl) rfl rfl ?_
            refine g_goto 23 (gd rfl) rfl ?_
            refine g_ireturn (gd rfl) rfl (nb01 (in_w 0 1 (in_c 1 rfl) rfl)) (hp8 _ _ ?_)
            show GG _ _ _ _ _ _ _ _ [.int (Int32.ofInt 1)] _ _ _
            refine g_if_eq 80 84 (gd rfl) rfl rfl (fun c12 => ?_) (fun c12 => ?_)
            · skip
              exact zn_eq c12 (in_c 1 rfl) rfl
            · skip
              exact gg_w (by omega) (gg_f (gf_cons rfl (gf_cons rfl (gf_cons rfl (gf_cons rfl (gf_cons rfl (gf_cons rfl gf_nil)))))) (ct80 s y65_1 y65_4 y65_5 hI (in_w 0 1000 j65_3 rfl) (in_w 41 122 i11 rfl) (in_w (-1) (-1) j65_5 rfl)))
          · skip
            refine g_iload_n 7 (gd rfl) rfl rfl ?_
            refine g_bipush 97 9 (gd rfl) rfl rfl ?_
            refine g_cmp_lt 12 22 (gd rfl) rfl rfl (fun c13 => ?_) (fun c13 => ?_)
            · skip
              have i14 := r_lt1 40 96 c13 j65_4 (in_c 97 rfl) rfl
              refine g_iconst 0 23 (gd rfl) rfl rfl ?_
              refine g_ireturn (gd rfl) rfl (nb01 (in_w 0 1 (in_c 0 rfl) rfl)) (hp8 _ _ ?_)
              show GG _ _ _ _ _ _ _ _ [.int (Int32.ofInt 0)] _ _ _
              refine g_if_eq 80 84 (gd rfl) rfl rfl (fun c15 => ?_) (fun c15 => ?_)
              · skip
                refine g_iconst 0 85 (gd rfl) rfl rfl ?_
                refine g_istore_n 86 (gd rfl) rfl (Nat.le_of_ble_eq_true rfl) ?_
                refine g_iinc 89 (gd rfl) rfl rfl (Nat.le_of_ble_eq_true rfl) (fun z16 e17 => ?_)
                have i18 := in_add 1 1001 e17 j65_3 (in_c 1 rfl) rfl rfl
                refine g_goto 6 (gd rfl) rfl ?_
                exact gg_w (by omega) (gg_f (gf_cons rfl (gf_cons rfl (gf_cons rfl (gf_cons rfl gf_nil)))) (ih6 s y65_1 (Int32.ofInt 0) z16 hI (in_w 0 1 (in_c 0 rfl) rfl) (in_w 0 2001 i18 rfl) (m_up mm6 (t_add e17 j65_3 (in_c 1 rfl) rfl) (in_w 1 1 (in_c 1 rfl) rfl))))
              · skip
                exact zn_ne c15 (in_c 0 rfl) rfl
            · skip
              have i19 := r_le2 97 124 c13 (in_c 97 rfl) j65_4 rfl
              refine g_iload_n 13 (gd rfl) rfl rfl ?_
              refine g_bipush 122 15 (gd rfl) rfl rfl ?_
              refine g_cmp_gt 18 22 (gd rfl) rfl rfl (fun c20 => ?_) (fun c20 => ?_)
              · skip
                have i21 := r_lt2 123 124 c20 (in_c 122 rfl) i19 rfl
                refine g_iconst 0 23 (gd rfl) rfl rfl ?_
                refine g_ireturn (gd rfl) rfl (nb01 (in_w 0 1 (in_c 0 rfl) rfl)) (hp8 _ _ ?_)
                show GG _ _ _ _ _ _ _ _ [.int (Int32.ofInt 0)] _ _ _
                refine g_if_eq 80 84 (gd rfl) rfl rfl (fun c22 => ?_) (fun c22 => ?_)
                · skip
                  refine g_iconst 0 85 (gd rfl) rfl rfl ?_
                  refine g_istore_n 86 (gd rfl) rfl (Nat.le_of_ble_eq_true rfl) ?_
                  refine g_iinc 89 (gd rfl) rfl rfl (Nat.le_of_ble_eq_true rfl) (fun z23 e24 => ?_)
                  have i25 := in_add 1 1001 e24 j65_3 (in_c 1 rfl) rfl rfl
                  refine g_goto 6 (gd rfl) rfl ?_
                  exact gg_w (by omega) (gg_f (gf_cons rfl (gf_cons rfl (gf_cons rfl (gf_cons rfl gf_nil)))) (ih6 s y65_1 (Int32.ofInt 0) z23 hI (in_w 0 1 (in_c 0 rfl) rfl) (in_w 0 2001 i25 rfl) (m_up mm6 (t_add e24 j65_3 (in_c 1 rfl) rfl) (in_w 1 1 (in_c 1 rfl) rfl))))
                · skip
                  exact zn_ne c22 (in_c 0 rfl) rfl
              · skip
                have i26 := r_le1 97 122 c20 i19 (in_c 122 rfl) rfl
                refine g_iconst 1 19 (gd rfl) rfl rfl ?_
                refine g_goto 23 (gd rfl) rfl ?_
                refine g_ireturn (gd rfl) rfl (nb01 (in_w 0 1 (in_c 1 rfl) rfl)) (hp8 _ _ ?_)
                show GG _ _ _ _ _ _ _ _ [.int (Int32.ofInt 1)] _ _ _
                refine g_if_eq 80 84 (gd rfl) rfl rfl (fun c27 => ?_) (fun c27 => ?_)
                · skip
                  exact zn_eq c27 (in_c 1 rfl) rfl
                · skip
                  exact gg_w (by omega) (gg_f (gf_cons rfl (gf_cons rfl (gf_cons rfl (gf_cons rfl (gf_cons rfl (gf_cons rfl gf_nil)))))) (ct80 s y65_1 y65_4 y65_5 hI (in_w 0 1000 j65_3 rfl) (in_w 41 122 i26 rfl) (in_w (-1) (-1) j65_5 rfl)))
      have ct55 : ∀ (s : GS) (y55_1 : Int32) (y55_4 : Int32) (y55_5 : Int32), Inv s → In y6_3 0 1000 → In y55_4 40 124 → In y55_5 (-1) (-1) → GG Z (d - 1) 155 post (gx xp) (902 + k6 * 3603 + 2703) 55 (fun j => xlook j [(0, .ref (A 46)), (1, .int y55_1), (2, .int y6_2), (3, .int y6_3), (4, .int y55_4), (5, .int y55_5)]) [] (WW Z A s ++ ex) 0 0 := by
        intro s y55_1 y55_4 y55_5 hI j55_3 j55_4 j55_5
        refine g_iload 57 (gd rfl) rfl rfl ?_
        refine g_bipush 41 59 (gd rfl) rfl rfl ?_
        refine g_cmp_ne 62 65 (gd rfl) rfl rfl (fun c28 => ?_) (fun c28 => ?_)
        · skip
          exact gg_w (by omega) (gg_f (gf_cons rfl (gf_cons rfl (gf_cons rfl (gf_cons rfl (gf_cons rfl (gf_cons rfl gf_nil)))))) (ct65 s y55_1 y55_4 y55_5 hI (in_w 0 1000 j55_3 rfl) (in_w 40 124 j55_4 rfl) (in_w (-1) (-1) j55_5 rfl)))
        · skip
          have i29 := r_eq1 41 41 c28 j55_4 (in_c 41 rfl) rfl
          refine g_iinc 65 (gd rfl) rfl rfl (Nat.le_of_ble_eq_true rfl) (fun z30 e31 => ?_)
          exact gg_w (by omega) (gg_f (gf_cons rfl (gf_cons rfl (gf_cons rfl (gf_cons rfl (gf_cons rfl (gf_cons rfl gf_nil)))))) (ct65 s z30 y55_4 y55_5 hI (in_w 0 1000 j55_3 rfl) (in_w 40 124 i29 rfl) (in_w (-1) (-1) j55_5 rfl)))
      refine g_iload_n 7 (gd rfl) rfl rfl ?_
      refine g_aload_n 8 (gd rfl) rfl rfl ?_
      refine g_getI 11 (gd rfl) rfl rfl rfl (fun z32 e33 => ?_)
      have i34 := inv_F hI 0 1000 rfl e33
      refine g_cmp_ge 14 92 (gd rfl) rfl rfl (fun c35 => ?_) (fun c35 => ?_)
      · skip
        refine g_iload_n 93 (gd rfl) rfl rfl ?_
        refine g_if_eq 96 108 (gd rfl) rfl rfl (fun c36 => ?_) (fun c36 => ?_)
        · skip
          have i37 := z_eq 0 0 c36 (i_rng y6_1) rfl
          exact gg_w (by omega) (gg_f (gf_cons rfl (gf_cons rfl (gf_cons rfl (gf_cons rfl gf_nil)))) (ct108 s y6_1 y6_2 y6_3 hI (in_w 0 0 i37 rfl) (in_w 0 1 j6_2 rfl) (in_w 0 2001 j6_3 rfl)))
        · skip
          refine g_aload_n 97 (gd rfl) rfl rfl ?_
          refine g_iconst 2 98 (gd rfl) rfl rfl ?_
          refine g_aload_n 99 (gd rfl) rfl rfl ?_
          refine g_getI 102 (gd rfl) rfl rfl rfl (fun z38 e39 => ?_)
          have q40 : z32 = z38 := (e33).trans e39.symm
          subst q40
          refine g_callv (X := _) (As := [.int (Int32.ofInt 2), .int z32]) (r := []) (b := A 46) (q := 46) 105 (gd rfl) rfl rfl rfl rfl rfl (ww_o rfl) (Nat.le_of_ble_eq_true rfl) (mc := 0) (ms := 0) (Nat.zero_le _) (Nat.zero_le _) (P := fun v u => _) ?_ (fun e u h => h) (fun v u h => h)
          intro po41 xx42 hp43 hx44
          refine g_enter2 (k := 168) (N := 300) (by omega) rfl (Nat.le_of_ble_eq_true rfl) ?_
          refine g_aload_n 1 (gd rfl) rfl rfl ?_
          refine g_iload_n 2 (gd rfl) rfl rfl ?_
          refine g_putI 5 (gd rfl) rfl rfl rfl rfl ?_
          have hI45 := inv_sF (q := 46) (j := 6) hI rfl (in_w (-1) 5 (in_c 2 rfl) rfl)
          refine g_aload_n 6 (gd rfl) rfl rfl ?_
          refine g_iload_n 7 (gd rfl) rfl rfl ?_
          refine g_putI 10 (gd rfl) rfl rfl rfl rfl ?_
          have hI46 := inv_sF (q := 46) (j := 7) hI45 rfl (in_w (-1) 1000 i34 rfl)
          refine g_iconst 0 11 (gd rfl) rfl rfl ?_
          refine g_ireturn (gd rfl) rfl (nb01 (in_w 0 1 (in_c 0 rfl) rfl)) (hp43 _ _ ?_)
          show GG _ _ _ _ _ _ _ _ [.int (Int32.ofInt 0)] _ _ _
          refine g_if_eq 108 112 (gd rfl) rfl rfl (fun c47 => ?_) (fun c47 => ?_)
          · skip
            refine g_iconst 0 113 (gd rfl) rfl rfl ?_
            exact g_ireturn (gd rfl) rfl (nb01 (in_w 0 1 (in_c 0 rfl) rfl)) (hP _ _ ⟨(sF (sF s 46 6 (Int32.ofInt 2)) 46 7 z32), hI46, (Int32.ofInt 0), rfl, rfl, in_w 0 1 (in_c 0 rfl) rfl⟩)
          · skip
            exact zn_ne c47 (in_c 0 rfl) rfl
      · skip
        have i48 := r_lt1 0 999 c35 j6_3 i34 rfl
        have i49 := r_lt2 1 1000 c35 j6_3 i34 rfl
        refine g_aload_n 15 (gd rfl) rfl rfl ?_
        refine g_getA (q2 := 47) 18 (gd rfl) rfl rfl rfl rfl rfl ?_
        refine g_iload_n 19 (gd rfl) rfl rfl ?_
        refine g_caload 20 (gd rfl) rfl (n := 1000) rfl (in_ix i48 rfl) (fun z50 e51 => ?_)
        have i52 := inv_I hI (n := 1000) (t := 2) 0 65535 rfl (in_ix i48 rfl) rfl e51
        refine g_istore 22 (gd rfl) rfl (Nat.le_of_ble_eq_true rfl) ?_
        refine g_iload 24 (gd rfl) rfl rfl ?_
        refine g_iload_n 25 (gd rfl) rfl rfl ?_
        refine g_iload_n 26 (gd rfl) rfl rfl ?_
        refine g_calls (As := [.int z50, .int y6_2, .int y6_1]) (r := []) 29 (gd rfl) rfl rfl rfl rfl rfl (Nat.le_of_ble_eq_true rfl) (mc := 0) (ms := 0) (Nat.zero_le _) (Nat.zero_le _) (P := fun v u => _) ?_ (fun v u h => h)
        intro po53 xx54 hp55 hx56
        refine g_enter2 (k := 156) (N := 300) (by omega) rfl (Nat.le_of_ble_eq_true rfl) ?_
        refine g_iload_n 1 (gd rfl) rfl rfl ?_
        refine g_lsw [(40, 70), (41, 82), (42, 60), (43, 60), (63, 60), (124, 92)] 94 (gd rfl) rfl rfl rfl ⟨fun c57 => ?_, fun c57_0 => ⟨fun c57 => ?_, fun c57_1 => ⟨fun c57 => ?_, fun c57_2 => ⟨fun c57 => ?_, fun c57_3 => ⟨fun c57 => ?_, fun c57_4 => ⟨fun c57 => ?_, fun c57_5 => ?_⟩⟩⟩⟩⟩⟩
        · skip
          have i58 := sw_eq c57
          refine g_iload_n 71 (gd rfl) rfl rfl ?_
          refine g_bipush 10 73 (gd rfl) rfl rfl ?_
          refine g_cmp_ge 76 80 (gd rfl) rfl rfl (fun c59 => ?_) (fun c59 => ?_)
          · skip
            have i60 := r_le2 10 2147483647 c59 (in_c 10 rfl) (i_rng y6_1) rfl
            refine g_iconst 3 81 (gd rfl) rfl rfl ?_
            refine g_ireturn (gd rfl) rfl rfl (hp55 _ _ ?_)
            show GG _ _ _ _ _ _ _ _ [.int (Int32.ofInt 3)] _ _ _
            refine g_istore 31 (gd rfl) rfl (Nat.le_of_ble_eq_true rfl) ?_
            refine g_iload 33 (gd rfl) rfl rfl ?_
            refine g_iconst (-1) 34 (gd rfl) rfl rfl ?_
            refine g_cmp_eq 37 45 (gd rfl) rfl rfl (fun c61 => ?_) (fun c61 => ?_)
            · skip
              exact n_eq c61 (in_c 3 rfl) (in_c (-1) rfl) rfl
            · skip
              refine g_aload_n 38 (gd rfl) rfl rfl ?_
              refine g_iload 40 (gd rfl) rfl rfl ?_
              refine g_iload_n 41 (gd rfl) rfl rfl ?_
              refine g_callv (X := _) (As := [.int (Int32.ofInt 3), .int y6_3]) (r := []) (b := A 46) (q := 46) 44 (gd rfl) rfl rfl rfl rfl rfl (ww_o rfl) (Nat.le_of_ble_eq_true rfl) (mc := 0) (ms := 0) (Nat.zero_le _) (Nat.zero_le _) (P := fun v u => _) ?_ (fun e u h => h) (fun v u h => h)
              intro po62 xx63 hp64 hx65
              refine g_enter2 (k := 168) (N := 300) (by omega) rfl (Nat.le_of_ble_eq_true rfl) ?_
              refine g_aload_n 1 (gd rfl) rfl rfl ?_
              refine g_iload_n 2 (gd rfl) rfl rfl ?_
              refine g_putI 5 (gd rfl) rfl rfl rfl rfl ?_
              have hI66 := inv_sF (q := 46) (j := 6) hI rfl (in_w (-1) 5 (in_c 3 rfl) rfl)
              refine g_aload_n 6 (gd rfl) rfl rfl ?_
              refine g_iload_n 7 (gd rfl) rfl rfl ?_
              refine g_putI 10 (gd rfl) rfl rfl rfl rfl ?_
              have hI67 := inv_sF (q := 46) (j := 7) hI66 rfl (in_w (-1) 1000 i48 rfl)
              refine g_iconst 0 11 (gd rfl) rfl rfl ?_
              refine g_ireturn (gd rfl) rfl (nb01 (in_w 0 1 (in_c 0 rfl) rfl)) (hp64 _ _ ?_)
              show GG _ _ _ _ _ _ _ _ [.int (Int32.ofInt 0)] _ _ _
              exact g_ireturn (gd rfl) rfl (nb01 (in_w 0 1 (in_c 0 rfl) rfl)) (hP _ _ ⟨(sF (sF s 46 6 (Int32.ofInt 3)) 46 7 y6_3), hI67, (Int32.ofInt 0), rfl, rfl, in_w 0 1 (in_c 0 rfl) rfl⟩)
          · skip
            have i68 := r_lt1 (-2147483648) 9 c59 (i_rng y6_1) (in_c 10 rfl) rfl
            refine g_iconst (-1) 77 (gd rfl) rfl rfl ?_
            refine g_goto 81 (gd rfl) rfl ?_
            refine g_ireturn (gd rfl) rfl rfl (hp55 _ _ ?_)
            show GG _ _ _ _ _ _ _ _ [.int (Int32.ofInt (-1))] _ _ _
            refine g_istore 31 (gd rfl) rfl (Nat.le_of_ble_eq_true rfl) ?_
            refine g_iload 33 (gd rfl) rfl rfl ?_
            refine g_iconst (-1) 34 (gd rfl) rfl rfl ?_
            refine g_cmp_eq 37 45 (gd rfl) rfl rfl (fun c69 => ?_) (fun c69 => ?_)
            · skip
              refine g_iload 47 (gd rfl) rfl rfl ?_
              refine g_bipush 40 49 (gd rfl) rfl rfl ?_
              refine g_cmp_ne 52 55 (gd rfl) rfl rfl (fun c70 => ?_) (fun c70 => ?_)
              · skip
                exact n_ne c70 i58 (in_c 40 rfl) rfl
              · skip
                refine g_iinc 55 (gd rfl) rfl rfl (Nat.le_of_ble_eq_true rfl) (fun z71 e72 => ?_)
                have i73 := in_add (-2147483647) 10 e72 i68 (in_c 1 rfl) rfl rfl
                exact gg_w (by omega) (gg_f (gf_cons rfl (gf_cons rfl (gf_cons rfl (gf_cons rfl (gf_cons rfl (gf_cons rfl gf_nil)))))) (ct55 s z71 z50 (Int32.ofInt (-1)) hI (in_w 0 1000 i48 rfl) (in_w 40 124 i58 rfl) (in_w (-1) (-1) (in_c (-1) rfl) rfl)))
            · skip
              exact n_ne c69 (in_c (-1) rfl) (in_c (-1) rfl) rfl
        · skip
          have i74 := sw_eq c57
          refine g_iload_n 83 (gd rfl) rfl rfl ?_
          refine g_if_le 86 90 (gd rfl) rfl rfl (fun c75 => ?_) (fun c75 => ?_)
          · skip
            have i76 := z_le (-2147483648) 0 c75 (i_rng y6_1) rfl
            refine g_iconst 2 91 (gd rfl) rfl rfl ?_
            refine g_ireturn (gd rfl) rfl rfl (hp55 _ _ ?_)
            show GG _ _ _ _ _ _ _ _ [.int (Int32.ofInt 2)] _ _ _
            refine g_istore 31 (gd rfl) rfl (Nat.le_of_ble_eq_true rfl) ?_
            refine g_iload 33 (gd rfl) rfl rfl ?_
            refine g_iconst (-1) 34 (gd rfl) rfl rfl ?_
            refine g_cmp_eq 37 45 (gd rfl) rfl rfl (fun c77 => ?_) (fun c77 => ?_)
            · skip
              exact n_eq c77 (in_c 2 rfl) (in_c (-1) rfl) rfl
            · skip
              refine g_aload_n 38 (gd rfl) rfl rfl ?_
              refine g_iload 40 (gd rfl) rfl rfl ?_
              refine g_iload_n 41 (gd rfl) rfl rfl ?_
              refine g_callv (X := _) (As := [.int (Int32.ofInt 2), .int y6_3]) (r := []) (b := A 46) (q := 46) 44 (gd rfl) rfl rfl rfl rfl rfl (ww_o rfl) (Nat.le_of_ble_eq_true rfl) (mc := 0) (ms := 0) (Nat.zero_le _) (Nat.zero_le _) (P := fun v u => _) ?_ (fun e u h => h) (fun v u h => h)
              intro po78 xx79 hp80 hx81
              refine g_enter2 (k := 168) (N := 300) (by omega) rfl (Nat.le_of_ble_eq_true rfl) ?_
              refine g_aload_n 1 (gd rfl) rfl rfl ?_
              refine g_iload_n 2 (gd rfl) rfl rfl ?_
              refine g_putI 5 (gd rfl) rfl rfl rfl rfl ?_
              have hI82 := inv_sF (q := 46) (j := 6) hI rfl (in_w (-1) 5 (in_c 2 rfl) rfl)
              refine g_aload_n 6 (gd rfl) rfl rfl ?_
              refine g_iload_n 7 (gd rfl) rfl rfl ?_
              refine g_putI 10 (gd rfl) rfl rfl rfl rfl ?_
              have hI83 := inv_sF (q := 46) (j := 7) hI82 rfl (in_w (-1) 1000 i48 rfl)
              refine g_iconst 0 11 (gd rfl) rfl rfl ?_
              refine g_ireturn (gd rfl) rfl (nb01 (in_w 0 1 (in_c 0 rfl) rfl)) (hp80 _ _ ?_)
              show GG _ _ _ _ _ _ _ _ [.int (Int32.ofInt 0)] _ _ _
              exact g_ireturn (gd rfl) rfl (nb01 (in_w 0 1 (in_c 0 rfl) rfl)) (hP _ _ ⟨(sF (sF s 46 6 (Int32.ofInt 2)) 46 7 y6_3), hI83, (Int32.ofInt 0), rfl, rfl, in_w 0 1 (in_c 0 rfl) rfl⟩)
          · skip
            have i84 := z_gt 1 2147483647 c75 (i_rng y6_1) rfl
            refine g_iconst (-1) 87 (gd rfl) rfl rfl ?_
            refine g_goto 91 (gd rfl) rfl ?_
            refine g_ireturn (gd rfl) rfl rfl (hp55 _ _ ?_)
            show GG _ _ _ _ _ _ _ _ [.int (Int32.ofInt (-1))] _ _ _
            refine g_istore 31 (gd rfl) rfl (Nat.le_of_ble_eq_true rfl) ?_
            refine g_iload 33 (gd rfl) rfl rfl ?_
            refine g_iconst (-1) 34 (gd rfl) rfl rfl ?_
            refine g_cmp_eq 37 45 (gd rfl) rfl rfl (fun c85 => ?_) (fun c85 => ?_)
            · skip
              refine g_iload 47 (gd rfl) rfl rfl ?_
              refine g_bipush 40 49 (gd rfl) rfl rfl ?_
              refine g_cmp_ne 52 55 (gd rfl) rfl rfl (fun c86 => ?_) (fun c86 => ?_)
              · skip
                exact gg_w (by omega) (gg_f (gf_cons rfl (gf_cons rfl (gf_cons rfl (gf_cons rfl (gf_cons rfl (gf_cons rfl gf_nil)))))) (ct55 s y6_1 z50 (Int32.ofInt (-1)) hI (in_w 0 1000 i48 rfl) (in_w 40 124 i74 rfl) (in_w (-1) (-1) (in_c (-1) rfl) rfl)))
              · skip
                exact n_eq c86 i74 (in_c 40 rfl) rfl
            · skip
              exact n_ne c85 (in_c (-1) rfl) (in_c (-1) rfl) rfl
        · skip
          have i87 := sw_eq c57
          refine g_iload_n 61 (gd rfl) rfl rfl ?_
          refine g_if_eq 64 68 (gd rfl) rfl rfl (fun c88 => ?_) (fun c88 => ?_)
          · skip
            have i89 := z_eq 0 0 c88 j6_2 rfl
            refine g_iconst 2 69 (gd rfl) rfl rfl ?_
            refine g_ireturn (gd rfl) rfl rfl (hp55 _ _ ?_)
            show GG _ _ _ _ _ _ _ _ [.int (Int32.ofInt 2)] _ _ _
            refine g_istore 31 (gd rfl) rfl (Nat.le_of_ble_eq_true rfl) ?_
            refine g_iload 33 (gd rfl) rfl rfl ?_
            refine g_iconst (-1) 34 (gd rfl) rfl rfl ?_
            refine g_cmp_eq 37 45 (gd rfl) rfl rfl (fun c90 => ?_) (fun c90 => ?_)
            · skip
              exact n_eq c90 (in_c 2 rfl) (in_c (-1) rfl) rfl
            · skip
              refine g_aload_n 38 (gd rfl) rfl rfl ?_
              refine g_iload 40 (gd rfl) rfl rfl ?_
              refine g_iload_n 41 (gd rfl) rfl rfl ?_
              refine g_callv (X := _) (As := [.int (Int32.ofInt 2), .int y6_3]) (r := []) (b := A 46) (q := 46) 44 (gd rfl) rfl rfl rfl rfl rfl (ww_o rfl) (Nat.le_of_ble_eq_true rfl) (mc := 0) (ms := 0) (Nat.zero_le _) (Nat.zero_le _) (P := fun v u => _) ?_ (fun e u h => h) (fun v u h => h)
              intro po91 xx92 hp93 hx94
              refine g_enter2 (k := 168) (N := 300) (by omega) rfl (Nat.le_of_ble_eq_true rfl) ?_
              refine g_aload_n 1 (gd rfl) rfl rfl ?_
              refine g_iload_n 2 (gd rfl) rfl rfl ?_
              refine g_putI 5 (gd rfl) rfl rfl rfl rfl ?_
              have hI95 := inv_sF (q := 46) (j := 6) hI rfl (in_w (-1) 5 (in_c 2 rfl) rfl)
              refine g_aload_n 6 (gd rfl) rfl rfl ?_
              refine g_iload_n 7 (gd rfl) rfl rfl ?_
              refine g_putI 10 (gd rfl) rfl rfl rfl rfl ?_
              have hI96 := inv_sF (q := 46) (j := 7) hI95 rfl (in_w (-1) 1000 i48 rfl)
              refine g_iconst 0 11 (gd rfl) rfl rfl ?_
              refine g_ireturn (gd rfl) rfl (nb01 (in_w 0 1 (in_c 0 rfl) rfl)) (hp93 _ _ ?_)
              show GG _ _ _ _ _ _ _ _ [.int (Int32.ofInt 0)] _ _ _
              exact g_ireturn (gd rfl) rfl (nb01 (in_w 0 1 (in_c 0 rfl) rfl)) (hP _ _ ⟨(sF (sF s 46 6 (Int32.ofInt 2)) 46 7 y6_3), hI96, (Int32.ofInt 0), rfl, rfl, in_w 0 1 (in_c 0 rfl) rfl⟩)
          · skip
            have i97 := z_ne 1 1 c88 j6_2 rfl
            refine g_iconst (-1) 65 (gd rfl) rfl rfl ?_
            refine g_goto 69 (gd rfl) rfl ?_
            refine g_ireturn (gd rfl) rfl rfl (hp55 _ _ ?_)
            show GG _ _ _ _ _ _ _ _ [.int (Int32.ofInt (-1))] _ _ _
            refine g_istore 31 (gd rfl) rfl (Nat.le_of_ble_eq_true rfl) ?_
            refine g_iload 33 (gd rfl) rfl rfl ?_
            refine g_iconst (-1) 34 (gd rfl) rfl rfl ?_
            refine g_cmp_eq 37 45 (gd rfl) rfl rfl (fun c98 => ?_) (fun c98 => ?_)
            · skip
              refine g_iload 47 (gd rfl) rfl rfl ?_
              refine g_bipush 40 49 (gd rfl) rfl rfl ?_
              refine g_cmp_ne 52 55 (gd rfl) rfl rfl (fun c99 => ?_) (fun c99 => ?_)
              · skip
                exact gg_w (by omega) (gg_f (gf_cons rfl (gf_cons rfl (gf_cons rfl (gf_cons rfl (gf_cons rfl (gf_cons rfl gf_nil)))))) (ct55 s y6_1 z50 (Int32.ofInt (-1)) hI (in_w 0 1000 i48 rfl) (in_w 40 124 i87 rfl) (in_w (-1) (-1) (in_c (-1) rfl) rfl)))
              · skip
                exact n_eq c99 i87 (in_c 40 rfl) rfl
            · skip
              exact n_ne c98 (in_c (-1) rfl) (in_c (-1) rfl) rfl
        · skip
          have i100 := sw_eq c57
          refine g_iload_n 61 (gd rfl) rfl rfl ?_
          refine g_if_eq 64 68 (gd rfl) rfl rfl (fun c101 => ?_) (fun c101 => ?_)
          · skip
            have i102 := z_eq 0 0 c101 j6_2 rfl
            refine g_iconst 2 69 (gd rfl) rfl rfl ?_
            refine g_ireturn (gd rfl) rfl rfl (hp55 _ _ ?_)
            show GG _ _ _ _ _ _ _ _ [.int (Int32.ofInt 2)] _ _ _
            refine g_istore 31 (gd rfl) rfl (Nat.le_of_ble_eq_true rfl) ?_
            refine g_iload 33 (gd rfl) rfl rfl ?_
            refine g_iconst (-1) 34 (gd rfl) rfl rfl ?_
            refine g_cmp_eq 37 45 (gd rfl) rfl rfl (fun c103 => ?_) (fun c103 => ?_)
            · skip
              exact n_eq c103 (in_c 2 rfl) (in_c (-1) rfl) rfl
            · skip
              refine g_aload_n 38 (gd rfl) rfl rfl ?_
              refine g_iload 40 (gd rfl) rfl rfl ?_
              refine g_iload_n 41 (gd rfl) rfl rfl ?_
              refine g_callv (X := _) (As := [.int (Int32.ofInt 2), .int y6_3]) (r := []) (b := A 46) (q := 46) 44 (gd rfl) rfl rfl rfl rfl rfl (ww_o rfl) (Nat.le_of_ble_eq_true rfl) (mc := 0) (ms := 0) (Nat.zero_le _) (Nat.zero_le _) (P := fun v u => _) ?_ (fun e u h => h) (fun v u h => h)
              intro po104 xx105 hp106 hx107
              refine g_enter2 (k := 168) (N := 300) (by omega) rfl (Nat.le_of_ble_eq_true rfl) ?_
              refine g_aload_n 1 (gd rfl) rfl rfl ?_
              refine g_iload_n 2 (gd rfl) rfl rfl ?_
              refine g_putI 5 (gd rfl) rfl rfl rfl rfl ?_
              have hI108 := inv_sF (q := 46) (j := 6) hI rfl (in_w (-1) 5 (in_c 2 rfl) rfl)
              refine g_aload_n 6 (gd rfl) rfl rfl ?_
              refine g_iload_n 7 (gd rfl) rfl rfl ?_
              refine g_putI 10 (gd rfl) rfl rfl rfl rfl ?_
              have hI109 := inv_sF (q := 46) (j := 7) hI108 rfl (in_w (-1) 1000 i48 rfl)
              refine g_iconst 0 11 (gd rfl) rfl rfl ?_
              refine g_ireturn (gd rfl) rfl (nb01 (in_w 0 1 (in_c 0 rfl) rfl)) (hp106 _ _ ?_)
              show GG _ _ _ _ _ _ _ _ [.int (Int32.ofInt 0)] _ _ _
              exact g_ireturn (gd rfl) rfl (nb01 (in_w 0 1 (in_c 0 rfl) rfl)) (hP _ _ ⟨(sF (sF s 46 6 (Int32.ofInt 2)) 46 7 y6_3), hI109, (Int32.ofInt 0), rfl, rfl, in_w 0 1 (in_c 0 rfl) rfl⟩)
          · skip
            have i110 := z_ne 1 1 c101 j6_2 rfl
            refine g_iconst (-1) 65 (gd rfl) rfl rfl ?_
            refine g_goto 69 (gd rfl) rfl ?_
            refine g_ireturn (gd rfl) rfl rfl (hp55 _ _ ?_)
            show GG _ _ _ _ _ _ _ _ [.int (Int32.ofInt (-1))] _ _ _
            refine g_istore 31 (gd rfl) rfl (Nat.le_of_ble_eq_true rfl) ?_
            refine g_iload 33 (gd rfl) rfl rfl ?_
            refine g_iconst (-1) 34 (gd rfl) rfl rfl ?_
            refine g_cmp_eq 37 45 (gd rfl) rfl rfl (fun c111 => ?_) (fun c111 => ?_)
            · skip
              refine g_iload 47 (gd rfl) rfl rfl ?_
              refine g_bipush 40 49 (gd rfl) rfl rfl ?_
              refine g_cmp_ne 52 55 (gd rfl) rfl rfl (fun c112 => ?_) (fun c112 => ?_)
              · skip
                exact gg_w (by omega) (gg_f (gf_cons rfl (gf_cons rfl (gf_cons rfl (gf_cons rfl (gf_cons rfl (gf_cons rfl gf_nil)))))) (ct55 s y6_1 z50 (Int32.ofInt (-1)) hI (in_w 0 1000 i48 rfl) (in_w 40 124 i100 rfl) (in_w (-1) (-1) (in_c (-1) rfl) rfl)))
              · skip
                exact n_eq c112 i100 (in_c 40 rfl) rfl
            · skip
              exact n_ne c111 (in_c (-1) rfl) (in_c (-1) rfl) rfl
        · skip
          have i113 := sw_eq c57
          refine g_iload_n 61 (gd rfl) rfl rfl ?_
          refine g_if_eq 64 68 (gd rfl) rfl rfl (fun c114 => ?_) (fun c114 => ?_)
          · skip
            have i115 := z_eq 0 0 c114 j6_2 rfl
            refine g_iconst 2 69 (gd rfl) rfl rfl ?_
            refine g_ireturn (gd rfl) rfl rfl (hp55 _ _ ?_)
            show GG _ _ _ _ _ _ _ _ [.int (Int32.ofInt 2)] _ _ _
            refine g_istore 31 (gd rfl) rfl (Nat.le_of_ble_eq_true rfl) ?_
            refine g_iload 33 (gd rfl) rfl rfl ?_
            refine g_iconst (-1) 34 (gd rfl) rfl rfl ?_
            refine g_cmp_eq 37 45 (gd rfl) rfl rfl (fun c116 => ?_) (fun c116 => ?_)
            · skip
              exact n_eq c116 (in_c 2 rfl) (in_c (-1) rfl) rfl
            · skip
              refine g_aload_n 38 (gd rfl) rfl rfl ?_
              refine g_iload 40 (gd rfl) rfl rfl ?_
              refine g_iload_n 41 (gd rfl) rfl rfl ?_
              refine g_callv (X := _) (As := [.int (Int32.ofInt 2), .int y6_3]) (r := []) (b := A 46) (q := 46) 44 (gd rfl) rfl rfl rfl rfl rfl (ww_o rfl) (Nat.le_of_ble_eq_true rfl) (mc := 0) (ms := 0) (Nat.zero_le _) (Nat.zero_le _) (P := fun v u => _) ?_ (fun e u h => h) (fun v u h => h)
              intro po117 xx118 hp119 hx120
              refine g_enter2 (k := 168) (N := 300) (by omega) rfl (Nat.le_of_ble_eq_true rfl) ?_
              refine g_aload_n 1 (gd rfl) rfl rfl ?_
              refine g_iload_n 2 (gd rfl) rfl rfl ?_
              refine g_putI 5 (gd rfl) rfl rfl rfl rfl ?_
              have hI121 := inv_sF (q := 46) (j := 6) hI rfl (in_w (-1) 5 (in_c 2 rfl) rfl)
              refine g_aload_n 6 (gd rfl) rfl rfl ?_
              refine g_iload_n 7 (gd rfl) rfl rfl ?_
              refine g_putI 10 (gd rfl) rfl rfl rfl rfl ?_
              have hI122 := inv_sF (q := 46) (j := 7) hI121 rfl (in_w (-1) 1000 i48 rfl)
              refine g_iconst 0 11 (gd rfl) rfl rfl ?_
              refine g_ireturn (gd rfl) rfl (nb01 (in_w 0 1 (in_c 0 rfl) rfl)) (hp119 _ _ ?_)
              show GG _ _ _ _ _ _ _ _ [.int (Int32.ofInt 0)] _ _ _
              exact g_ireturn (gd rfl) rfl (nb01 (in_w 0 1 (in_c 0 rfl) rfl)) (hP _ _ ⟨(sF (sF s 46 6 (Int32.ofInt 2)) 46 7 y6_3), hI122, (Int32.ofInt 0), rfl, rfl, in_w 0 1 (in_c 0 rfl) rfl⟩)
          · skip
            have i123 := z_ne 1 1 c114 j6_2 rfl
            refine g_iconst (-1) 65 (gd rfl) rfl rfl ?_
            refine g_goto 69 (gd rfl) rfl ?_
            refine g_ireturn (gd rfl) rfl rfl (hp55 _ _ ?_)
            show GG _ _ _ _ _ _ _ _ [.int (Int32.ofInt (-1))] _ _ _
            refine g_istore 31 (gd rfl) rfl (Nat.le_of_ble_eq_true rfl) ?_
            refine g_iload 33 (gd rfl) rfl rfl ?_
            refine g_iconst (-1) 34 (gd rfl) rfl rfl ?_
            refine g_cmp_eq 37 45 (gd rfl) rfl rfl (fun c124 => ?_) (fun c124 => ?_)
            · skip
              refine g_iload 47 (gd rfl) rfl rfl ?_
              refine g_bipush 40 49 (gd rfl) rfl rfl ?_
              refine g_cmp_ne 52 55 (gd rfl) rfl rfl (fun c125 => ?_) (fun c125 => ?_)
              · skip
                exact gg_w (by omega) (gg_f (gf_cons rfl (gf_cons rfl (gf_cons rfl (gf_cons rfl (gf_cons rfl (gf_cons rfl gf_nil)))))) (ct55 s y6_1 z50 (Int32.ofInt (-1)) hI (in_w 0 1000 i48 rfl) (in_w 40 124 i113 rfl) (in_w (-1) (-1) (in_c (-1) rfl) rfl)))
              · skip
                exact n_eq c125 i113 (in_c 40 rfl) rfl
            · skip
              exact n_ne c124 (in_c (-1) rfl) (in_c (-1) rfl) rfl
        · skip
          have i126 := sw_eq c57
          refine g_iconst (-1) 93 (gd rfl) rfl rfl ?_
          refine g_ireturn (gd rfl) rfl rfl (hp55 _ _ ?_)
          show GG _ _ _ _ _ _ _ _ [.int (Int32.ofInt (-1))] _ _ _
          refine g_istore 31 (gd rfl) rfl (Nat.le_of_ble_eq_true rfl) ?_
          refine g_iload 33 (gd rfl) rfl rfl ?_
          refine g_iconst (-1) 34 (gd rfl) rfl rfl ?_
          refine g_cmp_eq 37 45 (gd rfl) rfl rfl (fun c127 => ?_) (fun c127 => ?_)
          · skip
            refine g_iload 47 (gd rfl) rfl rfl ?_
            refine g_bipush 40 49 (gd rfl) rfl rfl ?_
            refine g_cmp_ne 52 55 (gd rfl) rfl rfl (fun c128 => ?_) (fun c128 => ?_)
            · skip
              exact gg_w (by omega) (gg_f (gf_cons rfl (gf_cons rfl (gf_cons rfl (gf_cons rfl (gf_cons rfl (gf_cons rfl gf_nil)))))) (ct55 s y6_1 z50 (Int32.ofInt (-1)) hI (in_w 0 1000 i48 rfl) (in_w 40 124 i126 rfl) (in_w (-1) (-1) (in_c (-1) rfl) rfl)))
            · skip
              exact n_eq c128 i126 (in_c 40 rfl) rfl
          · skip
            exact n_ne c127 (in_c (-1) rfl) (in_c (-1) rfl) rfl
        · skip
          refine g_iload_n 95 (gd rfl) rfl rfl ?_
          refine g_calls (As := [.int z50]) (r := []) 98 (gd rfl) rfl rfl rfl rfl rfl (Nat.le_of_ble_eq_true rfl) (mc := 0) (ms := 0) (Nat.zero_le _) (Nat.zero_le _) (P := fun v u => _) ?_ (fun v u h => h)
          intro po129 xx130 hp131 hx132
          refine g_enter2 (k := 157) (N := 300) (by omega) rfl (Nat.le_of_ble_eq_true rfl) ?_
          refine g_iload_n 1 (gd rfl) rfl rfl ?_
          refine g_bipush 46 3 (gd rfl) rfl rfl ?_
          refine g_cmp_eq 6 18 (gd rfl) rfl rfl (fun c133 => ?_) (fun c133 => ?_)
          · skip
            have i134 := r_eq1 46 46 c133 i52 (in_c 46 rfl) rfl
            refine g_iconst 1 19 (gd rfl) rfl rfl ?_
            refine g_goto 23 (gd rfl) rfl ?_
            refine g_ireturn (gd rfl) rfl (nb01 (in_w 0 1 (in_c 1 rfl) rfl)) (hp131 _ _ ?_)
            show GG _ _ _ _ _ _ _ _ [.int (Int32.ofInt 1)] _ _ _
            refine g_if_eq 101 105 (gd rfl) rfl rfl (fun c135 => ?_) (fun c135 => ?_)
            · skip
              exact zn_eq c135 (in_c 1 rfl) rfl
            · skip
              refine g_iconst (-1) 102 (gd rfl) rfl rfl ?_
              refine g_goto 106 (gd rfl) rfl ?_
              refine g_ireturn (gd rfl) rfl rfl (hp55 _ _ ?_)
              show GG _ _ _ _ _ _ _ _ [.int (Int32.ofInt (-1))] _ _ _
              refine g_istore 31 (gd rfl) rfl (Nat.le_of_ble_eq_true rfl) ?_
              refine g_iload 33 (gd rfl) rfl rfl ?_
              refine g_iconst (-1) 34 (gd rfl) rfl rfl ?_
              refine g_cmp_eq 37 45 (gd rfl) rfl rfl (fun c136 => ?_) (fun c136 => ?_)
              · skip
                refine g_iload 47 (gd rfl) rfl rfl ?_
                refine g_bipush 40 49 (gd rfl) rfl rfl ?_
                refine g_cmp_ne 52 55 (gd rfl) rfl rfl (fun c137 => ?_) (fun c137 => ?_)
                · skip
                  exact gg_w (by omega) (gg_f (gf_cons rfl (gf_cons rfl (gf_cons rfl (gf_cons rfl (gf_cons rfl (gf_cons rfl gf_nil)))))) (ct55 s y6_1 z50 (Int32.ofInt (-1)) hI (in_w 0 1000 i48 rfl) (in_w 40 124 i134 rfl) (in_w (-1) (-1) (in_c (-1) rfl) rfl)))
                · skip
                  exact n_eq c137 i134 (in_c 40 rfl) rfl
              · skip
                exact n_ne c136 (in_c (-1) rfl) (in_c (-1) rfl) rfl
          · skip
            refine g_iload_n 7 (gd rfl) rfl rfl ?_
            refine g_bipush 97 9 (gd rfl) rfl rfl ?_
            refine g_cmp_lt 12 22 (gd rfl) rfl rfl (fun c138 => ?_) (fun c138 => ?_)
            · skip
              have i139 := r_lt1 0 96 c138 i52 (in_c 97 rfl) rfl
              refine g_iconst 0 23 (gd rfl) rfl rfl ?_
              refine g_ireturn (gd rfl) rfl (nb01 (in_w 0 1 (in_c 0 rfl) rfl)) (hp131 _ _ ?_)
              show GG _ _ _ _ _ _ _ _ [.int (Int32.ofInt 0)] _ _ _
              refine g_if_eq 101 105 (gd rfl) rfl rfl (fun c140 => ?_) (fun c140 => ?_)
              · skip
                refine g_iconst 1 106 (gd rfl) rfl rfl ?_
                refine g_ireturn (gd rfl) rfl rfl (hp55 _ _ ?_)
                show GG _ _ _ _ _ _ _ _ [.int (Int32.ofInt 1)] _ _ _
                refine g_istore 31 (gd rfl) rfl (Nat.le_of_ble_eq_true rfl) ?_
                refine g_iload 33 (gd rfl) rfl rfl ?_
                refine g_iconst (-1) 34 (gd rfl) rfl rfl ?_
                refine g_cmp_eq 37 45 (gd rfl) rfl rfl (fun c141 => ?_) (fun c141 => ?_)
                · skip
                  exact n_eq c141 (in_c 1 rfl) (in_c (-1) rfl) rfl
                · skip
                  refine g_aload_n 38 (gd rfl) rfl rfl ?_
                  refine g_iload 40 (gd rfl) rfl rfl ?_
                  refine g_iload_n 41 (gd rfl) rfl rfl ?_
                  refine g_callv (X := _) (As := [.int (Int32.ofInt 1), .int y6_3]) (r := []) (b := A 46) (q := 46) 44 (gd rfl) rfl rfl rfl rfl rfl (ww_o rfl) (Nat.le_of_ble_eq_true rfl) (mc := 0) (ms := 0) (Nat.zero_le _) (Nat.zero_le _) (P := fun v u => _) ?_ (fun e u h => h) (fun v u h => h)
                  intro po142 xx143 hp144 hx145
                  refine g_enter2 (k := 168) (N := 300) (by omega) rfl (Nat.le_of_ble_eq_true rfl) ?_
                  refine g_aload_n 1 (gd rfl) rfl rfl ?_
                  refine g_iload_n 2 (gd rfl) rfl rfl ?_
                  refine g_putI 5 (gd rfl) rfl rfl rfl rfl ?_
                  have hI146 := inv_sF (q := 46) (j := 6) hI rfl (in_w (-1) 5 (in_c 1 rfl) rfl)
                  refine g_aload_n 6 (gd rfl) rfl rfl ?_
                  refine g_iload_n 7 (gd rfl) rfl rfl ?_
                  refine g_putI 10 (gd rfl) rfl rfl rfl rfl ?_
                  have hI147 := inv_sF (q := 46) (j := 7) hI146 rfl (in_w (-1) 1000 i48 rfl)
                  refine g_iconst 0 11 (gd rfl) rfl rfl ?_
                  refine g_ireturn (gd rfl) rfl (nb01 (in_w 0 1 (in_c 0 rfl) rfl)) (hp144 _ _ ?_)
                  show GG _ _ _ _ _ _ _ _ [.int (Int32.ofInt 0)] _ _ _
                  exact g_ireturn (gd rfl) rfl (nb01 (in_w 0 1 (in_c 0 rfl) rfl)) (hP _ _ ⟨(sF (sF s 46 6 (Int32.ofInt 1)) 46 7 y6_3), hI147, (Int32.ofInt 0), rfl, rfl, in_w 0 1 (in_c 0 rfl) rfl⟩)
              · skip
                exact zn_ne c140 (in_c 0 rfl) rfl
            · skip
              have i148 := r_le2 97 65535 c138 (in_c 97 rfl) i52 rfl
              refine g_iload_n 13 (gd rfl) rfl rfl ?_
              refine g_bipush 122 15 (gd rfl) rfl rfl ?_
              refine g_cmp_gt 18 22 (gd rfl) rfl rfl (fun c149 => ?_) (fun c149 => ?_)
              · skip
                have i150 := r_lt2 123 65535 c149 (in_c 122 rfl) i148 rfl
                refine g_iconst 0 23 (gd rfl) rfl rfl ?_
                refine g_ireturn (gd rfl) rfl (nb01 (in_w 0 1 (in_c 0 rfl) rfl)) (hp131 _ _ ?_)
                show GG _ _ _ _ _ _ _ _ [.int (Int32.ofInt 0)] _ _ _
                refine g_if_eq 101 105 (gd rfl) rfl rfl (fun c151 => ?_) (fun c151 => ?_)
                · skip
                  refine g_iconst 1 106 (gd rfl) rfl rfl ?_
                  refine g_ireturn (gd rfl) rfl rfl (hp55 _ _ ?_)
                  show GG _ _ _ _ _ _ _ _ [.int (Int32.ofInt 1)] _ _ _
                  refine g_istore 31 (gd rfl) rfl (Nat.le_of_ble_eq_true rfl) ?_
                  refine g_iload 33 (gd rfl) rfl rfl ?_
                  refine g_iconst (-1) 34 (gd rfl) rfl rfl ?_
                  refine g_cmp_eq 37 45 (gd rfl) rfl rfl (fun c152 => ?_) (fun c152 => ?_)
                  · skip
                    exact n_eq c152 (in_c 1 rfl) (in_c (-1) rfl) rfl
                  · skip
                    refine g_aload_n 38 (gd rfl) rfl rfl ?_
                    refine g_iload 40 (gd rfl) rfl rfl ?_
                    refine g_iload_n 41 (gd rfl) rfl rfl ?_
                    refine g_callv (X := _) (As := [.int (Int32.ofInt 1), .int y6_3]) (r := []) (b := A 46) (q := 46) 44 (gd rfl) rfl rfl rfl rfl rfl (ww_o rfl) (Nat.le_of_ble_eq_true rfl) (mc := 0) (ms := 0) (Nat.zero_le _) (Nat.zero_le _) (P := fun v u => _) ?_ (fun e u h => h) (fun v u h => h)
                    intro po153 xx154 hp155 hx156
                    refine g_enter2 (k := 168) (N := 300) (by omega) rfl (Nat.le_of_ble_eq_true rfl) ?_
                    refine g_aload_n 1 (gd rfl) rfl rfl ?_
                    refine g_iload_n 2 (gd rfl) rfl rfl ?_
                    refine g_putI 5 (gd rfl) rfl rfl rfl rfl ?_
                    have hI157 := inv_sF (q := 46) (j := 6) hI rfl (in_w (-1) 5 (in_c 1 rfl) rfl)
                    refine g_aload_n 6 (gd rfl) rfl rfl ?_
                    refine g_iload_n 7 (gd rfl) rfl rfl ?_
                    refine g_putI 10 (gd rfl) rfl rfl rfl rfl ?_
                    have hI158 := inv_sF (q := 46) (j := 7) hI157 rfl (in_w (-1) 1000 i48 rfl)
                    refine g_iconst 0 11 (gd rfl) rfl rfl ?_
                    refine g_ireturn (gd rfl) rfl (nb01 (in_w 0 1 (in_c 0 rfl) rfl)) (hp155 _ _ ?_)
                    show GG _ _ _ _ _ _ _ _ [.int (Int32.ofInt 0)] _ _ _
                    exact g_ireturn (gd rfl) rfl (nb01 (in_w 0 1 (in_c 0 rfl) rfl)) (hP _ _ ⟨(sF (sF s 46 6 (Int32.ofInt 1)) 46 7 y6_3), hI158, (Int32.ofInt 0), rfl, rfl, in_w 0 1 (in_c 0 rfl) rfl⟩)
                · skip
                  exact zn_ne c151 (in_c 0 rfl) rfl
              · skip
                have i159 := r_le1 97 122 c149 i148 (in_c 122 rfl) rfl
                refine g_iconst 1 19 (gd rfl) rfl rfl ?_
                refine g_goto 23 (gd rfl) rfl ?_
                refine g_ireturn (gd rfl) rfl (nb01 (in_w 0 1 (in_c 1 rfl) rfl)) (hp131 _ _ ?_)
                show GG _ _ _ _ _ _ _ _ [.int (Int32.ofInt 1)] _ _ _
                refine g_if_eq 101 105 (gd rfl) rfl rfl (fun c160 => ?_) (fun c160 => ?_)
                · skip
                  exact zn_eq c160 (in_c 1 rfl) rfl
                · skip
                  refine g_iconst (-1) 102 (gd rfl) rfl rfl ?_
                  refine g_goto 106 (gd rfl) rfl ?_
                  refine g_ireturn (gd rfl) rfl rfl (hp55 _ _ ?_)
                  show GG _ _ _ _ _ _ _ _ [.int (Int32.ofInt (-1))] _ _ _
                  refine g_istore 31 (gd rfl) rfl (Nat.le_of_ble_eq_true rfl) ?_
                  refine g_iload 33 (gd rfl) rfl rfl ?_
                  refine g_iconst (-1) 34 (gd rfl) rfl rfl ?_
                  refine g_cmp_eq 37 45 (gd rfl) rfl rfl (fun c161 => ?_) (fun c161 => ?_)
                  · skip
                    refine g_iload 47 (gd rfl) rfl rfl ?_
                    refine g_bipush 40 49 (gd rfl) rfl rfl ?_
                    refine g_cmp_ne 52 55 (gd rfl) rfl rfl (fun c162 => ?_) (fun c162 => ?_)
                    · skip
                      exact gg_w (by omega) (gg_f (gf_cons rfl (gf_cons rfl (gf_cons rfl (gf_cons rfl (gf_cons rfl (gf_cons rfl gf_nil)))))) (ct55 s y6_1 z50 (Int32.ofInt (-1)) hI (in_w 0 1000 i48 rfl) (in_w 40 124 i159 rfl) (in_w (-1) (-1) (in_c (-1) rfl) rfl)))
                    · skip
                      exact n_eq c162 i159 (in_c 40 rfl) rfl
                  · skip
                    exact n_ne c161 (in_c (-1) rfl) (in_c (-1) rfl) rfl
  refine g_enter2 (k := 155) (N := 7215008) (by omega) rfl (Nat.le_of_ble_eq_true rfl) ?_
  refine g_iconst 0 1 (gd rfl) rfl rfl ?_
  refine g_istore_n 2 (gd rfl) rfl (Nat.le_of_ble_eq_true rfl) ?_
  refine g_iconst 0 3 (gd rfl) rfl rfl ?_
  refine g_istore_n 4 (gd rfl) rfl (Nat.le_of_ble_eq_true rfl) ?_
  refine g_iconst 0 5 (gd rfl) rfl rfl ?_
  refine g_istore_n 6 (gd rfl) rfl (Nat.le_of_ble_eq_true rfl) ?_
  exact gg_w (by omega) (gg_f (gf_cons rfl (gf_cons rfl (gf_cons rfl (gf_cons rfl gf_nil)))) (ct6 2002 s (Int32.ofInt 0) (Int32.ofInt 0) (Int32.ofInt 0) hI (in_w 0 1 (in_c 0 rfl) rfl) (in_w 0 2001 (in_c 0 rfl) rfl) (m_in 2002 (in_w 0 2001 (in_c 0 rfl) rfl) rfl)))

/-- GraphHouse$Ways.leads -/
theorem k_209_49_2 {Z : AmZ} {A : Nat → Nat} {s : GS} {ex : va_W} {d : Nat} {X : AmX} {x2 : Int32} {x3 : Int32} {x4 : Int32} (hd : 4 ≤ d) (hI : Inv s) (h2 : In x2 0 31) (h4 : In x4 0 3) : GC Z d 209 [.ref (A 49), .ref (A 2), .int x2, .int x3, .int x4] (WW Z A s ++ ex) 0 0 (fun v u => ∃ z : Int32, v = some (.int z) ∧ u = WW Z A s ++ ex ∧ In z 0 1) X := by
  intro post xp hP hX
  have ct60 : ∀ (k60 : Nat) (y60_2 : Int32) (y60_3 : Int32) (y60_4 : Int32) (y60_5 : Int32) (y60_6 : Int32) (y60_7 : Int32), In y60_2 0 31 → In y60_4 0 3 → ((y60_7.toBitVec.toNat : Nat) : Int) < (k60 : Int) → GG Z (d - 1) 209 post (gx xp) (1 + k60 * 900) 60 (fun j => xlook j [(0, .ref (A 49)), (1, .ref (A 2)), (2, .int y60_2), (3, .int y60_3), (4, .int y60_4), (5, .int y60_5), (6, .int y60_6), (7, .int y60_7)]) [] (WW Z A s ++ ex) 0 0 := by
    intro k60
    induction k60 with
    | zero => intro y60_2 y60_3 y60_4 y60_5 y60_6 y60_7 j60_2 j60_4 mm60; exact absurd mm60 (Int.not_lt.mpr (Int.natCast_nonneg _))
    | succ k60 ih60 =>
      intro y60_2 y60_3 y60_4 y60_5 y60_6 y60_7 j60_2 j60_4 mm60
      refine gg_w (M := 1 + k60 * 900 + 900) (by omega) ?_
      refine g_iload 62 (gd rfl) rfl rfl ?_
      refine g_iconst 3 63 (gd rfl) rfl rfl ?_
      refine g_cmp_lt 66 105 (gd rfl) rfl rfl (fun c1 => ?_) (fun c1 => ?_)
      · skip
        have i2 := r_lt1 0 2 c1 j60_4 (in_c 3 rfl) rfl
        refine g_iconst 0 106 (gd rfl) rfl rfl ?_
        exact g_ireturn (gd rfl) rfl (nb01 (in_w 0 1 (in_c 0 rfl) rfl)) (hP _ _ ⟨(Int32.ofInt 0), rfl, rfl, in_w 0 1 (in_c 0 rfl) rfl⟩)
      · skip
        have i3 := r_le2 3 3 c1 (in_c 3 rfl) j60_4 rfl
        refine g_iload 68 (gd rfl) rfl rfl ?_
        refine g_if_eq 71 105 (gd rfl) rfl rfl (fun c4 => ?_) (fun c4 => ?_)
        · skip
          have i5 := z_eq 0 0 c4 (i_rng y60_7) rfl
          refine g_iconst 0 106 (gd rfl) rfl rfl ?_
          exact g_ireturn (gd rfl) rfl (nb01 (in_w 0 1 (in_c 0 rfl) rfl)) (hP _ _ ⟨(Int32.ofInt 0), rfl, rfl, in_w 0 1 (in_c 0 rfl) rfl⟩)
        · skip
          refine g_aload_n 72 (gd rfl) rfl rfl ?_
          refine g_getA (q2 := 10) 75 (gd rfl) rfl rfl rfl rfl rfl ?_
          refine g_iload 77 (gd rfl) rfl rfl ?_
          refine g_calls (As := [.int y60_7]) (r := [.ref (A 10)]) 80 (gd rfl) rfl rfl rfl rfl rfl (Nat.le_of_ble_eq_true rfl) (Nat.zero_le _) (Nat.zero_le _) (k_264n (by omega) c4) (fun v u h => ?_)
          obtain ⟨z6, rfl, rfl, i7⟩ := h
          show GG _ _ _ _ _ _ _ _ [.int z6, .ref (A 10)] _ _ _
          refine g_iaload 81 (gd rfl) rfl (n := 32) rfl (in_ix i7 rfl) (fun z8 e9 => ?_)
          refine g_iload_n 82 (gd rfl) rfl rfl ?_
          refine g_iconst (-1) 83 (gd rfl) rfl rfl ?_
          refine g_ixor 84 (gd rfl) rfl (fun z10 e11 => ?_)
          refine g_iand 85 (gd rfl) rfl (fun z12 e13 => ?_)
          refine g_iload 87 (gd rfl) rfl rfl ?_
          refine g_iand 88 (gd rfl) rfl (fun z14 e15 => ?_)
          refine g_if_eq 91 93 (gd rfl) rfl rfl (fun c16 => ?_) (fun c16 => ?_)
          · skip
            have i17 := z_eq 0 0 c16 (i_rng z14) rfl
            refine g_iload 95 (gd rfl) rfl rfl ?_
            refine g_iload 97 (gd rfl) rfl rfl ?_
            refine g_iconst 1 98 (gd rfl) rfl rfl ?_
            refine g_isub 99 (gd rfl) rfl (fun z18 e19 => ?_)
            refine g_iand 100 (gd rfl) rfl (fun z20 e21 => ?_)
            refine g_istore 102 (gd rfl) rfl (Nat.le_of_ble_eq_true rfl) ?_
            refine g_goto 60 (gd rfl) rfl ?_
            exact gg_w (by omega) (gg_f (gf_cons rfl (gf_cons rfl (gf_cons rfl (gf_cons rfl (gf_cons rfl (gf_cons rfl (gf_cons rfl (gf_cons rfl gf_nil)))))))) (ih60  y60_2 y60_3 y60_4 y60_5 y60_6 z20  (in_w 0 31 j60_2 rfl) (in_w 0 3 i3 rfl) (mb e21 e19 c4 mm60)))
          · skip
            refine g_iconst 1 92 (gd rfl) rfl rfl ?_
            exact g_ireturn (gd rfl) rfl (nb01 (in_w 0 1 (in_c 1 rfl) rfl)) (hP _ _ ⟨(Int32.ofInt 1), rfl, rfl, in_w 0 1 (in_c 1 rfl) rfl⟩)
  refine g_enter2 (k := 209) (N := 3865470567301) (by omega) rfl (Nat.le_of_ble_eq_true rfl) ?_
  refine g_aload_n 1 (gd rfl) rfl rfl ?_
  refine g_getA (q2 := 11) 4 (gd rfl) rfl rfl rfl rfl rfl ?_
  refine g_aload_n 5 (gd rfl) rfl rfl ?_
  refine g_getI 8 (gd rfl) rfl rfl rfl (fun z22 e23 => ?_)
  have i24 := inv_F hI 0 31 rfl e23
  refine g_iaload 9 (gd rfl) rfl (n := 32) rfl (in_ix i24 rfl) (fun z25 e26 => ?_)
  refine g_istore 11 (gd rfl) rfl (Nat.le_of_ble_eq_true rfl) ?_
  refine g_iload 13 (gd rfl) rfl rfl ?_
  refine g_iconst 1 14 (gd rfl) rfl rfl ?_
  refine g_cmp_lt 17 28 (gd rfl) rfl rfl (fun c27 => ?_) (fun c27 => ?_)
  · skip
    have i28 := r_lt1 0 0 c27 h4 (in_c 1 rfl) rfl
    refine g_aload_n 29 (gd rfl) rfl rfl ?_
    refine g_getA (q2 := 10) 32 (gd rfl) rfl rfl rfl rfl rfl ?_
    refine g_iload_n 33 (gd rfl) rfl rfl ?_
    refine g_iaload 34 (gd rfl) rfl (n := 32) rfl (in_ix h2 rfl) (fun z29 e30 => ?_)
    refine g_iload_n 35 (gd rfl) rfl rfl ?_
    refine g_iconst (-1) 36 (gd rfl) rfl rfl ?_
    refine g_ixor 37 (gd rfl) rfl (fun z31 e32 => ?_)
    refine g_iand 38 (gd rfl) rfl (fun z33 e34 => ?_)
    refine g_istore 40 (gd rfl) rfl (Nat.le_of_ble_eq_true rfl) ?_
    refine g_iload 42 (gd rfl) rfl rfl ?_
    refine g_iconst 2 43 (gd rfl) rfl rfl ?_
    refine g_cmp_lt 46 56 (gd rfl) rfl rfl (fun c35 => ?_) (fun c35 => ?_)
    · skip
      refine g_iload 58 (gd rfl) rfl rfl ?_
      refine g_istore 60 (gd rfl) rfl (Nat.le_of_ble_eq_true rfl) ?_
      exact gg_w (by omega) (gg_f (gf_cons rfl (gf_cons rfl (gf_cons rfl (gf_cons rfl (gf_cons rfl (gf_cons rfl (gf_cons rfl (gf_cons rfl gf_nil)))))))) (ct60 4294967296  x2 x3 x4 z25 z33 z33  (in_w 0 31 h2 rfl) (in_w 0 3 i28 rfl) (mb_in _)))
    · skip
      exact n_le c35 (in_c 2 rfl) i28 rfl
  · skip
    have i36 := r_le2 1 3 c27 (in_c 1 rfl) h4 rfl
    refine g_iload 19 (gd rfl) rfl rfl ?_
    refine g_iload_n 20 (gd rfl) rfl rfl ?_
    refine g_ishr 21 (gd rfl) rfl (fun z37 e38 => ?_)
    refine g_iconst 1 22 (gd rfl) rfl rfl ?_
    refine g_iand 23 (gd rfl) rfl (fun z39 e40 => ?_)
    have i41 := in_and2 e40 (in_c 1 rfl) rfl
    refine g_if_eq 26 28 (gd rfl) rfl rfl (fun c42 => ?_) (fun c42 => ?_)
    · skip
      have i43 := z_eq 0 0 c42 i41 rfl
      refine g_aload_n 29 (gd rfl) rfl rfl ?_
      refine g_getA (q2 := 10) 32 (gd rfl) rfl rfl rfl rfl rfl ?_
      refine g_iload_n 33 (gd rfl) rfl rfl ?_
      refine g_iaload 34 (gd rfl) rfl (n := 32) rfl (in_ix h2 rfl) (fun z44 e45 => ?_)
      refine g_iload_n 35 (gd rfl) rfl rfl ?_
      refine g_iconst (-1) 36 (gd rfl) rfl rfl ?_
      refine g_ixor 37 (gd rfl) rfl (fun z46 e47 => ?_)
      refine g_iand 38 (gd rfl) rfl (fun z48 e49 => ?_)
      refine g_istore 40 (gd rfl) rfl (Nat.le_of_ble_eq_true rfl) ?_
      refine g_iload 42 (gd rfl) rfl rfl ?_
      refine g_iconst 2 43 (gd rfl) rfl rfl ?_
      refine g_cmp_lt 46 56 (gd rfl) rfl rfl (fun c50 => ?_) (fun c50 => ?_)
      · skip
        have i51 := r_lt1 1 1 c50 i36 (in_c 2 rfl) rfl
        refine g_iload 58 (gd rfl) rfl rfl ?_
        refine g_istore 60 (gd rfl) rfl (Nat.le_of_ble_eq_true rfl) ?_
        exact gg_w (by omega) (gg_f (gf_cons rfl (gf_cons rfl (gf_cons rfl (gf_cons rfl (gf_cons rfl (gf_cons rfl (gf_cons rfl (gf_cons rfl gf_nil)))))))) (ct60 4294967296  x2 x3 x4 z25 z48 z48  (in_w 0 31 h2 rfl) (in_w 0 3 i51 rfl) (mb_in _)))
      · skip
        have i52 := r_le2 2 3 c50 (in_c 2 rfl) i36 rfl
        refine g_iload 48 (gd rfl) rfl rfl ?_
        refine g_iload 50 (gd rfl) rfl rfl ?_
        refine g_iand 51 (gd rfl) rfl (fun z53 e54 => ?_)
        refine g_if_eq 54 56 (gd rfl) rfl rfl (fun c55 => ?_) (fun c55 => ?_)
        · skip
          have i56 := z_eq 0 0 c55 (i_rng z53) rfl
          refine g_iload 58 (gd rfl) rfl rfl ?_
          refine g_istore 60 (gd rfl) rfl (Nat.le_of_ble_eq_true rfl) ?_
          exact gg_w (by omega) (gg_f (gf_cons rfl (gf_cons rfl (gf_cons rfl (gf_cons rfl (gf_cons rfl (gf_cons rfl (gf_cons rfl (gf_cons rfl gf_nil)))))))) (ct60 4294967296  x2 x3 x4 z25 z48 z48  (in_w 0 31 h2 rfl) (in_w 0 3 i52 rfl) (mb_in _)))
        · skip
          refine g_iconst 1 55 (gd rfl) rfl rfl ?_
          exact g_ireturn (gd rfl) rfl (nb01 (in_w 0 1 (in_c 1 rfl) rfl)) (hP _ _ ⟨(Int32.ofInt 1), rfl, rfl, in_w 0 1 (in_c 1 rfl) rfl⟩)
    · skip
      have i57 := z_ne 1 1 c42 i41 rfl
      refine g_iconst 1 27 (gd rfl) rfl rfl ?_
      exact g_ireturn (gd rfl) rfl (nb01 (in_w 0 1 (in_c 1 rfl) rfl)) (hP _ _ ⟨(Int32.ofInt 1), rfl, rfl, in_w 0 1 (in_c 1 rfl) rfl⟩)

/-- GraphHouse$Ways.leads -/
theorem k_209_49_32 {Z : AmZ} {A : Nat → Nat} {s : GS} {ex : va_W} {d : Nat} {X : AmX} {x2 : Int32} {x3 : Int32} {x4 : Int32} (hd : 4 ≤ d) (hI : Inv s) (h2 : In x2 0 31) (h4 : In x4 0 3) : GC Z d 209 [.ref (A 49), .ref (A 32), .int x2, .int x3, .int x4] (WW Z A s ++ ex) 0 0 (fun v u => ∃ z : Int32, v = some (.int z) ∧ u = WW Z A s ++ ex ∧ In z 0 1) X := by
  intro post xp hP hX
  have ct60 : ∀ (k60 : Nat) (y60_2 : Int32) (y60_3 : Int32) (y60_4 : Int32) (y60_5 : Int32) (y60_6 : Int32) (y60_7 : Int32), In y60_2 0 31 → In y60_4 0 3 → ((y60_7.toBitVec.toNat : Nat) : Int) < (k60 : Int) → GG Z (d - 1) 209 post (gx xp) (1 + k60 * 900) 60 (fun j => xlook j [(0, .ref (A 49)), (1, .ref (A 32)), (2, .int y60_2), (3, .int y60_3), (4, .int y60_4), (5, .int y60_5), (6, .int y60_6), (7, .int y60_7)]) [] (WW Z A s ++ ex) 0 0 := by
    intro k60
    induction k60 with
    | zero => intro y60_2 y60_3 y60_4 y60_5 y60_6 y60_7 j60_2 j60_4 mm60; exact absurd mm60 (Int.not_lt.mpr (Int.natCast_nonneg _))
    | succ k60 ih60 =>
      intro y60_2 y60_3 y60_4 y60_5 y60_6 y60_7 j60_2 j60_4 mm60
      refine gg_w (M := 1 + k60 * 900 + 900) (by omega) ?_
      refine g_iload 62 (gd rfl) rfl rfl ?_
      refine g_iconst 3 63 (gd rfl) rfl rfl ?_
      refine g_cmp_lt 66 105 (gd rfl) rfl rfl (fun c1 => ?_) (fun c1 => ?_)
      · skip
        have i2 := r_lt1 0 2 c1 j60_4 (in_c 3 rfl) rfl
        refine g_iconst 0 106 (gd rfl) rfl rfl ?_
        exact g_ireturn (gd rfl) rfl (nb01 (in_w 0 1 (in_c 0 rfl) rfl)) (hP _ _ ⟨(Int32.ofInt 0), rfl, rfl, in_w 0 1 (in_c 0 rfl) rfl⟩)
      · skip
        have i3 := r_le2 3 3 c1 (in_c 3 rfl) j60_4 rfl
        refine g_iload 68 (gd rfl) rfl rfl ?_
        refine g_if_eq 71 105 (gd rfl) rfl rfl (fun c4 => ?_) (fun c4 => ?_)
        · skip
          have i5 := z_eq 0 0 c4 (i_rng y60_7) rfl
          refine g_iconst 0 106 (gd rfl) rfl rfl ?_
          exact g_ireturn (gd rfl) rfl (nb01 (in_w 0 1 (in_c 0 rfl) rfl)) (hP _ _ ⟨(Int32.ofInt 0), rfl, rfl, in_w 0 1 (in_c 0 rfl) rfl⟩)
        · skip
          refine g_aload_n 72 (gd rfl) rfl rfl ?_
          refine g_getA (q2 := 40) 75 (gd rfl) rfl rfl rfl rfl rfl ?_
          refine g_iload 77 (gd rfl) rfl rfl ?_
          refine g_calls (As := [.int y60_7]) (r := [.ref (A 40)]) 80 (gd rfl) rfl rfl rfl rfl rfl (Nat.le_of_ble_eq_true rfl) (Nat.zero_le _) (Nat.zero_le _) (k_264n (by omega) c4) (fun v u h => ?_)
          obtain ⟨z6, rfl, rfl, i7⟩ := h
          show GG _ _ _ _ _ _ _ _ [.int z6, .ref (A 40)] _ _ _
          refine g_iaload 81 (gd rfl) rfl (n := 32) rfl (in_ix i7 rfl) (fun z8 e9 => ?_)
          refine g_iload_n 82 (gd rfl) rfl rfl ?_
          refine g_iconst (-1) 83 (gd rfl) rfl rfl ?_
          refine g_ixor 84 (gd rfl) rfl (fun z10 e11 => ?_)
          refine g_iand 85 (gd rfl) rfl (fun z12 e13 => ?_)
          refine g_iload 87 (gd rfl) rfl rfl ?_
          refine g_iand 88 (gd rfl) rfl (fun z14 e15 => ?_)
          refine g_if_eq 91 93 (gd rfl) rfl rfl (fun c16 => ?_) (fun c16 => ?_)
          · skip
            have i17 := z_eq 0 0 c16 (i_rng z14) rfl
            refine g_iload 95 (gd rfl) rfl rfl ?_
            refine g_iload 97 (gd rfl) rfl rfl ?_
            refine g_iconst 1 98 (gd rfl) rfl rfl ?_
            refine g_isub 99 (gd rfl) rfl (fun z18 e19 => ?_)
            refine g_iand 100 (gd rfl) rfl (fun z20 e21 => ?_)
            refine g_istore 102 (gd rfl) rfl (Nat.le_of_ble_eq_true rfl) ?_
            refine g_goto 60 (gd rfl) rfl ?_
            exact gg_w (by omega) (gg_f (gf_cons rfl (gf_cons rfl (gf_cons rfl (gf_cons rfl (gf_cons rfl (gf_cons rfl (gf_cons rfl (gf_cons rfl gf_nil)))))))) (ih60  y60_2 y60_3 y60_4 y60_5 y60_6 z20  (in_w 0 31 j60_2 rfl) (in_w 0 3 i3 rfl) (mb e21 e19 c4 mm60)))
          · skip
            refine g_iconst 1 92 (gd rfl) rfl rfl ?_
            exact g_ireturn (gd rfl) rfl (nb01 (in_w 0 1 (in_c 1 rfl) rfl)) (hP _ _ ⟨(Int32.ofInt 1), rfl, rfl, in_w 0 1 (in_c 1 rfl) rfl⟩)
  refine g_enter2 (k := 209) (N := 3865470567301) (by omega) rfl (Nat.le_of_ble_eq_true rfl) ?_
  refine g_aload_n 1 (gd rfl) rfl rfl ?_
  refine g_getA (q2 := 41) 4 (gd rfl) rfl rfl rfl rfl rfl ?_
  refine g_aload_n 5 (gd rfl) rfl rfl ?_
  refine g_getI 8 (gd rfl) rfl rfl rfl (fun z22 e23 => ?_)
  have i24 := inv_F hI 0 31 rfl e23
  refine g_iaload 9 (gd rfl) rfl (n := 32) rfl (in_ix i24 rfl) (fun z25 e26 => ?_)
  refine g_istore 11 (gd rfl) rfl (Nat.le_of_ble_eq_true rfl) ?_
  refine g_iload 13 (gd rfl) rfl rfl ?_
  refine g_iconst 1 14 (gd rfl) rfl rfl ?_
  refine g_cmp_lt 17 28 (gd rfl) rfl rfl (fun c27 => ?_) (fun c27 => ?_)
  · skip
    have i28 := r_lt1 0 0 c27 h4 (in_c 1 rfl) rfl
    refine g_aload_n 29 (gd rfl) rfl rfl ?_
    refine g_getA (q2 := 40) 32 (gd rfl) rfl rfl rfl rfl rfl ?_
    refine g_iload_n 33 (gd rfl) rfl rfl ?_
    refine g_iaload 34 (gd rfl) rfl (n := 32) rfl (in_ix h2 rfl) (fun z29 e30 => ?_)
    refine g_iload_n 35 (gd rfl) rfl rfl ?_
    refine g_iconst (-1) 36 (gd rfl) rfl rfl ?_
    refine g_ixor 37 (gd rfl) rfl (fun z31 e32 => ?_)
    refine g_iand 38 (gd rfl) rfl (fun z33 e34 => ?_)
    refine g_istore 40 (gd rfl) rfl (Nat.le_of_ble_eq_true rfl) ?_
    refine g_iload 42 (gd rfl) rfl rfl ?_
    refine g_iconst 2 43 (gd rfl) rfl rfl ?_
    refine g_cmp_lt 46 56 (gd rfl) rfl rfl (fun c35 => ?_) (fun c35 => ?_)
    · skip
      refine g_iload 58 (gd rfl) rfl rfl ?_
      refine g_istore 60 (gd rfl) rfl (Nat.le_of_ble_eq_true rfl) ?_
      exact gg_w (by omega) (gg_f (gf_cons rfl (gf_cons rfl (gf_cons rfl (gf_cons rfl (gf_cons rfl (gf_cons rfl (gf_cons rfl (gf_cons rfl gf_nil)))))))) (ct60 4294967296  x2 x3 x4 z25 z33 z33  (in_w 0 31 h2 rfl) (in_w 0 3 i28 rfl) (mb_in _)))
    · skip
      exact n_le c35 (in_c 2 rfl) i28 rfl
  · skip
    have i36 := r_le2 1 3 c27 (in_c 1 rfl) h4 rfl
    refine g_iload 19 (gd rfl) rfl rfl ?_
    refine g_iload_n 20 (gd rfl) rfl rfl ?_
    refine g_ishr 21 (gd rfl) rfl (fun z37 e38 => ?_)
    refine g_iconst 1 22 (gd rfl) rfl rfl ?_
    refine g_iand 23 (gd rfl) rfl (fun z39 e40 => ?_)
    have i41 := in_and2 e40 (in_c 1 rfl) rfl
    refine g_if_eq 26 28 (gd rfl) rfl rfl (fun c42 => ?_) (fun c42 => ?_)
    · skip
      have i43 := z_eq 0 0 c42 i41 rfl
      refine g_aload_n 29 (gd rfl) rfl rfl ?_
      refine g_getA (q2 := 40) 32 (gd rfl) rfl rfl rfl rfl rfl ?_
      refine g_iload_n 33 (gd rfl) rfl rfl ?_
      refine g_iaload 34 (gd rfl) rfl (n := 32) rfl (in_ix h2 rfl) (fun z44 e45 => ?_)
      refine g_iload_n 35 (gd rfl) rfl rfl ?_
      refine g_iconst (-1) 36 (gd rfl) rfl rfl ?_
      refine g_ixor 37 (gd rfl) rfl (fun z46 e47 => ?_)
      refine g_iand 38 (gd rfl) rfl (fun z48 e49 => ?_)
      refine g_istore 40 (gd rfl) rfl (Nat.le_of_ble_eq_true rfl) ?_
      refine g_iload 42 (gd rfl) rfl rfl ?_
      refine g_iconst 2 43 (gd rfl) rfl rfl ?_
      refine g_cmp_lt 46 56 (gd rfl) rfl rfl (fun c50 => ?_) (fun c50 => ?_)
      · skip
        have i51 := r_lt1 1 1 c50 i36 (in_c 2 rfl) rfl
        refine g_iload 58 (gd rfl) rfl rfl ?_
        refine g_istore 60 (gd rfl) rfl (Nat.le_of_ble_eq_true rfl) ?_
        exact gg_w (by omega) (gg_f (gf_cons rfl (gf_cons rfl (gf_cons rfl (gf_cons rfl (gf_cons rfl (gf_cons rfl (gf_cons rfl (gf_cons rfl gf_nil)))))))) (ct60 4294967296  x2 x3 x4 z25 z48 z48  (in_w 0 31 h2 rfl) (in_w 0 3 i51 rfl) (mb_in _)))
      · skip
        have i52 := r_le2 2 3 c50 (in_c 2 rfl) i36 rfl
        refine g_iload 48 (gd rfl) rfl rfl ?_
        refine g_iload 50 (gd rfl) rfl rfl ?_
        refine g_iand 51 (gd rfl) rfl (fun z53 e54 => ?_)
        refine g_if_eq 54 56 (gd rfl) rfl rfl (fun c55 => ?_) (fun c55 => ?_)
        · skip
          have i56 := z_eq 0 0 c55 (i_rng z53) rfl
          refine g_iload 58 (gd rfl) rfl rfl ?_
          refine g_istore 60 (gd rfl) rfl (Nat.le_of_ble_eq_true rfl) ?_
          exact gg_w (by omega) (gg_f (gf_cons rfl (gf_cons rfl (gf_cons rfl (gf_cons rfl (gf_cons rfl (gf_cons rfl (gf_cons rfl (gf_cons rfl gf_nil)))))))) (ct60 4294967296  x2 x3 x4 z25 z48 z48  (in_w 0 31 h2 rfl) (in_w 0 3 i52 rfl) (mb_in _)))
        · skip
          refine g_iconst 1 55 (gd rfl) rfl rfl ?_
          exact g_ireturn (gd rfl) rfl (nb01 (in_w 0 1 (in_c 1 rfl) rfl)) (hP _ _ ⟨(Int32.ofInt 1), rfl, rfl, in_w 0 1 (in_c 1 rfl) rfl⟩)
    · skip
      have i57 := z_ne 1 1 c42 i41 rfl
      refine g_iconst 1 27 (gd rfl) rfl rfl ?_
      exact g_ireturn (gd rfl) rfl (nb01 (in_w 0 1 (in_c 1 rfl) rfl)) (hP _ _ ⟨(Int32.ofInt 1), rfl, rfl, in_w 0 1 (in_c 1 rfl) rfl⟩)

/-- GraphHouse.version -/
theorem k_218_0 {Z : AmZ} {A : Nat → Nat} {s : GS} {ex : va_W} {d : Nat} {X : AmX}  (hd : 1 ≤ d) (hI : Inv s)  : GC Z d 218 [.ref (A 0)] (WW Z A s ++ ex) 3 18 (fun v u => ∃ z : Int32, v = some (.int z) ∧ u = WW Z A s ++ ex ∧ In z 0 4000) X := by
  intro post xp hP hX
  refine g_enter2 (k := 218) (N := 900) (by omega) rfl (Nat.le_of_ble_eq_true rfl) ?_
  refine g_aload_n 1 (gd rfl) rfl rfl ?_
  refine g_getA (q2 := 1) 4 (gd rfl) rfl rfl rfl rfl rfl ?_
  refine g_getA (q2 := 2) 7 (gd rfl) rfl rfl rfl rfl rfl ?_
  refine g_getI 10 (gd rfl) rfl rfl rfl (fun z1 e2 => ?_)
  have i3 := inv_F hI 0 4000 rfl e2
  exact g_ireturn (gd rfl) rfl rfl (hP _ _ ⟨z1, rfl, rfl, in_w 0 4000 i3 rfl⟩)

/-- GraphHouse.size -/
theorem k_219_0 {Z : AmZ} {A : Nat → Nat} {s : GS} {ex : va_W} {d : Nat} {x1 : Int32} (hd : 7 ≤ d) (hI : Inv s)  : GC Z d 219 [.ref (A 0), .int x1] (WW Z A s ++ ex) 3 18 (fun v u => ∃ t : GS, Inv t ∧ ∃ z : Int32, v = some (.int z) ∧ u = WW Z A t ++ ex ∧ In z (-2147483648) 2147483647) (gE1 Z A ex) := by
  intro post xp hP hX
  refine g_enter2 (k := 219) (N := 900) (by omega) rfl (Nat.le_of_ble_eq_true rfl) ?_
  refine g_iload_n 1 (gd rfl) rfl rfl ?_
  refine g_if_lt 4 13 (gd rfl) rfl rfl (fun c1 => ?_) (fun c1 => ?_)
  · skip
    have i2 := z_lt (-2147483648) (-1) c1 (i_rng x1) rfl
    refine g_iconst 0 14 (gd rfl) rfl rfl ?_
    refine g_thr (E := am_IA) (y := yX11_allow) 17 (gd rfl) rfl rfl (Or.inl ⟨rfl, rfl, rfl⟩) (by omega) (Nat.le_of_ble_eq_true rfl) (Nat.le_of_ble_eq_true rfl) (Nat.le_of_ble_eq_true rfl) (fun c3 => ?_) (fun c3 => ?_)
    · skip
      exact zn_ne c3 (in_c 0 rfl) rfl
    · skip
      exact (hX _ _ ⟨rfl, s, hI, rfl⟩)
  · skip
    have i4 := z_ge 0 2147483647 c1 (i_rng x1) rfl
    refine g_iload_n 5 (gd rfl) rfl rfl ?_
    refine g_iconst 3 6 (gd rfl) rfl rfl ?_
    refine g_cmp_gt 9 13 (gd rfl) rfl rfl (fun c5 => ?_) (fun c5 => ?_)
    · skip
      have i6 := r_lt2 4 2147483647 c5 (in_c 3 rfl) i4 rfl
      refine g_iconst 0 14 (gd rfl) rfl rfl ?_
      refine g_thr (E := am_IA) (y := yX11_allow) 17 (gd rfl) rfl rfl (Or.inl ⟨rfl, rfl, rfl⟩) (by omega) (Nat.le_of_ble_eq_true rfl) (Nat.le_of_ble_eq_true rfl) (Nat.le_of_ble_eq_true rfl) (fun c7 => ?_) (fun c7 => ?_)
      · skip
        exact zn_ne c7 (in_c 0 rfl) rfl
      · skip
        exact (hX _ _ ⟨rfl, s, hI, rfl⟩)
    · skip
      have i8 := r_le1 0 3 c5 i4 (in_c 3 rfl) rfl
      refine g_iconst 1 10 (gd rfl) rfl rfl ?_
      refine g_goto 14 (gd rfl) rfl ?_
      refine g_thr (E := am_IA) (y := yX11_allow) 17 (gd rfl) rfl rfl (Or.inl ⟨rfl, rfl, rfl⟩) (by omega) (Nat.le_of_ble_eq_true rfl) (Nat.le_of_ble_eq_true rfl) (Nat.le_of_ble_eq_true rfl) (fun c9 => ?_) (fun c9 => ?_)
      · skip
        refine g_aload_n 18 (gd rfl) rfl rfl ?_
        refine g_callv (X := _) (As := []) (r := []) (b := A 0) (q := 0) 21 (gd rfl) rfl rfl rfl rfl rfl (ww_o rfl) (Nat.le_of_ble_eq_true rfl) (mc := 0) (ms := 0) (Nat.zero_le _) (Nat.zero_le _) (P := fun v u => _) ?_ (fun e u h => h) (fun v u h => h)
        intro po10 xx11 hp12 hx13
        refine g_enter2 (k := 259) (N := 300) (by omega) rfl (Nat.le_of_ble_eq_true rfl) ?_
        refine g_aload_n 1 (gd rfl) rfl rfl ?_
        refine g_getI 4 (gd rfl) rfl rfl rfl (fun z14 e15 => ?_)
        have i16 := inv_F hI (-1) 4000 rfl e15
        refine g_iconst (-1) 5 (gd rfl) rfl rfl ?_
        refine g_cmp_ne 8 18 (gd rfl) rfl rfl (fun c17 => ?_) (fun c17 => ?_)
        · skip
          have i18 := r_ne1 0 4000 c17 i16 (in_c (-1) rfl) rfl
          refine g_aload_n 19 (gd rfl) rfl rfl ?_
          refine g_getA (q2 := 32) 22 (gd rfl) rfl rfl rfl rfl rfl ?_
          refine g_areturn (gd rfl) rfl (hp12 _ _ ?_)
          show GG _ _ _ _ _ _ _ _ [.ref (A 32)] _ _ _
          refine g_astore_n 22 (gd rfl) rfl (Nat.le_of_ble_eq_true rfl) ?_
          refine g_iload_n 23 (gd rfl) rfl rfl ?_
          refine g_tsw [48, 53, 58] 63 (gd rfl) rfl rfl rfl ⟨fun c19 => ?_, fun c19 => ?_, fun c19 => ?_, trivial⟩ (fun c19 => ?_)
          · skip
            have i20 := sw_eq c19
            refine g_aload_n 49 (gd rfl) rfl rfl ?_
            refine g_getI 52 (gd rfl) rfl rfl rfl (fun z21 e22 => ?_)
            have i23 := inv_F hI 0 32 rfl e22
            exact g_ireturn (gd rfl) rfl rfl (hP _ _ ⟨s, hI, z21, rfl, rfl, in_w (-2147483648) 2147483647 i23 rfl⟩)
          · skip
            have i24 := sw_eq c19
            refine g_aload_n 54 (gd rfl) rfl rfl ?_
            refine g_getI 57 (gd rfl) rfl rfl rfl (fun z25 e26 => ?_)
            have i27 := inv_F hI 0 160 rfl e26
            exact g_ireturn (gd rfl) rfl rfl (hP _ _ ⟨s, hI, z25, rfl, rfl, in_w (-2147483648) 2147483647 i27 rfl⟩)
          · skip
            have i28 := sw_eq c19
            refine g_aload_n 59 (gd rfl) rfl rfl ?_
            refine g_callv (X := _) (As := []) (r := []) (b := A 32) (q := 32) 62 (gd rfl) rfl rfl rfl rfl rfl (ww_o rfl) (Nat.le_of_ble_eq_true rfl) (Nat.zero_le _) (Nat.zero_le _) (k_98_32 (by omega) hI ) (fun e u h => h) (fun v u h => ?_)
            obtain ⟨z29, rfl, rfl, i30⟩ := h
            show GG _ _ _ _ _ _ _ _ [.int z29] _ _ _
            exact g_ireturn (gd rfl) rfl rfl (hP _ _ ⟨s, hI, z29, rfl, rfl, in_w (-2147483648) 2147483647 i30 rfl⟩)
          · skip
            refine g_aload_n 64 (gd rfl) rfl rfl ?_
            refine g_getI 67 (gd rfl) rfl rfl rfl (fun z31 e32 => ?_)
            have i33 := inv_F hI 0 160 rfl e32
            refine g_iconst 1 68 (gd rfl) rfl rfl ?_
            refine g_isub 69 (gd rfl) rfl (fun z34 e35 => ?_)
            have i36 := in_sub (-1) 159 e35 i33 (in_c 1 rfl) rfl rfl
            exact g_ireturn (gd rfl) rfl rfl (hP _ _ ⟨s, hI, z34, rfl, rfl, in_w (-2147483648) 2147483647 i36 rfl⟩)
        · skip
          have i37 := r_eq1 (-1) (-1) c17 i16 (in_c (-1) rfl) rfl
          refine g_aload_n 9 (gd rfl) rfl rfl ?_
          refine g_getA (q2 := 1) 12 (gd rfl) rfl rfl rfl rfl rfl ?_
          refine g_getA (q2 := 2) 15 (gd rfl) rfl rfl rfl rfl rfl ?_
          refine g_goto 22 (gd rfl) rfl ?_
          refine g_areturn (gd rfl) rfl (hp12 _ _ ?_)
          show GG _ _ _ _ _ _ _ _ [.ref (A 2)] _ _ _
          refine g_astore_n 22 (gd rfl) rfl (Nat.le_of_ble_eq_true rfl) ?_
          refine g_iload_n 23 (gd rfl) rfl rfl ?_
          refine g_tsw [48, 53, 58] 63 (gd rfl) rfl rfl rfl ⟨fun c38 => ?_, fun c38 => ?_, fun c38 => ?_, trivial⟩ (fun c38 => ?_)
          · skip
            have i39 := sw_eq c38
            refine g_aload_n 49 (gd rfl) rfl rfl ?_
            refine g_getI 52 (gd rfl) rfl rfl rfl (fun z40 e41 => ?_)
            have i42 := inv_F hI 0 32 rfl e41
            exact g_ireturn (gd rfl) rfl rfl (hP _ _ ⟨s, hI, z40, rfl, rfl, in_w (-2147483648) 2147483647 i42 rfl⟩)
          · skip
            have i43 := sw_eq c38
            refine g_aload_n 54 (gd rfl) rfl rfl ?_
            refine g_getI 57 (gd rfl) rfl rfl rfl (fun z44 e45 => ?_)
            have i46 := inv_F hI 0 160 rfl e45
            exact g_ireturn (gd rfl) rfl rfl (hP _ _ ⟨s, hI, z44, rfl, rfl, in_w (-2147483648) 2147483647 i46 rfl⟩)
          · skip
            have i47 := sw_eq c38
            refine g_aload_n 59 (gd rfl) rfl rfl ?_
            refine g_callv (X := _) (As := []) (r := []) (b := A 2) (q := 2) 62 (gd rfl) rfl rfl rfl rfl rfl (ww_o rfl) (Nat.le_of_ble_eq_true rfl) (Nat.zero_le _) (Nat.zero_le _) (k_98_2 (by omega) hI ) (fun e u h => h) (fun v u h => ?_)
            obtain ⟨z48, rfl, rfl, i49⟩ := h
            show GG _ _ _ _ _ _ _ _ [.int z48] _ _ _
            exact g_ireturn (gd rfl) rfl rfl (hP _ _ ⟨s, hI, z48, rfl, rfl, in_w (-2147483648) 2147483647 i49 rfl⟩)
          · skip
            refine g_aload_n 64 (gd rfl) rfl rfl ?_
            refine g_getI 67 (gd rfl) rfl rfl rfl (fun z50 e51 => ?_)
            have i52 := inv_F hI 0 160 rfl e51
            refine g_iconst 1 68 (gd rfl) rfl rfl ?_
            refine g_isub 69 (gd rfl) rfl (fun z53 e54 => ?_)
            have i55 := in_sub (-1) 159 e54 i52 (in_c 1 rfl) rfl rfl
            exact g_ireturn (gd rfl) rfl rfl (hP _ _ ⟨s, hI, z53, rfl, rfl, in_w (-2147483648) 2147483647 i55 rfl⟩)
      · skip
        exact zn_eq c9 (in_c 1 rfl) rfl

/-- GraphHouse.told -/
theorem k_220_0 {Z : AmZ} {A : Nat → Nat} {s : GS} {ex : va_W} {d : Nat} {x1 : Int32} {x2 : Int32} (hd : 7 ≤ d) (hI : Inv s)  : GC Z d 220 [.ref (A 0), .int x1, .int x2] (WW Z A s ++ ex) 3 18 (fun v u => ∃ t : GS, Inv t ∧ ∃ z : Int64, v = some (.long z) ∧ u = WW Z A t ++ ex) (gE1 Z A ex) := by
  intro post xp hP hX
  have ct24 : ∀ (s : GS) (y24_1 : Int32) (y24_2 : Int32), Inv s → GG Z (d - 1) 220 post (gx xp) (901) 24 (fun j => xlook j [(0, .ref (A 0)), (1, .int y24_1), (2, .int y24_2)]) [] (WW Z A s ++ ex) 3 18 := by
    intro s y24_1 y24_2 hI 
    refine g_iconst 0 25 (gd rfl) rfl rfl ?_
    refine g_thr (E := am_IA) (y := yX11_allow) 28 (gd rfl) rfl rfl (Or.inl ⟨rfl, rfl, rfl⟩) (by omega) (Nat.le_of_ble_eq_true rfl) (Nat.le_of_ble_eq_true rfl) (Nat.le_of_ble_eq_true rfl) (fun c1 => ?_) (fun c1 => ?_)
    · skip
      exact zn_ne c1 (in_c 0 rfl) rfl
    · skip
      exact (hX _ _ ⟨rfl, s, hI, rfl⟩)
  refine g_enter2 (k := 220) (N := 1801) (by omega) rfl (Nat.le_of_ble_eq_true rfl) ?_
  refine g_iload_n 1 (gd rfl) rfl rfl ?_
  refine g_if_lt 4 24 (gd rfl) rfl rfl (fun c2 => ?_) (fun c2 => ?_)
  · skip
    have i3 := z_lt (-2147483648) (-1) c2 (i_rng x1) rfl
    exact gg_w (by omega) (gg_f (gf_cons rfl (gf_cons rfl (gf_cons rfl gf_nil))) (ct24 s x1 x2 hI ))
  · skip
    have i4 := z_ge 0 2147483647 c2 (i_rng x1) rfl
    refine g_iload_n 5 (gd rfl) rfl rfl ?_
    refine g_sipush 160 8 (gd rfl) rfl rfl ?_
    refine g_cmp_ge 11 24 (gd rfl) rfl rfl (fun c5 => ?_) (fun c5 => ?_)
    · skip
      have i6 := r_le2 160 2147483647 c5 (in_c 160 rfl) i4 rfl
      exact gg_w (by omega) (gg_f (gf_cons rfl (gf_cons rfl (gf_cons rfl gf_nil))) (ct24 s x1 x2 hI ))
    · skip
      have i7 := r_lt1 0 159 c5 i4 (in_c 160 rfl) rfl
      refine g_iload_n 12 (gd rfl) rfl rfl ?_
      refine g_if_lt 15 24 (gd rfl) rfl rfl (fun c8 => ?_) (fun c8 => ?_)
      · skip
        have i9 := z_lt (-2147483648) (-1) c8 (i_rng x2) rfl
        exact gg_w (by omega) (gg_f (gf_cons rfl (gf_cons rfl (gf_cons rfl gf_nil))) (ct24 s x1 x2 hI ))
      · skip
        have i10 := z_ge 0 2147483647 c8 (i_rng x2) rfl
        refine g_iload_n 16 (gd rfl) rfl rfl ?_
        refine g_iconst 4 17 (gd rfl) rfl rfl ?_
        refine g_cmp_gt 20 24 (gd rfl) rfl rfl (fun c11 => ?_) (fun c11 => ?_)
        · skip
          have i12 := r_lt2 5 2147483647 c11 (in_c 4 rfl) i10 rfl
          exact gg_w (by omega) (gg_f (gf_cons rfl (gf_cons rfl (gf_cons rfl gf_nil))) (ct24 s x1 x2 hI ))
        · skip
          have i13 := r_le1 0 4 c11 i10 (in_c 4 rfl) rfl
          refine g_iconst 1 21 (gd rfl) rfl rfl ?_
          refine g_goto 25 (gd rfl) rfl ?_
          refine g_thr (E := am_IA) (y := yX11_allow) 28 (gd rfl) rfl rfl (Or.inl ⟨rfl, rfl, rfl⟩) (by omega) (Nat.le_of_ble_eq_true rfl) (Nat.le_of_ble_eq_true rfl) (Nat.le_of_ble_eq_true rfl) (fun c14 => ?_) (fun c14 => ?_)
          · skip
            refine g_aload_n 29 (gd rfl) rfl rfl ?_
            refine g_callv (X := _) (As := []) (r := []) (b := A 0) (q := 0) 32 (gd rfl) rfl rfl rfl rfl rfl (ww_o rfl) (Nat.le_of_ble_eq_true rfl) (mc := 0) (ms := 0) (Nat.zero_le _) (Nat.zero_le _) (P := fun v u => _) ?_ (fun e u h => h) (fun v u h => h)
            intro po15 xx16 hp17 hx18
            refine g_enter2 (k := 259) (N := 300) (by omega) rfl (Nat.le_of_ble_eq_true rfl) ?_
            refine g_aload_n 1 (gd rfl) rfl rfl ?_
            refine g_getI 4 (gd rfl) rfl rfl rfl (fun z19 e20 => ?_)
            have i21 := inv_F hI (-1) 4000 rfl e20
            refine g_iconst (-1) 5 (gd rfl) rfl rfl ?_
            refine g_cmp_ne 8 18 (gd rfl) rfl rfl (fun c22 => ?_) (fun c22 => ?_)
            · skip
              have i23 := r_ne1 0 4000 c22 i21 (in_c (-1) rfl) rfl
              refine g_aload_n 19 (gd rfl) rfl rfl ?_
              refine g_getA (q2 := 32) 22 (gd rfl) rfl rfl rfl rfl rfl ?_
              refine g_areturn (gd rfl) rfl (hp17 _ _ ?_)
              show GG _ _ _ _ _ _ _ _ [.ref (A 32)] _ _ _
              refine g_astore_n 33 (gd rfl) rfl (Nat.le_of_ble_eq_true rfl) ?_
              refine g_aload_n 34 (gd rfl) rfl rfl ?_
              refine g_iload_n 35 (gd rfl) rfl rfl ?_
              refine g_callv (X := _) (As := [.int x1]) (r := []) (b := A 32) (q := 32) 38 (gd rfl) rfl rfl rfl rfl rfl (ww_o rfl) (Nat.le_of_ble_eq_true rfl) (mc := 0) (ms := 0) (Nat.zero_le _) (Nat.zero_le _) (P := fun v u => _) ?_ (fun e u h => h) (fun v u h => h)
              intro po24 xx25 hp26 hx27
              refine g_enter2 (k := 96) (N := 300) (by omega) rfl (Nat.le_of_ble_eq_true rfl) ?_
              refine g_iload_n 1 (gd rfl) rfl rfl ?_
              refine g_if_lt 4 26 (gd rfl) rfl rfl (fun c28 => ?_) (fun c28 => ?_)
              · skip
                exact zn_lt c28 i7 rfl
              · skip
                refine g_iload_n 5 (gd rfl) rfl rfl ?_
                refine g_aload_n 6 (gd rfl) rfl rfl ?_
                refine g_getI 9 (gd rfl) rfl rfl rfl (fun z29 e30 => ?_)
                have i31 := inv_F hI 0 160 rfl e30
                refine g_cmp_ge 12 26 (gd rfl) rfl rfl (fun c32 => ?_) (fun c32 => ?_)
                · skip
                  have i33 := r_le1 0 159 c32 i31 i7 rfl
                  refine g_iconst 0 27 (gd rfl) rfl rfl ?_
                  refine g_ireturn (gd rfl) rfl (nb01 (in_w 0 1 (in_c 0 rfl) rfl)) (hp26 _ _ ?_)
                  show GG _ _ _ _ _ _ _ _ [.int (Int32.ofInt 0)] _ _ _
                  refine g_if_ne 41 45 (gd rfl) rfl rfl (fun c34 => ?_) (fun c34 => ?_)
                  · skip
                    exact zn_ne c34 (in_c 0 rfl) rfl
                  · skip
                    refine g_ldc2_w 9000000000000000 44 (gd rfl) rfl rfl ?_
                    exact g_lreturn (gd rfl) rfl (hP _ _ ⟨s, hI, (Int64.ofInt 9000000000000000), rfl, rfl⟩)
                · skip
                  have i35 := r_lt2 1 160 c32 i7 i31 rfl
                  refine g_aload_n 13 (gd rfl) rfl rfl ?_
                  refine g_getA (q2 := 34) 16 (gd rfl) rfl rfl rfl rfl rfl ?_
                  refine g_iload_n 17 (gd rfl) rfl rfl ?_
                  refine g_iaload 18 (gd rfl) rfl (n := 160) rfl (in_ix i7 rfl) (fun z36 e37 => ?_)
                  have i38 := inv_I hI (n := 160) (t := 0) (-1) 31 rfl (in_ix i7 rfl) rfl e37
                  refine g_iconst (-1) 19 (gd rfl) rfl rfl ?_
                  refine g_cmp_eq 22 26 (gd rfl) rfl rfl (fun c39 => ?_) (fun c39 => ?_)
                  · skip
                    have i40 := r_eq1 (-1) (-1) c39 i38 (in_c (-1) rfl) rfl
                    refine g_iconst 0 27 (gd rfl) rfl rfl ?_
                    refine g_ireturn (gd rfl) rfl (nb01 (in_w 0 1 (in_c 0 rfl) rfl)) (hp26 _ _ ?_)
                    show GG _ _ _ _ _ _ _ _ [.int (Int32.ofInt 0)] _ _ _
                    refine g_if_ne 41 45 (gd rfl) rfl rfl (fun c41 => ?_) (fun c41 => ?_)
                    · skip
                      exact zn_ne c41 (in_c 0 rfl) rfl
                    · skip
                      refine g_ldc2_w 9000000000000000 44 (gd rfl) rfl rfl ?_
                      exact g_lreturn (gd rfl) rfl (hP _ _ ⟨s, hI, (Int64.ofInt 9000000000000000), rfl, rfl⟩)
                  · skip
                    have i42 := r_ne1 0 31 c39 i38 (in_c (-1) rfl) rfl
                    refine g_iconst 1 23 (gd rfl) rfl rfl ?_
                    refine g_goto 27 (gd rfl) rfl ?_
                    refine g_ireturn (gd rfl) rfl (nb01 (in_w 0 1 (in_c 1 rfl) rfl)) (hp26 _ _ ?_)
                    show GG _ _ _ _ _ _ _ _ [.int (Int32.ofInt 1)] _ _ _
                    refine g_if_ne 41 45 (gd rfl) rfl rfl (fun c43 => ?_) (fun c43 => ?_)
                    · skip
                      refine g_iload_n 46 (gd rfl) rfl rfl ?_
                      refine g_if_ne 49 57 (gd rfl) rfl rfl (fun c44 => ?_) (fun c44 => ?_)
                      · skip
                        have i45 := z_ne 1 4 c44 i13 rfl
                        refine g_iload_n 58 (gd rfl) rfl rfl ?_
                        refine g_iconst 1 59 (gd rfl) rfl rfl ?_
                        refine g_cmp_ne 62 72 (gd rfl) rfl rfl (fun c46 => ?_) (fun c46 => ?_)
                        · skip
                          have i47 := r_ne1 2 4 c46 i45 (in_c 1 rfl) rfl
                          refine g_aload_n 73 (gd rfl) rfl rfl ?_
                          refine g_iload_n 74 (gd rfl) rfl rfl ?_
                          refine g_iload_n 75 (gd rfl) rfl rfl ?_
                          refine g_iconst 2 76 (gd rfl) rfl rfl ?_
                          refine g_isub 77 (gd rfl) rfl (fun z48 e49 => ?_)
                          have i50 := in_sub 0 2 e49 i47 (in_c 2 rfl) rfl rfl
                          refine g_callv (X := _) (As := [.int x1, .int z48]) (r := []) (b := A 32) (q := 32) 80 (gd rfl) rfl rfl rfl rfl rfl (ww_o rfl) (Nat.le_of_ble_eq_true rfl) (mc := 0) (ms := 0) (Nat.zero_le _) (Nat.zero_le _) (P := fun v u => _) ?_ (fun e u h => h) (fun v u h => h)
                          intro po51 xx52 hp53 hx54
                          refine g_enter2 (k := 100) (N := 300) (by omega) rfl (Nat.le_of_ble_eq_true rfl) ?_
                          refine g_iload_n 1 (gd rfl) rfl rfl ?_
                          refine g_if_ne 4 11 (gd rfl) rfl rfl (fun c55 => ?_) (fun c55 => ?_)
                          · skip
                            have i56 := z_ne 1 2 c55 i50 rfl
                            refine g_iload_n 12 (gd rfl) rfl rfl ?_
                            refine g_iconst 1 13 (gd rfl) rfl rfl ?_
                            refine g_cmp_ne 16 25 (gd rfl) rfl rfl (fun c57 => ?_) (fun c57 => ?_)
                            · skip
                              have i58 := r_ne1 2 2 c57 i56 (in_c 1 rfl) rfl
                              refine g_aload_n 26 (gd rfl) rfl rfl ?_
                              refine g_getA (q2 := 38) 29 (gd rfl) rfl rfl rfl rfl rfl ?_
                              refine g_iload_n 30 (gd rfl) rfl rfl ?_
                              refine g_iaload 31 (gd rfl) rfl (n := 160) rfl (in_ix i7 rfl) (fun z59 e60 => ?_)
                              have i61 := inv_I hI (n := 160) (t := 0) 0 25 rfl (in_ix i7 rfl) rfl e60
                              refine g_ireturn (gd rfl) rfl rfl (hp53 _ _ ?_)
                              show GG _ _ _ _ _ _ _ _ [.int z59] _ _ _
                              refine g_i2l 81 (gd rfl) rfl (fun z62 e63 => ?_)
                              have i64 := l_i e63 i61
                              exact g_lreturn (gd rfl) rfl (hP _ _ ⟨s, hI, z62, rfl, rfl⟩)
                            · skip
                              have i65 := r_eq1 1 1 c57 i56 (in_c 1 rfl) rfl
                              refine g_aload_n 17 (gd rfl) rfl rfl ?_
                              refine g_getA (q2 := 37) 20 (gd rfl) rfl rfl rfl rfl rfl ?_
                              refine g_iload_n 21 (gd rfl) rfl rfl ?_
                              refine g_iaload 22 (gd rfl) rfl (n := 160) rfl (in_ix i7 rfl) (fun z66 e67 => ?_)
                              have i68 := inv_I hI (n := 160) (t := 0) 0 1000000 rfl (in_ix i7 rfl) rfl e67
                              refine g_goto 31 (gd rfl) rfl ?_
                              refine g_ireturn (gd rfl) rfl rfl (hp53 _ _ ?_)
                              show GG _ _ _ _ _ _ _ _ [.int z66] _ _ _
                              refine g_i2l 81 (gd rfl) rfl (fun z69 e70 => ?_)
                              have i71 := l_i e70 i68
                              exact g_lreturn (gd rfl) rfl (hP _ _ ⟨s, hI, z69, rfl, rfl⟩)
                          · skip
                            have i72 := z_eq 0 0 c55 i50 rfl
                            refine g_aload_n 5 (gd rfl) rfl rfl ?_
                            refine g_getA (q2 := 36) 8 (gd rfl) rfl rfl rfl rfl rfl ?_
                            refine g_iload_n 9 (gd rfl) rfl rfl ?_
                            refine g_iaload 10 (gd rfl) rfl (n := 160) rfl (in_ix i7 rfl) (fun z73 e74 => ?_)
                            have i75 := inv_I hI (n := 160) (t := 0) (-1000000) 1000000 rfl (in_ix i7 rfl) rfl e74
                            refine g_ireturn (gd rfl) rfl rfl (hp53 _ _ ?_)
                            show GG _ _ _ _ _ _ _ _ [.int z73] _ _ _
                            refine g_i2l 81 (gd rfl) rfl (fun z76 e77 => ?_)
                            have i78 := l_i e77 i75
                            exact g_lreturn (gd rfl) rfl (hP _ _ ⟨s, hI, z76, rfl, rfl⟩)
                        · skip
                          have i79 := r_eq1 1 1 c46 i45 (in_c 1 rfl) rfl
                          refine g_aload_n 63 (gd rfl) rfl rfl ?_
                          refine g_getA (q2 := 35) 66 (gd rfl) rfl rfl rfl rfl rfl ?_
                          refine g_iload_n 67 (gd rfl) rfl rfl ?_
                          refine g_iaload 68 (gd rfl) rfl (n := 160) rfl (in_ix i7 rfl) (fun z80 e81 => ?_)
                          have i82 := inv_I hI (n := 160) (t := 0) 0 31 rfl (in_ix i7 rfl) rfl e81
                          refine g_i2l 69 (gd rfl) rfl (fun z83 e84 => ?_)
                          have i85 := l_i e84 i82
                          refine g_goto 81 (gd rfl) rfl ?_
                          exact g_lreturn (gd rfl) rfl (hP _ _ ⟨s, hI, z83, rfl, rfl⟩)
                      · skip
                        have i86 := z_eq 0 0 c44 i13 rfl
                        refine g_aload_n 50 (gd rfl) rfl rfl ?_
                        refine g_getA (q2 := 34) 53 (gd rfl) rfl rfl rfl rfl rfl ?_
                        refine g_iload_n 54 (gd rfl) rfl rfl ?_
                        refine g_iaload 55 (gd rfl) rfl (n := 160) rfl (in_ix i7 rfl) (fun z87 e88 => ?_)
                        have q89 : z36 = z87 := e37.trans e88.symm
                        subst q89
                        refine g_i2l 56 (gd rfl) rfl (fun z90 e91 => ?_)
                        have i92 := l_i e91 i42
                        exact g_lreturn (gd rfl) rfl (hP _ _ ⟨s, hI, z90, rfl, rfl⟩)
                    · skip
                      exact zn_eq c43 (in_c 1 rfl) rfl
            · skip
              have i93 := r_eq1 (-1) (-1) c22 i21 (in_c (-1) rfl) rfl
              refine g_aload_n 9 (gd rfl) rfl rfl ?_
              refine g_getA (q2 := 1) 12 (gd rfl) rfl rfl rfl rfl rfl ?_
              refine g_getA (q2 := 2) 15 (gd rfl) rfl rfl rfl rfl rfl ?_
              refine g_goto 22 (gd rfl) rfl ?_
              refine g_areturn (gd rfl) rfl (hp17 _ _ ?_)
              show GG _ _ _ _ _ _ _ _ [.ref (A 2)] _ _ _
              refine g_astore_n 33 (gd rfl) rfl (Nat.le_of_ble_eq_true rfl) ?_
              refine g_aload_n 34 (gd rfl) rfl rfl ?_
              refine g_iload_n 35 (gd rfl) rfl rfl ?_
              refine g_callv (X := _) (As := [.int x1]) (r := []) (b := A 2) (q := 2) 38 (gd rfl) rfl rfl rfl rfl rfl (ww_o rfl) (Nat.le_of_ble_eq_true rfl) (mc := 0) (ms := 0) (Nat.zero_le _) (Nat.zero_le _) (P := fun v u => _) ?_ (fun e u h => h) (fun v u h => h)
              intro po94 xx95 hp96 hx97
              refine g_enter2 (k := 96) (N := 300) (by omega) rfl (Nat.le_of_ble_eq_true rfl) ?_
              refine g_iload_n 1 (gd rfl) rfl rfl ?_
              refine g_if_lt 4 26 (gd rfl) rfl rfl (fun c98 => ?_) (fun c98 => ?_)
              · skip
                exact zn_lt c98 i7 rfl
              · skip
                refine g_iload_n 5 (gd rfl) rfl rfl ?_
                refine g_aload_n 6 (gd rfl) rfl rfl ?_
                refine g_getI 9 (gd rfl) rfl rfl rfl (fun z99 e100 => ?_)
                have i101 := inv_F hI 0 160 rfl e100
                refine g_cmp_ge 12 26 (gd rfl) rfl rfl (fun c102 => ?_) (fun c102 => ?_)
                · skip
                  have i103 := r_le1 0 159 c102 i101 i7 rfl
                  refine g_iconst 0 27 (gd rfl) rfl rfl ?_
                  refine g_ireturn (gd rfl) rfl (nb01 (in_w 0 1 (in_c 0 rfl) rfl)) (hp96 _ _ ?_)
                  show GG _ _ _ _ _ _ _ _ [.int (Int32.ofInt 0)] _ _ _
                  refine g_if_ne 41 45 (gd rfl) rfl rfl (fun c104 => ?_) (fun c104 => ?_)
                  · skip
                    exact zn_ne c104 (in_c 0 rfl) rfl
                  · skip
                    refine g_ldc2_w 9000000000000000 44 (gd rfl) rfl rfl ?_
                    exact g_lreturn (gd rfl) rfl (hP _ _ ⟨s, hI, (Int64.ofInt 9000000000000000), rfl, rfl⟩)
                · skip
                  have i105 := r_lt2 1 160 c102 i7 i101 rfl
                  refine g_aload_n 13 (gd rfl) rfl rfl ?_
                  refine g_getA (q2 := 4) 16 (gd rfl) rfl rfl rfl rfl rfl ?_
                  refine g_iload_n 17 (gd rfl) rfl rfl ?_
                  refine g_iaload 18 (gd rfl) rfl (n := 160) rfl (in_ix i7 rfl) (fun z106 e107 => ?_)
                  have i108 := inv_I hI (n := 160) (t := 0) (-1) 31 rfl (in_ix i7 rfl) rfl e107
                  refine g_iconst (-1) 19 (gd rfl) rfl rfl ?_
                  refine g_cmp_eq 22 26 (gd rfl) rfl rfl (fun c109 => ?_) (fun c109 => ?_)
                  · skip
                    have i110 := r_eq1 (-1) (-1) c109 i108 (in_c (-1) rfl) rfl
                    refine g_iconst 0 27 (gd rfl) rfl rfl ?_
                    refine g_ireturn (gd rfl) rfl (nb01 (in_w 0 1 (in_c 0 rfl) rfl)) (hp96 _ _ ?_)
                    show GG _ _ _ _ _ _ _ _ [.int (Int32.ofInt 0)] _ _ _
                    refine g_if_ne 41 45 (gd rfl) rfl rfl (fun c111 => ?_) (fun c111 => ?_)
                    · skip
                      exact zn_ne c111 (in_c 0 rfl) rfl
                    · skip
                      refine g_ldc2_w 9000000000000000 44 (gd rfl) rfl rfl ?_
                      exact g_lreturn (gd rfl) rfl (hP _ _ ⟨s, hI, (Int64.ofInt 9000000000000000), rfl, rfl⟩)
                  · skip
                    have i112 := r_ne1 0 31 c109 i108 (in_c (-1) rfl) rfl
                    refine g_iconst 1 23 (gd rfl) rfl rfl ?_
                    refine g_goto 27 (gd rfl) rfl ?_
                    refine g_ireturn (gd rfl) rfl (nb01 (in_w 0 1 (in_c 1 rfl) rfl)) (hp96 _ _ ?_)
                    show GG _ _ _ _ _ _ _ _ [.int (Int32.ofInt 1)] _ _ _
                    refine g_if_ne 41 45 (gd rfl) rfl rfl (fun c113 => ?_) (fun c113 => ?_)
                    · skip
                      refine g_iload_n 46 (gd rfl) rfl rfl ?_
                      refine g_if_ne 49 57 (gd rfl) rfl rfl (fun c114 => ?_) (fun c114 => ?_)
                      · skip
                        have i115 := z_ne 1 4 c114 i13 rfl
                        refine g_iload_n 58 (gd rfl) rfl rfl ?_
                        refine g_iconst 1 59 (gd rfl) rfl rfl ?_
                        refine g_cmp_ne 62 72 (gd rfl) rfl rfl (fun c116 => ?_) (fun c116 => ?_)
                        · skip
                          have i117 := r_ne1 2 4 c116 i115 (in_c 1 rfl) rfl
                          refine g_aload_n 73 (gd rfl) rfl rfl ?_
                          refine g_iload_n 74 (gd rfl) rfl rfl ?_
                          refine g_iload_n 75 (gd rfl) rfl rfl ?_
                          refine g_iconst 2 76 (gd rfl) rfl rfl ?_
                          refine g_isub 77 (gd rfl) rfl (fun z118 e119 => ?_)
                          have i120 := in_sub 0 2 e119 i117 (in_c 2 rfl) rfl rfl
                          refine g_callv (X := _) (As := [.int x1, .int z118]) (r := []) (b := A 2) (q := 2) 80 (gd rfl) rfl rfl rfl rfl rfl (ww_o rfl) (Nat.le_of_ble_eq_true rfl) (mc := 0) (ms := 0) (Nat.zero_le _) (Nat.zero_le _) (P := fun v u => _) ?_ (fun e u h => h) (fun v u h => h)
                          intro po121 xx122 hp123 hx124
                          refine g_enter2 (k := 100) (N := 300) (by omega) rfl (Nat.le_of_ble_eq_true rfl) ?_
                          refine g_iload_n 1 (gd rfl) rfl rfl ?_
                          refine g_if_ne 4 11 (gd rfl) rfl rfl (fun c125 => ?_) (fun c125 => ?_)
                          · skip
                            have i126 := z_ne 1 2 c125 i120 rfl
                            refine g_iload_n 12 (gd rfl) rfl rfl ?_
                            refine g_iconst 1 13 (gd rfl) rfl rfl ?_
                            refine g_cmp_ne 16 25 (gd rfl) rfl rfl (fun c127 => ?_) (fun c127 => ?_)
                            · skip
                              have i128 := r_ne1 2 2 c127 i126 (in_c 1 rfl) rfl
                              refine g_aload_n 26 (gd rfl) rfl rfl ?_
                              refine g_getA (q2 := 8) 29 (gd rfl) rfl rfl rfl rfl rfl ?_
                              refine g_iload_n 30 (gd rfl) rfl rfl ?_
                              refine g_iaload 31 (gd rfl) rfl (n := 160) rfl (in_ix i7 rfl) (fun z129 e130 => ?_)
                              have i131 := inv_I hI (n := 160) (t := 0) 0 25 rfl (in_ix i7 rfl) rfl e130
                              refine g_ireturn (gd rfl) rfl rfl (hp123 _ _ ?_)
                              show GG _ _ _ _ _ _ _ _ [.int z129] _ _ _
                              refine g_i2l 81 (gd rfl) rfl (fun z132 e133 => ?_)
                              have i134 := l_i e133 i131
                              exact g_lreturn (gd rfl) rfl (hP _ _ ⟨s, hI, z132, rfl, rfl⟩)
                            · skip
                              have i135 := r_eq1 1 1 c127 i126 (in_c 1 rfl) rfl
                              refine g_aload_n 17 (gd rfl) rfl rfl ?_
                              refine g_getA (q2 := 7) 20 (gd rfl) rfl rfl rfl rfl rfl ?_
                              refine g_iload_n 21 (gd rfl) rfl rfl ?_
                              refine g_iaload 22 (gd rfl) rfl (n := 160) rfl (in_ix i7 rfl) (fun z136 e137 => ?_)
                              have i138 := inv_I hI (n := 160) (t := 0) 0 1000000 rfl (in_ix i7 rfl) rfl e137
                              refine g_goto 31 (gd rfl) rfl ?_
                              refine g_ireturn (gd rfl) rfl rfl (hp123 _ _ ?_)
                              show GG _ _ _ _ _ _ _ _ [.int z136] _ _ _
                              refine g_i2l 81 (gd rfl) rfl (fun z139 e140 => ?_)
                              have i141 := l_i e140 i138
                              exact g_lreturn (gd rfl) rfl (hP _ _ ⟨s, hI, z139, rfl, rfl⟩)
                          · skip
                            have i142 := z_eq 0 0 c125 i120 rfl
                            refine g_aload_n 5 (gd rfl) rfl rfl ?_
                            refine g_getA (q2 := 6) 8 (gd rfl) rfl rfl rfl rfl rfl ?_
                            refine g_iload_n 9 (gd rfl) rfl rfl ?_
                            refine g_iaload 10 (gd rfl) rfl (n := 160) rfl (in_ix i7 rfl) (fun z143 e144 => ?_)
                            have i145 := inv_I hI (n := 160) (t := 0) (-1000000) 1000000 rfl (in_ix i7 rfl) rfl e144
                            refine g_ireturn (gd rfl) rfl rfl (hp123 _ _ ?_)
                            show GG _ _ _ _ _ _ _ _ [.int z143] _ _ _
                            refine g_i2l 81 (gd rfl) rfl (fun z146 e147 => ?_)
                            have i148 := l_i e147 i145
                            exact g_lreturn (gd rfl) rfl (hP _ _ ⟨s, hI, z146, rfl, rfl⟩)
                        · skip
                          have i149 := r_eq1 1 1 c116 i115 (in_c 1 rfl) rfl
                          refine g_aload_n 63 (gd rfl) rfl rfl ?_
                          refine g_getA (q2 := 5) 66 (gd rfl) rfl rfl rfl rfl rfl ?_
                          refine g_iload_n 67 (gd rfl) rfl rfl ?_
                          refine g_iaload 68 (gd rfl) rfl (n := 160) rfl (in_ix i7 rfl) (fun z150 e151 => ?_)
                          have i152 := inv_I hI (n := 160) (t := 0) 0 31 rfl (in_ix i7 rfl) rfl e151
                          refine g_i2l 69 (gd rfl) rfl (fun z153 e154 => ?_)
                          have i155 := l_i e154 i152
                          refine g_goto 81 (gd rfl) rfl ?_
                          exact g_lreturn (gd rfl) rfl (hP _ _ ⟨s, hI, z153, rfl, rfl⟩)
                      · skip
                        have i156 := z_eq 0 0 c114 i13 rfl
                        refine g_aload_n 50 (gd rfl) rfl rfl ?_
                        refine g_getA (q2 := 4) 53 (gd rfl) rfl rfl rfl rfl rfl ?_
                        refine g_iload_n 54 (gd rfl) rfl rfl ?_
                        refine g_iaload 55 (gd rfl) rfl (n := 160) rfl (in_ix i7 rfl) (fun z157 e158 => ?_)
                        have q159 : z106 = z157 := e107.trans e158.symm
                        subst q159
                        refine g_i2l 56 (gd rfl) rfl (fun z160 e161 => ?_)
                        have i162 := l_i e161 i112
                        exact g_lreturn (gd rfl) rfl (hP _ _ ⟨s, hI, z160, rfl, rfl⟩)
                    · skip
                      exact zn_eq c113 (in_c 1 rfl) rfl
          · skip
            exact zn_eq c14 (in_c 1 rfl) rfl

/-- GraphHouse.labelOf -/
theorem k_221_0 {Z : AmZ} {A : Nat → Nat} {s : GS} {ex : va_W} {d : Nat} {x1 : Int32} (hd : 7 ≤ d) (hI : Inv s)  : GC Z d 221 [.ref (A 0), .int x1] (WW Z A s ++ ex) 3 18 (fun v u => ∃ t : GS, Inv t ∧ ∃ z : Int32, v = some (.int z) ∧ u = WW Z A t ++ ex ∧ In z 0 25) (gE1 Z A ex) := by
  intro post xp hP hX
  refine g_enter2 (k := 221) (N := 900) (by omega) rfl (Nat.le_of_ble_eq_true rfl) ?_
  refine g_aload_n 1 (gd rfl) rfl rfl ?_
  refine g_callv (X := _) (As := []) (r := []) (b := A 0) (q := 0) 4 (gd rfl) rfl rfl rfl rfl rfl (ww_o rfl) (Nat.le_of_ble_eq_true rfl) (mc := 0) (ms := 0) (Nat.zero_le _) (Nat.zero_le _) (P := fun v u => _) ?_ (fun e u h => h) (fun v u h => h)
  intro po1 xx2 hp3 hx4
  refine g_enter2 (k := 259) (N := 300) (by omega) rfl (Nat.le_of_ble_eq_true rfl) ?_
  refine g_aload_n 1 (gd rfl) rfl rfl ?_
  refine g_getI 4 (gd rfl) rfl rfl rfl (fun z5 e6 => ?_)
  have i7 := inv_F hI (-1) 4000 rfl e6
  refine g_iconst (-1) 5 (gd rfl) rfl rfl ?_
  refine g_cmp_ne 8 18 (gd rfl) rfl rfl (fun c8 => ?_) (fun c8 => ?_)
  · skip
    have i9 := r_ne1 0 4000 c8 i7 (in_c (-1) rfl) rfl
    refine g_aload_n 19 (gd rfl) rfl rfl ?_
    refine g_getA (q2 := 32) 22 (gd rfl) rfl rfl rfl rfl rfl ?_
    refine g_areturn (gd rfl) rfl (hp3 _ _ ?_)
    show GG _ _ _ _ _ _ _ _ [.ref (A 32)] _ _ _
    refine g_astore_n 5 (gd rfl) rfl (Nat.le_of_ble_eq_true rfl) ?_
    refine g_aload_n 6 (gd rfl) rfl rfl ?_
    refine g_iload_n 7 (gd rfl) rfl rfl ?_
    refine g_callv (X := _) (As := [.int x1]) (r := []) (b := A 32) (q := 32) 10 (gd rfl) rfl rfl rfl rfl rfl (ww_o rfl) (Nat.le_of_ble_eq_true rfl) (mc := 0) (ms := 0) (Nat.zero_le _) (Nat.zero_le _) (P := fun v u => _) ?_ (fun e u h => h) (fun v u h => h)
    intro po10 xx11 hp12 hx13
    refine g_enter2 (k := 94) (N := 300) (by omega) rfl (Nat.le_of_ble_eq_true rfl) ?_
    refine g_iload_n 1 (gd rfl) rfl rfl ?_
    refine g_if_lt 4 16 (gd rfl) rfl rfl (fun c14 => ?_) (fun c14 => ?_)
    · skip
      have i15 := z_lt (-2147483648) (-1) c14 (i_rng x1) rfl
      refine g_iconst 0 17 (gd rfl) rfl rfl ?_
      refine g_ireturn (gd rfl) rfl (nb01 (in_w 0 1 (in_c 0 rfl) rfl)) (hp12 _ _ ?_)
      show GG _ _ _ _ _ _ _ _ [.int (Int32.ofInt 0)] _ _ _
      refine g_thr (E := am_IA) (y := yX11_allow) 13 (gd rfl) rfl rfl (Or.inl ⟨rfl, rfl, rfl⟩) (by omega) (Nat.le_of_ble_eq_true rfl) (Nat.le_of_ble_eq_true rfl) (Nat.le_of_ble_eq_true rfl) (fun c16 => ?_) (fun c16 => ?_)
      · skip
        exact zn_ne c16 (in_c 0 rfl) rfl
      · skip
        exact (hX _ _ ⟨rfl, s, hI, rfl⟩)
    · skip
      have i17 := z_ge 0 2147483647 c14 (i_rng x1) rfl
      refine g_iload_n 5 (gd rfl) rfl rfl ?_
      refine g_aload_n 6 (gd rfl) rfl rfl ?_
      refine g_getI 9 (gd rfl) rfl rfl rfl (fun z18 e19 => ?_)
      have i20 := inv_F hI 0 32 rfl e19
      refine g_cmp_ge 12 16 (gd rfl) rfl rfl (fun c21 => ?_) (fun c21 => ?_)
      · skip
        refine g_iconst 0 17 (gd rfl) rfl rfl ?_
        refine g_ireturn (gd rfl) rfl (nb01 (in_w 0 1 (in_c 0 rfl) rfl)) (hp12 _ _ ?_)
        show GG _ _ _ _ _ _ _ _ [.int (Int32.ofInt 0)] _ _ _
        refine g_thr (E := am_IA) (y := yX11_allow) 13 (gd rfl) rfl rfl (Or.inl ⟨rfl, rfl, rfl⟩) (by omega) (Nat.le_of_ble_eq_true rfl) (Nat.le_of_ble_eq_true rfl) (Nat.le_of_ble_eq_true rfl) (fun c22 => ?_) (fun c22 => ?_)
        · skip
          exact zn_ne c22 (in_c 0 rfl) rfl
        · skip
          exact (hX _ _ ⟨rfl, s, hI, rfl⟩)
      · skip
        have i23 := r_lt1 0 31 c21 i17 i20 rfl
        have i24 := r_lt2 1 32 c21 i17 i20 rfl
        refine g_iconst 1 13 (gd rfl) rfl rfl ?_
        refine g_goto 17 (gd rfl) rfl ?_
        refine g_ireturn (gd rfl) rfl (nb01 (in_w 0 1 (in_c 1 rfl) rfl)) (hp12 _ _ ?_)
        show GG _ _ _ _ _ _ _ _ [.int (Int32.ofInt 1)] _ _ _
        refine g_thr (E := am_IA) (y := yX11_allow) 13 (gd rfl) rfl rfl (Or.inl ⟨rfl, rfl, rfl⟩) (by omega) (Nat.le_of_ble_eq_true rfl) (Nat.le_of_ble_eq_true rfl) (Nat.le_of_ble_eq_true rfl) (fun c25 => ?_) (fun c25 => ?_)
        · skip
          refine g_aload_n 14 (gd rfl) rfl rfl ?_
          refine g_getA (q2 := 33) 17 (gd rfl) rfl rfl rfl rfl rfl ?_
          refine g_iload_n 18 (gd rfl) rfl rfl ?_
          refine g_iaload 19 (gd rfl) rfl (n := 32) rfl (in_ix i23 rfl) (fun z26 e27 => ?_)
          have i28 := inv_I hI (n := 32) (t := 0) 0 25 rfl (in_ix i23 rfl) rfl e27
          exact g_ireturn (gd rfl) rfl rfl (hP _ _ ⟨s, hI, z26, rfl, rfl, in_w 0 25 i28 rfl⟩)
        · skip
          exact zn_eq c25 (in_c 1 rfl) rfl
  · skip
    have i29 := r_eq1 (-1) (-1) c8 i7 (in_c (-1) rfl) rfl
    refine g_aload_n 9 (gd rfl) rfl rfl ?_
    refine g_getA (q2 := 1) 12 (gd rfl) rfl rfl rfl rfl rfl ?_
    refine g_getA (q2 := 2) 15 (gd rfl) rfl rfl rfl rfl rfl ?_
    refine g_goto 22 (gd rfl) rfl ?_
    refine g_areturn (gd rfl) rfl (hp3 _ _ ?_)
    show GG _ _ _ _ _ _ _ _ [.ref (A 2)] _ _ _
    refine g_astore_n 5 (gd rfl) rfl (Nat.le_of_ble_eq_true rfl) ?_
    refine g_aload_n 6 (gd rfl) rfl rfl ?_
    refine g_iload_n 7 (gd rfl) rfl rfl ?_
    refine g_callv (X := _) (As := [.int x1]) (r := []) (b := A 2) (q := 2) 10 (gd rfl) rfl rfl rfl rfl rfl (ww_o rfl) (Nat.le_of_ble_eq_true rfl) (mc := 0) (ms := 0) (Nat.zero_le _) (Nat.zero_le _) (P := fun v u => _) ?_ (fun e u h => h) (fun v u h => h)
    intro po30 xx31 hp32 hx33
    refine g_enter2 (k := 94) (N := 300) (by omega) rfl (Nat.le_of_ble_eq_true rfl) ?_
    refine g_iload_n 1 (gd rfl) rfl rfl ?_
    refine g_if_lt 4 16 (gd rfl) rfl rfl (fun c34 => ?_) (fun c34 => ?_)
    · skip
      have i35 := z_lt (-2147483648) (-1) c34 (i_rng x1) rfl
      refine g_iconst 0 17 (gd rfl) rfl rfl ?_
      refine g_ireturn (gd rfl) rfl (nb01 (in_w 0 1 (in_c 0 rfl) rfl)) (hp32 _ _ ?_)
      show GG _ _ _ _ _ _ _ _ [.int (Int32.ofInt 0)] _ _ _
      refine g_thr (E := am_IA) (y := yX11_allow) 13 (gd rfl) rfl rfl (Or.inl ⟨rfl, rfl, rfl⟩) (by omega) (Nat.le_of_ble_eq_true rfl) (Nat.le_of_ble_eq_true rfl) (Nat.le_of_ble_eq_true rfl) (fun c36 => ?_) (fun c36 => ?_)
      · skip
        exact zn_ne c36 (in_c 0 rfl) rfl
      · skip
        exact (hX _ _ ⟨rfl, s, hI, rfl⟩)
    · skip
      have i37 := z_ge 0 2147483647 c34 (i_rng x1) rfl
      refine g_iload_n 5 (gd rfl) rfl rfl ?_
      refine g_aload_n 6 (gd rfl) rfl rfl ?_
      refine g_getI 9 (gd rfl) rfl rfl rfl (fun z38 e39 => ?_)
      have i40 := inv_F hI 0 32 rfl e39
      refine g_cmp_ge 12 16 (gd rfl) rfl rfl (fun c41 => ?_) (fun c41 => ?_)
      · skip
        refine g_iconst 0 17 (gd rfl) rfl rfl ?_
        refine g_ireturn (gd rfl) rfl (nb01 (in_w 0 1 (in_c 0 rfl) rfl)) (hp32 _ _ ?_)
        show GG _ _ _ _ _ _ _ _ [.int (Int32.ofInt 0)] _ _ _
        refine g_thr (E := am_IA) (y := yX11_allow) 13 (gd rfl) rfl rfl (Or.inl ⟨rfl, rfl, rfl⟩) (by omega) (Nat.le_of_ble_eq_true rfl) (Nat.le_of_ble_eq_true rfl) (Nat.le_of_ble_eq_true rfl) (fun c42 => ?_) (fun c42 => ?_)
        · skip
          exact zn_ne c42 (in_c 0 rfl) rfl
        · skip
          exact (hX _ _ ⟨rfl, s, hI, rfl⟩)
      · skip
        have i43 := r_lt1 0 31 c41 i37 i40 rfl
        have i44 := r_lt2 1 32 c41 i37 i40 rfl
        refine g_iconst 1 13 (gd rfl) rfl rfl ?_
        refine g_goto 17 (gd rfl) rfl ?_
        refine g_ireturn (gd rfl) rfl (nb01 (in_w 0 1 (in_c 1 rfl) rfl)) (hp32 _ _ ?_)
        show GG _ _ _ _ _ _ _ _ [.int (Int32.ofInt 1)] _ _ _
        refine g_thr (E := am_IA) (y := yX11_allow) 13 (gd rfl) rfl rfl (Or.inl ⟨rfl, rfl, rfl⟩) (by omega) (Nat.le_of_ble_eq_true rfl) (Nat.le_of_ble_eq_true rfl) (Nat.le_of_ble_eq_true rfl) (fun c45 => ?_) (fun c45 => ?_)
        · skip
          refine g_aload_n 14 (gd rfl) rfl rfl ?_
          refine g_getA (q2 := 3) 17 (gd rfl) rfl rfl rfl rfl rfl ?_
          refine g_iload_n 18 (gd rfl) rfl rfl ?_
          refine g_iaload 19 (gd rfl) rfl (n := 32) rfl (in_ix i43 rfl) (fun z46 e47 => ?_)
          have i48 := inv_I hI (n := 32) (t := 0) 0 25 rfl (in_ix i43 rfl) rfl e47
          exact g_ireturn (gd rfl) rfl rfl (hP _ _ ⟨s, hI, z46, rfl, rfl, in_w 0 25 i48 rfl⟩)
        · skip
          exact zn_eq c45 (in_c 1 rfl) rfl

/-- GraphHouse.type -/
theorem k_223_0 {Z : AmZ} {A : Nat → Nat} {s : GS} {ex : va_W} {d : Nat} {x1 : Int32} (hd : 7 ≤ d) (hI : Inv s)  : GC Z d 223 [.ref (A 0), .int x1] (WW Z A s ++ ex) 3 18 (fun v u => ∃ t : GS, Inv t ∧ ∃ z : Int32, v = some (.int z) ∧ u = WW Z A t ++ ex ∧ In z 1 1000) (gE2 Z A ex) := by
  intro post xp hP hX
  refine g_enter2 (k := 223) (N := 900) (by omega) rfl (Nat.le_of_ble_eq_true rfl) ?_
  refine g_iload_n 1 (gd rfl) rfl rfl ?_
  refine g_bipush 32 3 (gd rfl) rfl rfl ?_
  refine g_cmp_lt 6 16 (gd rfl) rfl rfl (fun c1 => ?_) (fun c1 => ?_)
  · skip
    have i2 := r_lt1 (-2147483648) 31 c1 (i_rng x1) (in_c 32 rfl) rfl
    refine g_iconst 0 17 (gd rfl) rfl rfl ?_
    refine g_thr (E := am_IA) (y := yX11_allow) 20 (gd rfl) rfl rfl (Or.inl ⟨rfl, rfl, rfl⟩) (by omega) (Nat.le_of_ble_eq_true rfl) (Nat.le_of_ble_eq_true rfl) (Nat.le_of_ble_eq_true rfl) (fun c3 => ?_) (fun c3 => ?_)
    · skip
      exact zn_ne c3 (in_c 0 rfl) rfl
    · skip
      exact (hX _ _ ⟨Or.inl rfl, s, hI, rfl⟩)
  · skip
    have i4 := r_le2 32 2147483647 c1 (in_c 32 rfl) (i_rng x1) rfl
    refine g_iload_n 7 (gd rfl) rfl rfl ?_
    refine g_bipush 126 9 (gd rfl) rfl rfl ?_
    refine g_cmp_gt 12 16 (gd rfl) rfl rfl (fun c5 => ?_) (fun c5 => ?_)
    · skip
      have i6 := r_lt2 127 2147483647 c5 (in_c 126 rfl) i4 rfl
      refine g_iconst 0 17 (gd rfl) rfl rfl ?_
      refine g_thr (E := am_IA) (y := yX11_allow) 20 (gd rfl) rfl rfl (Or.inl ⟨rfl, rfl, rfl⟩) (by omega) (Nat.le_of_ble_eq_true rfl) (Nat.le_of_ble_eq_true rfl) (Nat.le_of_ble_eq_true rfl) (fun c7 => ?_) (fun c7 => ?_)
      · skip
        exact zn_ne c7 (in_c 0 rfl) rfl
      · skip
        exact (hX _ _ ⟨Or.inl rfl, s, hI, rfl⟩)
    · skip
      have i8 := r_le1 32 126 c5 i4 (in_c 126 rfl) rfl
      refine g_iconst 1 13 (gd rfl) rfl rfl ?_
      refine g_goto 17 (gd rfl) rfl ?_
      refine g_thr (E := am_IA) (y := yX11_allow) 20 (gd rfl) rfl rfl (Or.inl ⟨rfl, rfl, rfl⟩) (by omega) (Nat.le_of_ble_eq_true rfl) (Nat.le_of_ble_eq_true rfl) (Nat.le_of_ble_eq_true rfl) (fun c9 => ?_) (fun c9 => ?_)
      · skip
        refine g_aload_n 21 (gd rfl) rfl rfl ?_
        refine g_getA (q2 := 46) 24 (gd rfl) rfl rfl rfl rfl rfl ?_
        refine g_getI 27 (gd rfl) rfl rfl rfl (fun z10 e11 => ?_)
        have i12 := inv_F hI 0 1000 rfl e11
        refine g_sipush 1000 30 (gd rfl) rfl rfl ?_
        refine g_cmp_ge 33 37 (gd rfl) rfl rfl (fun c13 => ?_) (fun c13 => ?_)
        · skip
          have i14 := r_le2 1000 1000 c13 (in_c 1000 rfl) i12 rfl
          refine g_iconst 0 38 (gd rfl) rfl rfl ?_
          refine g_thr (E := am_IS) (y := yX11_ready) 41 (gd rfl) rfl rfl (Or.inr ⟨rfl, rfl, rfl⟩) (by omega) (Nat.le_of_ble_eq_true rfl) (Nat.le_of_ble_eq_true rfl) (Nat.le_of_ble_eq_true rfl) (fun c15 => ?_) (fun c15 => ?_)
          · skip
            exact zn_ne c15 (in_c 0 rfl) rfl
          · skip
            exact (hX _ _ ⟨Or.inr rfl, s, hI, rfl⟩)
        · skip
          have i16 := r_lt1 0 999 c13 i12 (in_c 1000 rfl) rfl
          refine g_iconst 1 34 (gd rfl) rfl rfl ?_
          refine g_goto 38 (gd rfl) rfl ?_
          refine g_thr (E := am_IS) (y := yX11_ready) 41 (gd rfl) rfl rfl (Or.inr ⟨rfl, rfl, rfl⟩) (by omega) (Nat.le_of_ble_eq_true rfl) (Nat.le_of_ble_eq_true rfl) (Nat.le_of_ble_eq_true rfl) (fun c17 => ?_) (fun c17 => ?_)
          · skip
            refine g_aload_n 42 (gd rfl) rfl rfl ?_
            refine g_getA (q2 := 46) 45 (gd rfl) rfl rfl rfl rfl rfl ?_
            refine g_getA (q2 := 47) 48 (gd rfl) rfl rfl rfl rfl rfl ?_
            refine g_aload_n 49 (gd rfl) rfl rfl ?_
            refine g_getA (q2 := 46) 52 (gd rfl) rfl rfl rfl rfl rfl ?_
            refine g_getI 55 (gd rfl) rfl rfl rfl (fun z18 e19 => ?_)
            have q20 : z10 = z18 := (e11).trans e19.symm
            subst q20
            refine g_iload_n 56 (gd rfl) rfl rfl ?_
            refine g_i2c 57 (gd rfl) rfl (fun z21 e22 => ?_)
            have i23 := in_i2c e22
            refine g_castore 58 (gd rfl) rfl (n := 1000) rfl (in_ix i16 rfl) ?_
            have hI24 := inv_sI (q := 47) (j := z10.toNatClampNeg) hI rfl (in_w 0 65535 (nar_c z21) rfl)
            refine g_aload_n 59 (gd rfl) rfl rfl ?_
            refine g_getA (q2 := 46) 62 (gd rfl) rfl rfl rfl rfl rfl ?_
            refine g_dup 63 (gd rfl) rfl rfl ?_
            refine g_getI 66 (gd rfl) rfl rfl rfl (fun z25 e26 => ?_)
            have q27 : z10 = z25 := (e11).trans e26.symm
            subst q27
            refine g_iconst 1 67 (gd rfl) rfl rfl ?_
            refine g_iadd 68 (gd rfl) rfl (fun z28 e29 => ?_)
            have i30 := in_add 1 1000 e29 i16 (in_c 1 rfl) rfl rfl
            refine g_putI 71 (gd rfl) rfl rfl rfl rfl ?_
            have hI31 := inv_sF (q := 46) (j := 1) hI24 rfl (in_w 0 1000 i30 rfl)
            refine g_aload_n 72 (gd rfl) rfl rfl ?_
            refine g_getA (q2 := 46) 75 (gd rfl) rfl rfl rfl rfl rfl ?_
            refine g_getI 78 (gd rfl) rfl rfl rfl (fun z32 e33 => ?_)
            have q34 : z28 = z32 := (sF_get).trans e33.symm
            subst q34
            exact g_ireturn (gd rfl) rfl rfl (hP _ _ ⟨(sF (sI s 47 z10.toNatClampNeg (vp_nar .char z21)) 46 1 z28), hI31, z28, rfl, rfl, in_w 1 1000 i30 rfl⟩)
          · skip
            exact zn_eq c17 (in_c 1 rfl) rfl
      · skip
        exact zn_eq c9 (in_c 1 rfl) rfl

/-- GraphHouse.wipe -/
theorem k_224_0 {Z : AmZ} {A : Nat → Nat} {s : GS} {ex : va_W} {d : Nat} {X : AmX}  (hd : 1 ≤ d) (hI : Inv s)  : GC Z d 224 [.ref (A 0)] (WW Z A s ++ ex) 3 18 (fun v u => ∃ t : GS, Inv t ∧ ∃ z : Int32, v = some (.int z) ∧ u = WW Z A t ++ ex ∧ In z 0 1000) X := by
  intro post xp hP hX
  refine g_enter2 (k := 224) (N := 900) (by omega) rfl (Nat.le_of_ble_eq_true rfl) ?_
  refine g_aload_n 1 (gd rfl) rfl rfl ?_
  refine g_getA (q2 := 46) 4 (gd rfl) rfl rfl rfl rfl rfl ?_
  refine g_getI 7 (gd rfl) rfl rfl rfl (fun z1 e2 => ?_)
  have i3 := inv_F hI 0 1000 rfl e2
  refine g_istore_n 8 (gd rfl) rfl (Nat.le_of_ble_eq_true rfl) ?_
  refine g_aload_n 9 (gd rfl) rfl rfl ?_
  refine g_getA (q2 := 46) 12 (gd rfl) rfl rfl rfl rfl rfl ?_
  refine g_iconst 0 13 (gd rfl) rfl rfl ?_
  refine g_putI 16 (gd rfl) rfl rfl rfl rfl ?_
  have hI4 := inv_sF (q := 46) (j := 1) hI rfl (in_w 0 1000 (in_c 0 rfl) rfl)
  refine g_iload_n 17 (gd rfl) rfl rfl ?_
  exact g_ireturn (gd rfl) rfl rfl (hP _ _ ⟨(sF s 46 1 (Int32.ofInt 0)), hI4, z1, rfl, rfl, in_w 0 1000 i3 rfl⟩)
