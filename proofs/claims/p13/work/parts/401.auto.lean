/-! methods, by vc.py -/
/-- GraphHouse$Graph.copyOf -/
theorem k_93_16_2 {Z : AmZ} {A : Nat → Nat} {s : GS} {ex : va_W} {d : Nat} {X : AmX}  (hd : 1 ≤ d) (hI : Inv s)  : GC Z d 93 [.ref (A 16), .ref (A 2)] (WW Z A s ++ ex) 0 0 (fun v u => ∃ t : GS, Inv t ∧ v = none ∧ u = WW Z A t ++ ex) X := by
  intro post xp hP hX
  refine g_enter2 (k := 93) (N := 900) (by omega) rfl (Nat.le_of_ble_eq_true rfl) ?_
  refine g_aload_n 1 (gd rfl) rfl rfl ?_
  refine g_aload_n 2 (gd rfl) rfl rfl ?_
  refine g_getI 5 (gd rfl) rfl rfl rfl (fun z1 e2 => ?_)
  have i3 := inv_F hI 0 4000 rfl e2
  refine g_putI 8 (gd rfl) rfl rfl rfl rfl ?_
  have hI4 := inv_sF (q := 16) (j := 0) hI rfl (in_w 0 4000 i3 rfl)
  refine g_aload_n 9 (gd rfl) rfl rfl ?_
  refine g_aload_n 10 (gd rfl) rfl rfl ?_
  refine g_getI 13 (gd rfl) rfl rfl rfl (fun z5 e6 => ?_)
  have i7 := inv_F hI4 0 32 rfl e6
  refine g_putI 16 (gd rfl) rfl rfl rfl rfl ?_
  have hI8 := inv_sF (q := 16) (j := 1) hI4 rfl (in_w 0 32 i7 rfl)
  refine g_aload_n 17 (gd rfl) rfl rfl ?_
  refine g_aload_n 18 (gd rfl) rfl rfl ?_
  refine g_getI 21 (gd rfl) rfl rfl rfl (fun z9 e10 => ?_)
  have i11 := inv_F hI8 0 160 rfl e10
  refine g_putI 24 (gd rfl) rfl rfl rfl rfl ?_
  have hI12 := inv_sF (q := 16) (j := 2) hI8 rfl (in_w 0 160 i11 rfl)
  refine g_aload_n 25 (gd rfl) rfl rfl ?_
  refine g_aload_n 26 (gd rfl) rfl rfl ?_
  refine g_getI 29 (gd rfl) rfl rfl rfl (fun z13 e14 => ?_)
  have i15 := inv_F hI12 0 160 rfl e14
  refine g_putI 32 (gd rfl) rfl rfl rfl rfl ?_
  have hI16 := inv_sF (q := 16) (j := 3) hI12 rfl (in_w 0 160 i15 rfl)
  refine g_aload_n 33 (gd rfl) rfl rfl ?_
  refine g_iconst (-1) 34 (gd rfl) rfl rfl ?_
  refine g_putI 37 (gd rfl) rfl rfl rfl rfl ?_
  have hI17 := inv_sF (q := 16) (j := 4) hI16 rfl (in_w (-1) 4000 (in_c (-1) rfl) rfl)
  refine g_aload_n 38 (gd rfl) rfl rfl ?_
  refine g_getA (q2 := 3) 41 (gd rfl) rfl rfl rfl rfl rfl ?_
  refine g_iconst 0 42 (gd rfl) rfl rfl ?_
  refine g_aload_n 43 (gd rfl) rfl rfl ?_
  refine g_getA (q2 := 17) 46 (gd rfl) rfl rfl rfl rfl rfl ?_
  refine g_iconst 0 47 (gd rfl) rfl rfl ?_
  refine g_bipush 32 49 (gd rfl) rfl rfl ?_
  refine g_copyI (n0 := 32) (n1 := 32) 52 (gd rfl) rfl rfl rfl rfl (Nat.le_of_ble_eq_true rfl) (cp_0 (in_c 0 rfl) rfl) (cp_0 (in_c 0 rfl) rfl) (cp_0 (in_c 32 rfl) rfl) (cp_1 (in_c 0 rfl) (in_c 32 rfl) rfl) (cp_1 (in_c 0 rfl) (in_c 32 rfl) rfl) ?_
  have hI18 := inv_cpy (q := 17) (q2 := 3) (n0 := 32) (n1 := 32) (sp := (Int32.ofInt 0).toNatClampNeg) (dp := (Int32.ofInt 0).toNatClampNeg) (n := (Int32.ofInt 32).toNatClampNeg) hI17 rfl rfl (cp_2 (in_c 0 rfl) (in_c 32 rfl) rfl) rfl rfl rfl
  refine g_aload_n 53 (gd rfl) rfl rfl ?_
  refine g_getA (q2 := 4) 56 (gd rfl) rfl rfl rfl rfl rfl ?_
  refine g_iconst 0 57 (gd rfl) rfl rfl ?_
  refine g_aload_n 58 (gd rfl) rfl rfl ?_
  refine g_getA (q2 := 18) 61 (gd rfl) rfl rfl rfl rfl rfl ?_
  refine g_iconst 0 62 (gd rfl) rfl rfl ?_
  refine g_sipush 160 65 (gd rfl) rfl rfl ?_
  refine g_copyI (n0 := 160) (n1 := 160) 68 (gd rfl) rfl rfl rfl rfl (Nat.le_of_ble_eq_true rfl) (cp_0 (in_c 0 rfl) rfl) (cp_0 (in_c 0 rfl) rfl) (cp_0 (in_c 160 rfl) rfl) (cp_1 (in_c 0 rfl) (in_c 160 rfl) rfl) (cp_1 (in_c 0 rfl) (in_c 160 rfl) rfl) ?_
  have hI19 := inv_cpy (q := 18) (q2 := 4) (n0 := 160) (n1 := 160) (sp := (Int32.ofInt 0).toNatClampNeg) (dp := (Int32.ofInt 0).toNatClampNeg) (n := (Int32.ofInt 160).toNatClampNeg) hI18 rfl rfl (cp_2 (in_c 0 rfl) (in_c 160 rfl) rfl) rfl rfl rfl
  refine g_aload_n 69 (gd rfl) rfl rfl ?_
  refine g_getA (q2 := 5) 72 (gd rfl) rfl rfl rfl rfl rfl ?_
  refine g_iconst 0 73 (gd rfl) rfl rfl ?_
  refine g_aload_n 74 (gd rfl) rfl rfl ?_
  refine g_getA (q2 := 19) 77 (gd rfl) rfl rfl rfl rfl rfl ?_
  refine g_iconst 0 78 (gd rfl) rfl rfl ?_
  refine g_sipush 160 81 (gd rfl) rfl rfl ?_
  refine g_copyI (n0 := 160) (n1 := 160) 84 (gd rfl) rfl rfl rfl rfl (Nat.le_of_ble_eq_true rfl) (cp_0 (in_c 0 rfl) rfl) (cp_0 (in_c 0 rfl) rfl) (cp_0 (in_c 160 rfl) rfl) (cp_1 (in_c 0 rfl) (in_c 160 rfl) rfl) (cp_1 (in_c 0 rfl) (in_c 160 rfl) rfl) ?_
  have hI20 := inv_cpy (q := 19) (q2 := 5) (n0 := 160) (n1 := 160) (sp := (Int32.ofInt 0).toNatClampNeg) (dp := (Int32.ofInt 0).toNatClampNeg) (n := (Int32.ofInt 160).toNatClampNeg) hI19 rfl rfl (cp_2 (in_c 0 rfl) (in_c 160 rfl) rfl) rfl rfl rfl
  refine g_aload_n 85 (gd rfl) rfl rfl ?_
  refine g_getA (q2 := 6) 88 (gd rfl) rfl rfl rfl rfl rfl ?_
  refine g_iconst 0 89 (gd rfl) rfl rfl ?_
  refine g_aload_n 90 (gd rfl) rfl rfl ?_
  refine g_getA (q2 := 20) 93 (gd rfl) rfl rfl rfl rfl rfl ?_
  refine g_iconst 0 94 (gd rfl) rfl rfl ?_
  refine g_sipush 160 97 (gd rfl) rfl rfl ?_
  refine g_copyI (n0 := 160) (n1 := 160) 100 (gd rfl) rfl rfl rfl rfl (Nat.le_of_ble_eq_true rfl) (cp_0 (in_c 0 rfl) rfl) (cp_0 (in_c 0 rfl) rfl) (cp_0 (in_c 160 rfl) rfl) (cp_1 (in_c 0 rfl) (in_c 160 rfl) rfl) (cp_1 (in_c 0 rfl) (in_c 160 rfl) rfl) ?_
  have hI21 := inv_cpy (q := 20) (q2 := 6) (n0 := 160) (n1 := 160) (sp := (Int32.ofInt 0).toNatClampNeg) (dp := (Int32.ofInt 0).toNatClampNeg) (n := (Int32.ofInt 160).toNatClampNeg) hI20 rfl rfl (cp_2 (in_c 0 rfl) (in_c 160 rfl) rfl) rfl rfl rfl
  refine g_aload_n 101 (gd rfl) rfl rfl ?_
  refine g_getA (q2 := 7) 104 (gd rfl) rfl rfl rfl rfl rfl ?_
  refine g_iconst 0 105 (gd rfl) rfl rfl ?_
  refine g_aload_n 106 (gd rfl) rfl rfl ?_
  refine g_getA (q2 := 21) 109 (gd rfl) rfl rfl rfl rfl rfl ?_
  refine g_iconst 0 110 (gd rfl) rfl rfl ?_
  refine g_sipush 160 113 (gd rfl) rfl rfl ?_
  refine g_copyI (n0 := 160) (n1 := 160) 116 (gd rfl) rfl rfl rfl rfl (Nat.le_of_ble_eq_true rfl) (cp_0 (in_c 0 rfl) rfl) (cp_0 (in_c 0 rfl) rfl) (cp_0 (in_c 160 rfl) rfl) (cp_1 (in_c 0 rfl) (in_c 160 rfl) rfl) (cp_1 (in_c 0 rfl) (in_c 160 rfl) rfl) ?_
  have hI22 := inv_cpy (q := 21) (q2 := 7) (n0 := 160) (n1 := 160) (sp := (Int32.ofInt 0).toNatClampNeg) (dp := (Int32.ofInt 0).toNatClampNeg) (n := (Int32.ofInt 160).toNatClampNeg) hI21 rfl rfl (cp_2 (in_c 0 rfl) (in_c 160 rfl) rfl) rfl rfl rfl
  refine g_aload_n 117 (gd rfl) rfl rfl ?_
  refine g_getA (q2 := 8) 120 (gd rfl) rfl rfl rfl rfl rfl ?_
  refine g_iconst 0 121 (gd rfl) rfl rfl ?_
  refine g_aload_n 122 (gd rfl) rfl rfl ?_
  refine g_getA (q2 := 22) 125 (gd rfl) rfl rfl rfl rfl rfl ?_
  refine g_iconst 0 126 (gd rfl) rfl rfl ?_
  refine g_sipush 160 129 (gd rfl) rfl rfl ?_
  refine g_copyI (n0 := 160) (n1 := 160) 132 (gd rfl) rfl rfl rfl rfl (Nat.le_of_ble_eq_true rfl) (cp_0 (in_c 0 rfl) rfl) (cp_0 (in_c 0 rfl) rfl) (cp_0 (in_c 160 rfl) rfl) (cp_1 (in_c 0 rfl) (in_c 160 rfl) rfl) (cp_1 (in_c 0 rfl) (in_c 160 rfl) rfl) ?_
  have hI23 := inv_cpy (q := 22) (q2 := 8) (n0 := 160) (n1 := 160) (sp := (Int32.ofInt 0).toNatClampNeg) (dp := (Int32.ofInt 0).toNatClampNeg) (n := (Int32.ofInt 160).toNatClampNeg) hI22 rfl rfl (cp_2 (in_c 0 rfl) (in_c 160 rfl) rfl) rfl rfl rfl
  exact g_return (gd rfl) rfl (hP _ _ ⟨(sA (sA (sA (sA (sA (sA (sF (sF (sF (sF (sF s 16 0 z1) 16 1 z5) 16 2 z9) 16 3 z13) 16 4 (Int32.ofInt (-1))) 17 (va_cpy ((sF (sF (sF (sF (sF s 16 0 z1) 16 1 z5) 16 2 z9) 16 3 z13) 16 4 (Int32.ofInt (-1))).1 3) ((sF (sF (sF (sF (sF s 16 0 z1) 16 1 z5) 16 2 z9) 16 3 z13) 16 4 (Int32.ofInt (-1))).1 17) (Int32.ofInt 0).toNatClampNeg (Int32.ofInt 0).toNatClampNeg (Int32.ofInt 32).toNatClampNeg)) 18 (va_cpy ((sA (sF (sF (sF (sF (sF s 16 0 z1) 16 1 z5) 16 2 z9) 16 3 z13) 16 4 (Int32.ofInt (-1))) 17 (va_cpy ((sF (sF (sF (sF (sF s 16 0 z1) 16 1 z5) 16 2 z9) 16 3 z13) 16 4 (Int32.ofInt (-1))).1 3) ((sF (sF (sF (sF (sF s 16 0 z1) 16 1 z5) 16 2 z9) 16 3 z13) 16 4 (Int32.ofInt (-1))).1 17) (Int32.ofInt 0).toNatClampNeg (Int32.ofInt 0).toNatClampNeg (Int32.ofInt 32).toNatClampNeg)).1 4) ((sA (sF (sF (sF (sF (sF s 16 0 z1) 16 1 z5) 16 2 z9) 16 3 z13) 16 4 (Int32.ofInt (-1))) 17 (va_cpy ((sF (sF (sF (sF (sF s 16 0 z1) 16 1 z5) 16 2 z9) 16 3 z13) 16 4 (Int32.ofInt (-1))).1 3) ((sF (sF (sF (sF (sF s 16 0 z1) 16 1 z5) 16 2 z9) 16 3 z13) 16 4 (Int32.ofInt (-1))).1 17) (Int32.ofInt 0).toNatClampNeg (Int32.ofInt 0).toNatClampNeg (Int32.ofInt 32).toNatClampNeg)).1 18) (Int32.ofInt 0).toNatClampNeg (Int32.ofInt 0).toNatClampNeg (Int32.ofInt 160).toNatClampNeg)) 19 (va_cpy ((sA (sA (sF (sF (sF (sF (sF s 16 0 z1) 16 1 z5) 16 2 z9) 16 3 z13) 16 4 (Int32.ofInt (-1))) 17 (va_cpy ((sF (sF (sF (sF (sF s 16 0 z1) 16 1 z5) 16 2 z9) 16 3 z13) 16 4 (Int32.ofInt (-1))).1 3) ((sF (sF (sF (sF (sF s 16 0 z1) 16 1 z5) 16 2 z9) 16 3 z13) 16 4 (Int32.ofInt (-1))).1 17) (Int32.ofInt 0).toNatClampNeg (Int32.ofInt 0).toNatClampNeg (Int32.ofInt 32).toNatClampNeg)) 18 (va_cpy ((sA (sF (sF (sF (sF (sF s 16 0 z1) 16 1 z5) 16 2 z9) 16 3 z13) 16 4 (Int32.ofInt (-1))) 17 (va_cpy ((sF (sF (sF (sF (sF s 16 0 z1) 16 1 z5) 16 2 z9) 16 3 z13) 16 4 (Int32.ofInt (-1))).1 3) ((sF (sF (sF (sF (sF s 16 0 z1) 16 1 z5) 16 2 z9) 16 3 z13) 16 4 (Int32.ofInt (-1))).1 17) (Int32.ofInt 0).toNatClampNeg (Int32.ofInt 0).toNatClampNeg (Int32.ofInt 32).toNatClampNeg)).1 4) ((sA (sF (sF (sF (sF (sF s 16 0 z1) 16 1 z5) 16 2 z9) 16 3 z13) 16 4 (Int32.ofInt (-1))) 17 (va_cpy ((sF (sF (sF (sF (sF s 16 0 z1) 16 1 z5) 16 2 z9) 16 3 z13) 16 4 (Int32.ofInt (-1))).1 3) ((sF (sF (sF (sF (sF s 16 0 z1) 16 1 z5) 16 2 z9) 16 3 z13) 16 4 (Int32.ofInt (-1))).1 17) (Int32.ofInt 0).toNatClampNeg (Int32.ofInt 0).toNatClampNeg (Int32.ofInt 32).toNatClampNeg)).1 18) (Int32.ofInt 0).toNatClampNeg (Int32.ofInt 0).toNatClampNeg (Int32.ofInt 160).toNatClampNeg)).1 5) ((sA (sA (sF (sF (sF (sF (sF s 16 0 z1) 16 1 z5) 16 2 z9) 16 3 z13) 16 4 (Int32.ofInt (-1))) 17 (va_cpy ((sF (sF (sF (sF (sF s 16 0 z1) 16 1 z5) 16 2 z9) 16 3 z13) 16 4 (Int32.ofInt (-1))).1 3) ((sF (sF (sF (sF (sF s 16 0 z1) 16 1 z5) 16 2 z9) 16 3 z13) 16 4 (Int32.ofInt (-1))).1 17) (Int32.ofInt 0).toNatClampNeg (Int32.ofInt 0).toNatClampNeg (Int32.ofInt 32).toNatClampNeg)) 18 (va_cpy ((sA (sF (sF (sF (sF (sF s 16 0 z1) 16 1 z5) 16 2 z9) 16 3 z13) 16 4 (Int32.ofInt (-1))) 17 (va_cpy ((sF (sF (sF (sF (sF s 16 0 z1) 16 1 z5) 16 2 z9) 16 3 z13) 16 4 (Int32.ofInt (-1))).1 3) ((sF (sF (sF (sF (sF s 16 0 z1) 16 1 z5) 16 2 z9) 16 3 z13) 16 4 (Int32.ofInt (-1))).1 17) (Int32.ofInt 0).toNatClampNeg (Int32.ofInt 0).toNatClampNeg (Int32.ofInt 32).toNatClampNeg)).1 4) ((sA (sF (sF (sF (sF (sF s 16 0 z1) 16 1 z5) 16 2 z9) 16 3 z13) 16 4 (Int32.ofInt (-1))) 17 (va_cpy ((sF (sF (sF (sF (sF s 16 0 z1) 16 1 z5) 16 2 z9) 16 3 z13) 16 4 (Int32.ofInt (-1))).1 3) ((sF (sF (sF (sF (sF s 16 0 z1) 16 1 z5) 16 2 z9) 16 3 z13) 16 4 (Int32.ofInt (-1))).1 17) (Int32.ofInt 0).toNatClampNeg (Int32.ofInt 0).toNatClampNeg (Int32.ofInt 32).toNatClampNeg)).1 18) (Int32.ofInt 0).toNatClampNeg (Int32.ofInt 0).toNatClampNeg (Int32.ofInt 160).toNatClampNeg)).1 19) (Int32.ofInt 0).toNatClampNeg (Int32.ofInt 0).toNatClampNeg (Int32.ofInt 160).toNatClampNeg)) 20 (va_cpy ((sA (sA (sA (sF (sF (sF (sF (sF s 16 0 z1) 16 1 z5) 16 2 z9) 16 3 z13) 16 4 (Int32.ofInt (-1))) 17 (va_cpy ((sF (sF (sF (sF (sF s 16 0 z1) 16 1 z5) 16 2 z9) 16 3 z13) 16 4 (Int32.ofInt (-1))).1 3) ((sF (sF (sF (sF (sF s 16 0 z1) 16 1 z5) 16 2 z9) 16 3 z13) 16 4 (Int32.ofInt (-1))).1 17) (Int32.ofInt 0).toNatClampNeg (Int32.ofInt 0).toNatClampNeg (Int32.ofInt 32).toNatClampNeg)) 18 (va_cpy ((sA (sF (sF (sF (sF (sF s 16 0 z1) 16 1 z5) 16 2 z9) 16 3 z13) 16 4 (Int32.ofInt (-1))) 17 (va_cpy ((sF (sF (sF (sF (sF s 16 0 z1) 16 1 z5) 16 2 z9) 16 3 z13) 16 4 (Int32.ofInt (-1))).1 3) ((sF (sF (sF (sF (sF s 16 0 z1) 16 1 z5) 16 2 z9) 16 3 z13) 16 4 (Int32.ofInt (-1))).1 17) (Int32.ofInt 0).toNatClampNeg (Int32.ofInt 0).toNatClampNeg (Int32.ofInt 32).toNatClampNeg)).1 4) ((sA (sF (sF (sF (sF (sF s 16 0 z1) 16 1 z5) 16 2 z9) 16 3 z13) 16 4 (Int32.ofInt (-1))) 17 (va_cpy ((sF (sF (sF (sF (sF s 16 0 z1) 16 1 z5) 16 2 z9) 16 3 z13) 16 4 (Int32.ofInt (-1))).1 3) ((sF (sF (sF (sF (sF s 16 0 z1) 16 1 z5) 16 2 z9) 16 3 z13) 16 4 (Int32.ofInt (-1))).1 17) (Int32.ofInt 0).toNatClampNeg (Int32.ofInt 0).toNatClampNeg (Int32.ofInt 32).toNatClampNeg)).1 18) (Int32.ofInt 0).toNatClampNeg (Int32.ofInt 0).toNatClampNeg (Int32.ofInt 160).toNatClampNeg)) 19 (va_cpy ((sA (sA (sF (sF (sF (sF (sF s 16 0 z1) 16 1 z5) 16 2 z9) 16 3 z13) 16 4 (Int32.ofInt (-1))) 17 (va_cpy ((sF (sF (sF (sF (sF s 16 0 z1) 16 1 z5) 16 2 z9) 16 3 z13) 16 4 (Int32.ofInt (-1))).1 3) ((sF (sF (sF (sF (sF s 16 0 z1) 16 1 z5) 16 2 z9) 16 3 z13) 16 4 (Int32.ofInt (-1))).1 17) (Int32.ofInt 0).toNatClampNeg (Int32.ofInt 0).toNatClampNeg (Int32.ofInt 32).toNatClampNeg)) 18 (va_cpy ((sA (sF (sF (sF (sF (sF s 16 0 z1) 16 1 z5) 16 2 z9) 16 3 z13) 16 4 (Int32.ofInt (-1))) 17 (va_cpy ((sF (sF (sF (sF (sF s 16 0 z1) 16 1 z5) 16 2 z9) 16 3 z13) 16 4 (Int32.ofInt (-1))).1 3) ((sF (sF (sF (sF (sF s 16 0 z1) 16 1 z5) 16 2 z9) 16 3 z13) 16 4 (Int32.ofInt (-1))).1 17) (Int32.ofInt 0).toNatClampNeg (Int32.ofInt 0).toNatClampNeg (Int32.ofInt 32).toNatClampNeg)).1 4) ((sA (sF (sF (sF (sF (sF s 16 0 z1) 16 1 z5) 16 2 z9) 16 3 z13) 16 4 (Int32.ofInt (-1))) 17 (va_cpy ((sF (sF (sF (sF (sF s 16 0 z1) 16 1 z5) 16 2 z9) 16 3 z13) 16 4 (Int32.ofInt (-1))).1 3) ((sF (sF (sF (sF (sF s 16 0 z1) 16 1 z5) 16 2 z9) 16 3 z13) 16 4 (Int32.ofInt (-1))).1 17) (Int32.ofInt 0).toNatClampNeg (Int32.ofInt 0).toNatClampNeg (Int32.ofInt 32).toNatClampNeg)).1 18) (Int32.ofInt 0).toNatClampNeg (Int32.ofInt 0).toNatClampNeg (Int32.ofInt 160).toNatClampNeg)).1 5) ((sA (sA (sF (sF (sF (sF (sF s 16 0 z1) 16 1 z5) 16 2 z9) 16 3 z13) 16 4 (Int32.ofInt (-1))) 17 (va_cpy ((sF (sF (sF (sF (sF s 16 0 z1) 16 1 z5) 16 2 z9) 16 3 z13) 16 4 (Int32.ofInt (-1))).1 3) ((sF (sF (sF (sF (sF s 16 0 z1) 16 1 z5) 16 2 z9) 16 3 z13) 16 4 (Int32.ofInt (-1))).1 17) (Int32.ofInt 0).toNatClampNeg (Int32.ofInt 0).toNatClampNeg (Int32.ofInt 32).toNatClampNeg)) 18 (va_cpy ((sA (sF (sF (sF (sF (sF s 16 0 z1) 16 1 z5) 16 2 z9) 16 3 z13) 16 4 (Int32.ofInt (-1))) 17 (va_cpy ((sF (sF (sF (sF (sF s 16 0 z1) 16 1 z5) 16 2 z9) 16 3 z13) 16 4 (Int32.ofInt (-1))).1 3) ((sF (sF (sF (sF (sF s 16 0 z1) 16 1 z5) 16 2 z9) 16 3 z13) 16 4 (Int32.ofInt (-1))).1 17) (Int32.ofInt 0).toNatClampNeg (Int32.ofInt 0).toNatClampNeg (Int32.ofInt 32).toNatClampNeg)).1 4) ((sA (sF (sF (sF (sF (sF s 16 0 z1) 16 1 z5) 16 2 z9) 16 3 z13) 16 4 (Int32.ofInt (-1))) 17 (va_cpy ((sF (sF (sF (sF (sF s 16 0 z1) 16 1 z5) 16 2 z9) 16 3 z13) 16 4 (Int32.ofInt (-1))).1 3) ((sF (sF (sF (sF (sF s 16 0 z1) 16 1 z5) 16 2 z9) 16 3 z13) 16 4 (Int32.ofInt (-1))).1 17) (Int32.ofInt 0).toNatClampNeg (Int32.ofInt 0).toNatClampNeg (Int32.ofInt 32).toNatClampNeg)).1 18) (Int32.ofInt 0).toNatClampNeg (Int32.ofInt 0).toNatClampNeg (Int32.ofInt 160).toNatClampNeg)).1 19) (Int32.ofInt 0).toNatClampNeg (Int32.ofInt 0).toNatClampNeg (Int32.ofInt 160).toNatClampNeg)).1 6) ((sA (sA (sA (sF (sF (sF (sF (sF s 16 0 z1) 16 1 z5) 16 2 z9) 16 3 z13) 16 4 (Int32.ofInt (-1))) 17 (va_cpy ((sF (sF (sF (sF (sF s 16 0 z1) 16 1 z5) 16 2 z9) 16 3 z13) 16 4 (Int32.ofInt (-1))).1 3) ((sF (sF (sF (sF (sF s 16 0 z1) 16 1 z5) 16 2 z9) 16 3 z13) 16 4 (Int32.ofInt (-1))).1 17) (Int32.ofInt 0).toNatClampNeg (Int32.ofInt 0).toNatClampNeg (Int32.ofInt 32).toNatClampNeg)) 18 (va_cpy ((sA (sF (sF (sF (sF (sF s 16 0 z1) 16 1 z5) 16 2 z9) 16 3 z13) 16 4 (Int32.ofInt (-1))) 17 (va_cpy ((sF (sF (sF (sF (sF s 16 0 z1) 16 1 z5) 16 2 z9) 16 3 z13) 16 4 (Int32.ofInt (-1))).1 3) ((sF (sF (sF (sF (sF s 16 0 z1) 16 1 z5) 16 2 z9) 16 3 z13) 16 4 (Int32.ofInt (-1))).1 17) (Int32.ofInt 0).toNatClampNeg (Int32.ofInt 0).toNatClampNeg (Int32.ofInt 32).toNatClampNeg)).1 4) ((sA (sF (sF (sF (sF (sF s 16 0 z1) 16 1 z5) 16 2 z9) 16 3 z13) 16 4 (Int32.ofInt (-1))) 17 (va_cpy ((sF (sF (sF (sF (sF s 16 0 z1) 16 1 z5) 16 2 z9) 16 3 z13) 16 4 (Int32.ofInt (-1))).1 3) ((sF (sF (sF (sF (sF s 16 0 z1) 16 1 z5) 16 2 z9) 16 3 z13) 16 4 (Int32.ofInt (-1))).1 17) (Int32.ofInt 0).toNatClampNeg (Int32.ofInt 0).toNatClampNeg (Int32.ofInt 32).toNatClampNeg)).1 18) (Int32.ofInt 0).toNatClampNeg (Int32.ofInt 0).toNatClampNeg (Int32.ofInt 160).toNatClampNeg)) 19 (va_cpy ((sA (sA (sF (sF (sF (sF (sF s 16 0 z1) 16 1 z5) 16 2 z9) 16 3 z13) 16 4 (Int32.ofInt (-1))) 17 (va_cpy ((sF (sF (sF (sF (sF s 16 0 z1) 16 1 z5) 16 2 z9) 16 3 z13) 16 4 (Int32.ofInt (-1))).1 3) ((sF (sF (sF (sF (sF s 16 0 z1) 16 1 z5) 16 2 z9) 16 3 z13) 16 4 (Int32.ofInt (-1))).1 17) (Int32.ofInt 0).toNatClampNeg (Int32.ofInt 0).toNatClampNeg (Int32.ofInt 32).toNatClampNeg)) 18 (va_cpy ((sA (sF (sF (sF (sF (sF s 16 0 z1) 16 1 z5) 16 2 z9) 16 3 z13) 16 4 (Int32.ofInt (-1))) 17 (va_cpy ((sF (sF (sF (sF (sF s 16 0 z1) 16 1 z5) 16 2 z9) 16 3 z13) 16 4 (Int32.ofInt (-1))).1 3) ((sF (sF (sF (sF (sF s 16 0 z1) 16 1 z5) 16 2 z9) 16 3 z13) 16 4 (Int32.ofInt (-1))).1 17) (Int32.ofInt 0).toNatClampNeg (Int32.ofInt 0).toNatClampNeg (Int32.ofInt 32).toNatClampNeg)).1 4) ((sA (sF (sF (sF (sF (sF s 16 0 z1) 16 1 z5) 16 2 z9) 16 3 z13) 16 4 (Int32.ofInt (-1))) 17 (va_cpy ((sF (sF (sF (sF (sF s 16 0 z1) 16 1 z5) 16 2 z9) 16 3 z13) 16 4 (Int32.ofInt (-1))).1 3) ((sF (sF (sF (sF (sF s 16 0 z1) 16 1 z5) 16 2 z9) 16 3 z13) 16 4 (Int32.ofInt (-1))).1 17) (Int32.ofInt 0).toNatClampNeg (Int32.ofInt 0).toNatClampNeg (Int32.ofInt 32).toNatClampNeg)).1 18) (Int32.ofInt 0).toNatClampNeg (Int32.ofInt 0).toNatClampNeg (Int32.ofInt 160).toNatClampNeg)).1 5) ((sA (sA (sF (sF (sF (sF (sF s 16 0 z1) 16 1 z5) 16 2 z9) 16 3 z13) 16 4 (Int32.ofInt (-1))) 17 (va_cpy ((sF (sF (sF (sF (sF s 16 0 z1) 16 1 z5) 16 2 z9) 16 3 z13) 16 4 (Int32.ofInt (-1))).1 3) ((sF (sF (sF (sF (sF s 16 0 z1) 16 1 z5) 16 2 z9) 16 3 z13) 16 4 (Int32.ofInt (-1))).1 17) (Int32.ofInt 0).toNatClampNeg (Int32.ofInt 0).toNatClampNeg (Int32.ofInt 32).toNatClampNeg)) 18 (va_cpy ((sA (sF (sF (sF (sF (sF s 16 0 z1) 16 1 z5) 16 2 z9) 16 3 z13) 16 4 (Int32.ofInt (-1))) 17 (va_cpy ((sF (sF (sF (sF (sF s 16 0 z1) 16 1 z5) 16 2 z9) 16 3 z13) 16 4 (Int32.ofInt (-1))).1 3) ((sF (sF (sF (sF (sF s 16 0 z1) 16 1 z5) 16 2 z9) 16 3 z13) 16 4 (Int32.ofInt (-1))).1 17) (Int32.ofInt 0).toNatClampNeg (Int32.ofInt 0).toNatClampNeg (Int32.ofInt 32).toNatClampNeg)).1 4) ((sA (sF (sF (sF (sF (sF s 16 0 z1) 16 1 z5) 16 2 z9) 16 3 z13) 16 4 (Int32.ofInt (-1))) 17 (va_cpy ((sF (sF (sF (sF (sF s 16 0 z1) 16 1 z5) 16 2 z9) 16 3 z13) 16 4 (Int32.ofInt (-1))).1 3) ((sF (sF (sF (sF (sF s 16 0 z1) 16 1 z5) 16 2 z9) 16 3 z13) 16 4 (Int32.ofInt (-1))).1 17) (Int32.ofInt 0).toNatClampNeg (Int32.ofInt 0).toNatClampNeg (Int32.ofInt 32).toNatClampNeg)).1 18) (Int32.ofInt 0).toNatClampNeg (Int32.ofInt 0).toNatClampNeg (Int32.ofInt 160).toNatClampNeg)).1 19) (Int32.ofInt 0).toNatClampNeg (Int32.ofInt 0).toNatClampNeg (Int32.ofInt 160).toNatClampNeg)).1 20) (Int32.ofInt 0).toNatClampNeg (Int32.ofInt 0).toNatClampNeg (Int32.ofInt 160).toNatClampNeg)) 21 (va_cpy ((sA (sA (sA (sA (sF (sF (sF (sF (sF s 16 0 z1) 16 1 z5) 16 2 z9) 16 3 z13) 16 4 (Int32.ofInt (-1))) 17 (va_cpy ((sF (sF (sF (sF (sF s 16 0 z1) 16 1 z5) 16 2 z9) 16 3 z13) 16 4 (Int32.ofInt (-1))).1 3) ((sF (sF (sF (sF (sF s 16 0 z1) 16 1 z5) 16 2 z9) 16 3 z13) 16 4 (Int32.ofInt (-1))).1 17) (Int32.ofInt 0).toNatClampNeg (Int32.ofInt 0).toNatClampNeg (Int32.ofInt 32).toNatClampNeg)) 18 (va_cpy ((sA (sF (sF (sF (sF (sF s 16 0 z1) 16 1 z5) 16 2 z9) 16 3 z13) 16 4 (Int32.ofInt (-1))) 17 (va_cpy ((sF (sF (sF (sF (sF s 16 0 z1) 16 1 z5) 16 2 z9) 16 3 z13) 16 4 (Int32.ofInt (-1))).1 3) ((sF (sF (sF (sF (sF s 16 0 z1) 16 1 z5) 16 2 z9) 16 3 z13) 16 4 (Int32.ofInt (-1))).1 17) (Int32.ofInt 0).toNatClampNeg (Int32.ofInt 0).toNatClampNeg (Int32.ofInt 32).toNatClampNeg)).1 4) ((sA (sF (sF (sF (sF (sF s 16 0 z1) 16 1 z5) 16 2 z9) 16 3 z13) 16 4 (Int32.ofInt (-1))) 17 (va_cpy ((sF (sF (sF (sF (sF s 16 0 z1) 16 1 z5) 16 2 z9) 16 3 z13) 16 4 (Int32.ofInt (-1))).1 3) ((sF (sF (sF (sF (sF s 16 0 z1) 16 1 z5) 16 2 z9) 16 3 z13) 16 4 (Int32.ofInt (-1))).1 17) (Int32.ofInt 0).toNatClampNeg (Int32.ofInt 0).toNatClampNeg (Int32.ofInt 32).toNatClampNeg)).1 18) (Int32.ofInt 0).toNatClampNeg (Int32.ofInt 0).toNatClampNeg (Int32.ofInt 160).toNatClampNeg)) 19 (va_cpy ((sA (sA (sF (sF (sF (sF (sF s 16 0 z1) 16 1 z5) 16 2 z9) 16 3 z13) 16 4 (Int32.ofInt (-1))) 17 (va_cpy ((sF (sF (sF (sF (sF s 16 0 z1) 16 1 z5) 16 2 z9) 16 3 z13) 16 4 (Int32.ofInt (-1))).1 3) ((sF (sF (sF (sF (sF s 16 0 z1) 16 1 z5) 16 2 z9) 16 3 z13) 16 4 (Int32.ofInt (-1))).1 17) (Int32.ofInt 0).toNatClampNeg (Int32.ofInt 0).toNatClampNeg (Int32.ofInt 32).toNatClampNeg)) 18 (va_cpy ((sA (sF (sF (sF (sF (sF s 16 0 z1) 16 1 z5) 16 2 z9) 16 3 z13) 16 4 (Int32.ofInt (-1))) 17 (va_cpy ((sF (sF (sF (sF (sF s 16 0 z1) 16 1 z5) 16 2 z9) 16 3 z13) 16 4 (Int32.ofInt (-1))).1 3) ((sF (sF (sF (sF (sF s 16 0 z1) 16 1 z5) 16 2 z9) 16 3 z13) 16 4 (Int32.ofInt (-1))).1 17) (Int32.ofInt 0).toNatClampNeg (Int32.ofInt 0).toNatClampNeg (Int32.ofInt 32).toNatClampNeg)).1 4) ((sA (sF (sF (sF (sF (sF s 16 0 z1) 16 1 z5) 16 2 z9) 16 3 z13) 16 4 (Int32.ofInt (-1))) 17 (va_cpy ((sF (sF (sF (sF (sF s 16 0 z1) 16 1 z5) 16 2 z9) 16 3 z13) 16 4 (Int32.ofInt (-1))).1 3) ((sF (sF (sF (sF (sF s 16 0 z1) 16 1 z5) 16 2 z9) 16 3 z13) 16 4 (Int32.ofInt (-1))).1 17) (Int32.ofInt 0).toNatClampNeg (Int32.ofInt 0).toNatClampNeg (Int32.ofInt 32).toNatClampNeg)).1 18) (Int32.ofInt 0).toNatClampNeg (Int32.ofInt 0).toNatClampNeg (Int32.ofInt 160).toNatClampNeg)).1 5) ((sA (sA (sF (sF (sF (sF (sF s 16 0 z1) 16 1 z5) 16 2 z9) 16 3 z13) 16 4 (Int32.ofInt (-1))) 17 (va_cpy ((sF (sF (sF (sF (sF s 16 0 z1) 16 1 z5) 16 2 z9) 16 3 z13) 16 4 (Int32.ofInt (-1))).1 3) ((sF (sF (sF (sF (sF s 16 0 z1) 16 1 z5) 16 2 z9) 16 3 z13) 16 4 (Int32.ofInt (-1))).1 17) (Int32.ofInt 0).toNatClampNeg (Int32.ofInt 0).toNatClampNeg (Int32.ofInt 32).toNatClampNeg)) 18 (va_cpy ((sA (sF (sF (sF (sF (sF s 16 0 z1) 16 1 z5) 16 2 z9) 16 3 z13) 16 4 (Int32.ofInt (-1))) 17 (va_cpy ((sF (sF (sF (sF (sF s 16 0 z1) 16 1 z5) 16 2 z9) 16 3 z13) 16 4 (Int32.ofInt (-1))).1 3) ((sF (sF (sF (sF (sF s 16 0 z1) 16 1 z5) 16 2 z9) 16 3 z13) 16 4 (Int32.ofInt (-1))).1 17) (Int32.ofInt 0).toNatClampNeg (Int32.ofInt 0).toNatClampNeg (Int32.ofInt 32).toNatClampNeg)).1 4) ((sA (sF (sF (sF (sF (sF s 16 0 z1) 16 1 z5) 16 2 z9) 16 3 z13) 16 4 (Int32.ofInt (-1))) 17 (va_cpy ((sF (sF (sF (sF (sF s 16 0 z1) 16 1 z5) 16 2 z9) 16 3 z13) 16 4 (Int32.ofInt (-1))).1 3) ((sF (sF (sF (sF (sF s 16 0 z1) 16 1 z5) 16 2 z9) 16 3 z13) 16 4 (Int32.ofInt (-1))).1 17) (Int32.ofInt 0).toNatClampNeg (Int32.ofInt 0).toNatClampNeg (Int32.ofInt 32).toNatClampNeg)).1 18) (Int32.ofInt 0).toNatClampNeg (Int32.ofInt 0).toNatClampNeg (Int32.ofInt 160).toNatClampNeg)).1 19) (Int32.ofInt 0).toNatClampNeg (Int32.ofInt 0).toNatClampNeg (Int32.ofInt 160).toNatClampNeg)) 20 (va_cpy ((sA (sA (sA (sF (sF (sF (sF (sF s 16 0 z1) 16 1 z5) 16 2 z9) 16 3 z13) 16 4 (Int32.ofInt (-1))) 17 (va_cpy ((sF (sF (sF (sF (sF s 16 0 z1) 16 1 z5) 16 2 z9) 16 3 z13) 16 4 (Int32.ofInt (-1))).1 3) ((sF (sF (sF (sF (sF s 16 0 z1) 16 1 z5) 16 2 z9) 16 3 z13) 16 4 (Int32.ofInt (-1))).1 17) (Int32.ofInt 0).toNatClampNeg (Int32.ofInt 0).toNatClampNeg (Int32.ofInt 32).toNatClampNeg)) 18 (va_cpy ((sA (sF (sF (sF (sF (sF s 16 0 z1) 16 1 z5) 16 2 z9) 16 3 z13) 16 4 (Int32.ofInt (-1))) 17 (va_cpy ((sF (sF (sF (sF (sF s 16 0 z1) 16 1 z5) 16 2 z9) 16 3 z13) 16 4 (Int32.ofInt (-1))).1 3) ((sF (sF (sF (sF (sF s 16 0 z1) 16 1 z5) 16 2 z9) 16 3 z13) 16 4 (Int32.ofInt (-1))).1 17) (Int32.ofInt 0).toNatClampNeg (Int32.ofInt 0).toNatClampNeg (Int32.ofInt 32).toNatClampNeg)).1 4) ((sA (sF (sF (sF (sF (sF s 16 0 z1) 16 1 z5) 16 2 z9) 16 3 z13) 16 4 (Int32.ofInt (-1))) 17 (va_cpy ((sF (sF (sF (sF (sF s 16 0 z1) 16 1 z5) 16 2 z9) 16 3 z13) 16 4 (Int32.ofInt (-1))).1 3) ((sF (sF (sF (sF (sF s 16 0 z1) 16 1 z5) 16 2 z9) 16 3 z13) 16 4 (Int32.ofInt (-1))).1 17) (Int32.ofInt 0).toNatClampNeg (Int32.ofInt 0).toNatClampNeg (Int32.ofInt 32).toNatClampNeg)).1 18) (Int32.ofInt 0).toNatClampNeg (Int32.ofInt 0).toNatClampNeg (Int32.ofInt 160).toNatClampNeg)) 19 (va_cpy ((sA (sA (sF (sF (sF (sF (sF s 16 0 z1) 16 1 z5) 16 2 z9) 16 3 z13) 16 4 (Int32.ofInt (-1))) 17 (va_cpy ((sF (sF (sF (sF (sF s 16 0 z1) 16 1 z5) 16 2 z9) 16 3 z13) 16 4 (Int32.ofInt (-1))).1 3) ((sF (sF (sF (sF (sF s 16 0 z1) 16 1 z5) 16 2 z9) 16 3 z13) 16 4 (Int32.ofInt (-1))).1 17) (Int32.ofInt 0).toNatClampNeg (Int32.ofInt 0).toNatClampNeg (Int32.ofInt 32).toNatClampNeg)) 18 (va_cpy ((sA (sF (sF (sF (sF (sF s 16 0 z1) 16 1 z5) 16 2 z9) 16 3 z13) 16 4 (Int32.ofInt (-1))) 17 (va_cpy ((sF (sF (sF (sF (sF s 16 0 z1) 16 1 z5) 16 2 z9) 16 3 z13) 16 4 (Int32.ofInt (-1))).1 3) ((sF (sF (sF (sF (sF s 16 0 z1) 16 1 z5) 16 2 z9) 16 3 z13) 16 4 (Int32.ofInt (-1))).1 17) (Int32.ofInt 0).toNatClampNeg (Int32.ofInt 0).toNatClampNeg (Int32.ofInt 32).toNatClampNeg)).1 4) ((sA (sF (sF (sF (sF (sF s 16 0 z1) 16 1 z5) 16 2 z9) 16 3 z13) 16 4 (Int32.ofInt (-1))) 17 (va_cpy ((sF (sF (sF (sF (sF s 16 0 z1) 16 1 z5) 16 2 z9) 16 3 z13) 16 4 (Int32.ofInt (-1))).1 3) ((sF (sF (sF (sF (sF s 16 0 z1) 16 1 z5) 16 2 z9) 16 3 z13) 16 4 (Int32.ofInt (-1))).1 17) (Int32.ofInt 0).toNatClampNeg (Int32.ofInt 0).toNatClampNeg (Int32.ofInt 32).toNatClampNeg)).1 18) (Int32.ofInt 0).toNatClampNeg (Int32.ofInt 0).toNatClampNeg (Int32.ofInt 160).toNatClampNeg)).1 5) ((sA (sA (sF (sF (sF (sF (sF s 16 0 z1) 16 1 z5) 16 2 z9) 16 3 z13) 16 4 (Int32.ofInt (-1))) 17 (va_cpy ((sF (sF (sF (sF (sF s 16 0 z1) 16 1 z5) 16 2 z9) 16 3 z13) 16 4 (Int32.ofInt (-1))).1 3) ((sF (sF (sF (sF (sF s 16 0 z1) 16 1 z5) 16 2 z9) 16 3 z13) 16 4 (Int32.ofInt (-1))).1 17) (Int32.ofInt 0).toNatClampNeg (Int32.ofInt 0).toNatClampNeg (Int32.ofInt 32).toNatClampNeg)) 18 (va_cpy ((sA (sF (sF (sF (sF (sF s 16 0 z1) 16 1 z5) 16 2 z9) 16 3 z13) 16 4 (Int32.ofInt (-1))) 17 (va_cpy ((sF (sF (sF (sF (sF s 16 0 z1) 16 1 z5) 16 2 z9) 16 3 z13) 16 4 (Int32.ofInt (-1))).1 3) ((sF (sF (sF (sF (sF s 16 0 z1) 16 1 z5) 16 2 z9) 16 3 z13) 16 4 (Int32.ofInt (-1))).1 17) (Int32.ofInt 0).toNatClampNeg (Int32.ofInt 0).toNatClampNeg (Int32.ofInt 32).toNatClampNeg)).1 4) ((sA (sF (sF (sF (sF (sF s 16 0 z1) 16 1 z5) 16 2 z9) 16 3 z13) 16 4 (Int32.ofInt (-1))) 17 (va_cpy ((sF (sF (sF (sF (sF s 16 0 z1) 16 1 z5) 16 2 z9) 16 3 z13) 16 4 (Int32.ofInt (-1))).1 3) ((sF (sF (sF (sF (sF s 16 0 z1) 16 1 z5) 16 2 z9) 16 3 z13) 16 4 (Int32.ofInt (-1))).1 17) (Int32.ofInt 0).toNatClampNeg (Int32.ofInt 0).toNatClampNeg (Int32.ofInt 32).toNatClampNeg)).1 18) (Int32.ofInt 0).toNatClampNeg (Int32.ofInt 0).toNatClampNeg (Int32.ofInt 160).toNatClampNeg)).1 19) (Int32.ofInt 0).toNatClampNeg (Int32.ofInt 0).toNatClampNeg (Int32.ofInt 160).toNatClampNeg)).1 6) ((sA (sA (sA (sF (sF (sF (sF (sF s 16 0 z1) 16 1 z5) 16 2 z9) 16 3 z13) 16 4 (Int32.ofInt (-1))) 17 (va_cpy ((sF (sF (sF (sF (sF s 16 0 z1) 16 1 z5) 16 2 z9) 16 3 z13) 16 4 (Int32.ofInt (-1))).1 3) ((sF (sF (sF (sF (sF s 16 0 z1) 16 1 z5) 16 2 z9) 16 3 z13) 16 4 (Int32.ofInt (-1))).1 17) (Int32.ofInt 0).toNatClampNeg (Int32.ofInt 0).toNatClampNeg (Int32.ofInt 32).toNatClampNeg)) 18 (va_cpy ((sA (sF (sF (sF (sF (sF s 16 0 z1) 16 1 z5) 16 2 z9) 16 3 z13) 16 4 (Int32.ofInt (-1))) 17 (va_cpy ((sF (sF (sF (sF (sF s 16 0 z1) 16 1 z5) 16 2 z9) 16 3 z13) 16 4 (Int32.ofInt (-1))).1 3) ((sF (sF (sF (sF (sF s 16 0 z1) 16 1 z5) 16 2 z9) 16 3 z13) 16 4 (Int32.ofInt (-1))).1 17) (Int32.ofInt 0).toNatClampNeg (Int32.ofInt 0).toNatClampNeg (Int32.ofInt 32).toNatClampNeg)).1 4) ((sA (sF (sF (sF (sF (sF s 16 0 z1) 16 1 z5) 16 2 z9) 16 3 z13) 16 4 (Int32.ofInt (-1))) 17 (va_cpy ((sF (sF (sF (sF (sF s 16 0 z1) 16 1 z5) 16 2 z9) 16 3 z13) 16 4 (Int32.ofInt (-1))).1 3) ((sF (sF (sF (sF (sF s 16 0 z1) 16 1 z5) 16 2 z9) 16 3 z13) 16 4 (Int32.ofInt (-1))).1 17) (Int32.ofInt 0).toNatClampNeg (Int32.ofInt 0).toNatClampNeg (Int32.ofInt 32).toNatClampNeg)).1 18) (Int32.ofInt 0).toNatClampNeg (Int32.ofInt 0).toNatClampNeg (Int32.ofInt 160).toNatClampNeg)) 19 (va_cpy ((sA (sA (sF (sF (sF (sF (sF s 16 0 z1) 16 1 z5) 16 2 z9) 16 3 z13) 16 4 (Int32.ofInt (-1))) 17 (va_cpy ((sF (sF (sF (sF (sF s 16 0 z1) 16 1 z5) 16 2 z9) 16 3 z13) 16 4 (Int32.ofInt (-1))).1 3) ((sF (sF (sF (sF (sF s 16 0 z1) 16 1 z5) 16 2 z9) 16 3 z13) 16 4 (Int32.ofInt (-1))).1 17) (Int32.ofInt 0).toNatClampNeg (Int32.ofInt 0).toNatClampNeg (Int32.ofInt 32).toNatClampNeg)) 18 (va_cpy ((sA (sF (sF (sF (sF (sF s 16 0 z1) 16 1 z5) 16 2 z9) 16 3 z13) 16 4 (Int32.ofInt (-1))) 17 (va_cpy ((sF (sF (sF (sF (sF s 16 0 z1) 16 1 z5) 16 2 z9) 16 3 z13) 16 4 (Int32.ofInt (-1))).1 3) ((sF (sF (sF (sF (sF s 16 0 z1) 16 1 z5) 16 2 z9) 16 3 z13) 16 4 (Int32.ofInt (-1))).1 17) (Int32.ofInt 0).toNatClampNeg (Int32.ofInt 0).toNatClampNeg (Int32.ofInt 32).toNatClampNeg)).1 4) ((sA (sF (sF (sF (sF (sF s 16 0 z1) 16 1 z5) 16 2 z9) 16 3 z13) 16 4 (Int32.ofInt (-1))) 17 (va_cpy ((sF (sF (sF (sF (sF s 16 0 z1) 16 1 z5) 16 2 z9) 16 3 z13) 16 4 (Int32.ofInt (-1))).1 3) ((sF (sF (sF (sF (sF s 16 0 z1) 16 1 z5) 16 2 z9) 16 3 z13) 16 4 (Int32.ofInt (-1))).1 17) (Int32.ofInt 0).toNatClampNeg (Int32.ofInt 0).toNatClampNeg (Int32.ofInt 32).toNatClampNeg)).1 18) (Int32.ofInt 0).toNatClampNeg (Int32.ofInt 0).toNatClampNeg (Int32.ofInt 160).toNatClampNeg)).1 5) ((sA (sA (sF (sF (sF (sF (sF s 16 0 z1) 16 1 z5) 16 2 z9) 16 3 z13) 16 4 (Int32.ofInt (-1))) 17 (va_cpy ((sF (sF (sF (sF (sF s 16 0 z1) 16 1 z5) 16 2 z9) 16 3 z13) 16 4 (Int32.ofInt (-1))).1 3) ((sF (sF (sF (sF (sF s 16 0 z1) 16 1 z5) 16 2 z9) 16 3 z13) 16 4 (Int32.ofInt (-1))).1 17) (Int32.ofInt 0).toNatClampNeg (Int32.ofInt 0).toNatClampNeg (Int32.ofInt 32).toNatClampNeg)) 18 (va_cpy ((sA (sF (sF (sF (sF (sF s 16 0 z1) 16 1 z5) 16 2 z9) 16 3 z13) 16 4 (Int32.ofInt (-1))) 17 (va_cpy ((sF (sF (sF (sF (sF s 16 0 z1) 16 1 z5) 16 2 z9) 16 3 z13) 16 4 (Int32.ofInt (-1))).1 3) ((sF (sF (sF (sF (sF s 16 0 z1) 16 1 z5) 16 2 z9) 16 3 z13) 16 4 (Int32.ofInt (-1))).1 17) (Int32.ofInt 0).toNatClampNeg (Int32.ofInt 0).toNatClampNeg (Int32.ofInt 32).toNatClampNeg)).1 4) ((sA (sF (sF (sF (sF (sF s 16 0 z1) 16 1 z5) 16 2 z9) 16 3 z13) 16 4 (Int32.ofInt (-1))) 17 (va_cpy ((sF (sF (sF (sF (sF s 16 0 z1) 16 1 z5) 16 2 z9) 16 3 z13) 16 4 (Int32.ofInt (-1))).1 3) ((sF (sF (sF (sF (sF s 16 0 z1) 16 1 z5) 16 2 z9) 16 3 z13) 16 4 (Int32.ofInt (-1))).1 17) (Int32.ofInt 0).toNatClampNeg (Int32.ofInt 0).toNatClampNeg (Int32.ofInt 32).toNatClampNeg)).1 18) (Int32.ofInt 0).toNatClampNeg (Int32.ofInt 0).toNatClampNeg (Int32.ofInt 160).toNatClampNeg)).1 19) (Int32.ofInt 0).toNatClampNeg (Int32.ofInt 0).toNatClampNeg (Int32.ofInt 160).toNatClampNeg)).1 20) (Int32.ofInt 0).toNatClampNeg (Int32.ofInt 0).toNatClampNeg (Int32.ofInt 160).toNatClampNeg)).1 7) ((sA (sA (sA (sA (sF (sF (sF (sF (sF s 16 0 z1) 16 1 z5) 16 2 z9) 16 3 z13) 16 4 (Int32.ofInt (-1))) 17 (va_cpy ((sF (sF (sF (sF (sF s 16 0 z1) 16 1 z5) 16 2 z9) 16 3 z13) 16 4 (Int32.ofInt (-1))).1 3) ((sF (sF (sF (sF (sF s 16 0 z1) 16 1 z5) 16 2 z9) 16 3 z13) 16 4 (Int32.ofInt (-1))).1 17) (Int32.ofInt 0).toNatClampNeg (Int32.ofInt 0).toNatClampNeg (Int32.ofInt 32).toNatClampNeg)) 18 (va_cpy ((sA (sF (sF (sF (sF (sF s 16 0 z1) 16 1 z5) 16 2 z9) 16 3 z13) 16 4 (Int32.ofInt (-1))) 17 (va_cpy ((sF (sF (sF (sF (sF s 16 0 z1) 16 1 z5) 16 2 z9) 16 3 z13) 16 4 (Int32.ofInt (-1))).1 3) ((sF (sF (sF (sF (sF s 16 0 z1) 16 1 z5) 16 2 z9) 16 3 z13) 16 4 (Int32.ofInt (-1))).1 17) (Int32.ofInt 0).toNatClampNeg (Int32.ofInt 0).toNatClampNeg (Int32.ofInt 32).toNatClampNeg)).1 4) ((sA (sF (sF (sF (sF (sF s 16 0 z1) 16 1 z5) 16 2 z9) 16 3 z13) 16 4 (Int32.ofInt (-1))) 17 (va_cpy ((sF (sF (sF (sF (sF s 16 0 z1) 16 1 z5) 16 2 z9) 16 3 z13) 16 4 (Int32.ofInt (-1))).1 3) ((sF (sF (sF (sF (sF s 16 0 z1) 16 1 z5) 16 2 z9) 16 3 z13) 16 4 (Int32.ofInt (-1))).1 17) (Int32.ofInt 0).toNatClampNeg (Int32.ofInt 0).toNatClampNeg (Int32.ofInt 32).toNatClampNeg)).1 18) (Int32.ofInt 0).toNatClampNeg (Int32.ofInt 0).toNatClampNeg (Int32.ofInt 160).toNatClampNeg)) 19 (va_cpy ((sA (sA (sF (sF (sF (sF (sF s 16 0 z1) 16 1 z5) 16 2 z9) 16 3 z13) 16 4 (Int32.ofInt (-1))) 17 (va_cpy ((sF (sF (sF (sF (sF s 16 0 z1) 16 1 z5) 16 2 z9) 16 3 z13) 16 4 (Int32.ofInt (-1))).1 3) ((sF (sF (sF (sF (sF s 16 0 z1) 16 1 z5) 16 2 z9) 16 3 z13) 16 4 (Int32.ofInt (-1))).1 17) (Int32.ofInt 0).toNatClampNeg (Int32.ofInt 0).toNatClampNeg (Int32.ofInt 32).toNatClampNeg)) 18 (va_cpy ((sA (sF (sF (sF (sF (sF s 16 0 z1) 16 1 z5) 16 2 z9) 16 3 z13) 16 4 (Int32.ofInt (-1))) 17 (va_cpy ((sF (sF (sF (sF (sF s 16 0 z1) 16 1 z5) 16 2 z9) 16 3 z13) 16 4 (Int32.ofInt (-1))).1 3) ((sF (sF (sF (sF (sF s 16 0 z1) 16 1 z5) 16 2 z9) 16 3 z13) 16 4 (Int32.ofInt (-1))).1 17) (Int32.ofInt 0).toNatClampNeg (Int32.ofInt 0).toNatClampNeg (Int32.ofInt 32).toNatClampNeg)).1 4) ((sA (sF (sF (sF (sF (sF s 16 0 z1) 16 1 z5) 16 2 z9) 16 3 z13) 16 4 (Int32.ofInt (-1))) 17 (va_cpy ((sF (sF (sF (sF (sF s 16 0 z1) 16 1 z5) 16 2 z9) 16 3 z13) 16 4 (Int32.ofInt (-1))).1 3) ((sF (sF (sF (sF (sF s 16 0 z1) 16 1 z5) 16 2 z9) 16 3 z13) 16 4 (Int32.ofInt (-1))).1 17) (Int32.ofInt 0).toNatClampNeg (Int32.ofInt 0).toNatClampNeg (Int32.ofInt 32).toNatClampNeg)).1 18) (Int32.ofInt 0).toNatClampNeg (Int32.ofInt 0).toNatClampNeg (Int32.ofInt 160).toNatClampNeg)).1 5) ((sA (sA (sF (sF (sF (sF (sF s 16 0 z1) 16 1 z5) 16 2 z9) 16 3 z13) 16 4 (Int32.ofInt (-1))) 17 (va_cpy ((sF (sF (sF (sF (sF s 16 0 z1) 16 1 z5) 16 2 z9) 16 3 z13) 16 4 (Int32.ofInt (-1))).1 3) ((sF (sF (sF (sF (sF s 16 0 z1) 16 1 z5) 16 2 z9) 16 3 z13) 16 4 (Int32.ofInt (-1))).1 17) (Int32.ofInt 0).toNatClampNeg (Int32.ofInt 0).toNatClampNeg (Int32.ofInt 32).toNatClampNeg)) 18 (va_cpy ((sA (sF (sF (sF (sF (sF s 16 0 z1) 16 1 z5) 16 2 z9) 16 3 z13) 16 4 (Int32.ofInt (-1))) 17 (va_cpy ((sF (sF (sF (sF (sF s 16 0 z1) 16 1 z5) 16 2 z9) 16 3 z13) 16 4 (Int32.ofInt (-1))).1 3) ((sF (sF (sF (sF (sF s 16 0 z1) 16 1 z5) 16 2 z9) 16 3 z13) 16 4 (Int32.ofInt (-1))).1 17) (Int32.ofInt 0).toNatClampNeg (Int32.ofInt 0).toNatClampNeg (Int32.ofInt 32).toNatClampNeg)).1 4) ((sA (sF (sF (sF (sF (sF s 16 0 z1) 16 1 z5) 16 2 z9) 16 3 z13) 16 4 (Int32.ofInt (-1))) 17 (va_cpy ((sF (sF (sF (sF (sF s 16 0 z1) 16 1 z5) 16 2 z9) 16 3 z13) 16 4 (Int32.ofInt (-1))).1 3) ((sF (sF (sF (sF (sF s 16 0 z1) 16 1 z5) 16 2 z9) 16 3 z13) 16 4 (Int32.ofInt (-1))).1 17) (Int32.ofInt 0).toNatClampNeg (Int32.ofInt 0).toNatClampNeg (Int32.ofInt 32).toNatClampNeg)).1 18) (Int32.ofInt 0).toNatClampNeg (Int32.ofInt 0).toNatClampNeg (Int32.ofInt 160).toNatClampNeg)).1 19) (Int32.ofInt 0).toNatClampNeg (Int32.ofInt 0).toNatClampNeg (Int32.ofInt 160).toNatClampNeg)) 20 (va_cpy ((sA (sA (sA (sF (sF (sF (sF (sF s 16 0 z1) 16 1 z5) 16 2 z9) 16 3 z13) 16 4 (Int32.ofInt (-1))) 17 (va_cpy ((sF (sF (sF (sF (sF s 16 0 z1) 16 1 z5) 16 2 z9) 16 3 z13) 16 4 (Int32.ofInt (-1))).1 3) ((sF (sF (sF (sF (sF s 16 0 z1) 16 1 z5) 16 2 z9) 16 3 z13) 16 4 (Int32.ofInt (-1))).1 17) (Int32.ofInt 0).toNatClampNeg (Int32.ofInt 0).toNatClampNeg (Int32.ofInt 32).toNatClampNeg)) 18 (va_cpy ((sA (sF (sF (sF (sF (sF s 16 0 z1) 16 1 z5) 16 2 z9) 16 3 z13) 16 4 (Int32.ofInt (-1))) 17 (va_cpy ((sF (sF (sF (sF (sF s 16 0 z1) 16 1 z5) 16 2 z9) 16 3 z13) 16 4 (Int32.ofInt (-1))).1 3) ((sF (sF (sF (sF (sF s 16 0 z1) 16 1 z5) 16 2 z9) 16 3 z13) 16 4 (Int32.ofInt (-1))).1 17) (Int32.ofInt 0).toNatClampNeg (Int32.ofInt 0).toNatClampNeg (Int32.ofInt 32).toNatClampNeg)).1 4) ((sA (sF (sF (sF (sF (sF s 16 0 z1) 16 1 z5) 16 2 z9) 16 3 z13) 16 4 (Int32.ofInt (-1))) 17 (va_cpy ((sF (sF (sF (sF (sF s 16 0 z1) 16 1 z5) 16 2 z9) 16 3 z13) 16 4 (Int32.ofInt (-1))).1 3) ((sF (sF (sF (sF (sF s 16 0 z1) 16 1 z5) 16 2 z9) 16 3 z13) 16 4 (Int32.ofInt (-1))).1 17) (Int32.ofInt 0).toNatClampNeg (Int32.ofInt 0).toNatClampNeg (Int32.ofInt 32).toNatClampNeg)).1 18) (Int32.ofInt 0).toNatClampNeg (Int32.ofInt 0).toNatClampNeg (Int32.ofInt 160).toNatClampNeg)) 19 (va_cpy ((sA (sA (sF (sF (sF (sF (sF s 16 0 z1) 16 1 z5) 16 2 z9) 16 3 z13) 16 4 (Int32.ofInt (-1))) 17 (va_cpy ((sF (sF (sF (sF (sF s 16 0 z1) 16 1 z5) 16 2 z9) 16 3 z13) 16 4 (Int32.ofInt (-1))).1 3) ((sF (sF (sF (sF (sF s 16 0 z1) 16 1 z5) 16 2 z9) 16 3 z13) 16 4 (Int32.ofInt (-1))).1 17) (Int32.ofInt 0).toNatClampNeg (Int32.ofInt 0).toNatClampNeg (Int32.ofInt 32).toNatClampNeg)) 18 (va_cpy ((sA (sF (sF (sF (sF (sF s 16 0 z1) 16 1 z5) 16 2 z9) 16 3 z13) 16 4 (Int32.ofInt (-1))) 17 (va_cpy ((sF (sF (sF (sF (sF s 16 0 z1) 16 1 z5) 16 2 z9) 16 3 z13) 16 4 (Int32.ofInt (-1))).1 3) ((sF (sF (sF (sF (sF s 16 0 z1) 16 1 z5) 16 2 z9) 16 3 z13) 16 4 (Int32.ofInt (-1))).1 17) (Int32.ofInt 0).toNatClampNeg (Int32.ofInt 0).toNatClampNeg (Int32.ofInt 32).toNatClampNeg)).1 4) ((sA (sF (sF (sF (sF (sF s 16 0 z1) 16 1 z5) 16 2 z9) 16 3 z13) 16 4 (Int32.ofInt (-1))) 17 (va_cpy ((sF (sF (sF (sF (sF s 16 0 z1) 16 1 z5) 16 2 z9) 16 3 z13) 16 4 (Int32.ofInt (-1))).1 3) ((sF (sF (sF (sF (sF s 16 0 z1) 16 1 z5) 16 2 z9) 16 3 z13) 16 4 (Int32.ofInt (-1))).1 17) (Int32.ofInt 0).toNatClampNeg (Int32.ofInt 0).toNatClampNeg (Int32.ofInt 32).toNatClampNeg)).1 18) (Int32.ofInt 0).toNatClampNeg (Int32.ofInt 0).toNatClampNeg (Int32.ofInt 160).toNatClampNeg)).1 5) ((sA (sA (sF (sF (sF (sF (sF s 16 0 z1) 16 1 z5) 16 2 z9) 16 3 z13) 16 4 (Int32.ofInt (-1))) 17 (va_cpy ((sF (sF (sF (sF (sF s 16 0 z1) 16 1 z5) 16 2 z9) 16 3 z13) 16 4 (Int32.ofInt (-1))).1 3) ((sF (sF (sF (sF (sF s 16 0 z1) 16 1 z5) 16 2 z9) 16 3 z13) 16 4 (Int32.ofInt (-1))).1 17) (Int32.ofInt 0).toNatClampNeg (Int32.ofInt 0).toNatClampNeg (Int32.ofInt 32).toNatClampNeg)) 18 (va_cpy ((sA (sF (sF (sF (sF (sF s 16 0 z1) 16 1 z5) 16 2 z9) 16 3 z13) 16 4 (Int32.ofInt (-1))) 17 (va_cpy ((sF (sF (sF (sF (sF s 16 0 z1) 16 1 z5) 16 2 z9) 16 3 z13) 16 4 (Int32.ofInt (-1))).1 3) ((sF (sF (sF (sF (sF s 16 0 z1) 16 1 z5) 16 2 z9) 16 3 z13) 16 4 (Int32.ofInt (-1))).1 17) (Int32.ofInt 0).toNatClampNeg (Int32.ofInt 0).toNatClampNeg (Int32.ofInt 32).toNatClampNeg)).1 4) ((sA (sF (sF (sF (sF (sF s 16 0 z1) 16 1 z5) 16 2 z9) 16 3 z13) 16 4 (Int32.ofInt (-1))) 17 (va_cpy ((sF (sF (sF (sF (sF s 16 0 z1) 16 1 z5) 16 2 z9) 16 3 z13) 16 4 (Int32.ofInt (-1))).1 3) ((sF (sF (sF (sF (sF s 16 0 z1) 16 1 z5) 16 2 z9) 16 3 z13) 16 4 (Int32.ofInt (-1))).1 17) (Int32.ofInt 0).toNatClampNeg (Int32.ofInt 0).toNatClampNeg (Int32.ofInt 32).toNatClampNeg)).1 18) (Int32.ofInt 0).toNatClampNeg (Int32.ofInt 0).toNatClampNeg (Int32.ofInt 160).toNatClampNeg)).1 19) (Int32.ofInt 0).toNatClampNeg (Int32.ofInt 0).toNatClampNeg (Int32.ofInt 160).toNatClampNeg)).1 6) ((sA (sA (sA (sF (sF (sF (sF (sF s 16 0 z1) 16 1 z5) 16 2 z9) 16 3 z13) 16 4 (Int32.ofInt (-1))) 17 (va_cpy ((sF (sF (sF (sF (sF s 16 0 z1) 16 1 z5) 16 2 z9) 16 3 z13) 16 4 (Int32.ofInt (-1))).1 3) ((sF (sF (sF (sF (sF s 16 0 z1) 16 1 z5) 16 2 z9) 16 3 z13) 16 4 (Int32.ofInt (-1))).1 17) (Int32.ofInt 0).toNatClampNeg (Int32.ofInt 0).toNatClampNeg (Int32.ofInt 32).toNatClampNeg)) 18 (va_cpy ((sA (sF (sF (sF (sF (sF s 16 0 z1) 16 1 z5) 16 2 z9) 16 3 z13) 16 4 (Int32.ofInt (-1))) 17 (va_cpy ((sF (sF (sF (sF (sF s 16 0 z1) 16 1 z5) 16 2 z9) 16 3 z13) 16 4 (Int32.ofInt (-1))).1 3) ((sF (sF (sF (sF (sF s 16 0 z1) 16 1 z5) 16 2 z9) 16 3 z13) 16 4 (Int32.ofInt (-1))).1 17) (Int32.ofInt 0).toNatClampNeg (Int32.ofInt 0).toNatClampNeg (Int32.ofInt 32).toNatClampNeg)).1 4) ((sA (sF (sF (sF (sF (sF s 16 0 z1) 16 1 z5) 16 2 z9) 16 3 z13) 16 4 (Int32.ofInt (-1))) 17 (va_cpy ((sF (sF (sF (sF (sF s 16 0 z1) 16 1 z5) 16 2 z9) 16 3 z13) 16 4 (Int32.ofInt (-1))).1 3) ((sF (sF (sF (sF (sF s 16 0 z1) 16 1 z5) 16 2 z9) 16 3 z13) 16 4 (Int32.ofInt (-1))).1 17) (Int32.ofInt 0).toNatClampNeg (Int32.ofInt 0).toNatClampNeg (Int32.ofInt 32).toNatClampNeg)).1 18) (Int32.ofInt 0).toNatClampNeg (Int32.ofInt 0).toNatClampNeg (Int32.ofInt 160).toNatClampNeg)) 19 (va_cpy ((sA (sA (sF (sF (sF (sF (sF s 16 0 z1) 16 1 z5) 16 2 z9) 16 3 z13) 16 4 (Int32.ofInt (-1))) 17 (va_cpy ((sF (sF (sF (sF (sF s 16 0 z1) 16 1 z5) 16 2 z9) 16 3 z13) 16 4 (Int32.ofInt (-1))).1 3) ((sF (sF (sF (sF (sF s 16 0 z1) 16 1 z5) 16 2 z9) 16 3 z13) 16 4 (Int32.ofInt (-1))).1 17) (Int32.ofInt 0).toNatClampNeg (Int32.ofInt 0).toNatClampNeg (Int32.ofInt 32).toNatClampNeg)) 18 (va_cpy ((sA (sF (sF (sF (sF (sF s 16 0 z1) 16 1 z5) 16 2 z9) 16 3 z13) 16 4 (Int32.ofInt (-1))) 17 (va_cpy ((sF (sF (sF (sF (sF s 16 0 z1) 16 1 z5) 16 2 z9) 16 3 z13) 16 4 (Int32.ofInt (-1))).1 3) ((sF (sF (sF (sF (sF s 16 0 z1) 16 1 z5) 16 2 z9) 16 3 z13) 16 4 (Int32.ofInt (-1))).1 17) (Int32.ofInt 0).toNatClampNeg (Int32.ofInt 0).toNatClampNeg (Int32.ofInt 32).toNatClampNeg)).1 4) ((sA (sF (sF (sF (sF (sF s 16 0 z1) 16 1 z5) 16 2 z9) 16 3 z13) 16 4 (Int32.ofInt (-1))) 17 (va_cpy ((sF (sF (sF (sF (sF s 16 0 z1) 16 1 z5) 16 2 z9) 16 3 z13) 16 4 (Int32.ofInt (-1))).1 3) ((sF (sF (sF (sF (sF s 16 0 z1) 16 1 z5) 16 2 z9) 16 3 z13) 16 4 (Int32.ofInt (-1))).1 17) (Int32.ofInt 0).toNatClampNeg (Int32.ofInt 0).toNatClampNeg (Int32.ofInt 32).toNatClampNeg)).1 18) (Int32.ofInt 0).toNatClampNeg (Int32.ofInt 0).toNatClampNeg (Int32.ofInt 160).toNatClampNeg)).1 5) ((sA (sA (sF (sF (sF (sF (sF s 16 0 z1) 16 1 z5) 16 2 z9) 16 3 z13) 16 4 (Int32.ofInt (-1))) 17 (va_cpy ((sF (sF (sF (sF (sF s 16 0 z1) 16 1 z5) 16 2 z9) 16 3 z13) 16 4 (Int32.ofInt (-1))).1 3) ((sF (sF (sF (sF (sF s 16 0 z1) 16 1 z5) 16 2 z9) 16 3 z13) 16 4 (Int32.ofInt (-1))).1 17) (Int32.ofInt 0).toNatClampNeg (Int32.ofInt 0).toNatClampNeg (Int32.ofInt 32).toNatClampNeg)) 18 (va_cpy ((sA (sF (sF (sF (sF (sF s 16 0 z1) 16 1 z5) 16 2 z9) 16 3 z13) 16 4 (Int32.ofInt (-1))) 17 (va_cpy ((sF (sF (sF (sF (sF s 16 0 z1) 16 1 z5) 16 2 z9) 16 3 z13) 16 4 (Int32.ofInt (-1))).1 3) ((sF (sF (sF (sF (sF s 16 0 z1) 16 1 z5) 16 2 z9) 16 3 z13) 16 4 (Int32.ofInt (-1))).1 17) (Int32.ofInt 0).toNatClampNeg (Int32.ofInt 0).toNatClampNeg (Int32.ofInt 32).toNatClampNeg)).1 4) ((sA (sF (sF (sF (sF (sF s 16 0 z1) 16 1 z5) 16 2 z9) 16 3 z13) 16 4 (Int32.ofInt (-1))) 17 (va_cpy ((sF (sF (sF (sF (sF s 16 0 z1) 16 1 z5) 16 2 z9) 16 3 z13) 16 4 (Int32.ofInt (-1))).1 3) ((sF (sF (sF (sF (sF s 16 0 z1) 16 1 z5) 16 2 z9) 16 3 z13) 16 4 (Int32.ofInt (-1))).1 17) (Int32.ofInt 0).toNatClampNeg (Int32.ofInt 0).toNatClampNeg (Int32.ofInt 32).toNatClampNeg)).1 18) (Int32.ofInt 0).toNatClampNeg (Int32.ofInt 0).toNatClampNeg (Int32.ofInt 160).toNatClampNeg)).1 19) (Int32.ofInt 0).toNatClampNeg (Int32.ofInt 0).toNatClampNeg (Int32.ofInt 160).toNatClampNeg)).1 20) (Int32.ofInt 0).toNatClampNeg (Int32.ofInt 0).toNatClampNeg (Int32.ofInt 160).toNatClampNeg)).1 21) (Int32.ofInt 0).toNatClampNeg (Int32.ofInt 0).toNatClampNeg (Int32.ofInt 160).toNatClampNeg)) 22 (va_cpy ((sA (sA (sA (sA (sA (sF (sF (sF (sF (sF s 16 0 z1) 16 1 z5) 16 2 z9) 16 3 z13) 16 4 (Int32.ofInt (-1))) 17 (va_cpy ((sF (sF (sF (sF (sF s 16 0 z1) 16 1 z5) 16 2 z9) 16 3 z13) 16 4 (Int32.ofInt (-1))).1 3) ((sF (sF (sF (sF (sF s 16 0 z1) 16 1 z5) 16 2 z9) 16 3 z13) 16 4 (Int32.ofInt (-1))).1 17) (Int32.ofInt 0).toNatClampNeg (Int32.ofInt 0).toNatClampNeg (Int32.ofInt 32).toNatClampNeg)) 18 (va_cpy ((sA (sF (sF (sF (sF (sF s 16 0 z1) 16 1 z5) 16 2 z9) 16 3 z13) 16 4 (Int32.ofInt (-1))) 17 (va_cpy ((sF (sF (sF (sF (sF s 16 0 z1) 16 1 z5) 16 2 z9) 16 3 z13) 16 4 (Int32.ofInt (-1))).1 3) ((sF (sF (sF (sF (sF s 16 0 z1) 16 1 z5) 16 2 z9) 16 3 z13) 16 4 (Int32.ofInt (-1))).1 17) (Int32.ofInt 0).toNatClampNeg (Int32.ofInt 0).toNatClampNeg (Int32.ofInt 32).toNatClampNeg)).1 4) ((sA (sF (sF (sF (sF (sF s 16 0 z1) 16 1 z5) 16 2 z9) 16 3 z13) 16 4 (Int32.ofInt (-1))) 17 (va_cpy ((sF (sF (sF (sF (sF s 16 0 z1) 16 1 z5) 16 2 z9) 16 3 z13) 16 4 (Int32.ofInt (-1))).1 3) ((sF (sF (sF (sF (sF s 16 0 z1) 16 1 z5) 16 2 z9) 16 3 z13) 16 4 (Int32.ofInt (-1))).1 17) (Int32.ofInt 0).toNatClampNeg (Int32.ofInt 0).toNatClampNeg (Int32.ofInt 32).toNatClampNeg)).1 18) (Int32.ofInt 0).toNatClampNeg (Int32.ofInt 0).toNatClampNeg (Int32.ofInt 160).toNatClampNeg)) 19 (va_cpy ((sA (sA (sF (sF (sF (sF (sF s 16 0 z1) 16 1 z5) 16 2 z9) 16 3 z13) 16 4 (Int32.ofInt (-1))) 17 (va_cpy ((sF (sF (sF (sF (sF s 16 0 z1) 16 1 z5) 16 2 z9) 16 3 z13) 16 4 (Int32.ofInt (-1))).1 3) ((sF (sF (sF (sF (sF s 16 0 z1) 16 1 z5) 16 2 z9) 16 3 z13) 16 4 (Int32.ofInt (-1))).1 17) (Int32.ofInt 0).toNatClampNeg (Int32.ofInt 0).toNatClampNeg (Int32.ofInt 32).toNatClampNeg)) 18 (va_cpy ((sA (sF (sF (sF (sF (sF s 16 0 z1) 16 1 z5) 16 2 z9) 16 3 z13) 16 4 (Int32.ofInt (-1))) 17 (va_cpy ((sF (sF (sF (sF (sF s 16 0 z1) 16 1 z5) 16 2 z9) 16 3 z13) 16 4 (Int32.ofInt (-1))).1 3) ((sF (sF (sF (sF (sF s 16 0 z1) 16 1 z5) 16 2 z9) 16 3 z13) 16 4 (Int32.ofInt (-1))).1 17) (Int32.ofInt 0).toNatClampNeg (Int32.ofInt 0).toNatClampNeg (Int32.ofInt 32).toNatClampNeg)).1 4) ((sA (sF (sF (sF (sF (sF s 16 0 z1) 16 1 z5) 16 2 z9) 16 3 z13) 16 4 (Int32.ofInt (-1))) 17 (va_cpy ((sF (sF (sF (sF (sF s 16 0 z1) 16 1 z5) 16 2 z9) 16 3 z13) 16 4 (Int32.ofInt (-1))).1 3) ((sF (sF (sF (sF (sF s 16 0 z1) 16 1 z5) 16 2 z9) 16 3 z13) 16 4 (Int32.ofInt (-1))).1 17) (Int32.ofInt 0).toNatClampNeg (Int32.ofInt 0).toNatClampNeg (Int32.ofInt 32).toNatClampNeg)).1 18) (Int32.ofInt 0).toNatClampNeg (Int32.ofInt 0).toNatClampNeg (Int32.ofInt 160).toNatClampNeg)).1 5) ((sA (sA (sF (sF (sF (sF (sF s 16 0 z1) 16 1 z5) 16 2 z9) 16 3 z13) 16 4 (Int32.ofInt (-1))) 17 (va_cpy ((sF (sF (sF (sF (sF s 16 0 z1) 16 1 z5) 16 2 z9) 16 3 z13) 16 4 (Int32.ofInt (-1))).1 3) ((sF (sF (sF (sF (sF s 16 0 z1) 16 1 z5) 16 2 z9) 16 3 z13) 16 4 (Int32.ofInt (-1))).1 17) (Int32.ofInt 0).toNatClampNeg (Int32.ofInt 0).toNatClampNeg (Int32.ofInt 32).toNatClampNeg)) 18 (va_cpy ((sA (sF (sF (sF (sF (sF s 16 0 z1) 16 1 z5) 16 2 z9) 16 3 z13) 16 4 (Int32.ofInt (-1))) 17 (va_cpy ((sF (sF (sF (sF (sF s 16 0 z1) 16 1 z5) 16 2 z9) 16 3 z13) 16 4 (Int32.ofInt (-1))).1 3) ((sF (sF (sF (sF (sF s 16 0 z1) 16 1 z5) 16 2 z9) 16 3 z13) 16 4 (Int32.ofInt (-1))).1 17) (Int32.ofInt 0).toNatClampNeg (Int32.ofInt 0).toNatClampNeg (Int32.ofInt 32).toNatClampNeg)).1 4) ((sA (sF (sF (sF (sF (sF s 16 0 z1) 16 1 z5) 16 2 z9) 16 3 z13) 16 4 (Int32.ofInt (-1))) 17 (va_cpy ((sF (sF (sF (sF (sF s 16 0 z1) 16 1 z5) 16 2 z9) 16 3 z13) 16 4 (Int32.ofInt (-1))).1 3) ((sF (sF (sF (sF (sF s 16 0 z1) 16 1 z5) 16 2 z9) 16 3 z13) 16 4 (Int32.ofInt (-1))).1 17) (Int32.ofInt 0).toNatClampNeg (Int32.ofInt 0).toNatClampNeg (Int32.ofInt 32).toNatClampNeg)).1 18) (Int32.ofInt 0).toNatClampNeg (Int32.ofInt 0).toNatClampNeg (Int32.ofInt 160).toNatClampNeg)).1 19) (Int32.ofInt 0).toNatClampNeg (Int32.ofInt 0).toNatClampNeg (Int32.ofInt 160).toNatClampNeg)) 20 (va_cpy ((sA (sA (sA (sF (sF (sF (sF (sF s 16 0 z1) 16 1 z5) 16 2 z9) 16 3 z13) 16 4 (Int32.ofInt (-1))) 17 (va_cpy ((sF (sF (sF (sF (sF s 16 0 z1) 16 1 z5) 16 2 z9) 16 3 z13) 16 4 (Int32.ofInt (-1))).1 3) ((sF (sF (sF (sF (sF s 16 0 z1) 16 1 z5) 16 2 z9) 16 3 z13) 16 4 (Int32.ofInt (-1))).1 17) (Int32.ofInt 0).toNatClampNeg (Int32.ofInt 0).toNatClampNeg (Int32.ofInt 32).toNatClampNeg)) 18 (va_cpy ((sA (sF (sF (sF (sF (sF s 16 0 z1) 16 1 z5) 16 2 z9) 16 3 z13) 16 4 (Int32.ofInt (-1))) 17 (va_cpy ((sF (sF (sF (sF (sF s 16 0 z1) 16 1 z5) 16 2 z9) 16 3 z13) 16 4 (Int32.ofInt (-1))).1 3) ((sF (sF (sF (sF (sF s 16 0 z1) 16 1 z5) 16 2 z9) 16 3 z13) 16 4 (Int32.ofInt (-1))).1 17) (Int32.ofInt 0).toNatClampNeg (Int32.ofInt 0).toNatClampNeg (Int32.ofInt 32).toNatClampNeg)).1 4) ((sA (sF (sF (sF (sF (sF s 16 0 z1) 16 1 z5) 16 2 z9) 16 3 z13) 16 4 (Int32.ofInt (-1))) 17 (va_cpy ((sF (sF (sF (sF (sF s 16 0 z1) 16 1 z5) 16 2 z9) 16 3 z13) 16 4 (Int32.ofInt (-1))).1 3) ((sF (sF (sF (sF (sF s 16 0 z1) 16 1 z5) 16 2 z9) 16 3 z13) 16 4 (Int32.ofInt (-1))).1 17) (Int32.ofInt 0).toNatClampNeg (Int32.ofInt 0).toNatClampNeg (Int32.ofInt 32).toNatClampNeg)).1 18) (Int32.ofInt 0).toNatClampNeg (Int32.ofInt 0).toNatClampNeg (Int32.ofInt 160).toNatClampNeg)) 19 (va_cpy ((sA (sA (sF (sF (sF (sF (sF s 16 0 z1) 16 1 z5) 16 2 z9) 16 3 z13) 16 4 (Int32.ofInt (-1))) 17 (va_cpy ((sF (sF (sF (sF (sF s 16 0 z1) 16 1 z5) 16 2 z9) 16 3 z13) 16 4 (Int32.ofInt (-1))).1 3) ((sF (sF (sF (sF (sF s 16 0 z1) 16 1 z5) 16 2 z9) 16 3 z13) 16 4 (Int32.ofInt (-1))).1 17) (Int32.ofInt 0).toNatClampNeg (Int32.ofInt 0).toNatClampNeg (Int32.ofInt 32).toNatClampNeg)) 18 (va_cpy ((sA (sF (sF (sF (sF (sF s 16 0 z1) 16 1 z5) 16 2 z9) 16 3 z13) 16 4 (Int32.ofInt (-1))) 17 (va_cpy ((sF (sF (sF (sF (sF s 16 0 z1) 16 1 z5) 16 2 z9) 16 3 z13) 16 4 (Int32.ofInt (-1))).1 3) ((sF (sF (sF (sF (sF s 16 0 z1) 16 1 z5) 16 2 z9) 16 3 z13) 16 4 (Int32.ofInt (-1))).1 17) (Int32.ofInt 0).toNatClampNeg (Int32.ofInt 0).toNatClampNeg (Int32.ofInt 32).toNatClampNeg)).1 4) ((sA (sF (sF (sF (sF (sF s 16 0 z1) 16 1 z5) 16 2 z9) 16 3 z13) 16 4 (Int32.ofInt (-1))) 17 (va_cpy ((sF (sF (sF (sF (sF s 16 0 z1) 16 1 z5) 16 2 z9) 16 3 z13) 16 4 (Int32.ofInt (-1))).1 3) ((sF (sF (sF (sF (sF s 16 0 z1) 16 1 z5) 16 2 z9) 16 3 z13) 16 4 (Int32.ofInt (-1))).1 17) (Int32.ofInt 0).toNatClampNeg (Int32.ofInt 0).toNatClampNeg (Int32.ofInt 32).toNatClampNeg)).1 18) (Int32.ofInt 0).toNatClampNeg (Int32.ofInt 0).toNatClampNeg (Int32.ofInt 160).toNatClampNeg)).1 5) ((sA (sA (sF (sF (sF (sF (sF s 16 0 z1) 16 1 z5) 16 2 z9) 16 3 z13) 16 4 (Int32.ofInt (-1))) 17 (va_cpy ((sF (sF (sF (sF (sF s 16 0 z1) 16 1 z5) 16 2 z9) 16 3 z13) 16 4 (Int32.ofInt (-1))).1 3) ((sF (sF (sF (sF (sF s 16 0 z1) 16 1 z5) 16 2 z9) 16 3 z13) 16 4 (Int32.ofInt (-1))).1 17) (Int32.ofInt 0).toNatClampNeg (Int32.ofInt 0).toNatClampNeg (Int32.ofInt 32).toNatClampNeg)) 18 (va_cpy ((sA (sF (sF (sF (sF (sF s 16 0 z1) 16 1 z5) 16 2 z9) 16 3 z13) 16 4 (Int32.ofInt (-1))) 17 (va_cpy ((sF (sF (sF (sF (sF s 16 0 z1) 16 1 z5) 16 2 z9) 16 3 z13) 16 4 (Int32.ofInt (-1))).1 3) ((sF (sF (sF (sF (sF s 16 0 z1) 16 1 z5) 16 2 z9) 16 3 z13) 16 4 (Int32.ofInt (-1))).1 17) (Int32.ofInt 0).toNatClampNeg (Int32.ofInt 0).toNatClampNeg (Int32.ofInt 32).toNatClampNeg)).1 4) ((sA (sF (sF (sF (sF (sF s 16 0 z1) 16 1 z5) 16 2 z9) 16 3 z13) 16 4 (Int32.ofInt (-1))) 17 (va_cpy ((sF (sF (sF (sF (sF s 16 0 z1) 16 1 z5) 16 2 z9) 16 3 z13) 16 4 (Int32.ofInt (-1))).1 3) ((sF (sF (sF (sF (sF s 16 0 z1) 16 1 z5) 16 2 z9) 16 3 z13) 16 4 (Int32.ofInt (-1))).1 17) (Int32.ofInt 0).toNatClampNeg (Int32.ofInt 0).toNatClampNeg (Int32.ofInt 32).toNatClampNeg)).1 18) (Int32.ofInt 0).toNatClampNeg (Int32.ofInt 0).toNatClampNeg (Int32.ofInt 160).toNatClampNeg)).1 19) (Int32.ofInt 0).toNatClampNeg (Int32.ofInt 0).toNatClampNeg (Int32.ofInt 160).toNatClampNeg)).1 6) ((sA (sA (sA (sF (sF (sF (sF (sF s 16 0 z1) 16 1 z5) 16 2 z9) 16 3 z13) 16 4 (Int32.ofInt (-1))) 17 (va_cpy ((sF (sF (sF (sF (sF s 16 0 z1) 16 1 z5) 16 2 z9) 16 3 z13) 16 4 (Int32.ofInt (-1))).1 3) ((sF (sF (sF (sF (sF s 16 0 z1) 16 1 z5) 16 2 z9) 16 3 z13) 16 4 (Int32.ofInt (-1))).1 17) (Int32.ofInt 0).toNatClampNeg (Int32.ofInt 0).toNatClampNeg (Int32.ofInt 32).toNatClampNeg)) 18 (va_cpy ((sA (sF (sF (sF (sF (sF s 16 0 z1) 16 1 z5) 16 2 z9) 16 3 z13) 16 4 (Int32.ofInt (-1))) 17 (va_cpy ((sF (sF (sF (sF (sF s 16 0 z1) 16 1 z5) 16 2 z9) 16 3 z13) 16 4 (Int32.ofInt (-1))).1 3) ((sF (sF (sF (sF (sF s 16 0 z1) 16 1 z5) 16 2 z9) 16 3 z13) 16 4 (Int32.ofInt (-1))).1 17) (Int32.ofInt 0).toNatClampNeg (Int32.ofInt 0).toNatClampNeg (Int32.ofInt 32).toNatClampNeg)).1 4) ((sA (sF (sF (sF (sF (sF s 16 0 z1) 16 1 z5) 16 2 z9) 16 3 z13) 16 4 (Int32.ofInt (-1))) 17 (va_cpy ((sF (sF (sF (sF (sF s 16 0 z1) 16 1 z5) 16 2 z9) 16 3 z13) 16 4 (Int32.ofInt (-1))).1 3) ((sF (sF (sF (sF (sF s 16 0 z1) 16 1 z5) 16 2 z9) 16 3 z13) 16 4 (Int32.ofInt (-1))).1 17) (Int32.ofInt 0).toNatClampNeg (Int32.ofInt 0).toNatClampNeg (Int32.ofInt 32).toNatClampNeg)).1 18) (Int32.ofInt 0).toNatClampNeg (Int32.ofInt 0).toNatClampNeg (Int32.ofInt 160).toNatClampNeg)) 19 (va_cpy ((sA (sA (sF (sF (sF (sF (sF s 16 0 z1) 16 1 z5) 16 2 z9) 16 3 z13) 16 4 (Int32.ofInt (-1))) 17 (va_cpy ((sF (sF (sF (sF (sF s 16 0 z1) 16 1 z5) 16 2 z9) 16 3 z13) 16 4 (Int32.ofInt (-1))).1 3) ((sF (sF (sF (sF (sF s 16 0 z1) 16 1 z5) 16 2 z9) 16 3 z13) 16 4 (Int32.ofInt (-1))).1 17) (Int32.ofInt 0).toNatClampNeg (Int32.ofInt 0).toNatClampNeg (Int32.ofInt 32).toNatClampNeg)) 18 (va_cpy ((sA (sF (sF (sF (sF (sF s 16 0 z1) 16 1 z5) 16 2 z9) 16 3 z13) 16 4 (Int32.ofInt (-1))) 17 (va_cpy ((sF (sF (sF (sF (sF s 16 0 z1) 16 1 z5) 16 2 z9) 16 3 z13) 16 4 (Int32.ofInt (-1))).1 3) ((sF (sF (sF (sF (sF s 16 0 z1) 16 1 z5) 16 2 z9) 16 3 z13) 16 4 (Int32.ofInt (-1))).1 17) (Int32.ofInt 0).toNatClampNeg (Int32.ofInt 0).toNatClampNeg (Int32.ofInt 32).toNatClampNeg)).1 4) ((sA (sF (sF (sF (sF (sF s 16 0 z1) 16 1 z5) 16 2 z9) 16 3 z13) 16 4 (Int32.ofInt (-1))) 17 (va_cpy ((sF (sF (sF (sF (sF s 16 0 z1) 16 1 z5) 16 2 z9) 16 3 z13) 16 4 (Int32.ofInt (-1))).1 3) ((sF (sF (sF (sF (sF s 16 0 z1) 16 1 z5) 16 2 z9) 16 3 z13) 16 4 (Int32.ofInt (-1))).1 17) (Int32.ofInt 0).toNatClampNeg (Int32.ofInt 0).toNatClampNeg (Int32.ofInt 32).toNatClampNeg)).1 18) (Int32.ofInt 0).toNatClampNeg (Int32.ofInt 0).toNatClampNeg (Int32.ofInt 160).toNatClampNeg)).1 5) ((sA (sA (sF (sF (sF (sF (sF s 16 0 z1) 16 1 z5) 16 2 z9) 16 3 z13) 16 4 (Int32.ofInt (-1))) 17 (va_cpy ((sF (sF (sF (sF (sF s 16 0 z1) 16 1 z5) 16 2 z9) 16 3 z13) 16 4 (Int32.ofInt (-1))).1 3) ((sF (sF (sF (sF (sF s 16 0 z1) 16 1 z5) 16 2 z9) 16 3 z13) 16 4 (Int32.ofInt (-1))).1 17) (Int32.ofInt 0).toNatClampNeg (Int32.ofInt 0).toNatClampNeg (Int32.ofInt 32).toNatClampNeg)) 18 (va_cpy ((sA (sF (sF (sF (sF (sF s 16 0 z1) 16 1 z5) 16 2 z9) 16 3 z13) 16 4 (Int32.ofInt (-1))) 17 (va_cpy ((sF (sF (sF (sF (sF s 16 0 z1) 16 1 z5) 16 2 z9) 16 3 z13) 16 4 (Int32.ofInt (-1))).1 3) ((sF (sF (sF (sF (sF s 16 0 z1) 16 1 z5) 16 2 z9) 16 3 z13) 16 4 (Int32.ofInt (-1))).1 17) (Int32.ofInt 0).toNatClampNeg (Int32.ofInt 0).toNatClampNeg (Int32.ofInt 32).toNatClampNeg)).1 4) ((sA (sF (sF (sF (sF (sF s 16 0 z1) 16 1 z5) 16 2 z9) 16 3 z13) 16 4 (Int32.ofInt (-1))) 17 (va_cpy ((sF (sF (sF (sF (sF s 16 0 z1) 16 1 z5) 16 2 z9) 16 3 z13) 16 4 (Int32.ofInt (-1))).1 3) ((sF (sF (sF (sF (sF s 16 0 z1) 16 1 z5) 16 2 z9) 16 3 z13) 16 4 (Int32.ofInt (-1))).1 17) (Int32.ofInt 0).toNatClampNeg (Int32.ofInt 0).toNatClampNeg (Int32.ofInt 32).toNatClampNeg)).1 18) (Int32.ofInt 0).toNatClampNeg (Int32.ofInt 0).toNatClampNeg (Int32.ofInt 160).toNatClampNeg)).1 19) (Int32.ofInt 0).toNatClampNeg (Int32.ofInt 0).toNatClampNeg (Int32.ofInt 160).toNatClampNeg)).1 20) (Int32.ofInt 0).toNatClampNeg (Int32.ofInt 0).toNatClampNeg (Int32.ofInt 160).toNatClampNeg)) 21 (va_cpy ((sA (sA (sA (sA (sF (sF (sF (sF (sF s 16 0 z1) 16 1 z5) 16 2 z9) 16 3 z13) 16 4 (Int32.ofInt (-1))) 17 (va_cpy ((sF (sF (sF (sF (sF s 16 0 z1) 16 1 z5) 16 2 z9) 16 3 z13) 16 4 (Int32.ofInt (-1))).1 3) ((sF (sF (sF (sF (sF s 16 0 z1) 16 1 z5) 16 2 z9) 16 3 z13) 16 4 (Int32.ofInt (-1))).1 17) (Int32.ofInt 0).toNatClampNeg (Int32.ofInt 0).toNatClampNeg (Int32.ofInt 32).toNatClampNeg)) 18 (va_cpy ((sA (sF (sF (sF (sF (sF s 16 0 z1) 16 1 z5) 16 2 z9) 16 3 z13) 16 4 (Int32.ofInt (-1))) 17 (va_cpy ((sF (sF (sF (sF (sF s 16 0 z1) 16 1 z5) 16 2 z9) 16 3 z13) 16 4 (Int32.ofInt (-1))).1 3) ((sF (sF (sF (sF (sF s 16 0 z1) 16 1 z5) 16 2 z9) 16 3 z13) 16 4 (Int32.ofInt (-1))).1 17) (Int32.ofInt 0).toNatClampNeg (Int32.ofInt 0).toNatClampNeg (Int32.ofInt 32).toNatClampNeg)).1 4) ((sA (sF (sF (sF (sF (sF s 16 0 z1) 16 1 z5) 16 2 z9) 16 3 z13) 16 4 (Int32.ofInt (-1))) 17 (va_cpy ((sF (sF (sF (sF (sF s 16 0 z1) 16 1 z5) 16 2 z9) 16 3 z13) 16 4 (Int32.ofInt (-1))).1 3) ((sF (sF (sF (sF (sF s 16 0 z1) 16 1 z5) 16 2 z9) 16 3 z13) 16 4 (Int32.ofInt (-1))).1 17) (Int32.ofInt 0).toNatClampNeg (Int32.ofInt 0).toNatClampNeg (Int32.ofInt 32).toNatClampNeg)).1 18) (Int32.ofInt 0).toNatClampNeg (Int32.ofInt 0).toNatClampNeg (Int32.ofInt 160).toNatClampNeg)) 19 (va_cpy ((sA (sA (sF (sF (sF (sF (sF s 16 0 z1) 16 1 z5) 16 2 z9) 16 3 z13) 16 4 (Int32.ofInt (-1))) 17 (va_cpy ((sF (sF (sF (sF (sF s 16 0 z1) 16 1 z5) 16 2 z9) 16 3 z13) 16 4 (Int32.ofInt (-1))).1 3) ((sF (sF (sF (sF (sF s 16 0 z1) 16 1 z5) 16 2 z9) 16 3 z13) 16 4 (Int32.ofInt (-1))).1 17) (Int32.ofInt 0).toNatClampNeg (Int32.ofInt 0).toNatClampNeg (Int32.ofInt 32).toNatClampNeg)) 18 (va_cpy ((sA (sF (sF (sF (sF (sF s 16 0 z1) 16 1 z5) 16 2 z9) 16 3 z13) 16 4 (Int32.ofInt (-1))) 17 (va_cpy ((sF (sF (sF (sF (sF s 16 0 z1) 16 1 z5) 16 2 z9) 16 3 z13) 16 4 (Int32.ofInt (-1))).1 3) ((sF (sF (sF (sF (sF s 16 0 z1) 16 1 z5) 16 2 z9) 16 3 z13) 16 4 (Int32.ofInt (-1))).1 17) (Int32.ofInt 0).toNatClampNeg (Int32.ofInt 0).toNatClampNeg (Int32.ofInt 32).toNatClampNeg)).1 4) ((sA (sF (sF (sF (sF (sF s 16 0 z1) 16 1 z5) 16 2 z9) 16 3 z13) 16 4 (Int32.ofInt (-1))) 17 (va_cpy ((sF (sF (sF (sF (sF s 16 0 z1) 16 1 z5) 16 2 z9) 16 3 z13) 16 4 (Int32.ofInt (-1))).1 3) ((sF (sF (sF (sF (sF s 16 0 z1) 16 1 z5) 16 2 z9) 16 3 z13) 16 4 (Int32.ofInt (-1))).1 17) (Int32.ofInt 0).toNatClampNeg (Int32.ofInt 0).toNatClampNeg (Int32.ofInt 32).toNatClampNeg)).1 18) (Int32.ofInt 0).toNatClampNeg (Int32.ofInt 0).toNatClampNeg (Int32.ofInt 160).toNatClampNeg)).1 5) ((sA (sA (sF (sF (sF (sF (sF s 16 0 z1) 16 1 z5) 16 2 z9) 16 3 z13) 16 4 (Int32.ofInt (-1))) 17 (va_cpy ((sF (sF (sF (sF (sF s 16 0 z1) 16 1 z5) 16 2 z9) 16 3 z13) 16 4 (Int32.ofInt (-1))).1 3) ((sF (sF (sF (sF (sF s 16 0 z1) 16 1 z5) 16 2 z9) 16 3 z13) 16 4 (Int32.ofInt (-1))).1 17) (Int32.ofInt 0).toNatClampNeg (Int32.ofInt 0).toNatClampNeg (Int32.ofInt 32).toNatClampNeg)) 18 (va_cpy ((sA (sF (sF (sF (sF (sF s 16 0 z1) 16 1 z5) 16 2 z9) 16 3 z13) 16 4 (Int32.ofInt (-1))) 17 (va_cpy ((sF (sF (sF (sF (sF s 16 0 z1) 16 1 z5) 16 2 z9) 16 3 z13) 16 4 (Int32.ofInt (-1))).1 3) ((sF (sF (sF (sF (sF s 16 0 z1) 16 1 z5) 16 2 z9) 16 3 z13) 16 4 (Int32.ofInt (-1))).1 17) (Int32.ofInt 0).toNatClampNeg (Int32.ofInt 0).toNatClampNeg (Int32.ofInt 32).toNatClampNeg)).1 4) ((sA (sF (sF (sF (sF (sF s 16 0 z1) 16 1 z5) 16 2 z9) 16 3 z13) 16 4 (Int32.ofInt (-1))) 17 (va_cpy ((sF (sF (sF (sF (sF s 16 0 z1) 16 1 z5) 16 2 z9) 16 3 z13) 16 4 (Int32.ofInt (-1))).1 3) ((sF (sF (sF (sF (sF s 16 0 z1) 16 1 z5) 16 2 z9) 16 3 z13) 16 4 (Int32.ofInt (-1))).1 17) (Int32.ofInt 0).toNatClampNeg (Int32.ofInt 0).toNatClampNeg (Int32.ofInt 32).toNatClampNeg)).1 18) (Int32.ofInt 0).toNatClampNeg (Int32.ofInt 0).toNatClampNeg (Int32.ofInt 160).toNatClampNeg)).1 19) (Int32.ofInt 0).toNatClampNeg (Int32.ofInt 0).toNatClampNeg (Int32.ofInt 160).toNatClampNeg)) 20 (va_cpy ((sA (sA (sA (sF (sF (sF (sF (sF s 16 0 z1) 16 1 z5) 16 2 z9) 16 3 z13) 16 4 (Int32.ofInt (-1))) 17 (va_cpy ((sF (sF (sF (sF (sF s 16 0 z1) 16 1 z5) 16 2 z9) 16 3 z13) 16 4 (Int32.ofInt (-1))).1 3) ((sF (sF (sF (sF (sF s 16 0 z1) 16 1 z5) 16 2 z9) 16 3 z13) 16 4 (Int32.ofInt (-1))).1 17) (Int32.ofInt 0).toNatClampNeg (Int32.ofInt 0).toNatClampNeg (Int32.ofInt 32).toNatClampNeg)) 18 (va_cpy ((sA (sF (sF (sF (sF (sF s 16 0 z1) 16 1 z5) 16 2 z9) 16 3 z13) 16 4 (Int32.ofInt (-1))) 17 (va_cpy ((sF (sF (sF (sF (sF s 16 0 z1) 16 1 z5) 16 2 z9) 16 3 z13) 16 4 (Int32.ofInt (-1))).1 3) ((sF (sF (sF (sF (sF s 16 0 z1) 16 1 z5) 16 2 z9) 16 3 z13) 16 4 (Int32.ofInt (-1))).1 17) (Int32.ofInt 0).toNatClampNeg (Int32.ofInt 0).toNatClampNeg (Int32.ofInt 32).toNatClampNeg)).1 4) ((sA (sF (sF (sF (sF (sF s 16 0 z1) 16 1 z5) 16 2 z9) 16 3 z13) 16 4 (Int32.ofInt (-1))) 17 (va_cpy ((sF (sF (sF (sF (sF s 16 0 z1) 16 1 z5) 16 2 z9) 16 3 z13) 16 4 (Int32.ofInt (-1))).1 3) ((sF (sF (sF (sF (sF s 16 0 z1) 16 1 z5) 16 2 z9) 16 3 z13) 16 4 (Int32.ofInt (-1))).1 17) (Int32.ofInt 0).toNatClampNeg (Int32.ofInt 0).toNatClampNeg (Int32.ofInt 32).toNatClampNeg)).1 18) (Int32.ofInt 0).toNatClampNeg (Int32.ofInt 0).toNatClampNeg (Int32.ofInt 160).toNatClampNeg)) 19 (va_cpy ((sA (sA (sF (sF (sF (sF (sF s 16 0 z1) 16 1 z5) 16 2 z9) 16 3 z13) 16 4 (Int32.ofInt (-1))) 17 (va_cpy ((sF (sF (sF (sF (sF s 16 0 z1) 16 1 z5) 16 2 z9) 16 3 z13) 16 4 (Int32.ofInt (-1))).1 3) ((sF (sF (sF (sF (sF s 16 0 z1) 16 1 z5) 16 2 z9) 16 3 z13) 16 4 (Int32.ofInt (-1))).1 17) (Int32.ofInt 0).toNatClampNeg (Int32.ofInt 0).toNatClampNeg (Int32.ofInt 32).toNatClampNeg)) 18 (va_cpy ((sA (sF (sF (sF (sF (sF s 16 0 z1) 16 1 z5) 16 2 z9) 16 3 z13) 16 4 (Int32.ofInt (-1))) 17 (va_cpy ((sF (sF (sF (sF (sF s 16 0 z1) 16 1 z5) 16 2 z9) 16 3 z13) 16 4 (Int32.ofInt (-1))).1 3) ((sF (sF (sF (sF (sF s 16 0 z1) 16 1 z5) 16 2 z9) 16 3 z13) 16 4 (Int32.ofInt (-1))).1 17) (Int32.ofInt 0).toNatClampNeg (Int32.ofInt 0).toNatClampNeg (Int32.ofInt 32).toNatClampNeg)).1 4) ((sA (sF (sF (sF (sF (sF s 16 0 z1) 16 1 z5) 16 2 z9) 16 3 z13) 16 4 (Int32.ofInt (-1))) 17 (va_cpy ((sF (sF (sF (sF (sF s 16 0 z1) 16 1 z5) 16 2 z9) 16 3 z13) 16 4 (Int32.ofInt (-1))).1 3) ((sF (sF (sF (sF (sF s 16 0 z1) 16 1 z5) 16 2 z9) 16 3 z13) 16 4 (Int32.ofInt (-1))).1 17) (Int32.ofInt 0).toNatClampNeg (Int32.ofInt 0).toNatClampNeg (Int32.ofInt 32).toNatClampNeg)).1 18) (Int32.ofInt 0).toNatClampNeg (Int32.ofInt 0).toNatClampNeg (Int32.ofInt 160).toNatClampNeg)).1 5) ((sA (sA (sF (sF (sF (sF (sF s 16 0 z1) 16 1 z5) 16 2 z9) 16 3 z13) 16 4 (Int32.ofInt (-1))) 17 (va_cpy ((sF (sF (sF (sF (sF s 16 0 z1) 16 1 z5) 16 2 z9) 16 3 z13) 16 4 (Int32.ofInt (-1))).1 3) ((sF (sF (sF (sF (sF s 16 0 z1) 16 1 z5) 16 2 z9) 16 3 z13) 16 4 (Int32.ofInt (-1))).1 17) (Int32.ofInt 0).toNatClampNeg (Int32.ofInt 0).toNatClampNeg (Int32.ofInt 32).toNatClampNeg)) 18 (va_cpy ((sA (sF (sF (sF (sF (sF s 16 0 z1) 16 1 z5) 16 2 z9) 16 3 z13) 16 4 (Int32.ofInt (-1))) 17 (va_cpy ((sF (sF (sF (sF (sF s 16 0 z1) 16 1 z5) 16 2 z9) 16 3 z13) 16 4 (Int32.ofInt (-1))).1 3) ((sF (sF (sF (sF (sF s 16 0 z1) 16 1 z5) 16 2 z9) 16 3 z13) 16 4 (Int32.ofInt (-1))).1 17) (Int32.ofInt 0).toNatClampNeg (Int32.ofInt 0).toNatClampNeg (Int32.ofInt 32).toNatClampNeg)).1 4) ((sA (sF (sF (sF (sF (sF s 16 0 z1) 16 1 z5) 16 2 z9) 16 3 z13) 16 4 (Int32.ofInt (-1))) 17 (va_cpy ((sF (sF (sF (sF (sF s 16 0 z1) 16 1 z5) 16 2 z9) 16 3 z13) 16 4 (Int32.ofInt (-1))).1 3) ((sF (sF (sF (sF (sF s 16 0 z1) 16 1 z5) 16 2 z9) 16 3 z13) 16 4 (Int32.ofInt (-1))).1 17) (Int32.ofInt 0).toNatClampNeg (Int32.ofInt 0).toNatClampNeg (Int32.ofInt 32).toNatClampNeg)).1 18) (Int32.ofInt 0).toNatClampNeg (Int32.ofInt 0).toNatClampNeg (Int32.ofInt 160).toNatClampNeg)).1 19) (Int32.ofInt 0).toNatClampNeg (Int32.ofInt 0).toNatClampNeg (Int32.ofInt 160).toNatClampNeg)).1 6) ((sA (sA (sA (sF (sF (sF (sF (sF s 16 0 z1) 16 1 z5) 16 2 z9) 16 3 z13) 16 4 (Int32.ofInt (-1))) 17 (va_cpy ((sF (sF (sF (sF (sF s 16 0 z1) 16 1 z5) 16 2 z9) 16 3 z13) 16 4 (Int32.ofInt (-1))).1 3) ((sF (sF (sF (sF (sF s 16 0 z1) 16 1 z5) 16 2 z9) 16 3 z13) 16 4 (Int32.ofInt (-1))).1 17) (Int32.ofInt 0).toNatClampNeg (Int32.ofInt 0).toNatClampNeg (Int32.ofInt 32).toNatClampNeg)) 18 (va_cpy ((sA (sF (sF (sF (sF (sF s 16 0 z1) 16 1 z5) 16 2 z9) 16 3 z13) 16 4 (Int32.ofInt (-1))) 17 (va_cpy ((sF (sF (sF (sF (sF s 16 0 z1) 16 1 z5) 16 2 z9) 16 3 z13) 16 4 (Int32.ofInt (-1))).1 3) ((sF (sF (sF (sF (sF s 16 0 z1) 16 1 z5) 16 2 z9) 16 3 z13) 16 4 (Int32.ofInt (-1))).1 17) (Int32.ofInt 0).toNatClampNeg (Int32.ofInt 0).toNatClampNeg (Int32.ofInt 32).toNatClampNeg)).1 4) ((sA (sF (sF (sF (sF (sF s 16 0 z1) 16 1 z5) 16 2 z9) 16 3 z13) 16 4 (Int32.ofInt (-1))) 17 (va_cpy ((sF (sF (sF (sF (sF s 16 0 z1) 16 1 z5) 16 2 z9) 16 3 z13) 16 4 (Int32.ofInt (-1))).1 3) ((sF (sF (sF (sF (sF s 16 0 z1) 16 1 z5) 16 2 z9) 16 3 z13) 16 4 (Int32.ofInt (-1))).1 17) (Int32.ofInt 0).toNatClampNeg (Int32.ofInt 0).toNatClampNeg (Int32.ofInt 32).toNatClampNeg)).1 18) (Int32.ofInt 0).toNatClampNeg (Int32.ofInt 0).toNatClampNeg (Int32.ofInt 160).toNatClampNeg)) 19 (va_cpy ((sA (sA (sF (sF (sF (sF (sF s 16 0 z1) 16 1 z5) 16 2 z9) 16 3 z13) 16 4 (Int32.ofInt (-1))) 17 (va_cpy ((sF (sF (sF (sF (sF s 16 0 z1) 16 1 z5) 16 2 z9) 16 3 z13) 16 4 (Int32.ofInt (-1))).1 3) ((sF (sF (sF (sF (sF s 16 0 z1) 16 1 z5) 16 2 z9) 16 3 z13) 16 4 (Int32.ofInt (-1))).1 17) (Int32.ofInt 0).toNatClampNeg (Int32.ofInt 0).toNatClampNeg (Int32.ofInt 32).toNatClampNeg)) 18 (va_cpy ((sA (sF (sF (sF (sF (sF s 16 0 z1) 16 1 z5) 16 2 z9) 16 3 z13) 16 4 (Int32.ofInt (-1))) 17 (va_cpy ((sF (sF (sF (sF (sF s 16 0 z1) 16 1 z5) 16 2 z9) 16 3 z13) 16 4 (Int32.ofInt (-1))).1 3) ((sF (sF (sF (sF (sF s 16 0 z1) 16 1 z5) 16 2 z9) 16 3 z13) 16 4 (Int32.ofInt (-1))).1 17) (Int32.ofInt 0).toNatClampNeg (Int32.ofInt 0).toNatClampNeg (Int32.ofInt 32).toNatClampNeg)).1 4) ((sA (sF (sF (sF (sF (sF s 16 0 z1) 16 1 z5) 16 2 z9) 16 3 z13) 16 4 (Int32.ofInt (-1))) 17 (va_cpy ((sF (sF (sF (sF (sF s 16 0 z1) 16 1 z5) 16 2 z9) 16 3 z13) 16 4 (Int32.ofInt (-1))).1 3) ((sF (sF (sF (sF (sF s 16 0 z1) 16 1 z5) 16 2 z9) 16 3 z13) 16 4 (Int32.ofInt (-1))).1 17) (Int32.ofInt 0).toNatClampNeg (Int32.ofInt 0).toNatClampNeg (Int32.ofInt 32).toNatClampNeg)).1 18) (Int32.ofInt 0).toNatClampNeg (Int32.ofInt 0).toNatClampNeg (Int32.ofInt 160).toNatClampNeg)).1 5) ((sA (sA (sF (sF (sF (sF (sF s 16 0 z1) 16 1 z5) 16 2 z9) 16 3 z13) 16 4 (Int32.ofInt (-1))) 17 (va_cpy ((sF (sF (sF (sF (sF s 16 0 z1) 16 1 z5) 16 2 z9) 16 3 z13) 16 4 (Int32.ofInt (-1))).1 3) ((sF (sF (sF (sF (sF s 16 0 z1) 16 1 z5) 16 2 z9) 16 3 z13) 16 4 (Int32.ofInt (-1))).1 17) (Int32.ofInt 0).toNatClampNeg (Int32.ofInt 0).toNatClampNeg (Int32.ofInt 32).toNatClampNeg)) 18 (va_cpy ((sA (sF (sF (sF (sF (sF s 16 0 z1) 16 1 z5) 16 2 z9) 16 3 z13) 16 4 (Int32.ofInt (-1))) 17 (va_cpy ((sF (sF (sF (sF (sF s 16 0 z1) 16 1 z5) 16 2 z9) 16 3 z13) 16 4 (Int32.ofInt (-1))).1 3) ((sF (sF (sF (sF (sF s 16 0 z1) 16 1 z5) 16 2 z9) 16 3 z13) 16 4 (Int32.ofInt (-1))).1 17) (Int32.ofInt 0).toNatClampNeg (Int32.ofInt 0).toNatClampNeg (Int32.ofInt 32).toNatClampNeg)).1 4) ((sA (sF (sF (sF (sF (sF s 16 0 z1) 16 1 z5) 16 2 z9) 16 3 z13) 16 4 (Int32.ofInt (-1))) 17 (va_cpy ((sF (sF (sF (sF (sF s 16 0 z1) 16 1 z5) 16 2 z9) 16 3 z13) 16 4 (Int32.ofInt (-1))).1 3) ((sF (sF (sF (sF (sF s 16 0 z1) 16 1 z5) 16 2 z9) 16 3 z13) 16 4 (Int32.ofInt (-1))).1 17) (Int32.ofInt 0).toNatClampNeg (Int32.ofInt 0).toNatClampNeg (Int32.ofInt 32).toNatClampNeg)).1 18) (Int32.ofInt 0).toNatClampNeg (Int32.ofInt 0).toNatClampNeg (Int32.ofInt 160).toNatClampNeg)).1 19) (Int32.ofInt 0).toNatClampNeg (Int32.ofInt 0).toNatClampNeg (Int32.ofInt 160).toNatClampNeg)).1 20) (Int32.ofInt 0).toNatClampNeg (Int32.ofInt 0).toNatClampNeg (Int32.ofInt 160).toNatClampNeg)).1 7) ((sA (sA (sA (sA (sF (sF (sF (sF (sF s 16 0 z1) 16 1 z5) 16 2 z9) 16 3 z13) 16 4 (Int32.ofInt (-1))) 17 (va_cpy ((sF (sF (sF (sF (sF s 16 0 z1) 16 1 z5) 16 2 z9) 16 3 z13) 16 4 (Int32.ofInt (-1))).1 3) ((sF (sF (sF (sF (sF s 16 0 z1) 16 1 z5) 16 2 z9) 16 3 z13) 16 4 (Int32.ofInt (-1))).1 17) (Int32.ofInt 0).toNatClampNeg (Int32.ofInt 0).toNatClampNeg (Int32.ofInt 32).toNatClampNeg)) 18 (va_cpy ((sA (sF (sF (sF (sF (sF s 16 0 z1) 16 1 z5) 16 2 z9) 16 3 z13) 16 4 (Int32.ofInt (-1))) 17 (va_cpy ((sF (sF (sF (sF (sF s 16 0 z1) 16 1 z5) 16 2 z9) 16 3 z13) 16 4 (Int32.ofInt (-1))).1 3) ((sF (sF (sF (sF (sF s 16 0 z1) 16 1 z5) 16 2 z9) 16 3 z13) 16 4 (Int32.ofInt (-1))).1 17) (Int32.ofInt 0).toNatClampNeg (Int32.ofInt 0).toNatClampNeg (Int32.ofInt 32).toNatClampNeg)).1 4) ((sA (sF (sF (sF (sF (sF s 16 0 z1) 16 1 z5) 16 2 z9) 16 3 z13) 16 4 (Int32.ofInt (-1))) 17 (va_cpy ((sF (sF (sF (sF (sF s 16 0 z1) 16 1 z5) 16 2 z9) 16 3 z13) 16 4 (Int32.ofInt (-1))).1 3) ((sF (sF (sF (sF (sF s 16 0 z1) 16 1 z5) 16 2 z9) 16 3 z13) 16 4 (Int32.ofInt (-1))).1 17) (Int32.ofInt 0).toNatClampNeg (Int32.ofInt 0).toNatClampNeg (Int32.ofInt 32).toNatClampNeg)).1 18) (Int32.ofInt 0).toNatClampNeg (Int32.ofInt 0).toNatClampNeg (Int32.ofInt 160).toNatClampNeg)) 19 (va_cpy ((sA (sA (sF (sF (sF (sF (sF s 16 0 z1) 16 1 z5) 16 2 z9) 16 3 z13) 16 4 (Int32.ofInt (-1))) 17 (va_cpy ((sF (sF (sF (sF (sF s 16 0 z1) 16 1 z5) 16 2 z9) 16 3 z13) 16 4 (Int32.ofInt (-1))).1 3) ((sF (sF (sF (sF (sF s 16 0 z1) 16 1 z5) 16 2 z9) 16 3 z13) 16 4 (Int32.ofInt (-1))).1 17) (Int32.ofInt 0).toNatClampNeg (Int32.ofInt 0).toNatClampNeg (Int32.ofInt 32).toNatClampNeg)) 18 (va_cpy ((sA (sF (sF (sF (sF (sF s 16 0 z1) 16 1 z5) 16 2 z9) 16 3 z13) 16 4 (Int32.ofInt (-1))) 17 (va_cpy ((sF (sF (sF (sF (sF s 16 0 z1) 16 1 z5) 16 2 z9) 16 3 z13) 16 4 (Int32.ofInt (-1))).1 3) ((sF (sF (sF (sF (sF s 16 0 z1) 16 1 z5) 16 2 z9) 16 3 z13) 16 4 (Int32.ofInt (-1))).1 17) (Int32.ofInt 0).toNatClampNeg (Int32.ofInt 0).toNatClampNeg (Int32.ofInt 32).toNatClampNeg)).1 4) ((sA (sF (sF (sF (sF (sF s 16 0 z1) 16 1 z5) 16 2 z9) 16 3 z13) 16 4 (Int32.ofInt (-1))) 17 (va_cpy ((sF (sF (sF (sF (sF s 16 0 z1) 16 1 z5) 16 2 z9) 16 3 z13) 16 4 (Int32.ofInt (-1))).1 3) ((sF (sF (sF (sF (sF s 16 0 z1) 16 1 z5) 16 2 z9) 16 3 z13) 16 4 (Int32.ofInt (-1))).1 17) (Int32.ofInt 0).toNatClampNeg (Int32.ofInt 0).toNatClampNeg (Int32.ofInt 32).toNatClampNeg)).1 18) (Int32.ofInt 0).toNatClampNeg (Int32.ofInt 0).toNatClampNeg (Int32.ofInt 160).toNatClampNeg)).1 5) ((sA (sA (sF (sF (sF (sF (sF s 16 0 z1) 16 1 z5) 16 2 z9) 16 3 z13) 16 4 (Int32.ofInt (-1))) 17 (va_cpy ((sF (sF (sF (sF (sF s 16 0 z1) 16 1 z5) 16 2 z9) 16 3 z13) 16 4 (Int32.ofInt (-1))).1 3) ((sF (sF (sF (sF (sF s 16 0 z1) 16 1 z5) 16 2 z9) 16 3 z13) 16 4 (Int32.ofInt (-1))).1 17) (Int32.ofInt 0).toNatClampNeg (Int32.ofInt 0).toNatClampNeg (Int32.ofInt 32).toNatClampNeg)) 18 (va_cpy ((sA (sF (sF (sF (sF (sF s 16 0 z1) 16 1 z5) 16 2 z9) 16 3 z13) 16 4 (Int32.ofInt (-1))) 17 (va_cpy ((sF (sF (sF (sF (sF s 16 0 z1) 16 1 z5) 16 2 z9) 16 3 z13) 16 4 (Int32.ofInt (-1))).1 3) ((sF (sF (sF (sF (sF s 16 0 z1) 16 1 z5) 16 2 z9) 16 3 z13) 16 4 (Int32.ofInt (-1))).1 17) (Int32.ofInt 0).toNatClampNeg (Int32.ofInt 0).toNatClampNeg (Int32.ofInt 32).toNatClampNeg)).1 4) ((sA (sF (sF (sF (sF (sF s 16 0 z1) 16 1 z5) 16 2 z9) 16 3 z13) 16 4 (Int32.ofInt (-1))) 17 (va_cpy ((sF (sF (sF (sF (sF s 16 0 z1) 16 1 z5) 16 2 z9) 16 3 z13) 16 4 (Int32.ofInt (-1))).1 3) ((sF (sF (sF (sF (sF s 16 0 z1) 16 1 z5) 16 2 z9) 16 3 z13) 16 4 (Int32.ofInt (-1))).1 17) (Int32.ofInt 0).toNatClampNeg (Int32.ofInt 0).toNatClampNeg (Int32.ofInt 32).toNatClampNeg)).1 18) (Int32.ofInt 0).toNatClampNeg (Int32.ofInt 0).toNatClampNeg (Int32.ofInt 160).toNatClampNeg)).1 19) (Int32.ofInt 0).toNatClampNeg (Int32.ofInt 0).toNatClampNeg (Int32.ofInt 160).toNatClampNeg)) 20 (va_cpy ((sA (sA (sA (sF (sF (sF (sF (sF s 16 0 z1) 16 1 z5) 16 2 z9) 16 3 z13) 16 4 (Int32.ofInt (-1))) 17 (va_cpy ((sF (sF (sF (sF (sF s 16 0 z1) 16 1 z5) 16 2 z9) 16 3 z13) 16 4 (Int32.ofInt (-1))).1 3) ((sF (sF (sF (sF (sF s 16 0 z1) 16 1 z5) 16 2 z9) 16 3 z13) 16 4 (Int32.ofInt (-1))).1 17) (Int32.ofInt 0).toNatClampNeg (Int32.ofInt 0).toNatClampNeg (Int32.ofInt 32).toNatClampNeg)) 18 (va_cpy ((sA (sF (sF (sF (sF (sF s 16 0 z1) 16 1 z5) 16 2 z9) 16 3 z13) 16 4 (Int32.ofInt (-1))) 17 (va_cpy ((sF (sF (sF (sF (sF s 16 0 z1) 16 1 z5) 16 2 z9) 16 3 z13) 16 4 (Int32.ofInt (-1))).1 3) ((sF (sF (sF (sF (sF s 16 0 z1) 16 1 z5) 16 2 z9) 16 3 z13) 16 4 (Int32.ofInt (-1))).1 17) (Int32.ofInt 0).toNatClampNeg (Int32.ofInt 0).toNatClampNeg (Int32.ofInt 32).toNatClampNeg)).1 4) ((sA (sF (sF (sF (sF (sF s 16 0 z1) 16 1 z5) 16 2 z9) 16 3 z13) 16 4 (Int32.ofInt (-1))) 17 (va_cpy ((sF (sF (sF (sF (sF s 16 0 z1) 16 1 z5) 16 2 z9) 16 3 z13) 16 4 (Int32.ofInt (-1))).1 3) ((sF (sF (sF (sF (sF s 16 0 z1) 16 1 z5) 16 2 z9) 16 3 z13) 16 4 (Int32.ofInt (-1))).1 17) (Int32.ofInt 0).toNatClampNeg (Int32.ofInt 0).toNatClampNeg (Int32.ofInt 32).toNatClampNeg)).1 18) (Int32.ofInt 0).toNatClampNeg (Int32.ofInt 0).toNatClampNeg (Int32.ofInt 160).toNatClampNeg)) 19 (va_cpy ((sA (sA (sF (sF (sF (sF (sF s 16 0 z1) 16 1 z5) 16 2 z9) 16 3 z13) 16 4 (Int32.ofInt (-1))) 17 (va_cpy ((sF (sF (sF (sF (sF s 16 0 z1) 16 1 z5) 16 2 z9) 16 3 z13) 16 4 (Int32.ofInt (-1))).1 3) ((sF (sF (sF (sF (sF s 16 0 z1) 16 1 z5) 16 2 z9) 16 3 z13) 16 4 (Int32.ofInt (-1))).1 17) (Int32.ofInt 0).toNatClampNeg (Int32.ofInt 0).toNatClampNeg (Int32.ofInt 32).toNatClampNeg)) 18 (va_cpy ((sA (sF (sF (sF (sF (sF s 16 0 z1) 16 1 z5) 16 2 z9) 16 3 z13) 16 4 (Int32.ofInt (-1))) 17 (va_cpy ((sF (sF (sF (sF (sF s 16 0 z1) 16 1 z5) 16 2 z9) 16 3 z13) 16 4 (Int32.ofInt (-1))).1 3) ((sF (sF (sF (sF (sF s 16 0 z1) 16 1 z5) 16 2 z9) 16 3 z13) 16 4 (Int32.ofInt (-1))).1 17) (Int32.ofInt 0).toNatClampNeg (Int32.ofInt 0).toNatClampNeg (Int32.ofInt 32).toNatClampNeg)).1 4) ((sA (sF (sF (sF (sF (sF s 16 0 z1) 16 1 z5) 16 2 z9) 16 3 z13) 16 4 (Int32.ofInt (-1))) 17 (va_cpy ((sF (sF (sF (sF (sF s 16 0 z1) 16 1 z5) 16 2 z9) 16 3 z13) 16 4 (Int32.ofInt (-1))).1 3) ((sF (sF (sF (sF (sF s 16 0 z1) 16 1 z5) 16 2 z9) 16 3 z13) 16 4 (Int32.ofInt (-1))).1 17) (Int32.ofInt 0).toNatClampNeg (Int32.ofInt 0).toNatClampNeg (Int32.ofInt 32).toNatClampNeg)).1 18) (Int32.ofInt 0).toNatClampNeg (Int32.ofInt 0).toNatClampNeg (Int32.ofInt 160).toNatClampNeg)).1 5) ((sA (sA (sF (sF (sF (sF (sF s 16 0 z1) 16 1 z5) 16 2 z9) 16 3 z13) 16 4 (Int32.ofInt (-1))) 17 (va_cpy ((sF (sF (sF (sF (sF s 16 0 z1) 16 1 z5) 16 2 z9) 16 3 z13) 16 4 (Int32.ofInt (-1))).1 3) ((sF (sF (sF (sF (sF s 16 0 z1) 16 1 z5) 16 2 z9) 16 3 z13) 16 4 (Int32.ofInt (-1))).1 17) (Int32.ofInt 0).toNatClampNeg (Int32.ofInt 0).toNatClampNeg (Int32.ofInt 32).toNatClampNeg)) 18 (va_cpy ((sA (sF (sF (sF (sF (sF s 16 0 z1) 16 1 z5) 16 2 z9) 16 3 z13) 16 4 (Int32.ofInt (-1))) 17 (va_cpy ((sF (sF (sF (sF (sF s 16 0 z1) 16 1 z5) 16 2 z9) 16 3 z13) 16 4 (Int32.ofInt (-1))).1 3) ((sF (sF (sF (sF (sF s 16 0 z1) 16 1 z5) 16 2 z9) 16 3 z13) 16 4 (Int32.ofInt (-1))).1 17) (Int32.ofInt 0).toNatClampNeg (Int32.ofInt 0).toNatClampNeg (Int32.ofInt 32).toNatClampNeg)).1 4) ((sA (sF (sF (sF (sF (sF s 16 0 z1) 16 1 z5) 16 2 z9) 16 3 z13) 16 4 (Int32.ofInt (-1))) 17 (va_cpy ((sF (sF (sF (sF (sF s 16 0 z1) 16 1 z5) 16 2 z9) 16 3 z13) 16 4 (Int32.ofInt (-1))).1 3) ((sF (sF (sF (sF (sF s 16 0 z1) 16 1 z5) 16 2 z9) 16 3 z13) 16 4 (Int32.ofInt (-1))).1 17) (Int32.ofInt 0).toNatClampNeg (Int32.ofInt 0).toNatClampNeg (Int32.ofInt 32).toNatClampNeg)).1 18) (Int32.ofInt 0).toNatClampNeg (Int32.ofInt 0).toNatClampNeg (Int32.ofInt 160).toNatClampNeg)).1 19) (Int32.ofInt 0).toNatClampNeg (Int32.ofInt 0).toNatClampNeg (Int32.ofInt 160).toNatClampNeg)).1 6) ((sA (sA (sA (sF (sF (sF (sF (sF s 16 0 z1) 16 1 z5) 16 2 z9) 16 3 z13) 16 4 (Int32.ofInt (-1))) 17 (va_cpy ((sF (sF (sF (sF (sF s 16 0 z1) 16 1 z5) 16 2 z9) 16 3 z13) 16 4 (Int32.ofInt (-1))).1 3) ((sF (sF (sF (sF (sF s 16 0 z1) 16 1 z5) 16 2 z9) 16 3 z13) 16 4 (Int32.ofInt (-1))).1 17) (Int32.ofInt 0).toNatClampNeg (Int32.ofInt 0).toNatClampNeg (Int32.ofInt 32).toNatClampNeg)) 18 (va_cpy ((sA (sF (sF (sF (sF (sF s 16 0 z1) 16 1 z5) 16 2 z9) 16 3 z13) 16 4 (Int32.ofInt (-1))) 17 (va_cpy ((sF (sF (sF (sF (sF s 16 0 z1) 16 1 z5) 16 2 z9) 16 3 z13) 16 4 (Int32.ofInt (-1))).1 3) ((sF (sF (sF (sF (sF s 16 0 z1) 16 1 z5) 16 2 z9) 16 3 z13) 16 4 (Int32.ofInt (-1))).1 17) (Int32.ofInt 0).toNatClampNeg (Int32.ofInt 0).toNatClampNeg (Int32.ofInt 32).toNatClampNeg)).1 4) ((sA (sF (sF (sF (sF (sF s 16 0 z1) 16 1 z5) 16 2 z9) 16 3 z13) 16 4 (Int32.ofInt (-1))) 17 (va_cpy ((sF (sF (sF (sF (sF s 16 0 z1) 16 1 z5) 16 2 z9) 16 3 z13) 16 4 (Int32.ofInt (-1))).1 3) ((sF (sF (sF (sF (sF s 16 0 z1) 16 1 z5) 16 2 z9) 16 3 z13) 16 4 (Int32.ofInt (-1))).1 17) (Int32.ofInt 0).toNatClampNeg (Int32.ofInt 0).toNatClampNeg (Int32.ofInt 32).toNatClampNeg)).1 18) (Int32.ofInt 0).toNatClampNeg (Int32.ofInt 0).toNatClampNeg (Int32.ofInt 160).toNatClampNeg)) 19 (va_cpy ((sA (sA (sF (sF (sF (sF (sF s 16 0 z1) 16 1 z5) 16 2 z9) 16 3 z13) 16 4 (Int32.ofInt (-1))) 17 (va_cpy ((sF (sF (sF (sF (sF s 16 0 z1) 16 1 z5) 16 2 z9) 16 3 z13) 16 4 (Int32.ofInt (-1))).1 3) ((sF (sF (sF (sF (sF s 16 0 z1) 16 1 z5) 16 2 z9) 16 3 z13) 16 4 (Int32.ofInt (-1))).1 17) (Int32.ofInt 0).toNatClampNeg (Int32.ofInt 0).toNatClampNeg (Int32.ofInt 32).toNatClampNeg)) 18 (va_cpy ((sA (sF (sF (sF (sF (sF s 16 0 z1) 16 1 z5) 16 2 z9) 16 3 z13) 16 4 (Int32.ofInt (-1))) 17 (va_cpy ((sF (sF (sF (sF (sF s 16 0 z1) 16 1 z5) 16 2 z9) 16 3 z13) 16 4 (Int32.ofInt (-1))).1 3) ((sF (sF (sF (sF (sF s 16 0 z1) 16 1 z5) 16 2 z9) 16 3 z13) 16 4 (Int32.ofInt (-1))).1 17) (Int32.ofInt 0).toNatClampNeg (Int32.ofInt 0).toNatClampNeg (Int32.ofInt 32).toNatClampNeg)).1 4) ((sA (sF (sF (sF (sF (sF s 16 0 z1) 16 1 z5) 16 2 z9) 16 3 z13) 16 4 (Int32.ofInt (-1))) 17 (va_cpy ((sF (sF (sF (sF (sF s 16 0 z1) 16 1 z5) 16 2 z9) 16 3 z13) 16 4 (Int32.ofInt (-1))).1 3) ((sF (sF (sF (sF (sF s 16 0 z1) 16 1 z5) 16 2 z9) 16 3 z13) 16 4 (Int32.ofInt (-1))).1 17) (Int32.ofInt 0).toNatClampNeg (Int32.ofInt 0).toNatClampNeg (Int32.ofInt 32).toNatClampNeg)).1 18) (Int32.ofInt 0).toNatClampNeg (Int32.ofInt 0).toNatClampNeg (Int32.ofInt 160).toNatClampNeg)).1 5) ((sA (sA (sF (sF (sF (sF (sF s 16 0 z1) 16 1 z5) 16 2 z9) 16 3 z13) 16 4 (Int32.ofInt (-1))) 17 (va_cpy ((sF (sF (sF (sF (sF s 16 0 z1) 16 1 z5) 16 2 z9) 16 3 z13) 16 4 (Int32.ofInt (-1))).1 3) ((sF (sF (sF (sF (sF s 16 0 z1) 16 1 z5) 16 2 z9) 16 3 z13) 16 4 (Int32.ofInt (-1))).1 17) (Int32.ofInt 0).toNatClampNeg (Int32.ofInt 0).toNatClampNeg (Int32.ofInt 32).toNatClampNeg)) 18 (va_cpy ((sA (sF (sF (sF (sF (sF s 16 0 z1) 16 1 z5) 16 2 z9) 16 3 z13) 16 4 (Int32.ofInt (-1))) 17 (va_cpy ((sF (sF (sF (sF (sF s 16 0 z1) 16 1 z5) 16 2 z9) 16 3 z13) 16 4 (Int32.ofInt (-1))).1 3) ((sF (sF (sF (sF (sF s 16 0 z1) 16 1 z5) 16 2 z9) 16 3 z13) 16 4 (Int32.ofInt (-1))).1 17) (Int32.ofInt 0).toNatClampNeg (Int32.ofInt 0).toNatClampNeg (Int32.ofInt 32).toNatClampNeg)).1 4) ((sA (sF (sF (sF (sF (sF s 16 0 z1) 16 1 z5) 16 2 z9) 16 3 z13) 16 4 (Int32.ofInt (-1))) 17 (va_cpy ((sF (sF (sF (sF (sF s 16 0 z1) 16 1 z5) 16 2 z9) 16 3 z13) 16 4 (Int32.ofInt (-1))).1 3) ((sF (sF (sF (sF (sF s 16 0 z1) 16 1 z5) 16 2 z9) 16 3 z13) 16 4 (Int32.ofInt (-1))).1 17) (Int32.ofInt 0).toNatClampNeg (Int32.ofInt 0).toNatClampNeg (Int32.ofInt 32).toNatClampNeg)).1 18) (Int32.ofInt 0).toNatClampNeg (Int32.ofInt 0).toNatClampNeg (Int32.ofInt 160).toNatClampNeg)).1 19) (Int32.ofInt 0).toNatClampNeg (Int32.ofInt 0).toNatClampNeg (Int32.ofInt 160).toNatClampNeg)).1 20) (Int32.ofInt 0).toNatClampNeg (Int32.ofInt 0).toNatClampNeg (Int32.ofInt 160).toNatClampNeg)).1 21) (Int32.ofInt 0).toNatClampNeg (Int32.ofInt 0).toNatClampNeg (Int32.ofInt 160).toNatClampNeg)).1 8) ((sA (sA (sA (sA (sA (sF (sF (sF (sF (sF s 16 0 z1) 16 1 z5) 16 2 z9) 16 3 z13) 16 4 (Int32.ofInt (-1))) 17 (va_cpy ((sF (sF (sF (sF (sF s 16 0 z1) 16 1 z5) 16 2 z9) 16 3 z13) 16 4 (Int32.ofInt (-1))).1 3) ((sF (sF (sF (sF (sF s 16 0 z1) 16 1 z5) 16 2 z9) 16 3 z13) 16 4 (Int32.ofInt (-1))).1 17) (Int32.ofInt 0).toNatClampNeg (Int32.ofInt 0).toNatClampNeg (Int32.ofInt 32).toNatClampNeg)) 18 (va_cpy ((sA (sF (sF (sF (sF (sF s 16 0 z1) 16 1 z5) 16 2 z9) 16 3 z13) 16 4 (Int32.ofInt (-1))) 17 (va_cpy ((sF (sF (sF (sF (sF s 16 0 z1) 16 1 z5) 16 2 z9) 16 3 z13) 16 4 (Int32.ofInt (-1))).1 3) ((sF (sF (sF (sF (sF s 16 0 z1) 16 1 z5) 16 2 z9) 16 3 z13) 16 4 (Int32.ofInt (-1))).1 17) (Int32.ofInt 0).toNatClampNeg (Int32.ofInt 0).toNatClampNeg (Int32.ofInt 32).toNatClampNeg)).1 4) ((sA (sF (sF (sF (sF (sF s 16 0 z1) 16 1 z5) 16 2 z9) 16 3 z13) 16 4 (Int32.ofInt (-1))) 17 (va_cpy ((sF (sF (sF (sF (sF s 16 0 z1) 16 1 z5) 16 2 z9) 16 3 z13) 16 4 (Int32.ofInt (-1))).1 3) ((sF (sF (sF (sF (sF s 16 0 z1) 16 1 z5) 16 2 z9) 16 3 z13) 16 4 (Int32.ofInt (-1))).1 17) (Int32.ofInt 0).toNatClampNeg (Int32.ofInt 0).toNatClampNeg (Int32.ofInt 32).toNatClampNeg)).1 18) (Int32.ofInt 0).toNatClampNeg (Int32.ofInt 0).toNatClampNeg (Int32.ofInt 160).toNatClampNeg)) 19 (va_cpy ((sA (sA (sF (sF (sF (sF (sF s 16 0 z1) 16 1 z5) 16 2 z9) 16 3 z13) 16 4 (Int32.ofInt (-1))) 17 (va_cpy ((sF (sF (sF (sF (sF s 16 0 z1) 16 1 z5) 16 2 z9) 16 3 z13) 16 4 (Int32.ofInt (-1))).1 3) ((sF (sF (sF (sF (sF s 16 0 z1) 16 1 z5) 16 2 z9) 16 3 z13) 16 4 (Int32.ofInt (-1))).1 17) (Int32.ofInt 0).toNatClampNeg (Int32.ofInt 0).toNatClampNeg (Int32.ofInt 32).toNatClampNeg)) 18 (va_cpy ((sA (sF (sF (sF (sF (sF s 16 0 z1) 16 1 z5) 16 2 z9) 16 3 z13) 16 4 (Int32.ofInt (-1))) 17 (va_cpy ((sF (sF (sF (sF (sF s 16 0 z1) 16 1 z5) 16 2 z9) 16 3 z13) 16 4 (Int32.ofInt (-1))).1 3) ((sF (sF (sF (sF (sF s 16 0 z1) 16 1 z5) 16 2 z9) 16 3 z13) 16 4 (Int32.ofInt (-1))).1 17) (Int32.ofInt 0).toNatClampNeg (Int32.ofInt 0).toNatClampNeg (Int32.ofInt 32).toNatClampNeg)).1 4) ((sA (sF (sF (sF (sF (sF s 16 0 z1) 16 1 z5) 16 2 z9) 16 3 z13) 16 4 (Int32.ofInt (-1))) 17 (va_cpy ((sF (sF (sF (sF (sF s 16 0 z1) 16 1 z5) 16 2 z9) 16 3 z13) 16 4 (Int32.ofInt (-1))).1 3) ((sF (sF (sF (sF (sF s 16 0 z1) 16 1 z5) 16 2 z9) 16 3 z13) 16 4 (Int32.ofInt (-1))).1 17) (Int32.ofInt 0).toNatClampNeg (Int32.ofInt 0).toNatClampNeg (Int32.ofInt 32).toNatClampNeg)).1 18) (Int32.ofInt 0).toNatClampNeg (Int32.ofInt 0).toNatClampNeg (Int32.ofInt 160).toNatClampNeg)).1 5) ((sA (sA (sF (sF (sF (sF (sF s 16 0 z1) 16 1 z5) 16 2 z9) 16 3 z13) 16 4 (Int32.ofInt (-1))) 17 (va_cpy ((sF (sF (sF (sF (sF s 16 0 z1) 16 1 z5) 16 2 z9) 16 3 z13) 16 4 (Int32.ofInt (-1))).1 3) ((sF (sF (sF (sF (sF s 16 0 z1) 16 1 z5) 16 2 z9) 16 3 z13) 16 4 (Int32.ofInt (-1))).1 17) (Int32.ofInt 0).toNatClampNeg (Int32.ofInt 0).toNatClampNeg (Int32.ofInt 32).toNatClampNeg)) 18 (va_cpy ((sA (sF (sF (sF (sF (sF s 16 0 z1) 16 1 z5) 16 2 z9) 16 3 z13) 16 4 (Int32.ofInt (-1))) 17 (va_cpy ((sF (sF (sF (sF (sF s 16 0 z1) 16 1 z5) 16 2 z9) 16 3 z13) 16 4 (Int32.ofInt (-1))).1 3) ((sF (sF (sF (sF (sF s 16 0 z1) 16 1 z5) 16 2 z9) 16 3 z13) 16 4 (Int32.ofInt (-1))).1 17) (Int32.ofInt 0).toNatClampNeg (Int32.ofInt 0).toNatClampNeg (Int32.ofInt 32).toNatClampNeg)).1 4) ((sA (sF (sF (sF (sF (sF s 16 0 z1) 16 1 z5) 16 2 z9) 16 3 z13) 16 4 (Int32.ofInt (-1))) 17 (va_cpy ((sF (sF (sF (sF (sF s 16 0 z1) 16 1 z5) 16 2 z9) 16 3 z13) 16 4 (Int32.ofInt (-1))).1 3) ((sF (sF (sF (sF (sF s 16 0 z1) 16 1 z5) 16 2 z9) 16 3 z13) 16 4 (Int32.ofInt (-1))).1 17) (Int32.ofInt 0).toNatClampNeg (Int32.ofInt 0).toNatClampNeg (Int32.ofInt 32).toNatClampNeg)).1 18) (Int32.ofInt 0).toNatClampNeg (Int32.ofInt 0).toNatClampNeg (Int32.ofInt 160).toNatClampNeg)).1 19) (Int32.ofInt 0).toNatClampNeg (Int32.ofInt 0).toNatClampNeg (Int32.ofInt 160).toNatClampNeg)) 20 (va_cpy ((sA (sA (sA (sF (sF (sF (sF (sF s 16 0 z1) 16 1 z5) 16 2 z9) 16 3 z13) 16 4 (Int32.ofInt (-1))) 17 (va_cpy ((sF (sF (sF (sF (sF s 16 0 z1) 16 1 z5) 16 2 z9) 16 3 z13) 16 4 (Int32.ofInt (-1))).1 3) ((sF (sF (sF (sF (sF s 16 0 z1) 16 1 z5) 16 2 z9) 16 3 z13) 16 4 (Int32.ofInt (-1))).1 17) (Int32.ofInt 0).toNatClampNeg (Int32.ofInt 0).toNatClampNeg (Int32.ofInt 32).toNatClampNeg)) 18 (va_cpy ((sA (sF (sF (sF (sF (sF s 16 0 z1) 16 1 z5) 16 2 z9) 16 3 z13) 16 4 (Int32.ofInt (-1))) 17 (va_cpy ((sF (sF (sF (sF (sF s 16 0 z1) 16 1 z5) 16 2 z9) 16 3 z13) 16 4 (Int32.ofInt (-1))).1 3) ((sF (sF (sF (sF (sF s 16 0 z1) 16 1 z5) 16 2 z9) 16 3 z13) 16 4 (Int32.ofInt (-1))).1 17) (Int32.ofInt 0).toNatClampNeg (Int32.ofInt 0).toNatClampNeg (Int32.ofInt 32).toNatClampNeg)).1 4) ((sA (sF (sF (sF (sF (sF s 16 0 z1) 16 1 z5) 16 2 z9) 16 3 z13) 16 4 (Int32.ofInt (-1))) 17 (va_cpy ((sF (sF (sF (sF (sF s 16 0 z1) 16 1 z5) 16 2 z9) 16 3 z13) 16 4 (Int32.ofInt (-1))).1 3) ((sF (sF (sF (sF (sF s 16 0 z1) 16 1 z5) 16 2 z9) 16 3 z13) 16 4 (Int32.ofInt (-1))).1 17) (Int32.ofInt 0).toNatClampNeg (Int32.ofInt 0).toNatClampNeg (Int32.ofInt 32).toNatClampNeg)).1 18) (Int32.ofInt 0).toNatClampNeg (Int32.ofInt 0).toNatClampNeg (Int32.ofInt 160).toNatClampNeg)) 19 (va_cpy ((sA (sA (sF (sF (sF (sF (sF s 16 0 z1) 16 1 z5) 16 2 z9) 16 3 z13) 16 4 (Int32.ofInt (-1))) 17 (va_cpy ((sF (sF (sF (sF (sF s 16 0 z1) 16 1 z5) 16 2 z9) 16 3 z13) 16 4 (Int32.ofInt (-1))).1 3) ((sF (sF (sF (sF (sF s 16 0 z1) 16 1 z5) 16 2 z9) 16 3 z13) 16 4 (Int32.ofInt (-1))).1 17) (Int32.ofInt 0).toNatClampNeg (Int32.ofInt 0).toNatClampNeg (Int32.ofInt 32).toNatClampNeg)) 18 (va_cpy ((sA (sF (sF (sF (sF (sF s 16 0 z1) 16 1 z5) 16 2 z9) 16 3 z13) 16 4 (Int32.ofInt (-1))) 17 (va_cpy ((sF (sF (sF (sF (sF s 16 0 z1) 16 1 z5) 16 2 z9) 16 3 z13) 16 4 (Int32.ofInt (-1))).1 3) ((sF (sF (sF (sF (sF s 16 0 z1) 16 1 z5) 16 2 z9) 16 3 z13) 16 4 (Int32.ofInt (-1))).1 17) (Int32.ofInt 0).toNatClampNeg (Int32.ofInt 0).toNatClampNeg (Int32.ofInt 32).toNatClampNeg)).1 4) ((sA (sF (sF (sF (sF (sF s 16 0 z1) 16 1 z5) 16 2 z9) 16 3 z13) 16 4 (Int32.ofInt (-1))) 17 (va_cpy ((sF (sF (sF (sF (sF s 16 0 z1) 16 1 z5) 16 2 z9) 16 3 z13) 16 4 (Int32.ofInt (-1))).1 3) ((sF (sF (sF (sF (sF s 16 0 z1) 16 1 z5) 16 2 z9) 16 3 z13) 16 4 (Int32.ofInt (-1))).1 17) (Int32.ofInt 0).toNatClampNeg (Int32.ofInt 0).toNatClampNeg (Int32.ofInt 32).toNatClampNeg)).1 18) (Int32.ofInt 0).toNatClampNeg (Int32.ofInt 0).toNatClampNeg (Int32.ofInt 160).toNatClampNeg)).1 5) ((sA (sA (sF (sF (sF (sF (sF s 16 0 z1) 16 1 z5) 16 2 z9) 16 3 z13) 16 4 (Int32.ofInt (-1))) 17 (va_cpy ((sF (sF (sF (sF (sF s 16 0 z1) 16 1 z5) 16 2 z9) 16 3 z13) 16 4 (Int32.ofInt (-1))).1 3) ((sF (sF (sF (sF (sF s 16 0 z1) 16 1 z5) 16 2 z9) 16 3 z13) 16 4 (Int32.ofInt (-1))).1 17) (Int32.ofInt 0).toNatClampNeg (Int32.ofInt 0).toNatClampNeg (Int32.ofInt 32).toNatClampNeg)) 18 (va_cpy ((sA (sF (sF (sF (sF (sF s 16 0 z1) 16 1 z5) 16 2 z9) 16 3 z13) 16 4 (Int32.ofInt (-1))) 17 (va_cpy ((sF (sF (sF (sF (sF s 16 0 z1) 16 1 z5) 16 2 z9) 16 3 z13) 16 4 (Int32.ofInt (-1))).1 3) ((sF (sF (sF (sF (sF s 16 0 z1) 16 1 z5) 16 2 z9) 16 3 z13) 16 4 (Int32.ofInt (-1))).1 17) (Int32.ofInt 0).toNatClampNeg (Int32.ofInt 0).toNatClampNeg (Int32.ofInt 32).toNatClampNeg)).1 4) ((sA (sF (sF (sF (sF (sF s 16 0 z1) 16 1 z5) 16 2 z9) 16 3 z13) 16 4 (Int32.ofInt (-1))) 17 (va_cpy ((sF (sF (sF (sF (sF s 16 0 z1) 16 1 z5) 16 2 z9) 16 3 z13) 16 4 (Int32.ofInt (-1))).1 3) ((sF (sF (sF (sF (sF s 16 0 z1) 16 1 z5) 16 2 z9) 16 3 z13) 16 4 (Int32.ofInt (-1))).1 17) (Int32.ofInt 0).toNatClampNeg (Int32.ofInt 0).toNatClampNeg (Int32.ofInt 32).toNatClampNeg)).1 18) (Int32.ofInt 0).toNatClampNeg (Int32.ofInt 0).toNatClampNeg (Int32.ofInt 160).toNatClampNeg)).1 19) (Int32.ofInt 0).toNatClampNeg (Int32.ofInt 0).toNatClampNeg (Int32.ofInt 160).toNatClampNeg)).1 6) ((sA (sA (sA (sF (sF (sF (sF (sF s 16 0 z1) 16 1 z5) 16 2 z9) 16 3 z13) 16 4 (Int32.ofInt (-1))) 17 (va_cpy ((sF (sF (sF (sF (sF s 16 0 z1) 16 1 z5) 16 2 z9) 16 3 z13) 16 4 (Int32.ofInt (-1))).1 3) ((sF (sF (sF (sF (sF s 16 0 z1) 16 1 z5) 16 2 z9) 16 3 z13) 16 4 (Int32.ofInt (-1))).1 17) (Int32.ofInt 0).toNatClampNeg (Int32.ofInt 0).toNatClampNeg (Int32.ofInt 32).toNatClampNeg)) 18 (va_cpy ((sA (sF (sF (sF (sF (sF s 16 0 z1) 16 1 z5) 16 2 z9) 16 3 z13) 16 4 (Int32.ofInt (-1))) 17 (va_cpy ((sF (sF (sF (sF (sF s 16 0 z1) 16 1 z5) 16 2 z9) 16 3 z13) 16 4 (Int32.ofInt (-1))).1 3) ((sF (sF (sF (sF (sF s 16 0 z1) 16 1 z5) 16 2 z9) 16 3 z13) 16 4 (Int32.ofInt (-1))).1 17) (Int32.ofInt 0).toNatClampNeg (Int32.ofInt 0).toNatClampNeg (Int32.ofInt 32).toNatClampNeg)).1 4) ((sA (sF (sF (sF (sF (sF s 16 0 z1) 16 1 z5) 16 2 z9) 16 3 z13) 16 4 (Int32.ofInt (-1))) 17 (va_cpy ((sF (sF (sF (sF (sF s 16 0 z1) 16 1 z5) 16 2 z9) 16 3 z13) 16 4 (Int32.ofInt (-1))).1 3) ((sF (sF (sF (sF (sF s 16 0 z1) 16 1 z5) 16 2 z9) 16 3 z13) 16 4 (Int32.ofInt (-1))).1 17) (Int32.ofInt 0).toNatClampNeg (Int32.ofInt 0).toNatClampNeg (Int32.ofInt 32).toNatClampNeg)).1 18) (Int32.ofInt 0).toNatClampNeg (Int32.ofInt 0).toNatClampNeg (Int32.ofInt 160).toNatClampNeg)) 19 (va_cpy ((sA (sA (sF (sF (sF (sF (sF s 16 0 z1) 16 1 z5) 16 2 z9) 16 3 z13) 16 4 (Int32.ofInt (-1))) 17 (va_cpy ((sF (sF (sF (sF (sF s 16 0 z1) 16 1 z5) 16 2 z9) 16 3 z13) 16 4 (Int32.ofInt (-1))).1 3) ((sF (sF (sF (sF (sF s 16 0 z1) 16 1 z5) 16 2 z9) 16 3 z13) 16 4 (Int32.ofInt (-1))).1 17) (Int32.ofInt 0).toNatClampNeg (Int32.ofInt 0).toNatClampNeg (Int32.ofInt 32).toNatClampNeg)) 18 (va_cpy ((sA (sF (sF (sF (sF (sF s 16 0 z1) 16 1 z5) 16 2 z9) 16 3 z13) 16 4 (Int32.ofInt (-1))) 17 (va_cpy ((sF (sF (sF (sF (sF s 16 0 z1) 16 1 z5) 16 2 z9) 16 3 z13) 16 4 (Int32.ofInt (-1))).1 3) ((sF (sF (sF (sF (sF s 16 0 z1) 16 1 z5) 16 2 z9) 16 3 z13) 16 4 (Int32.ofInt (-1))).1 17) (Int32.ofInt 0).toNatClampNeg (Int32.ofInt 0).toNatClampNeg (Int32.ofInt 32).toNatClampNeg)).1 4) ((sA (sF (sF (sF (sF (sF s 16 0 z1) 16 1 z5) 16 2 z9) 16 3 z13) 16 4 (Int32.ofInt (-1))) 17 (va_cpy ((sF (sF (sF (sF (sF s 16 0 z1) 16 1 z5) 16 2 z9) 16 3 z13) 16 4 (Int32.ofInt (-1))).1 3) ((sF (sF (sF (sF (sF s 16 0 z1) 16 1 z5) 16 2 z9) 16 3 z13) 16 4 (Int32.ofInt (-1))).1 17) (Int32.ofInt 0).toNatClampNeg (Int32.ofInt 0).toNatClampNeg (Int32.ofInt 32).toNatClampNeg)).1 18) (Int32.ofInt 0).toNatClampNeg (Int32.ofInt 0).toNatClampNeg (Int32.ofInt 160).toNatClampNeg)).1 5) ((sA (sA (sF (sF (sF (sF (sF s 16 0 z1) 16 1 z5) 16 2 z9) 16 3 z13) 16 4 (Int32.ofInt (-1))) 17 (va_cpy ((sF (sF (sF (sF (sF s 16 0 z1) 16 1 z5) 16 2 z9) 16 3 z13) 16 4 (Int32.ofInt (-1))).1 3) ((sF (sF (sF (sF (sF s 16 0 z1) 16 1 z5) 16 2 z9) 16 3 z13) 16 4 (Int32.ofInt (-1))).1 17) (Int32.ofInt 0).toNatClampNeg (Int32.ofInt 0).toNatClampNeg (Int32.ofInt 32).toNatClampNeg)) 18 (va_cpy ((sA (sF (sF (sF (sF (sF s 16 0 z1) 16 1 z5) 16 2 z9) 16 3 z13) 16 4 (Int32.ofInt (-1))) 17 (va_cpy ((sF (sF (sF (sF (sF s 16 0 z1) 16 1 z5) 16 2 z9) 16 3 z13) 16 4 (Int32.ofInt (-1))).1 3) ((sF (sF (sF (sF (sF s 16 0 z1) 16 1 z5) 16 2 z9) 16 3 z13) 16 4 (Int32.ofInt (-1))).1 17) (Int32.ofInt 0).toNatClampNeg (Int32.ofInt 0).toNatClampNeg (Int32.ofInt 32).toNatClampNeg)).1 4) ((sA (sF (sF (sF (sF (sF s 16 0 z1) 16 1 z5) 16 2 z9) 16 3 z13) 16 4 (Int32.ofInt (-1))) 17 (va_cpy ((sF (sF (sF (sF (sF s 16 0 z1) 16 1 z5) 16 2 z9) 16 3 z13) 16 4 (Int32.ofInt (-1))).1 3) ((sF (sF (sF (sF (sF s 16 0 z1) 16 1 z5) 16 2 z9) 16 3 z13) 16 4 (Int32.ofInt (-1))).1 17) (Int32.ofInt 0).toNatClampNeg (Int32.ofInt 0).toNatClampNeg (Int32.ofInt 32).toNatClampNeg)).1 18) (Int32.ofInt 0).toNatClampNeg (Int32.ofInt 0).toNatClampNeg (Int32.ofInt 160).toNatClampNeg)).1 19) (Int32.ofInt 0).toNatClampNeg (Int32.ofInt 0).toNatClampNeg (Int32.ofInt 160).toNatClampNeg)).1 20) (Int32.ofInt 0).toNatClampNeg (Int32.ofInt 0).toNatClampNeg (Int32.ofInt 160).toNatClampNeg)) 21 (va_cpy ((sA (sA (sA (sA (sF (sF (sF (sF (sF s 16 0 z1) 16 1 z5) 16 2 z9) 16 3 z13) 16 4 (Int32.ofInt (-1))) 17 (va_cpy ((sF (sF (sF (sF (sF s 16 0 z1) 16 1 z5) 16 2 z9) 16 3 z13) 16 4 (Int32.ofInt (-1))).1 3) ((sF (sF (sF (sF (sF s 16 0 z1) 16 1 z5) 16 2 z9) 16 3 z13) 16 4 (Int32.ofInt (-1))).1 17) (Int32.ofInt 0).toNatClampNeg (Int32.ofInt 0).toNatClampNeg (Int32.ofInt 32).toNatClampNeg)) 18 (va_cpy ((sA (sF (sF (sF (sF (sF s 16 0 z1) 16 1 z5) 16 2 z9) 16 3 z13) 16 4 (Int32.ofInt (-1))) 17 (va_cpy ((sF (sF (sF (sF (sF s 16 0 z1) 16 1 z5) 16 2 z9) 16 3 z13) 16 4 (Int32.ofInt (-1))).1 3) ((sF (sF (sF (sF (sF s 16 0 z1) 16 1 z5) 16 2 z9) 16 3 z13) 16 4 (Int32.ofInt (-1))).1 17) (Int32.ofInt 0).toNatClampNeg (Int32.ofInt 0).toNatClampNeg (Int32.ofInt 32).toNatClampNeg)).1 4) ((sA (sF (sF (sF (sF (sF s 16 0 z1) 16 1 z5) 16 2 z9) 16 3 z13) 16 4 (Int32.ofInt (-1))) 17 (va_cpy ((sF (sF (sF (sF (sF s 16 0 z1) 16 1 z5) 16 2 z9) 16 3 z13) 16 4 (Int32.ofInt (-1))).1 3) ((sF (sF (sF (sF (sF s 16 0 z1) 16 1 z5) 16 2 z9) 16 3 z13) 16 4 (Int32.ofInt (-1))).1 17) (Int32.ofInt 0).toNatClampNeg (Int32.ofInt 0).toNatClampNeg (Int32.ofInt 32).toNatClampNeg)).1 18) (Int32.ofInt 0).toNatClampNeg (Int32.ofInt 0).toNatClampNeg (Int32.ofInt 160).toNatClampNeg)) 19 (va_cpy ((sA (sA (sF (sF (sF (sF (sF s 16 0 z1) 16 1 z5) 16 2 z9) 16 3 z13) 16 4 (Int32.ofInt (-1))) 17 (va_cpy ((sF (sF (sF (sF (sF s 16 0 z1) 16 1 z5) 16 2 z9) 16 3 z13) 16 4 (Int32.ofInt (-1))).1 3) ((sF (sF (sF (sF (sF s 16 0 z1) 16 1 z5) 16 2 z9) 16 3 z13) 16 4 (Int32.ofInt (-1))).1 17) (Int32.ofInt 0).toNatClampNeg (Int32.ofInt 0).toNatClampNeg (Int32.ofInt 32).toNatClampNeg)) 18 (va_cpy ((sA (sF (sF (sF (sF (sF s 16 0 z1) 16 1 z5) 16 2 z9) 16 3 z13) 16 4 (Int32.ofInt (-1))) 17 (va_cpy ((sF (sF (sF (sF (sF s 16 0 z1) 16 1 z5) 16 2 z9) 16 3 z13) 16 4 (Int32.ofInt (-1))).1 3) ((sF (sF (sF (sF (sF s 16 0 z1) 16 1 z5) 16 2 z9) 16 3 z13) 16 4 (Int32.ofInt (-1))).1 17) (Int32.ofInt 0).toNatClampNeg (Int32.ofInt 0).toNatClampNeg (Int32.ofInt 32).toNatClampNeg)).1 4) ((sA (sF (sF (sF (sF (sF s 16 0 z1) 16 1 z5) 16 2 z9) 16 3 z13) 16 4 (Int32.ofInt (-1))) 17 (va_cpy ((sF (sF (sF (sF (sF s 16 0 z1) 16 1 z5) 16 2 z9) 16 3 z13) 16 4 (Int32.ofInt (-1))).1 3) ((sF (sF (sF (sF (sF s 16 0 z1) 16 1 z5) 16 2 z9) 16 3 z13) 16 4 (Int32.ofInt (-1))).1 17) (Int32.ofInt 0).toNatClampNeg (Int32.ofInt 0).toNatClampNeg (Int32.ofInt 32).toNatClampNeg)).1 18) (Int32.ofInt 0).toNatClampNeg (Int32.ofInt 0).toNatClampNeg (Int32.ofInt 160).toNatClampNeg)).1 5) ((sA (sA (sF (sF (sF (sF (sF s 16 0 z1) 16 1 z5) 16 2 z9) 16 3 z13) 16 4 (Int32.ofInt (-1))) 17 (va_cpy ((sF (sF (sF (sF (sF s 16 0 z1) 16 1 z5) 16 2 z9) 16 3 z13) 16 4 (Int32.ofInt (-1))).1 3) ((sF (sF (sF (sF (sF s 16 0 z1) 16 1 z5) 16 2 z9) 16 3 z13) 16 4 (Int32.ofInt (-1))).1 17) (Int32.ofInt 0).toNatClampNeg (Int32.ofInt 0).toNatClampNeg (Int32.ofInt 32).toNatClampNeg)) 18 (va_cpy ((sA (sF (sF (sF (sF (sF s 16 0 z1) 16 1 z5) 16 2 z9) 16 3 z13) 16 4 (Int32.ofInt (-1))) 17 (va_cpy ((sF (sF (sF (sF (sF s 16 0 z1) 16 1 z5) 16 2 z9) 16 3 z13) 16 4 (Int32.ofInt (-1))).1 3) ((sF (sF (sF (sF (sF s 16 0 z1) 16 1 z5) 16 2 z9) 16 3 z13) 16 4 (Int32.ofInt (-1))).1 17) (Int32.ofInt 0).toNatClampNeg (Int32.ofInt 0).toNatClampNeg (Int32.ofInt 32).toNatClampNeg)).1 4) ((sA (sF (sF (sF (sF (sF s 16 0 z1) 16 1 z5) 16 2 z9) 16 3 z13) 16 4 (Int32.ofInt (-1))) 17 (va_cpy ((sF (sF (sF (sF (sF s 16 0 z1) 16 1 z5) 16 2 z9) 16 3 z13) 16 4 (Int32.ofInt (-1))).1 3) ((sF (sF (sF (sF (sF s 16 0 z1) 16 1 z5) 16 2 z9) 16 3 z13) 16 4 (Int32.ofInt (-1))).1 17) (Int32.ofInt 0).toNatClampNeg (Int32.ofInt 0).toNatClampNeg (Int32.ofInt 32).toNatClampNeg)).1 18) (Int32.ofInt 0).toNatClampNeg (Int32.ofInt 0).toNatClampNeg (Int32.ofInt 160).toNatClampNeg)).1 19) (Int32.ofInt 0).toNatClampNeg (Int32.ofInt 0).toNatClampNeg (Int32.ofInt 160).toNatClampNeg)) 20 (va_cpy ((sA (sA (sA (sF (sF (sF (sF (sF s 16 0 z1) 16 1 z5) 16 2 z9) 16 3 z13) 16 4 (Int32.ofInt (-1))) 17 (va_cpy ((sF (sF (sF (sF (sF s 16 0 z1) 16 1 z5) 16 2 z9) 16 3 z13) 16 4 (Int32.ofInt (-1))).1 3) ((sF (sF (sF (sF (sF s 16 0 z1) 16 1 z5) 16 2 z9) 16 3 z13) 16 4 (Int32.ofInt (-1))).1 17) (Int32.ofInt 0).toNatClampNeg (Int32.ofInt 0).toNatClampNeg (Int32.ofInt 32).toNatClampNeg)) 18 (va_cpy ((sA (sF (sF (sF (sF (sF s 16 0 z1) 16 1 z5) 16 2 z9) 16 3 z13) 16 4 (Int32.ofInt (-1))) 17 (va_cpy ((sF (sF (sF (sF (sF s 16 0 z1) 16 1 z5) 16 2 z9) 16 3 z13) 16 4 (Int32.ofInt (-1))).1 3) ((sF (sF (sF (sF (sF s 16 0 z1) 16 1 z5) 16 2 z9) 16 3 z13) 16 4 (Int32.ofInt (-1))).1 17) (Int32.ofInt 0).toNatClampNeg (Int32.ofInt 0).toNatClampNeg (Int32.ofInt 32).toNatClampNeg)).1 4) ((sA (sF (sF (sF (sF (sF s 16 0 z1) 16 1 z5) 16 2 z9) 16 3 z13) 16 4 (Int32.ofInt (-1))) 17 (va_cpy ((sF (sF (sF (sF (sF s 16 0 z1) 16 1 z5) 16 2 z9) 16 3 z13) 16 4 (Int32.ofInt (-1))).1 3) ((sF (sF (sF (sF (sF s 16 0 z1) 16 1 z5) 16 2 z9) 16 3 z13) 16 4 (Int32.ofInt (-1))).1 17) (Int32.ofInt 0).toNatClampNeg (Int32.ofInt 0).toNatClampNeg (Int32.ofInt 32).toNatClampNeg)).1 18) (Int32.ofInt 0).toNatClampNeg (Int32.ofInt 0).toNatClampNeg (Int32.ofInt 160).toNatClampNeg)) 19 (va_cpy ((sA (sA (sF (sF (sF (sF (sF s 16 0 z1) 16 1 z5) 16 2 z9) 16 3 z13) 16 4 (Int32.ofInt (-1))) 17 (va_cpy ((sF (sF (sF (sF (sF s 16 0 z1) 16 1 z5) 16 2 z9) 16 3 z13) 16 4 (Int32.ofInt (-1))).1 3) ((sF (sF (sF (sF (sF s 16 0 z1) 16 1 z5) 16 2 z9) 16 3 z13) 16 4 (Int32.ofInt (-1))).1 17) (Int32.ofInt 0).toNatClampNeg (Int32.ofInt 0).toNatClampNeg (Int32.ofInt 32).toNatClampNeg)) 18 (va_cpy ((sA (sF (sF (sF (sF (sF s 16 0 z1) 16 1 z5) 16 2 z9) 16 3 z13) 16 4 (Int32.ofInt (-1))) 17 (va_cpy ((sF (sF (sF (sF (sF s 16 0 z1) 16 1 z5) 16 2 z9) 16 3 z13) 16 4 (Int32.ofInt (-1))).1 3) ((sF (sF (sF (sF (sF s 16 0 z1) 16 1 z5) 16 2 z9) 16 3 z13) 16 4 (Int32.ofInt (-1))).1 17) (Int32.ofInt 0).toNatClampNeg (Int32.ofInt 0).toNatClampNeg (Int32.ofInt 32).toNatClampNeg)).1 4) ((sA (sF (sF (sF (sF (sF s 16 0 z1) 16 1 z5) 16 2 z9) 16 3 z13) 16 4 (Int32.ofInt (-1))) 17 (va_cpy ((sF (sF (sF (sF (sF s 16 0 z1) 16 1 z5) 16 2 z9) 16 3 z13) 16 4 (Int32.ofInt (-1))).1 3) ((sF (sF (sF (sF (sF s 16 0 z1) 16 1 z5) 16 2 z9) 16 3 z13) 16 4 (Int32.ofInt (-1))).1 17) (Int32.ofInt 0).toNatClampNeg (Int32.ofInt 0).toNatClampNeg (Int32.ofInt 32).toNatClampNeg)).1 18) (Int32.ofInt 0).toNatClampNeg (Int32.ofInt 0).toNatClampNeg (Int32.ofInt 160).toNatClampNeg)).1 5) ((sA (sA (sF (sF (sF (sF (sF s 16 0 z1) 16 1 z5) 16 2 z9) 16 3 z13) 16 4 (Int32.ofInt (-1))) 17 (va_cpy ((sF (sF (sF (sF (sF s 16 0 z1) 16 1 z5) 16 2 z9) 16 3 z13) 16 4 (Int32.ofInt (-1))).1 3) ((sF (sF (sF (sF (sF s 16 0 z1) 16 1 z5) 16 2 z9) 16 3 z13) 16 4 (Int32.ofInt (-1))).1 17) (Int32.ofInt 0).toNatClampNeg (Int32.ofInt 0).toNatClampNeg (Int32.ofInt 32).toNatClampNeg)) 18 (va_cpy ((sA (sF (sF (sF (sF (sF s 16 0 z1) 16 1 z5) 16 2 z9) 16 3 z13) 16 4 (Int32.ofInt (-1))) 17 (va_cpy ((sF (sF (sF (sF (sF s 16 0 z1) 16 1 z5) 16 2 z9) 16 3 z13) 16 4 (Int32.ofInt (-1))).1 3) ((sF (sF (sF (sF (sF s 16 0 z1) 16 1 z5) 16 2 z9) 16 3 z13) 16 4 (Int32.ofInt (-1))).1 17) (Int32.ofInt 0).toNatClampNeg (Int32.ofInt 0).toNatClampNeg (Int32.ofInt 32).toNatClampNeg)).1 4) ((sA (sF (sF (sF (sF (sF s 16 0 z1) 16 1 z5) 16 2 z9) 16 3 z13) 16 4 (Int32.ofInt (-1))) 17 (va_cpy ((sF (sF (sF (sF (sF s 16 0 z1) 16 1 z5) 16 2 z9) 16 3 z13) 16 4 (Int32.ofInt (-1))).1 3) ((sF (sF (sF (sF (sF s 16 0 z1) 16 1 z5) 16 2 z9) 16 3 z13) 16 4 (Int32.ofInt (-1))).1 17) (Int32.ofInt 0).toNatClampNeg (Int32.ofInt 0).toNatClampNeg (Int32.ofInt 32).toNatClampNeg)).1 18) (Int32.ofInt 0).toNatClampNeg (Int32.ofInt 0).toNatClampNeg (Int32.ofInt 160).toNatClampNeg)).1 19) (Int32.ofInt 0).toNatClampNeg (Int32.ofInt 0).toNatClampNeg (Int32.ofInt 160).toNatClampNeg)).1 6) ((sA (sA (sA (sF (sF (sF (sF (sF s 16 0 z1) 16 1 z5) 16 2 z9) 16 3 z13) 16 4 (Int32.ofInt (-1))) 17 (va_cpy ((sF (sF (sF (sF (sF s 16 0 z1) 16 1 z5) 16 2 z9) 16 3 z13) 16 4 (Int32.ofInt (-1))).1 3) ((sF (sF (sF (sF (sF s 16 0 z1) 16 1 z5) 16 2 z9) 16 3 z13) 16 4 (Int32.ofInt (-1))).1 17) (Int32.ofInt 0).toNatClampNeg (Int32.ofInt 0).toNatClampNeg (Int32.ofInt 32).toNatClampNeg)) 18 (va_cpy ((sA (sF (sF (sF (sF (sF s 16 0 z1) 16 1 z5) 16 2 z9) 16 3 z13) 16 4 (Int32.ofInt (-1))) 17 (va_cpy ((sF (sF (sF (sF (sF s 16 0 z1) 16 1 z5) 16 2 z9) 16 3 z13) 16 4 (Int32.ofInt (-1))).1 3) ((sF (sF (sF (sF (sF s 16 0 z1) 16 1 z5) 16 2 z9) 16 3 z13) 16 4 (Int32.ofInt (-1))).1 17) (Int32.ofInt 0).toNatClampNeg (Int32.ofInt 0).toNatClampNeg (Int32.ofInt 32).toNatClampNeg)).1 4) ((sA (sF (sF (sF (sF (sF s 16 0 z1) 16 1 z5) 16 2 z9) 16 3 z13) 16 4 (Int32.ofInt (-1))) 17 (va_cpy ((sF (sF (sF (sF (sF s 16 0 z1) 16 1 z5) 16 2 z9) 16 3 z13) 16 4 (Int32.ofInt (-1))).1 3) ((sF (sF (sF (sF (sF s 16 0 z1) 16 1 z5) 16 2 z9) 16 3 z13) 16 4 (Int32.ofInt (-1))).1 17) (Int32.ofInt 0).toNatClampNeg (Int32.ofInt 0).toNatClampNeg (Int32.ofInt 32).toNatClampNeg)).1 18) (Int32.ofInt 0).toNatClampNeg (Int32.ofInt 0).toNatClampNeg (Int32.ofInt 160).toNatClampNeg)) 19 (va_cpy ((sA (sA (sF (sF (sF (sF (sF s 16 0 z1) 16 1 z5) 16 2 z9) 16 3 z13) 16 4 (Int32.ofInt (-1))) 17 (va_cpy ((sF (sF (sF (sF (sF s 16 0 z1) 16 1 z5) 16 2 z9) 16 3 z13) 16 4 (Int32.ofInt (-1))).1 3) ((sF (sF (sF (sF (sF s 16 0 z1) 16 1 z5) 16 2 z9) 16 3 z13) 16 4 (Int32.ofInt (-1))).1 17) (Int32.ofInt 0).toNatClampNeg (Int32.ofInt 0).toNatClampNeg (Int32.ofInt 32).toNatClampNeg)) 18 (va_cpy ((sA (sF (sF (sF (sF (sF s 16 0 z1) 16 1 z5) 16 2 z9) 16 3 z13) 16 4 (Int32.ofInt (-1))) 17 (va_cpy ((sF (sF (sF (sF (sF s 16 0 z1) 16 1 z5) 16 2 z9) 16 3 z13) 16 4 (Int32.ofInt (-1))).1 3) ((sF (sF (sF (sF (sF s 16 0 z1) 16 1 z5) 16 2 z9) 16 3 z13) 16 4 (Int32.ofInt (-1))).1 17) (Int32.ofInt 0).toNatClampNeg (Int32.ofInt 0).toNatClampNeg (Int32.ofInt 32).toNatClampNeg)).1 4) ((sA (sF (sF (sF (sF (sF s 16 0 z1) 16 1 z5) 16 2 z9) 16 3 z13) 16 4 (Int32.ofInt (-1))) 17 (va_cpy ((sF (sF (sF (sF (sF s 16 0 z1) 16 1 z5) 16 2 z9) 16 3 z13) 16 4 (Int32.ofInt (-1))).1 3) ((sF (sF (sF (sF (sF s 16 0 z1) 16 1 z5) 16 2 z9) 16 3 z13) 16 4 (Int32.ofInt (-1))).1 17) (Int32.ofInt 0).toNatClampNeg (Int32.ofInt 0).toNatClampNeg (Int32.ofInt 32).toNatClampNeg)).1 18) (Int32.ofInt 0).toNatClampNeg (Int32.ofInt 0).toNatClampNeg (Int32.ofInt 160).toNatClampNeg)).1 5) ((sA (sA (sF (sF (sF (sF (sF s 16 0 z1) 16 1 z5) 16 2 z9) 16 3 z13) 16 4 (Int32.ofInt (-1))) 17 (va_cpy ((sF (sF (sF (sF (sF s 16 0 z1) 16 1 z5) 16 2 z9) 16 3 z13) 16 4 (Int32.ofInt (-1))).1 3) ((sF (sF (sF (sF (sF s 16 0 z1) 16 1 z5) 16 2 z9) 16 3 z13) 16 4 (Int32.ofInt (-1))).1 17) (Int32.ofInt 0).toNatClampNeg (Int32.ofInt 0).toNatClampNeg (Int32.ofInt 32).toNatClampNeg)) 18 (va_cpy ((sA (sF (sF (sF (sF (sF s 16 0 z1) 16 1 z5) 16 2 z9) 16 3 z13) 16 4 (Int32.ofInt (-1))) 17 (va_cpy ((sF (sF (sF (sF (sF s 16 0 z1) 16 1 z5) 16 2 z9) 16 3 z13) 16 4 (Int32.ofInt (-1))).1 3) ((sF (sF (sF (sF (sF s 16 0 z1) 16 1 z5) 16 2 z9) 16 3 z13) 16 4 (Int32.ofInt (-1))).1 17) (Int32.ofInt 0).toNatClampNeg (Int32.ofInt 0).toNatClampNeg (Int32.ofInt 32).toNatClampNeg)).1 4) ((sA (sF (sF (sF (sF (sF s 16 0 z1) 16 1 z5) 16 2 z9) 16 3 z13) 16 4 (Int32.ofInt (-1))) 17 (va_cpy ((sF (sF (sF (sF (sF s 16 0 z1) 16 1 z5) 16 2 z9) 16 3 z13) 16 4 (Int32.ofInt (-1))).1 3) ((sF (sF (sF (sF (sF s 16 0 z1) 16 1 z5) 16 2 z9) 16 3 z13) 16 4 (Int32.ofInt (-1))).1 17) (Int32.ofInt 0).toNatClampNeg (Int32.ofInt 0).toNatClampNeg (Int32.ofInt 32).toNatClampNeg)).1 18) (Int32.ofInt 0).toNatClampNeg (Int32.ofInt 0).toNatClampNeg (Int32.ofInt 160).toNatClampNeg)).1 19) (Int32.ofInt 0).toNatClampNeg (Int32.ofInt 0).toNatClampNeg (Int32.ofInt 160).toNatClampNeg)).1 20) (Int32.ofInt 0).toNatClampNeg (Int32.ofInt 0).toNatClampNeg (Int32.ofInt 160).toNatClampNeg)).1 7) ((sA (sA (sA (sA (sF (sF (sF (sF (sF s 16 0 z1) 16 1 z5) 16 2 z9) 16 3 z13) 16 4 (Int32.ofInt (-1))) 17 (va_cpy ((sF (sF (sF (sF (sF s 16 0 z1) 16 1 z5) 16 2 z9) 16 3 z13) 16 4 (Int32.ofInt (-1))).1 3) ((sF (sF (sF (sF (sF s 16 0 z1) 16 1 z5) 16 2 z9) 16 3 z13) 16 4 (Int32.ofInt (-1))).1 17) (Int32.ofInt 0).toNatClampNeg (Int32.ofInt 0).toNatClampNeg (Int32.ofInt 32).toNatClampNeg)) 18 (va_cpy ((sA (sF (sF (sF (sF (sF s 16 0 z1) 16 1 z5) 16 2 z9) 16 3 z13) 16 4 (Int32.ofInt (-1))) 17 (va_cpy ((sF (sF (sF (sF (sF s 16 0 z1) 16 1 z5) 16 2 z9) 16 3 z13) 16 4 (Int32.ofInt (-1))).1 3) ((sF (sF (sF (sF (sF s 16 0 z1) 16 1 z5) 16 2 z9) 16 3 z13) 16 4 (Int32.ofInt (-1))).1 17) (Int32.ofInt 0).toNatClampNeg (Int32.ofInt 0).toNatClampNeg (Int32.ofInt 32).toNatClampNeg)).1 4) ((sA (sF (sF (sF (sF (sF s 16 0 z1) 16 1 z5) 16 2 z9) 16 3 z13) 16 4 (Int32.ofInt (-1))) 17 (va_cpy ((sF (sF (sF (sF (sF s 16 0 z1) 16 1 z5) 16 2 z9) 16 3 z13) 16 4 (Int32.ofInt (-1))).1 3) ((sF (sF (sF (sF (sF s 16 0 z1) 16 1 z5) 16 2 z9) 16 3 z13) 16 4 (Int32.ofInt (-1))).1 17) (Int32.ofInt 0).toNatClampNeg (Int32.ofInt 0).toNatClampNeg (Int32.ofInt 32).toNatClampNeg)).1 18) (Int32.ofInt 0).toNatClampNeg (Int32.ofInt 0).toNatClampNeg (Int32.ofInt 160).toNatClampNeg)) 19 (va_cpy ((sA (sA (sF (sF (sF (sF (sF s 16 0 z1) 16 1 z5) 16 2 z9) 16 3 z13) 16 4 (Int32.ofInt (-1))) 17 (va_cpy ((sF (sF (sF (sF (sF s 16 0 z1) 16 1 z5) 16 2 z9) 16 3 z13) 16 4 (Int32.ofInt (-1))).1 3) ((sF (sF (sF (sF (sF s 16 0 z1) 16 1 z5) 16 2 z9) 16 3 z13) 16 4 (Int32.ofInt (-1))).1 17) (Int32.ofInt 0).toNatClampNeg (Int32.ofInt 0).toNatClampNeg (Int32.ofInt 32).toNatClampNeg)) 18 (va_cpy ((sA (sF (sF (sF (sF (sF s 16 0 z1) 16 1 z5) 16 2 z9) 16 3 z13) 16 4 (Int32.ofInt (-1))) 17 (va_cpy ((sF (sF (sF (sF (sF s 16 0 z1) 16 1 z5) 16 2 z9) 16 3 z13) 16 4 (Int32.ofInt (-1))).1 3) ((sF (sF (sF (sF (sF s 16 0 z1) 16 1 z5) 16 2 z9) 16 3 z13) 16 4 (Int32.ofInt (-1))).1 17) (Int32.ofInt 0).toNatClampNeg (Int32.ofInt 0).toNatClampNeg (Int32.ofInt 32).toNatClampNeg)).1 4) ((sA (sF (sF (sF (sF (sF s 16 0 z1) 16 1 z5) 16 2 z9) 16 3 z13) 16 4 (Int32.ofInt (-1))) 17 (va_cpy ((sF (sF (sF (sF (sF s 16 0 z1) 16 1 z5) 16 2 z9) 16 3 z13) 16 4 (Int32.ofInt (-1))).1 3) ((sF (sF (sF (sF (sF s 16 0 z1) 16 1 z5) 16 2 z9) 16 3 z13) 16 4 (Int32.ofInt (-1))).1 17) (Int32.ofInt 0).toNatClampNeg (Int32.ofInt 0).toNatClampNeg (Int32.ofInt 32).toNatClampNeg)).1 18) (Int32.ofInt 0).toNatClampNeg (Int32.ofInt 0).toNatClampNeg (Int32.ofInt 160).toNatClampNeg)).1 5) ((sA (sA (sF (sF (sF (sF (sF s 16 0 z1) 16 1 z5) 16 2 z9) 16 3 z13) 16 4 (Int32.ofInt (-1))) 17 (va_cpy ((sF (sF (sF (sF (sF s 16 0 z1) 16 1 z5) 16 2 z9) 16 3 z13) 16 4 (Int32.ofInt (-1))).1 3) ((sF (sF (sF (sF (sF s 16 0 z1) 16 1 z5) 16 2 z9) 16 3 z13) 16 4 (Int32.ofInt (-1))).1 17) (Int32.ofInt 0).toNatClampNeg (Int32.ofInt 0).toNatClampNeg (Int32.ofInt 32).toNatClampNeg)) 18 (va_cpy ((sA (sF (sF (sF (sF (sF s 16 0 z1) 16 1 z5) 16 2 z9) 16 3 z13) 16 4 (Int32.ofInt (-1))) 17 (va_cpy ((sF (sF (sF (sF (sF s 16 0 z1) 16 1 z5) 16 2 z9) 16 3 z13) 16 4 (Int32.ofInt (-1))).1 3) ((sF (sF (sF (sF (sF s 16 0 z1) 16 1 z5) 16 2 z9) 16 3 z13) 16 4 (Int32.ofInt (-1))).1 17) (Int32.ofInt 0).toNatClampNeg (Int32.ofInt 0).toNatClampNeg (Int32.ofInt 32).toNatClampNeg)).1 4) ((sA (sF (sF (sF (sF (sF s 16 0 z1) 16 1 z5) 16 2 z9) 16 3 z13) 16 4 (Int32.ofInt (-1))) 17 (va_cpy ((sF (sF (sF (sF (sF s 16 0 z1) 16 1 z5) 16 2 z9) 16 3 z13) 16 4 (Int32.ofInt (-1))).1 3) ((sF (sF (sF (sF (sF s 16 0 z1) 16 1 z5) 16 2 z9) 16 3 z13) 16 4 (Int32.ofInt (-1))).1 17) (Int32.ofInt 0).toNatClampNeg (Int32.ofInt 0).toNatClampNeg (Int32.ofInt 32).toNatClampNeg)).1 18) (Int32.ofInt 0).toNatClampNeg (Int32.ofInt 0).toNatClampNeg (Int32.ofInt 160).toNatClampNeg)).1 19) (Int32.ofInt 0).toNatClampNeg (Int32.ofInt 0).toNatClampNeg (Int32.ofInt 160).toNatClampNeg)) 20 (va_cpy ((sA (sA (sA (sF (sF (sF (sF (sF s 16 0 z1) 16 1 z5) 16 2 z9) 16 3 z13) 16 4 (Int32.ofInt (-1))) 17 (va_cpy ((sF (sF (sF (sF (sF s 16 0 z1) 16 1 z5) 16 2 z9) 16 3 z13) 16 4 (Int32.ofInt (-1))).1 3) ((sF (sF (sF (sF (sF s 16 0 z1) 16 1 z5) 16 2 z9) 16 3 z13) 16 4 (Int32.ofInt (-1))).1 17) (Int32.ofInt 0).toNatClampNeg (Int32.ofInt 0).toNatClampNeg (Int32.ofInt 32).toNatClampNeg)) 18 (va_cpy ((sA (sF (sF (sF (sF (sF s 16 0 z1) 16 1 z5) 16 2 z9) 16 3 z13) 16 4 (Int32.ofInt (-1))) 17 (va_cpy ((sF (sF (sF (sF (sF s 16 0 z1) 16 1 z5) 16 2 z9) 16 3 z13) 16 4 (Int32.ofInt (-1))).1 3) ((sF (sF (sF (sF (sF s 16 0 z1) 16 1 z5) 16 2 z9) 16 3 z13) 16 4 (Int32.ofInt (-1))).1 17) (Int32.ofInt 0).toNatClampNeg (Int32.ofInt 0).toNatClampNeg (Int32.ofInt 32).toNatClampNeg)).1 4) ((sA (sF (sF (sF (sF (sF s 16 0 z1) 16 1 z5) 16 2 z9) 16 3 z13) 16 4 (Int32.ofInt (-1))) 17 (va_cpy ((sF (sF (sF (sF (sF s 16 0 z1) 16 1 z5) 16 2 z9) 16 3 z13) 16 4 (Int32.ofInt (-1))).1 3) ((sF (sF (sF (sF (sF s 16 0 z1) 16 1 z5) 16 2 z9) 16 3 z13) 16 4 (Int32.ofInt (-1))).1 17) (Int32.ofInt 0).toNatClampNeg (Int32.ofInt 0).toNatClampNeg (Int32.ofInt 32).toNatClampNeg)).1 18) (Int32.ofInt 0).toNatClampNeg (Int32.ofInt 0).toNatClampNeg (Int32.ofInt 160).toNatClampNeg)) 19 (va_cpy ((sA (sA (sF (sF (sF (sF (sF s 16 0 z1) 16 1 z5) 16 2 z9) 16 3 z13) 16 4 (Int32.ofInt (-1))) 17 (va_cpy ((sF (sF (sF (sF (sF s 16 0 z1) 16 1 z5) 16 2 z9) 16 3 z13) 16 4 (Int32.ofInt (-1))).1 3) ((sF (sF (sF (sF (sF s 16 0 z1) 16 1 z5) 16 2 z9) 16 3 z13) 16 4 (Int32.ofInt (-1))).1 17) (Int32.ofInt 0).toNatClampNeg (Int32.ofInt 0).toNatClampNeg (Int32.ofInt 32).toNatClampNeg)) 18 (va_cpy ((sA (sF (sF (sF (sF (sF s 16 0 z1) 16 1 z5) 16 2 z9) 16 3 z13) 16 4 (Int32.ofInt (-1))) 17 (va_cpy ((sF (sF (sF (sF (sF s 16 0 z1) 16 1 z5) 16 2 z9) 16 3 z13) 16 4 (Int32.ofInt (-1))).1 3) ((sF (sF (sF (sF (sF s 16 0 z1) 16 1 z5) 16 2 z9) 16 3 z13) 16 4 (Int32.ofInt (-1))).1 17) (Int32.ofInt 0).toNatClampNeg (Int32.ofInt 0).toNatClampNeg (Int32.ofInt 32).toNatClampNeg)).1 4) ((sA (sF (sF (sF (sF (sF s 16 0 z1) 16 1 z5) 16 2 z9) 16 3 z13) 16 4 (Int32.ofInt (-1))) 17 (va_cpy ((sF (sF (sF (sF (sF s 16 0 z1) 16 1 z5) 16 2 z9) 16 3 z13) 16 4 (Int32.ofInt (-1))).1 3) ((sF (sF (sF (sF (sF s 16 0 z1) 16 1 z5) 16 2 z9) 16 3 z13) 16 4 (Int32.ofInt (-1))).1 17) (Int32.ofInt 0).toNatClampNeg (Int32.ofInt 0).toNatClampNeg (Int32.ofInt 32).toNatClampNeg)).1 18) (Int32.ofInt 0).toNatClampNeg (Int32.ofInt 0).toNatClampNeg (Int32.ofInt 160).toNatClampNeg)).1 5) ((sA (sA (sF (sF (sF (sF (sF s 16 0 z1) 16 1 z5) 16 2 z9) 16 3 z13) 16 4 (Int32.ofInt (-1))) 17 (va_cpy ((sF (sF (sF (sF (sF s 16 0 z1) 16 1 z5) 16 2 z9) 16 3 z13) 16 4 (Int32.ofInt (-1))).1 3) ((sF (sF (sF (sF (sF s 16 0 z1) 16 1 z5) 16 2 z9) 16 3 z13) 16 4 (Int32.ofInt (-1))).1 17) (Int32.ofInt 0).toNatClampNeg (Int32.ofInt 0).toNatClampNeg (Int32.ofInt 32).toNatClampNeg)) 18 (va_cpy ((sA (sF (sF (sF (sF (sF s 16 0 z1) 16 1 z5) 16 2 z9) 16 3 z13) 16 4 (Int32.ofInt (-1))) 17 (va_cpy ((sF (sF (sF (sF (sF s 16 0 z1) 16 1 z5) 16 2 z9) 16 3 z13) 16 4 (Int32.ofInt (-1))).1 3) ((sF (sF (sF (sF (sF s 16 0 z1) 16 1 z5) 16 2 z9) 16 3 z13) 16 4 (Int32.ofInt (-1))).1 17) (Int32.ofInt 0).toNatClampNeg (Int32.ofInt 0).toNatClampNeg (Int32.ofInt 32).toNatClampNeg)).1 4) ((sA (sF (sF (sF (sF (sF s 16 0 z1) 16 1 z5) 16 2 z9) 16 3 z13) 16 4 (Int32.ofInt (-1))) 17 (va_cpy ((sF (sF (sF (sF (sF s 16 0 z1) 16 1 z5) 16 2 z9) 16 3 z13) 16 4 (Int32.ofInt (-1))).1 3) ((sF (sF (sF (sF (sF s 16 0 z1) 16 1 z5) 16 2 z9) 16 3 z13) 16 4 (Int32.ofInt (-1))).1 17) (Int32.ofInt 0).toNatClampNeg (Int32.ofInt 0).toNatClampNeg (Int32.ofInt 32).toNatClampNeg)).1 18) (Int32.ofInt 0).toNatClampNeg (Int32.ofInt 0).toNatClampNeg (Int32.ofInt 160).toNatClampNeg)).1 19) (Int32.ofInt 0).toNatClampNeg (Int32.ofInt 0).toNatClampNeg (Int32.ofInt 160).toNatClampNeg)).1 6) ((sA (sA (sA (sF (sF (sF (sF (sF s 16 0 z1) 16 1 z5) 16 2 z9) 16 3 z13) 16 4 (Int32.ofInt (-1))) 17 (va_cpy ((sF (sF (sF (sF (sF s 16 0 z1) 16 1 z5) 16 2 z9) 16 3 z13) 16 4 (Int32.ofInt (-1))).1 3) ((sF (sF (sF (sF (sF s 16 0 z1) 16 1 z5) 16 2 z9) 16 3 z13) 16 4 (Int32.ofInt (-1))).1 17) (Int32.ofInt 0).toNatClampNeg (Int32.ofInt 0).toNatClampNeg (Int32.ofInt 32).toNatClampNeg)) 18 (va_cpy ((sA (sF (sF (sF (sF (sF s 16 0 z1) 16 1 z5) 16 2 z9) 16 3 z13) 16 4 (Int32.ofInt (-1))) 17 (va_cpy ((sF (sF (sF (sF (sF s 16 0 z1) 16 1 z5) 16 2 z9) 16 3 z13) 16 4 (Int32.ofInt (-1))).1 3) ((sF (sF (sF (sF (sF s 16 0 z1) 16 1 z5) 16 2 z9) 16 3 z13) 16 4 (Int32.ofInt (-1))).1 17) (Int32.ofInt 0).toNatClampNeg (Int32.ofInt 0).toNatClampNeg (Int32.ofInt 32).toNatClampNeg)).1 4) ((sA (sF (sF (sF (sF (sF s 16 0 z1) 16 1 z5) 16 2 z9) 16 3 z13) 16 4 (Int32.ofInt (-1))) 17 (va_cpy ((sF (sF (sF (sF (sF s 16 0 z1) 16 1 z5) 16 2 z9) 16 3 z13) 16 4 (Int32.ofInt (-1))).1 3) ((sF (sF (sF (sF (sF s 16 0 z1) 16 1 z5) 16 2 z9) 16 3 z13) 16 4 (Int32.ofInt (-1))).1 17) (Int32.ofInt 0).toNatClampNeg (Int32.ofInt 0).toNatClampNeg (Int32.ofInt 32).toNatClampNeg)).1 18) (Int32.ofInt 0).toNatClampNeg (Int32.ofInt 0).toNatClampNeg (Int32.ofInt 160).toNatClampNeg)) 19 (va_cpy ((sA (sA (sF (sF (sF (sF (sF s 16 0 z1) 16 1 z5) 16 2 z9) 16 3 z13) 16 4 (Int32.ofInt (-1))) 17 (va_cpy ((sF (sF (sF (sF (sF s 16 0 z1) 16 1 z5) 16 2 z9) 16 3 z13) 16 4 (Int32.ofInt (-1))).1 3) ((sF (sF (sF (sF (sF s 16 0 z1) 16 1 z5) 16 2 z9) 16 3 z13) 16 4 (Int32.ofInt (-1))).1 17) (Int32.ofInt 0).toNatClampNeg (Int32.ofInt 0).toNatClampNeg (Int32.ofInt 32).toNatClampNeg)) 18 (va_cpy ((sA (sF (sF (sF (sF (sF s 16 0 z1) 16 1 z5) 16 2 z9) 16 3 z13) 16 4 (Int32.ofInt (-1))) 17 (va_cpy ((sF (sF (sF (sF (sF s 16 0 z1) 16 1 z5) 16 2 z9) 16 3 z13) 16 4 (Int32.ofInt (-1))).1 3) ((sF (sF (sF (sF (sF s 16 0 z1) 16 1 z5) 16 2 z9) 16 3 z13) 16 4 (Int32.ofInt (-1))).1 17) (Int32.ofInt 0).toNatClampNeg (Int32.ofInt 0).toNatClampNeg (Int32.ofInt 32).toNatClampNeg)).1 4) ((sA (sF (sF (sF (sF (sF s 16 0 z1) 16 1 z5) 16 2 z9) 16 3 z13) 16 4 (Int32.ofInt (-1))) 17 (va_cpy ((sF (sF (sF (sF (sF s 16 0 z1) 16 1 z5) 16 2 z9) 16 3 z13) 16 4 (Int32.ofInt (-1))).1 3) ((sF (sF (sF (sF (sF s 16 0 z1) 16 1 z5) 16 2 z9) 16 3 z13) 16 4 (Int32.ofInt (-1))).1 17) (Int32.ofInt 0).toNatClampNeg (Int32.ofInt 0).toNatClampNeg (Int32.ofInt 32).toNatClampNeg)).1 18) (Int32.ofInt 0).toNatClampNeg (Int32.ofInt 0).toNatClampNeg (Int32.ofInt 160).toNatClampNeg)).1 5) ((sA (sA (sF (sF (sF (sF (sF s 16 0 z1) 16 1 z5) 16 2 z9) 16 3 z13) 16 4 (Int32.ofInt (-1))) 17 (va_cpy ((sF (sF (sF (sF (sF s 16 0 z1) 16 1 z5) 16 2 z9) 16 3 z13) 16 4 (Int32.ofInt (-1))).1 3) ((sF (sF (sF (sF (sF s 16 0 z1) 16 1 z5) 16 2 z9) 16 3 z13) 16 4 (Int32.ofInt (-1))).1 17) (Int32.ofInt 0).toNatClampNeg (Int32.ofInt 0).toNatClampNeg (Int32.ofInt 32).toNatClampNeg)) 18 (va_cpy ((sA (sF (sF (sF (sF (sF s 16 0 z1) 16 1 z5) 16 2 z9) 16 3 z13) 16 4 (Int32.ofInt (-1))) 17 (va_cpy ((sF (sF (sF (sF (sF s 16 0 z1) 16 1 z5) 16 2 z9) 16 3 z13) 16 4 (Int32.ofInt (-1))).1 3) ((sF (sF (sF (sF (sF s 16 0 z1) 16 1 z5) 16 2 z9) 16 3 z13) 16 4 (Int32.ofInt (-1))).1 17) (Int32.ofInt 0).toNatClampNeg (Int32.ofInt 0).toNatClampNeg (Int32.ofInt 32).toNatClampNeg)).1 4) ((sA (sF (sF (sF (sF (sF s 16 0 z1) 16 1 z5) 16 2 z9) 16 3 z13) 16 4 (Int32.ofInt (-1))) 17 (va_cpy ((sF (sF (sF (sF (sF s 16 0 z1) 16 1 z5) 16 2 z9) 16 3 z13) 16 4 (Int32.ofInt (-1))).1 3) ((sF (sF (sF (sF (sF s 16 0 z1) 16 1 z5) 16 2 z9) 16 3 z13) 16 4 (Int32.ofInt (-1))).1 17) (Int32.ofInt 0).toNatClampNeg (Int32.ofInt 0).toNatClampNeg (Int32.ofInt 32).toNatClampNeg)).1 18) (Int32.ofInt 0).toNatClampNeg (Int32.ofInt 0).toNatClampNeg (Int32.ofInt 160).toNatClampNeg)).1 19) (Int32.ofInt 0).toNatClampNeg (Int32.ofInt 0).toNatClampNeg (Int32.ofInt 160).toNatClampNeg)).1 20) (Int32.ofInt 0).toNatClampNeg (Int32.ofInt 0).toNatClampNeg (Int32.ofInt 160).toNatClampNeg)).1 21) (Int32.ofInt 0).toNatClampNeg (Int32.ofInt 0).toNatClampNeg (Int32.ofInt 160).toNatClampNeg)).1 22) (Int32.ofInt 0).toNatClampNeg (Int32.ofInt 0).toNatClampNeg (Int32.ofInt 160).toNatClampNeg)), hI23, rfl, rfl⟩)

/-- GraphHouse$Graph.joints -/
theorem k_98_2 {Z : AmZ} {A : Nat → Nat} {s : GS} {ex : va_W} {d : Nat} {X : AmX}  (hd : 3 ≤ d) (hI : Inv s)  : GC Z d 98 [.ref (A 2)] (WW Z A s ++ ex) 0 0 (fun v u => ∃ z : Int32, v = some (.int z) ∧ u = WW Z A s ++ ex ∧ In z (-2147483648) 2147483647) X := by
  intro post xp hP hX
  have ct4 : ∀ (k4 : Nat) (y4_1 : Int32) (y4_2 : Int32), In y4_2 0 160 → 160 - (y4_2).toInt < (k4 : Int) → GG Z (d - 1) 98 post (gx xp) (1 + k4 * 900) 4 (fun j => xlook j [(0, .ref (A 2)), (1, .int y4_1), (2, .int y4_2)]) [] (WW Z A s ++ ex) 0 0 := by
    intro k4
    induction k4 with
    | zero => intro y4_1 y4_2 j4_2 mm4; exact m_no mm4 j4_2 rfl
    | succ k4 ih4 =>
      intro y4_1 y4_2 j4_2 mm4
      refine gg_w (M := 1 + k4 * 900 + 900) (by omega) ?_
      refine g_iload_n 5 (gd rfl) rfl rfl ?_
      refine g_aload_n 6 (gd rfl) rfl rfl ?_
      refine g_getI 9 (gd rfl) rfl rfl rfl (fun z1 e2 => ?_)
      have i3 := inv_F hI 0 160 rfl e2
      refine g_cmp_ge 12 29 (gd rfl) rfl rfl (fun c4 => ?_) (fun c4 => ?_)
      · skip
        refine g_iload_n 30 (gd rfl) rfl rfl ?_
        exact g_ireturn (gd rfl) rfl rfl (hP _ _ ⟨y4_1, rfl, rfl, in_w (-2147483648) 2147483647 (i_rng y4_1) rfl⟩)
      · skip
        have i5 := r_lt1 0 159 c4 j4_2 i3 rfl
        have i6 := r_lt2 1 160 c4 j4_2 i3 rfl
        refine g_aload_n 13 (gd rfl) rfl rfl ?_
        refine g_iload_n 14 (gd rfl) rfl rfl ?_
        refine g_callv (X := _) (As := [.int y4_2]) (r := []) (b := A 2) (q := 2) 17 (gd rfl) rfl rfl rfl rfl rfl (ww_o rfl) (Nat.le_of_ble_eq_true rfl) (mc := 0) (ms := 0) (Nat.zero_le _) (Nat.zero_le _) (P := fun v u => _) ?_ (fun e u h => h) (fun v u h => h)
        intro po7 xx8 hp9 hx10
        refine g_enter2 (k := 97) (N := 300) (by omega) rfl (Nat.le_of_ble_eq_true rfl) ?_
        refine g_aload_n 1 (gd rfl) rfl rfl ?_
        refine g_getA (q2 := 4) 4 (gd rfl) rfl rfl rfl rfl rfl ?_
        refine g_iload_n 5 (gd rfl) rfl rfl ?_
        refine g_iaload 6 (gd rfl) rfl (n := 160) rfl (in_ix i5 rfl) (fun z11 e12 => ?_)
        have i13 := inv_I hI (n := 160) (t := 0) (-1) 31 rfl (in_ix i5 rfl) rfl e12
        refine g_iconst (-1) 7 (gd rfl) rfl rfl ?_
        refine g_cmp_eq 10 29 (gd rfl) rfl rfl (fun c14 => ?_) (fun c14 => ?_)
        · skip
          have i15 := r_eq1 (-1) (-1) c14 i13 (in_c (-1) rfl) rfl
          refine g_iconst 0 30 (gd rfl) rfl rfl ?_
          refine g_ireturn (gd rfl) rfl (nb01 (in_w 0 1 (in_c 0 rfl) rfl)) (hp9 _ _ ?_)
          show GG _ _ _ _ _ _ _ _ [.int (Int32.ofInt 0)] _ _ _
          refine g_if_eq 20 23 (gd rfl) rfl rfl (fun c16 => ?_) (fun c16 => ?_)
          · skip
            refine g_iinc 26 (gd rfl) rfl rfl (Nat.le_of_ble_eq_true rfl) (fun z17 e18 => ?_)
            have i19 := in_add 1 160 e18 i5 (in_c 1 rfl) rfl rfl
            refine g_goto 4 (gd rfl) rfl ?_
            exact gg_w (by omega) (gg_f (gf_cons rfl (gf_cons rfl (gf_cons rfl gf_nil))) (ih4  y4_1 z17  (in_w 0 160 i19 rfl) (m_up mm4 (t_add e18 i5 (in_c 1 rfl) rfl) (in_w 1 1 (in_c 1 rfl) rfl))))
          · skip
            exact zn_ne c16 (in_c 0 rfl) rfl
        · skip
          have i20 := r_ne1 0 31 c14 i13 (in_c (-1) rfl) rfl
          refine g_aload_n 11 (gd rfl) rfl rfl ?_
          refine g_getA (q2 := 4) 14 (gd rfl) rfl rfl rfl rfl rfl ?_
          refine g_iload_n 15 (gd rfl) rfl rfl ?_
          refine g_iaload 16 (gd rfl) rfl (n := 160) rfl (in_ix i5 rfl) (fun z21 e22 => ?_)
          have q23 : z11 = z21 := e12.trans e22.symm
          subst q23
          refine g_aload_n 17 (gd rfl) rfl rfl ?_
          refine g_getA (q2 := 5) 20 (gd rfl) rfl rfl rfl rfl rfl ?_
          refine g_iload_n 21 (gd rfl) rfl rfl ?_
          refine g_iaload 22 (gd rfl) rfl (n := 160) rfl (in_ix i5 rfl) (fun z24 e25 => ?_)
          have i26 := inv_I hI (n := 160) (t := 0) 0 31 rfl (in_ix i5 rfl) rfl e25
          refine g_cmp_eq 25 29 (gd rfl) rfl rfl (fun c27 => ?_) (fun c27 => ?_)
          · skip
            refine g_iconst 0 30 (gd rfl) rfl rfl ?_
            refine g_ireturn (gd rfl) rfl (nb01 (in_w 0 1 (in_c 0 rfl) rfl)) (hp9 _ _ ?_)
            show GG _ _ _ _ _ _ _ _ [.int (Int32.ofInt 0)] _ _ _
            refine g_if_eq 20 23 (gd rfl) rfl rfl (fun c28 => ?_) (fun c28 => ?_)
            · skip
              refine g_iinc 26 (gd rfl) rfl rfl (Nat.le_of_ble_eq_true rfl) (fun z29 e30 => ?_)
              have i31 := in_add 1 160 e30 i5 (in_c 1 rfl) rfl rfl
              refine g_goto 4 (gd rfl) rfl ?_
              exact gg_w (by omega) (gg_f (gf_cons rfl (gf_cons rfl (gf_cons rfl gf_nil))) (ih4  y4_1 z29  (in_w 0 160 i31 rfl) (m_up mm4 (t_add e30 i5 (in_c 1 rfl) rfl) (in_w 1 1 (in_c 1 rfl) rfl))))
            · skip
              exact zn_ne c28 (in_c 0 rfl) rfl
          · skip
            refine g_iconst 1 26 (gd rfl) rfl rfl ?_
            refine g_goto 30 (gd rfl) rfl ?_
            refine g_ireturn (gd rfl) rfl (nb01 (in_w 0 1 (in_c 1 rfl) rfl)) (hp9 _ _ ?_)
            show GG _ _ _ _ _ _ _ _ [.int (Int32.ofInt 1)] _ _ _
            refine g_if_eq 20 23 (gd rfl) rfl rfl (fun c32 => ?_) (fun c32 => ?_)
            · skip
              exact zn_eq c32 (in_c 1 rfl) rfl
            · skip
              refine g_iinc 23 (gd rfl) rfl rfl (Nat.le_of_ble_eq_true rfl) (fun z33 e34 => ?_)
              refine g_iinc 26 (gd rfl) rfl rfl (Nat.le_of_ble_eq_true rfl) (fun z35 e36 => ?_)
              have i37 := in_add 1 160 e36 i5 (in_c 1 rfl) rfl rfl
              refine g_goto 4 (gd rfl) rfl ?_
              exact gg_w (by omega) (gg_f (gf_cons rfl (gf_cons rfl (gf_cons rfl gf_nil))) (ih4  z33 z35  (in_w 0 160 i37 rfl) (m_up mm4 (t_add e36 i5 (in_c 1 rfl) rfl) (in_w 1 1 (in_c 1 rfl) rfl))))
  refine g_enter2 (k := 98) (N := 145801) (by omega) rfl (Nat.le_of_ble_eq_true rfl) ?_
  refine g_iconst 0 1 (gd rfl) rfl rfl ?_
  refine g_istore_n 2 (gd rfl) rfl (Nat.le_of_ble_eq_true rfl) ?_
  refine g_iconst 0 3 (gd rfl) rfl rfl ?_
  refine g_istore_n 4 (gd rfl) rfl (Nat.le_of_ble_eq_true rfl) ?_
  exact gg_w (by omega) (gg_f (gf_cons rfl (gf_cons rfl (gf_cons rfl gf_nil))) (ct4 161  (Int32.ofInt 0) (Int32.ofInt 0)  (in_w 0 160 (in_c 0 rfl) rfl) (m_in 161 (in_w 0 160 (in_c 0 rfl) rfl) rfl)))

/-- GraphHouse$Graph.joints -/
theorem k_98_32 {Z : AmZ} {A : Nat → Nat} {s : GS} {ex : va_W} {d : Nat} {X : AmX}  (hd : 3 ≤ d) (hI : Inv s)  : GC Z d 98 [.ref (A 32)] (WW Z A s ++ ex) 0 0 (fun v u => ∃ z : Int32, v = some (.int z) ∧ u = WW Z A s ++ ex ∧ In z (-2147483648) 2147483647) X := by
  intro post xp hP hX
  have ct4 : ∀ (k4 : Nat) (y4_1 : Int32) (y4_2 : Int32), In y4_2 0 160 → 160 - (y4_2).toInt < (k4 : Int) → GG Z (d - 1) 98 post (gx xp) (1 + k4 * 900) 4 (fun j => xlook j [(0, .ref (A 32)), (1, .int y4_1), (2, .int y4_2)]) [] (WW Z A s ++ ex) 0 0 := by
    intro k4
    induction k4 with
    | zero => intro y4_1 y4_2 j4_2 mm4; exact m_no mm4 j4_2 rfl
    | succ k4 ih4 =>
      intro y4_1 y4_2 j4_2 mm4
      refine gg_w (M := 1 + k4 * 900 + 900) (by omega) ?_
      refine g_iload_n 5 (gd rfl) rfl rfl ?_
      refine g_aload_n 6 (gd rfl) rfl rfl ?_
      refine g_getI 9 (gd rfl) rfl rfl rfl (fun z1 e2 => ?_)
      have i3 := inv_F hI 0 160 rfl e2
      refine g_cmp_ge 12 29 (gd rfl) rfl rfl (fun c4 => ?_) (fun c4 => ?_)
      · skip
        refine g_iload_n 30 (gd rfl) rfl rfl ?_
        exact g_ireturn (gd rfl) rfl rfl (hP _ _ ⟨y4_1, rfl, rfl, in_w (-2147483648) 2147483647 (i_rng y4_1) rfl⟩)
      · skip
        have i5 := r_lt1 0 159 c4 j4_2 i3 rfl
        have i6 := r_lt2 1 160 c4 j4_2 i3 rfl
        refine g_aload_n 13 (gd rfl) rfl rfl ?_
        refine g_iload_n 14 (gd rfl) rfl rfl ?_
        refine g_callv (X := _) (As := [.int y4_2]) (r := []) (b := A 32) (q := 32) 17 (gd rfl) rfl rfl rfl rfl rfl (ww_o rfl) (Nat.le_of_ble_eq_true rfl) (mc := 0) (ms := 0) (Nat.zero_le _) (Nat.zero_le _) (P := fun v u => _) ?_ (fun e u h => h) (fun v u h => h)
        intro po7 xx8 hp9 hx10
        refine g_enter2 (k := 97) (N := 300) (by omega) rfl (Nat.le_of_ble_eq_true rfl) ?_
        refine g_aload_n 1 (gd rfl) rfl rfl ?_
        refine g_getA (q2 := 34) 4 (gd rfl) rfl rfl rfl rfl rfl ?_
        refine g_iload_n 5 (gd rfl) rfl rfl ?_
        refine g_iaload 6 (gd rfl) rfl (n := 160) rfl (in_ix i5 rfl) (fun z11 e12 => ?_)
        have i13 := inv_I hI (n := 160) (t := 0) (-1) 31 rfl (in_ix i5 rfl) rfl e12
        refine g_iconst (-1) 7 (gd rfl) rfl rfl ?_
        refine g_cmp_eq 10 29 (gd rfl) rfl rfl (fun c14 => ?_) (fun c14 => ?_)
        · skip
          have i15 := r_eq1 (-1) (-1) c14 i13 (in_c (-1) rfl) rfl
          refine g_iconst 0 30 (gd rfl) rfl rfl ?_
          refine g_ireturn (gd rfl) rfl (nb01 (in_w 0 1 (in_c 0 rfl) rfl)) (hp9 _ _ ?_)
          show GG _ _ _ _ _ _ _ _ [.int (Int32.ofInt 0)] _ _ _
          refine g_if_eq 20 23 (gd rfl) rfl rfl (fun c16 => ?_) (fun c16 => ?_)
          · skip
            refine g_iinc 26 (gd rfl) rfl rfl (Nat.le_of_ble_eq_true rfl) (fun z17 e18 => ?_)
            have i19 := in_add 1 160 e18 i5 (in_c 1 rfl) rfl rfl
            refine g_goto 4 (gd rfl) rfl ?_
            exact gg_w (by omega) (gg_f (gf_cons rfl (gf_cons rfl (gf_cons rfl gf_nil))) (ih4  y4_1 z17  (in_w 0 160 i19 rfl) (m_up mm4 (t_add e18 i5 (in_c 1 rfl) rfl) (in_w 1 1 (in_c 1 rfl) rfl))))
          · skip
            exact zn_ne c16 (in_c 0 rfl) rfl
        · skip
          have i20 := r_ne1 0 31 c14 i13 (in_c (-1) rfl) rfl
          refine g_aload_n 11 (gd rfl) rfl rfl ?_
          refine g_getA (q2 := 34) 14 (gd rfl) rfl rfl rfl rfl rfl ?_
          refine g_iload_n 15 (gd rfl) rfl rfl ?_
          refine g_iaload 16 (gd rfl) rfl (n := 160) rfl (in_ix i5 rfl) (fun z21 e22 => ?_)
          have q23 : z11 = z21 := e12.trans e22.symm
          subst q23
          refine g_aload_n 17 (gd rfl) rfl rfl ?_
          refine g_getA (q2 := 35) 20 (gd rfl) rfl rfl rfl rfl rfl ?_
          refine g_iload_n 21 (gd rfl) rfl rfl ?_
          refine g_iaload 22 (gd rfl) rfl (n := 160) rfl (in_ix i5 rfl) (fun z24 e25 => ?_)
          have i26 := inv_I hI (n := 160) (t := 0) 0 31 rfl (in_ix i5 rfl) rfl e25
          refine g_cmp_eq 25 29 (gd rfl) rfl rfl (fun c27 => ?_) (fun c27 => ?_)
          · skip
            refine g_iconst 0 30 (gd rfl) rfl rfl ?_
            refine g_ireturn (gd rfl) rfl (nb01 (in_w 0 1 (in_c 0 rfl) rfl)) (hp9 _ _ ?_)
            show GG _ _ _ _ _ _ _ _ [.int (Int32.ofInt 0)] _ _ _
            refine g_if_eq 20 23 (gd rfl) rfl rfl (fun c28 => ?_) (fun c28 => ?_)
            · skip
              refine g_iinc 26 (gd rfl) rfl rfl (Nat.le_of_ble_eq_true rfl) (fun z29 e30 => ?_)
              have i31 := in_add 1 160 e30 i5 (in_c 1 rfl) rfl rfl
              refine g_goto 4 (gd rfl) rfl ?_
              exact gg_w (by omega) (gg_f (gf_cons rfl (gf_cons rfl (gf_cons rfl gf_nil))) (ih4  y4_1 z29  (in_w 0 160 i31 rfl) (m_up mm4 (t_add e30 i5 (in_c 1 rfl) rfl) (in_w 1 1 (in_c 1 rfl) rfl))))
            · skip
              exact zn_ne c28 (in_c 0 rfl) rfl
          · skip
            refine g_iconst 1 26 (gd rfl) rfl rfl ?_
            refine g_goto 30 (gd rfl) rfl ?_
            refine g_ireturn (gd rfl) rfl (nb01 (in_w 0 1 (in_c 1 rfl) rfl)) (hp9 _ _ ?_)
            show GG _ _ _ _ _ _ _ _ [.int (Int32.ofInt 1)] _ _ _
            refine g_if_eq 20 23 (gd rfl) rfl rfl (fun c32 => ?_) (fun c32 => ?_)
            · skip
              exact zn_eq c32 (in_c 1 rfl) rfl
            · skip
              refine g_iinc 23 (gd rfl) rfl rfl (Nat.le_of_ble_eq_true rfl) (fun z33 e34 => ?_)
              refine g_iinc 26 (gd rfl) rfl rfl (Nat.le_of_ble_eq_true rfl) (fun z35 e36 => ?_)
              have i37 := in_add 1 160 e36 i5 (in_c 1 rfl) rfl rfl
              refine g_goto 4 (gd rfl) rfl ?_
              exact gg_w (by omega) (gg_f (gf_cons rfl (gf_cons rfl (gf_cons rfl gf_nil))) (ih4  z33 z35  (in_w 0 160 i37 rfl) (m_up mm4 (t_add e36 i5 (in_c 1 rfl) rfl) (in_w 1 1 (in_c 1 rfl) rfl))))
  refine g_enter2 (k := 98) (N := 145801) (by omega) rfl (Nat.le_of_ble_eq_true rfl) ?_
  refine g_iconst 0 1 (gd rfl) rfl rfl ?_
  refine g_istore_n 2 (gd rfl) rfl (Nat.le_of_ble_eq_true rfl) ?_
  refine g_iconst 0 3 (gd rfl) rfl rfl ?_
  refine g_istore_n 4 (gd rfl) rfl (Nat.le_of_ble_eq_true rfl) ?_
  exact gg_w (by omega) (gg_f (gf_cons rfl (gf_cons rfl (gf_cons rfl gf_nil))) (ct4 161  (Int32.ofInt 0) (Int32.ofInt 0)  (in_w 0 160 (in_c 0 rfl) rfl) (m_in 161 (in_w 0 160 (in_c 0 rfl) rfl) rfl)))

/-- GraphHouse$Graph.countJoints -/
theorem k_99_2_59 {Z : AmZ} {A : Nat → Nat} {s : GS} {ex : va_W} {d : Nat} {X : AmX}  (hd : 3 ≤ d) (hI : Inv s)  : GC Z d 99 [.ref (A 2), .ref (A 59)] (WW Z A s ++ ex) 0 0 (fun v u => ∃ t : GS, Inv t ∧ v = none ∧ u = WW Z A t ++ ex) X := by
  intro post xp hP hX
  have ct7 : ∀ (k7 : Nat) (s : GS) (y7_2 : Int32), Inv s → In y7_2 0 160 → 160 - (y7_2).toInt < (k7 : Int) → GG Z (d - 1) 99 post (gx xp) (1 + k7 * 900) 7 (fun j => xlook j [(0, .ref (A 2)), (1, .ref (A 59)), (2, .int y7_2)]) [] (WW Z A s ++ ex) 0 0 := by
    intro k7
    induction k7 with
    | zero => intro s y7_2 hI j7_2 mm7; exact m_no mm7 j7_2 rfl
    | succ k7 ih7 =>
      intro s y7_2 hI j7_2 mm7
      refine gg_w (M := 1 + k7 * 900 + 900) (by omega) ?_
      refine g_iload_n 8 (gd rfl) rfl rfl ?_
      refine g_aload_n 9 (gd rfl) rfl rfl ?_
      refine g_getI 12 (gd rfl) rfl rfl rfl (fun z1 e2 => ?_)
      have i3 := inv_F hI 0 160 rfl e2
      refine g_cmp_ge 15 53 (gd rfl) rfl rfl (fun c4 => ?_) (fun c4 => ?_)
      · skip
        exact g_return (gd rfl) rfl (hP _ _ ⟨s, hI, rfl, rfl⟩)
      · skip
        have i5 := r_lt1 0 159 c4 j7_2 i3 rfl
        have i6 := r_lt2 1 160 c4 j7_2 i3 rfl
        refine g_aload_n 16 (gd rfl) rfl rfl ?_
        refine g_iload_n 17 (gd rfl) rfl rfl ?_
        refine g_callv (X := _) (As := [.int y7_2]) (r := []) (b := A 2) (q := 2) 20 (gd rfl) rfl rfl rfl rfl rfl (ww_o rfl) (Nat.le_of_ble_eq_true rfl) (mc := 0) (ms := 0) (Nat.zero_le _) (Nat.zero_le _) (P := fun v u => _) ?_ (fun e u h => h) (fun v u h => h)
        intro po7 xx8 hp9 hx10
        refine g_enter2 (k := 97) (N := 300) (by omega) rfl (Nat.le_of_ble_eq_true rfl) ?_
        refine g_aload_n 1 (gd rfl) rfl rfl ?_
        refine g_getA (q2 := 4) 4 (gd rfl) rfl rfl rfl rfl rfl ?_
        refine g_iload_n 5 (gd rfl) rfl rfl ?_
        refine g_iaload 6 (gd rfl) rfl (n := 160) rfl (in_ix i5 rfl) (fun z11 e12 => ?_)
        have i13 := inv_I hI (n := 160) (t := 0) (-1) 31 rfl (in_ix i5 rfl) rfl e12
        refine g_iconst (-1) 7 (gd rfl) rfl rfl ?_
        refine g_cmp_eq 10 29 (gd rfl) rfl rfl (fun c14 => ?_) (fun c14 => ?_)
        · skip
          have i15 := r_eq1 (-1) (-1) c14 i13 (in_c (-1) rfl) rfl
          refine g_iconst 0 30 (gd rfl) rfl rfl ?_
          refine g_ireturn (gd rfl) rfl (nb01 (in_w 0 1 (in_c 0 rfl) rfl)) (hp9 _ _ ?_)
          show GG _ _ _ _ _ _ _ _ [.int (Int32.ofInt 0)] _ _ _
          refine g_if_eq 23 47 (gd rfl) rfl rfl (fun c16 => ?_) (fun c16 => ?_)
          · skip
            refine g_iinc 50 (gd rfl) rfl rfl (Nat.le_of_ble_eq_true rfl) (fun z17 e18 => ?_)
            have i19 := in_add 1 160 e18 i5 (in_c 1 rfl) rfl rfl
            refine g_goto 7 (gd rfl) rfl ?_
            exact gg_w (by omega) (gg_f (gf_cons rfl (gf_cons rfl (gf_cons rfl gf_nil))) (ih7 s z17 hI (in_w 0 160 i19 rfl) (m_up mm7 (t_add e18 i5 (in_c 1 rfl) rfl) (in_w 1 1 (in_c 1 rfl) rfl))))
          · skip
            exact zn_ne c16 (in_c 0 rfl) rfl
        · skip
          have i20 := r_ne1 0 31 c14 i13 (in_c (-1) rfl) rfl
          refine g_aload_n 11 (gd rfl) rfl rfl ?_
          refine g_getA (q2 := 4) 14 (gd rfl) rfl rfl rfl rfl rfl ?_
          refine g_iload_n 15 (gd rfl) rfl rfl ?_
          refine g_iaload 16 (gd rfl) rfl (n := 160) rfl (in_ix i5 rfl) (fun z21 e22 => ?_)
          have q23 : z11 = z21 := e12.trans e22.symm
          subst q23
          refine g_aload_n 17 (gd rfl) rfl rfl ?_
          refine g_getA (q2 := 5) 20 (gd rfl) rfl rfl rfl rfl rfl ?_
          refine g_iload_n 21 (gd rfl) rfl rfl ?_
          refine g_iaload 22 (gd rfl) rfl (n := 160) rfl (in_ix i5 rfl) (fun z24 e25 => ?_)
          have i26 := inv_I hI (n := 160) (t := 0) 0 31 rfl (in_ix i5 rfl) rfl e25
          refine g_cmp_eq 25 29 (gd rfl) rfl rfl (fun c27 => ?_) (fun c27 => ?_)
          · skip
            refine g_iconst 0 30 (gd rfl) rfl rfl ?_
            refine g_ireturn (gd rfl) rfl (nb01 (in_w 0 1 (in_c 0 rfl) rfl)) (hp9 _ _ ?_)
            show GG _ _ _ _ _ _ _ _ [.int (Int32.ofInt 0)] _ _ _
            refine g_if_eq 23 47 (gd rfl) rfl rfl (fun c28 => ?_) (fun c28 => ?_)
            · skip
              refine g_iinc 50 (gd rfl) rfl rfl (Nat.le_of_ble_eq_true rfl) (fun z29 e30 => ?_)
              have i31 := in_add 1 160 e30 i5 (in_c 1 rfl) rfl rfl
              refine g_goto 7 (gd rfl) rfl ?_
              exact gg_w (by omega) (gg_f (gf_cons rfl (gf_cons rfl (gf_cons rfl gf_nil))) (ih7 s z29 hI (in_w 0 160 i31 rfl) (m_up mm7 (t_add e30 i5 (in_c 1 rfl) rfl) (in_w 1 1 (in_c 1 rfl) rfl))))
            · skip
              exact zn_ne c28 (in_c 0 rfl) rfl
          · skip
            refine g_iconst 1 26 (gd rfl) rfl rfl ?_
            refine g_goto 30 (gd rfl) rfl ?_
            refine g_ireturn (gd rfl) rfl (nb01 (in_w 0 1 (in_c 1 rfl) rfl)) (hp9 _ _ ?_)
            show GG _ _ _ _ _ _ _ _ [.int (Int32.ofInt 1)] _ _ _
            refine g_if_eq 23 47 (gd rfl) rfl rfl (fun c32 => ?_) (fun c32 => ?_)
            · skip
              exact zn_eq c32 (in_c 1 rfl) rfl
            · skip
              refine g_aload_n 24 (gd rfl) rfl rfl ?_
              refine g_aload_n 25 (gd rfl) rfl rfl ?_
              refine g_getA (q2 := 4) 28 (gd rfl) rfl rfl rfl rfl rfl ?_
              refine g_iload_n 29 (gd rfl) rfl rfl ?_
              refine g_iaload 30 (gd rfl) rfl (n := 160) rfl (in_ix i5 rfl) (fun z33 e34 => ?_)
              have q35 : z11 = z33 := e12.trans e34.symm
              subst q35
              refine g_dup2 31 (gd rfl) rfl rfl rfl ?_
              refine g_iaload 32 (gd rfl) rfl (n := 32) rfl (in_ix i20 rfl) (fun z36 e37 => ?_)
              refine g_iconst 1 33 (gd rfl) rfl rfl ?_
              refine g_iadd 34 (gd rfl) rfl (fun z38 e39 => ?_)
              refine g_iastore 35 (gd rfl) rfl (n := 32) rfl (in_ix i20 rfl) ?_
              have hI40 := inv_sI (q := 59) (j := z11.toNatClampNeg) hI rfl (in_w (-2147483648) 2147483647 (i_rng z38) rfl)
              refine g_aload_n 36 (gd rfl) rfl rfl ?_
              refine g_aload_n 37 (gd rfl) rfl rfl ?_
              refine g_getA (q2 := 5) 40 (gd rfl) rfl rfl rfl rfl rfl ?_
              refine g_iload_n 41 (gd rfl) rfl rfl ?_
              refine g_iaload 42 (gd rfl) rfl (n := 160) rfl (in_ix i5 rfl) (fun z41 e42 => ?_)
              have q43 : z24 = z41 := e25.trans e42.symm
              subst q43
              refine g_dup2 43 (gd rfl) rfl rfl rfl ?_
              refine g_iaload 44 (gd rfl) rfl (n := 32) rfl (in_ix i26 rfl) (fun z44 e45 => ?_)
              refine g_iconst 1 45 (gd rfl) rfl rfl ?_
              refine g_iadd 46 (gd rfl) rfl (fun z46 e47 => ?_)
              refine g_iastore 47 (gd rfl) rfl (n := 32) rfl (in_ix i26 rfl) ?_
              have hI48 := inv_sI (q := 59) (j := z24.toNatClampNeg) hI40 rfl (in_w (-2147483648) 2147483647 (i_rng z46) rfl)
              refine g_iinc 50 (gd rfl) rfl rfl (Nat.le_of_ble_eq_true rfl) (fun z49 e50 => ?_)
              have i51 := in_add 1 160 e50 i5 (in_c 1 rfl) rfl rfl
              refine g_goto 7 (gd rfl) rfl ?_
              exact gg_w (by omega) (gg_f (gf_cons rfl (gf_cons rfl (gf_cons rfl gf_nil))) (ih7 (sI (sI s 59 z11.toNatClampNeg z38) 59 z24.toNatClampNeg z46) z49 hI48 (in_w 0 160 i51 rfl) (m_up mm7 (t_add e50 i5 (in_c 1 rfl) rfl) (in_w 1 1 (in_c 1 rfl) rfl))))
  refine g_enter2 (k := 99) (N := 145801) (by omega) rfl (Nat.le_of_ble_eq_true rfl) ?_
  refine g_aload_n 1 (gd rfl) rfl rfl ?_
  refine g_iconst 0 2 (gd rfl) rfl rfl ?_
  refine g_calls (As := [.ref (A 59), .int (Int32.ofInt 0)]) (r := []) 5 (gd rfl) rfl rfl rfl rfl rfl (Nat.le_of_ble_eq_true rfl) (Nat.zero_le _) (Nat.zero_le _) (k_fillI 59 (by omega) hI (in_c 0 rfl) (n := 32) rfl rfl rfl rfl) (fun v u h => ?_)
  obtain ⟨s52, hI53, rfl, rfl⟩ := h
  show GG _ _ _ _ _ _ _ _ [] _ _ _
  refine g_iconst 0 6 (gd rfl) rfl rfl ?_
  refine g_istore_n 7 (gd rfl) rfl (Nat.le_of_ble_eq_true rfl) ?_
  exact gg_w (by omega) (gg_f (gf_cons rfl (gf_cons rfl (gf_cons rfl gf_nil))) (ct7 161 s52 (Int32.ofInt 0) hI53 (in_w 0 160 (in_c 0 rfl) rfl) (m_in 161 (in_w 0 160 (in_c 0 rfl) rfl) rfl)))

/-- GraphHouse$Graph.countJoints -/
theorem k_99_32_59 {Z : AmZ} {A : Nat → Nat} {s : GS} {ex : va_W} {d : Nat} {X : AmX}  (hd : 3 ≤ d) (hI : Inv s)  : GC Z d 99 [.ref (A 32), .ref (A 59)] (WW Z A s ++ ex) 0 0 (fun v u => ∃ t : GS, Inv t ∧ v = none ∧ u = WW Z A t ++ ex) X := by
  intro post xp hP hX
  have ct7 : ∀ (k7 : Nat) (s : GS) (y7_2 : Int32), Inv s → In y7_2 0 160 → 160 - (y7_2).toInt < (k7 : Int) → GG Z (d - 1) 99 post (gx xp) (1 + k7 * 900) 7 (fun j => xlook j [(0, .ref (A 32)), (1, .ref (A 59)), (2, .int y7_2)]) [] (WW Z A s ++ ex) 0 0 := by
    intro k7
    induction k7 with
    | zero => intro s y7_2 hI j7_2 mm7; exact m_no mm7 j7_2 rfl
    | succ k7 ih7 =>
      intro s y7_2 hI j7_2 mm7
      refine gg_w (M := 1 + k7 * 900 + 900) (by omega) ?_
      refine g_iload_n 8 (gd rfl) rfl rfl ?_
      refine g_aload_n 9 (gd rfl) rfl rfl ?_
      refine g_getI 12 (gd rfl) rfl rfl rfl (fun z1 e2 => ?_)
      have i3 := inv_F hI 0 160 rfl e2
      refine g_cmp_ge 15 53 (gd rfl) rfl rfl (fun c4 => ?_) (fun c4 => ?_)
      · skip
        exact g_return (gd rfl) rfl (hP _ _ ⟨s, hI, rfl, rfl⟩)
      · skip
        have i5 := r_lt1 0 159 c4 j7_2 i3 rfl
        have i6 := r_lt2 1 160 c4 j7_2 i3 rfl
        refine g_aload_n 16 (gd rfl) rfl rfl ?_
        refine g_iload_n 17 (gd rfl) rfl rfl ?_
        refine g_callv (X := _) (As := [.int y7_2]) (r := []) (b := A 32) (q := 32) 20 (gd rfl) rfl rfl rfl rfl rfl (ww_o rfl) (Nat.le_of_ble_eq_true rfl) (mc := 0) (ms := 0) (Nat.zero_le _) (Nat.zero_le _) (P := fun v u => _) ?_ (fun e u h => h) (fun v u h => h)
        intro po7 xx8 hp9 hx10
        refine g_enter2 (k := 97) (N := 300) (by omega) rfl (Nat.le_of_ble_eq_true rfl) ?_
        refine g_aload_n 1 (gd rfl) rfl rfl ?_
        refine g_getA (q2 := 34) 4 (gd rfl) rfl rfl rfl rfl rfl ?_
        refine g_iload_n 5 (gd rfl) rfl rfl ?_
        refine g_iaload 6 (gd rfl) rfl (n := 160) rfl (in_ix i5 rfl) (fun z11 e12 => ?_)
        have i13 := inv_I hI (n := 160) (t := 0) (-1) 31 rfl (in_ix i5 rfl) rfl e12
        refine g_iconst (-1) 7 (gd rfl) rfl rfl ?_
        refine g_cmp_eq 10 29 (gd rfl) rfl rfl (fun c14 => ?_) (fun c14 => ?_)
        · skip
          have i15 := r_eq1 (-1) (-1) c14 i13 (in_c (-1) rfl) rfl
          refine g_iconst 0 30 (gd rfl) rfl rfl ?_
          refine g_ireturn (gd rfl) rfl (nb01 (in_w 0 1 (in_c 0 rfl) rfl)) (hp9 _ _ ?_)
          show GG _ _ _ _ _ _ _ _ [.int (Int32.ofInt 0)] _ _ _
          refine g_if_eq 23 47 (gd rfl) rfl rfl (fun c16 => ?_) (fun c16 => ?_)
          · skip
            refine g_iinc 50 (gd rfl) rfl rfl (Nat.le_of_ble_eq_true rfl) (fun z17 e18 => ?_)
            have i19 := in_add 1 160 e18 i5 (in_c 1 rfl) rfl rfl
            refine g_goto 7 (gd rfl) rfl ?_
            exact gg_w (by omega) (gg_f (gf_cons rfl (gf_cons rfl (gf_cons rfl gf_nil))) (ih7 s z17 hI (in_w 0 160 i19 rfl) (m_up mm7 (t_add e18 i5 (in_c 1 rfl) rfl) (in_w 1 1 (in_c 1 rfl) rfl))))
          · skip
            exact zn_ne c16 (in_c 0 rfl) rfl
        · skip
          have i20 := r_ne1 0 31 c14 i13 (in_c (-1) rfl) rfl
          refine g_aload_n 11 (gd rfl) rfl rfl ?_
          refine g_getA (q2 := 34) 14 (gd rfl) rfl rfl rfl rfl rfl ?_
          refine g_iload_n 15 (gd rfl) rfl rfl ?_
          refine g_iaload 16 (gd rfl) rfl (n := 160) rfl (in_ix i5 rfl) (fun z21 e22 => ?_)
          have q23 : z11 = z21 := e12.trans e22.symm
          subst q23
          refine g_aload_n 17 (gd rfl) rfl rfl ?_
          refine g_getA (q2 := 35) 20 (gd rfl) rfl rfl rfl rfl rfl ?_
          refine g_iload_n 21 (gd rfl) rfl rfl ?_
          refine g_iaload 22 (gd rfl) rfl (n := 160) rfl (in_ix i5 rfl) (fun z24 e25 => ?_)
          have i26 := inv_I hI (n := 160) (t := 0) 0 31 rfl (in_ix i5 rfl) rfl e25
          refine g_cmp_eq 25 29 (gd rfl) rfl rfl (fun c27 => ?_) (fun c27 => ?_)
          · skip
            refine g_iconst 0 30 (gd rfl) rfl rfl ?_
            refine g_ireturn (gd rfl) rfl (nb01 (in_w 0 1 (in_c 0 rfl) rfl)) (hp9 _ _ ?_)
            show GG _ _ _ _ _ _ _ _ [.int (Int32.ofInt 0)] _ _ _
            refine g_if_eq 23 47 (gd rfl) rfl rfl (fun c28 => ?_) (fun c28 => ?_)
            · skip
              refine g_iinc 50 (gd rfl) rfl rfl (Nat.le_of_ble_eq_true rfl) (fun z29 e30 => ?_)
              have i31 := in_add 1 160 e30 i5 (in_c 1 rfl) rfl rfl
              refine g_goto 7 (gd rfl) rfl ?_
              exact gg_w (by omega) (gg_f (gf_cons rfl (gf_cons rfl (gf_cons rfl gf_nil))) (ih7 s z29 hI (in_w 0 160 i31 rfl) (m_up mm7 (t_add e30 i5 (in_c 1 rfl) rfl) (in_w 1 1 (in_c 1 rfl) rfl))))
            · skip
              exact zn_ne c28 (in_c 0 rfl) rfl
          · skip
            refine g_iconst 1 26 (gd rfl) rfl rfl ?_
            refine g_goto 30 (gd rfl) rfl ?_
            refine g_ireturn (gd rfl) rfl (nb01 (in_w 0 1 (in_c 1 rfl) rfl)) (hp9 _ _ ?_)
            show GG _ _ _ _ _ _ _ _ [.int (Int32.ofInt 1)] _ _ _
            refine g_if_eq 23 47 (gd rfl) rfl rfl (fun c32 => ?_) (fun c32 => ?_)
            · skip
              exact zn_eq c32 (in_c 1 rfl) rfl
            · skip
              refine g_aload_n 24 (gd rfl) rfl rfl ?_
              refine g_aload_n 25 (gd rfl) rfl rfl ?_
              refine g_getA (q2 := 34) 28 (gd rfl) rfl rfl rfl rfl rfl ?_
              refine g_iload_n 29 (gd rfl) rfl rfl ?_
              refine g_iaload 30 (gd rfl) rfl (n := 160) rfl (in_ix i5 rfl) (fun z33 e34 => ?_)
              have q35 : z11 = z33 := e12.trans e34.symm
              subst q35
              refine g_dup2 31 (gd rfl) rfl rfl rfl ?_
              refine g_iaload 32 (gd rfl) rfl (n := 32) rfl (in_ix i20 rfl) (fun z36 e37 => ?_)
              refine g_iconst 1 33 (gd rfl) rfl rfl ?_
              refine g_iadd 34 (gd rfl) rfl (fun z38 e39 => ?_)
              refine g_iastore 35 (gd rfl) rfl (n := 32) rfl (in_ix i20 rfl) ?_
              have hI40 := inv_sI (q := 59) (j := z11.toNatClampNeg) hI rfl (in_w (-2147483648) 2147483647 (i_rng z38) rfl)
              refine g_aload_n 36 (gd rfl) rfl rfl ?_
              refine g_aload_n 37 (gd rfl) rfl rfl ?_
              refine g_getA (q2 := 35) 40 (gd rfl) rfl rfl rfl rfl rfl ?_
              refine g_iload_n 41 (gd rfl) rfl rfl ?_
              refine g_iaload 42 (gd rfl) rfl (n := 160) rfl (in_ix i5 rfl) (fun z41 e42 => ?_)
              have q43 : z24 = z41 := e25.trans e42.symm
              subst q43
              refine g_dup2 43 (gd rfl) rfl rfl rfl ?_
              refine g_iaload 44 (gd rfl) rfl (n := 32) rfl (in_ix i26 rfl) (fun z44 e45 => ?_)
              refine g_iconst 1 45 (gd rfl) rfl rfl ?_
              refine g_iadd 46 (gd rfl) rfl (fun z46 e47 => ?_)
              refine g_iastore 47 (gd rfl) rfl (n := 32) rfl (in_ix i26 rfl) ?_
              have hI48 := inv_sI (q := 59) (j := z24.toNatClampNeg) hI40 rfl (in_w (-2147483648) 2147483647 (i_rng z46) rfl)
              refine g_iinc 50 (gd rfl) rfl rfl (Nat.le_of_ble_eq_true rfl) (fun z49 e50 => ?_)
              have i51 := in_add 1 160 e50 i5 (in_c 1 rfl) rfl rfl
              refine g_goto 7 (gd rfl) rfl ?_
              exact gg_w (by omega) (gg_f (gf_cons rfl (gf_cons rfl (gf_cons rfl gf_nil))) (ih7 (sI (sI s 59 z11.toNatClampNeg z38) 59 z24.toNatClampNeg z46) z49 hI48 (in_w 0 160 i51 rfl) (m_up mm7 (t_add e50 i5 (in_c 1 rfl) rfl) (in_w 1 1 (in_c 1 rfl) rfl))))
  refine g_enter2 (k := 99) (N := 145801) (by omega) rfl (Nat.le_of_ble_eq_true rfl) ?_
  refine g_aload_n 1 (gd rfl) rfl rfl ?_
  refine g_iconst 0 2 (gd rfl) rfl rfl ?_
  refine g_calls (As := [.ref (A 59), .int (Int32.ofInt 0)]) (r := []) 5 (gd rfl) rfl rfl rfl rfl rfl (Nat.le_of_ble_eq_true rfl) (Nat.zero_le _) (Nat.zero_le _) (k_fillI 59 (by omega) hI (in_c 0 rfl) (n := 32) rfl rfl rfl rfl) (fun v u h => ?_)
  obtain ⟨s52, hI53, rfl, rfl⟩ := h
  show GG _ _ _ _ _ _ _ _ [] _ _ _
  refine g_iconst 0 6 (gd rfl) rfl rfl ?_
  refine g_istore_n 7 (gd rfl) rfl (Nat.le_of_ble_eq_true rfl) ?_
  exact gg_w (by omega) (gg_f (gf_cons rfl (gf_cons rfl (gf_cons rfl gf_nil))) (ct7 161 s52 (Int32.ofInt 0) hI53 (in_w 0 160 (in_c 0 rfl) rfl) (m_in 161 (in_w 0 160 (in_c 0 rfl) rfl) rfl)))

/-- GraphHouse$Graph.freePlace -/
theorem k_101_2 {Z : AmZ} {A : Nat → Nat} {s : GS} {ex : va_W} {d : Nat} {X : AmX}  (hd : 1 ≤ d) (hI : Inv s)  : GC Z d 101 [.ref (A 2)] (WW Z A s ++ ex) 0 0 (fun v u => ∃ z : Int32, v = some (.int z) ∧ u = WW Z A s ++ ex ∧ In z (-1) 159) X := by
  intro post xp hP hX
  have ct2 : ∀ (k2 : Nat) (y2_1 : Int32), In y2_1 0 160 → 160 - (y2_1).toInt < (k2 : Int) → GG Z (d - 1) 101 post (gx xp) (1 + k2 * 900) 2 (fun j => xlook j [(0, .ref (A 2)), (1, .int y2_1)]) [] (WW Z A s ++ ex) 0 0 := by
    intro k2
    induction k2 with
    | zero => intro y2_1 j2_1 mm2; exact m_no mm2 j2_1 rfl
    | succ k2 ih2 =>
      intro y2_1 j2_1 mm2
      refine gg_w (M := 1 + k2 * 900 + 900) (by omega) ?_
      refine g_iload_n 3 (gd rfl) rfl rfl ?_
      refine g_sipush 160 6 (gd rfl) rfl rfl ?_
      refine g_cmp_ge 9 27 (gd rfl) rfl rfl (fun c1 => ?_) (fun c1 => ?_)
      · skip
        have i2 := r_le2 160 160 c1 (in_c 160 rfl) j2_1 rfl
        refine g_iconst (-1) 28 (gd rfl) rfl rfl ?_
        exact g_ireturn (gd rfl) rfl rfl (hP _ _ ⟨(Int32.ofInt (-1)), rfl, rfl, in_w (-1) 159 (in_c (-1) rfl) rfl⟩)
      · skip
        have i3 := r_lt1 0 159 c1 j2_1 (in_c 160 rfl) rfl
        refine g_aload_n 10 (gd rfl) rfl rfl ?_
        refine g_getA (q2 := 4) 13 (gd rfl) rfl rfl rfl rfl rfl ?_
        refine g_iload_n 14 (gd rfl) rfl rfl ?_
        refine g_iaload 15 (gd rfl) rfl (n := 160) rfl (in_ix i3 rfl) (fun z4 e5 => ?_)
        have i6 := inv_I hI (n := 160) (t := 0) (-1) 31 rfl (in_ix i3 rfl) rfl e5
        refine g_iconst (-1) 16 (gd rfl) rfl rfl ?_
        refine g_cmp_ne 19 21 (gd rfl) rfl rfl (fun c7 => ?_) (fun c7 => ?_)
        · skip
          have i8 := r_ne1 0 31 c7 i6 (in_c (-1) rfl) rfl
          refine g_iinc 24 (gd rfl) rfl rfl (Nat.le_of_ble_eq_true rfl) (fun z9 e10 => ?_)
          have i11 := in_add 1 160 e10 i3 (in_c 1 rfl) rfl rfl
          refine g_goto 2 (gd rfl) rfl ?_
          exact gg_w (by omega) (gg_f (gf_cons rfl (gf_cons rfl gf_nil)) (ih2  z9  (in_w 0 160 i11 rfl) (m_up mm2 (t_add e10 i3 (in_c 1 rfl) rfl) (in_w 1 1 (in_c 1 rfl) rfl))))
        · skip
          have i12 := r_eq1 (-1) (-1) c7 i6 (in_c (-1) rfl) rfl
          refine g_iload_n 20 (gd rfl) rfl rfl ?_
          exact g_ireturn (gd rfl) rfl rfl (hP _ _ ⟨y2_1, rfl, rfl, in_w (-1) 159 i3 rfl⟩)
  refine g_enter2 (k := 101) (N := 145801) (by omega) rfl (Nat.le_of_ble_eq_true rfl) ?_
  refine g_iconst 0 1 (gd rfl) rfl rfl ?_
  refine g_istore_n 2 (gd rfl) rfl (Nat.le_of_ble_eq_true rfl) ?_
  exact gg_w (by omega) (gg_f (gf_cons rfl (gf_cons rfl gf_nil)) (ct2 161  (Int32.ofInt 0)  (in_w 0 160 (in_c 0 rfl) rfl) (m_in 161 (in_w 0 160 (in_c 0 rfl) rfl) rfl)))

/-- GraphHouse$Groups.score -/
theorem k_118_86 {Z : AmZ} {A : Nat → Nat} {s : GS} {ex : va_W} {d : Nat} {X : AmX} {x1 : Int32} {x2 : Int32} (hd : 1 ≤ d) (hI : Inv s) (h1 : In x1 0 31) (h2 : In x2 0 31) : GC Z d 118 [.ref (A 86), .int x1, .int x2] (WW Z A s ++ ex) 0 0 (fun v u => ∃ z : Int64, v = some (.long z) ∧ u = WW Z A s ++ ex) X := by
  intro post xp hP hX
  refine g_enter2 (k := 118) (N := 900) (by omega) rfl (Nat.le_of_ble_eq_true rfl) ?_
  refine g_aload_n 1 (gd rfl) rfl rfl ?_
  refine g_getA (q2 := 89) 4 (gd rfl) rfl rfl rfl rfl rfl ?_
  refine g_iload_n 5 (gd rfl) rfl rfl ?_
  refine g_iaload 6 (gd rfl) rfl (n := 32) rfl (in_ix h1 rfl) (fun z1 e2 => ?_)
  have i3 := inv_I hI (n := 32) (t := 0) 0 31 rfl (in_ix h1 rfl) rfl e2
  refine g_iload_n 7 (gd rfl) rfl rfl ?_
  refine g_cmp_ne 10 26 (gd rfl) rfl rfl (fun c4 => ?_) (fun c4 => ?_)
  · skip
    refine g_aload_n 27 (gd rfl) rfl rfl ?_
    refine g_getA (q2 := 92) 30 (gd rfl) rfl rfl rfl rfl rfl ?_
    refine g_iload_n 31 (gd rfl) rfl rfl ?_
    refine g_iaload 32 (gd rfl) rfl (n := 32) rfl (in_ix h2 rfl) (fun z5 e6 => ?_)
    refine g_istore_n 33 (gd rfl) rfl (Nat.le_of_ble_eq_true rfl) ?_
    refine g_ldc2_w 2 36 (gd rfl) rfl rfl ?_
    refine g_aload_n 37 (gd rfl) rfl rfl ?_
    refine g_getI 40 (gd rfl) rfl rfl rfl (fun z7 e8 => ?_)
    have i9 := inv_F hI 0 160 rfl e8
    refine g_i2l 41 (gd rfl) rfl (fun z10 e11 => ?_)
    have i12 := l_i e11 i9
    refine g_lmul 42 (gd rfl) rfl (fun z13 e14 => ?_)
    refine g_aload_n 43 (gd rfl) rfl rfl ?_
    refine g_getA (q2 := 93) 46 (gd rfl) rfl rfl rfl rfl rfl ?_
    refine g_iload_n 47 (gd rfl) rfl rfl ?_
    refine g_iaload 48 (gd rfl) rfl (n := 32) rfl (in_ix h2 rfl) (fun z15 e16 => ?_)
    refine g_i2l 49 (gd rfl) rfl (fun z17 e18 => ?_)
    have i19 := l_i e18 (i_rng z15)
    refine g_lmul 50 (gd rfl) rfl (fun z20 e21 => ?_)
    refine g_aload_n 51 (gd rfl) rfl rfl ?_
    refine g_getA (q2 := 91) 54 (gd rfl) rfl rfl rfl rfl rfl ?_
    refine g_iload_n 55 (gd rfl) rfl rfl ?_
    refine g_iaload 56 (gd rfl) rfl (n := 32) rfl (in_ix h1 rfl) (fun z22 e23 => ?_)
    refine g_i2l 57 (gd rfl) rfl (fun z24 e25 => ?_)
    have i26 := l_i e25 (i_rng z22)
    refine g_iload_n 58 (gd rfl) rfl rfl ?_
    refine g_i2l 59 (gd rfl) rfl (fun z27 e28 => ?_)
    have i29 := l_i e28 (i_rng z5)
    refine g_lmul 60 (gd rfl) rfl (fun z30 e31 => ?_)
    refine g_lsub 61 (gd rfl) rfl (fun z32 e33 => ?_)
    exact g_lreturn (gd rfl) rfl (hP _ _ ⟨z32, rfl, rfl⟩)
  · skip
    refine g_aload_n 11 (gd rfl) rfl rfl ?_
    refine g_getA (q2 := 92) 14 (gd rfl) rfl rfl rfl rfl rfl ?_
    refine g_iload_n 15 (gd rfl) rfl rfl ?_
    refine g_iaload 16 (gd rfl) rfl (n := 32) rfl (in_ix h2 rfl) (fun z34 e35 => ?_)
    refine g_aload_n 17 (gd rfl) rfl rfl ?_
    refine g_getA (q2 := 91) 20 (gd rfl) rfl rfl rfl rfl rfl ?_
    refine g_iload_n 21 (gd rfl) rfl rfl ?_
    refine g_iaload 22 (gd rfl) rfl (n := 32) rfl (in_ix h1 rfl) (fun z36 e37 => ?_)
    refine g_isub 23 (gd rfl) rfl (fun z38 e39 => ?_)
    refine g_goto 32 (gd rfl) rfl ?_
    refine g_istore_n 33 (gd rfl) rfl (Nat.le_of_ble_eq_true rfl) ?_
    refine g_ldc2_w 2 36 (gd rfl) rfl rfl ?_
    refine g_aload_n 37 (gd rfl) rfl rfl ?_
    refine g_getI 40 (gd rfl) rfl rfl rfl (fun z40 e41 => ?_)
    have i42 := inv_F hI 0 160 rfl e41
    refine g_i2l 41 (gd rfl) rfl (fun z43 e44 => ?_)
    have i45 := l_i e44 i42
    refine g_lmul 42 (gd rfl) rfl (fun z46 e47 => ?_)
    refine g_aload_n 43 (gd rfl) rfl rfl ?_
    refine g_getA (q2 := 93) 46 (gd rfl) rfl rfl rfl rfl rfl ?_
    refine g_iload_n 47 (gd rfl) rfl rfl ?_
    refine g_iaload 48 (gd rfl) rfl (n := 32) rfl (in_ix h2 rfl) (fun z48 e49 => ?_)
    refine g_i2l 49 (gd rfl) rfl (fun z50 e51 => ?_)
    have i52 := l_i e51 (i_rng z48)
    refine g_lmul 50 (gd rfl) rfl (fun z53 e54 => ?_)
    refine g_aload_n 51 (gd rfl) rfl rfl ?_
    refine g_getA (q2 := 91) 54 (gd rfl) rfl rfl rfl rfl rfl ?_
    refine g_iload_n 55 (gd rfl) rfl rfl ?_
    refine g_iaload 56 (gd rfl) rfl (n := 32) rfl (in_ix h1 rfl) (fun z55 e56 => ?_)
    have q57 : z36 = z55 := e37.trans e56.symm
    subst q57
    refine g_i2l 57 (gd rfl) rfl (fun z58 e59 => ?_)
    have i60 := l_i e59 (i_rng z36)
    refine g_iload_n 58 (gd rfl) rfl rfl ?_
    refine g_i2l 59 (gd rfl) rfl (fun z61 e62 => ?_)
    have i63 := l_i e62 (i_rng z38)
    refine g_lmul 60 (gd rfl) rfl (fun z64 e65 => ?_)
    refine g_lsub 61 (gd rfl) rfl (fun z66 e67 => ?_)
    exact g_lreturn (gd rfl) rfl (hP _ _ ⟨z66, rfl, rfl⟩)

/-- GraphHouse$Groups.freeGroup -/
theorem k_119_86 {Z : AmZ} {A : Nat → Nat} {s : GS} {ex : va_W} {d : Nat} {X : AmX}  (hd : 1 ≤ d) (hI : Inv s)  : GC Z d 119 [.ref (A 86)] (WW Z A s ++ ex) 0 0 (fun v u => ∃ z : Int32, v = some (.int z) ∧ u = WW Z A s ++ ex ∧ In z (-1) 31) X := by
  intro post xp hP hX
  have ct2 : ∀ (k2 : Nat) (y2_1 : Int32), In y2_1 0 32 → 32 - (y2_1).toInt < (k2 : Int) → GG Z (d - 1) 119 post (gx xp) (1 + k2 * 900) 2 (fun j => xlook j [(0, .ref (A 86)), (1, .int y2_1)]) [] (WW Z A s ++ ex) 0 0 := by
    intro k2
    induction k2 with
    | zero => intro y2_1 j2_1 mm2; exact m_no mm2 j2_1 rfl
    | succ k2 ih2 =>
      intro y2_1 j2_1 mm2
      refine gg_w (M := 1 + k2 * 900 + 900) (by omega) ?_
      refine g_iload_n 3 (gd rfl) rfl rfl ?_
      refine g_bipush 32 5 (gd rfl) rfl rfl ?_
      refine g_cmp_ge 8 25 (gd rfl) rfl rfl (fun c1 => ?_) (fun c1 => ?_)
      · skip
        have i2 := r_le2 32 32 c1 (in_c 32 rfl) j2_1 rfl
        refine g_iconst (-1) 26 (gd rfl) rfl rfl ?_
        exact g_ireturn (gd rfl) rfl rfl (hP _ _ ⟨(Int32.ofInt (-1)), rfl, rfl, in_w (-1) 31 (in_c (-1) rfl) rfl⟩)
      · skip
        have i3 := r_lt1 0 31 c1 j2_1 (in_c 32 rfl) rfl
        refine g_aload_n 9 (gd rfl) rfl rfl ?_
        refine g_getA (q2 := 90) 12 (gd rfl) rfl rfl rfl rfl rfl ?_
        refine g_iload_n 13 (gd rfl) rfl rfl ?_
        refine g_iaload 14 (gd rfl) rfl (n := 32) rfl (in_ix i3 rfl) (fun z4 e5 => ?_)
        refine g_if_ne 17 19 (gd rfl) rfl rfl (fun c6 => ?_) (fun c6 => ?_)
        · skip
          refine g_iinc 22 (gd rfl) rfl rfl (Nat.le_of_ble_eq_true rfl) (fun z7 e8 => ?_)
          have i9 := in_add 1 32 e8 i3 (in_c 1 rfl) rfl rfl
          refine g_goto 2 (gd rfl) rfl ?_
          exact gg_w (by omega) (gg_f (gf_cons rfl (gf_cons rfl gf_nil)) (ih2  z7  (in_w 0 32 i9 rfl) (m_up mm2 (t_add e8 i3 (in_c 1 rfl) rfl) (in_w 1 1 (in_c 1 rfl) rfl))))
        · skip
          have i10 := z_eq 0 0 c6 (i_rng z4) rfl
          refine g_iload_n 18 (gd rfl) rfl rfl ?_
          exact g_ireturn (gd rfl) rfl rfl (hP _ _ ⟨y2_1, rfl, rfl, in_w (-1) 31 i3 rfl⟩)
  refine g_enter2 (k := 119) (N := 30601) (by omega) rfl (Nat.le_of_ble_eq_true rfl) ?_
  refine g_iconst 0 1 (gd rfl) rfl rfl ?_
  refine g_istore_n 2 (gd rfl) rfl (Nat.le_of_ble_eq_true rfl) ?_
  exact gg_w (by omega) (gg_f (gf_cons rfl (gf_cons rfl gf_nil)) (ct2 33  (Int32.ofInt 0)  (in_w 0 32 (in_c 0 rfl) rfl) (m_in 33 (in_w 0 32 (in_c 0 rfl) rfl) rfl)))

/-- GraphHouse$Parts.firstFree -/
theorem k_146_2 {Z : AmZ} {A : Nat → Nat} {s : GS} {ex : va_W} {d : Nat} {X : AmX} {x1 : Int32} (hd : 4 ≤ d) (hI : Inv s)  : GC Z d 146 [.ref (A 2), .int x1] (WW Z A s ++ ex) 0 0 (fun v u => ∃ z : Int32, v = some (.int z) ∧ u = WW Z A s ++ ex ∧ In z (-1) 31) X := by
  intro post xp hP hX
  have ct2 : ∀ (k2 : Nat) (y2_2 : Int32), ((y2_2.toBitVec.toNat : Nat) : Int) < (k2 : Int) → GG Z (d - 1) 146 post (gx xp) (1 + k2 * 900) 2 (fun j => xlook j [(0, .ref (A 2)), (1, .int x1), (2, .int y2_2)]) [] (WW Z A s ++ ex) 0 0 := by
    intro k2
    induction k2 with
    | zero => intro y2_2  mm2; exact absurd mm2 (Int.not_lt.mpr (Int.natCast_nonneg _))
    | succ k2 ih2 =>
      intro y2_2  mm2
      refine gg_w (M := 1 + k2 * 900 + 900) (by omega) ?_
      refine g_iload_n 3 (gd rfl) rfl rfl ?_
      refine g_if_eq 6 34 (gd rfl) rfl rfl (fun c1 => ?_) (fun c1 => ?_)
      · skip
        have i2 := z_eq 0 0 c1 (i_rng y2_2) rfl
        refine g_iconst (-1) 35 (gd rfl) rfl rfl ?_
        exact g_ireturn (gd rfl) rfl rfl (hP _ _ ⟨(Int32.ofInt (-1)), rfl, rfl, in_w (-1) 31 (in_c (-1) rfl) rfl⟩)
      · skip
        refine g_aload_n 7 (gd rfl) rfl rfl ?_
        refine g_getA (q2 := 11) 10 (gd rfl) rfl rfl rfl rfl rfl ?_
        refine g_iload_n 11 (gd rfl) rfl rfl ?_
        refine g_calls (As := [.int y2_2]) (r := [.ref (A 11)]) 14 (gd rfl) rfl rfl rfl rfl rfl (Nat.le_of_ble_eq_true rfl) (Nat.zero_le _) (Nat.zero_le _) (k_264n (by omega) c1) (fun v u h => ?_)
        obtain ⟨z3, rfl, rfl, i4⟩ := h
        show GG _ _ _ _ _ _ _ _ [.int z3, .ref (A 11)] _ _ _
        refine g_iaload 15 (gd rfl) rfl (n := 32) rfl (in_ix i4 rfl) (fun z5 e6 => ?_)
        refine g_iload_n 16 (gd rfl) rfl rfl ?_
        refine g_iand 17 (gd rfl) rfl (fun z7 e8 => ?_)
        refine g_if_ne 20 25 (gd rfl) rfl rfl (fun c9 => ?_) (fun c9 => ?_)
        · skip
          refine g_iload_n 26 (gd rfl) rfl rfl ?_
          refine g_iload_n 27 (gd rfl) rfl rfl ?_
          refine g_iconst 1 28 (gd rfl) rfl rfl ?_
          refine g_isub 29 (gd rfl) rfl (fun z10 e11 => ?_)
          refine g_iand 30 (gd rfl) rfl (fun z12 e13 => ?_)
          refine g_istore_n 31 (gd rfl) rfl (Nat.le_of_ble_eq_true rfl) ?_
          refine g_goto 2 (gd rfl) rfl ?_
          exact gg_w (by omega) (gg_f (gf_cons rfl (gf_cons rfl (gf_cons rfl gf_nil))) (ih2  z12   (mb e13 e11 c1 mm2)))
        · skip
          have i14 := z_eq 0 0 c9 (i_rng z7) rfl
          refine g_iload_n 21 (gd rfl) rfl rfl ?_
          refine g_calls (As := [.int y2_2]) (r := []) 24 (gd rfl) rfl rfl rfl rfl rfl (Nat.le_of_ble_eq_true rfl) (Nat.zero_le _) (Nat.zero_le _) (k_264n (by omega) c1) (fun v u h => ?_)
          obtain ⟨z15, rfl, rfl, i16⟩ := h
          show GG _ _ _ _ _ _ _ _ [.int z15] _ _ _
          exact g_ireturn (gd rfl) rfl rfl (hP _ _ ⟨z15, rfl, rfl, in_w (-1) 31 i16 rfl⟩)
  refine g_enter2 (k := 146) (N := 3865470567301) (by omega) rfl (Nat.le_of_ble_eq_true rfl) ?_
  refine g_iload_n 1 (gd rfl) rfl rfl ?_
  refine g_istore_n 2 (gd rfl) rfl (Nat.le_of_ble_eq_true rfl) ?_
  exact gg_w (by omega) (gg_f (gf_cons rfl (gf_cons rfl (gf_cons rfl gf_nil))) (ct2 4294967296  x1   (mb_in _)))

/-- GraphHouse$Parts.firstFree -/
theorem k_146_32 {Z : AmZ} {A : Nat → Nat} {s : GS} {ex : va_W} {d : Nat} {X : AmX} {x1 : Int32} (hd : 4 ≤ d) (hI : Inv s)  : GC Z d 146 [.ref (A 32), .int x1] (WW Z A s ++ ex) 0 0 (fun v u => ∃ z : Int32, v = some (.int z) ∧ u = WW Z A s ++ ex ∧ In z (-1) 31) X := by
  intro post xp hP hX
  have ct2 : ∀ (k2 : Nat) (y2_2 : Int32), ((y2_2.toBitVec.toNat : Nat) : Int) < (k2 : Int) → GG Z (d - 1) 146 post (gx xp) (1 + k2 * 900) 2 (fun j => xlook j [(0, .ref (A 32)), (1, .int x1), (2, .int y2_2)]) [] (WW Z A s ++ ex) 0 0 := by
    intro k2
    induction k2 with
    | zero => intro y2_2  mm2; exact absurd mm2 (Int.not_lt.mpr (Int.natCast_nonneg _))
    | succ k2 ih2 =>
      intro y2_2  mm2
      refine gg_w (M := 1 + k2 * 900 + 900) (by omega) ?_
      refine g_iload_n 3 (gd rfl) rfl rfl ?_
      refine g_if_eq 6 34 (gd rfl) rfl rfl (fun c1 => ?_) (fun c1 => ?_)
      · skip
        have i2 := z_eq 0 0 c1 (i_rng y2_2) rfl
        refine g_iconst (-1) 35 (gd rfl) rfl rfl ?_
        exact g_ireturn (gd rfl) rfl rfl (hP _ _ ⟨(Int32.ofInt (-1)), rfl, rfl, in_w (-1) 31 (in_c (-1) rfl) rfl⟩)
      · skip
        refine g_aload_n 7 (gd rfl) rfl rfl ?_
        refine g_getA (q2 := 41) 10 (gd rfl) rfl rfl rfl rfl rfl ?_
        refine g_iload_n 11 (gd rfl) rfl rfl ?_
        refine g_calls (As := [.int y2_2]) (r := [.ref (A 41)]) 14 (gd rfl) rfl rfl rfl rfl rfl (Nat.le_of_ble_eq_true rfl) (Nat.zero_le _) (Nat.zero_le _) (k_264n (by omega) c1) (fun v u h => ?_)
        obtain ⟨z3, rfl, rfl, i4⟩ := h
        show GG _ _ _ _ _ _ _ _ [.int z3, .ref (A 41)] _ _ _
        refine g_iaload 15 (gd rfl) rfl (n := 32) rfl (in_ix i4 rfl) (fun z5 e6 => ?_)
        refine g_iload_n 16 (gd rfl) rfl rfl ?_
        refine g_iand 17 (gd rfl) rfl (fun z7 e8 => ?_)
        refine g_if_ne 20 25 (gd rfl) rfl rfl (fun c9 => ?_) (fun c9 => ?_)
        · skip
          refine g_iload_n 26 (gd rfl) rfl rfl ?_
          refine g_iload_n 27 (gd rfl) rfl rfl ?_
          refine g_iconst 1 28 (gd rfl) rfl rfl ?_
          refine g_isub 29 (gd rfl) rfl (fun z10 e11 => ?_)
          refine g_iand 30 (gd rfl) rfl (fun z12 e13 => ?_)
          refine g_istore_n 31 (gd rfl) rfl (Nat.le_of_ble_eq_true rfl) ?_
          refine g_goto 2 (gd rfl) rfl ?_
          exact gg_w (by omega) (gg_f (gf_cons rfl (gf_cons rfl (gf_cons rfl gf_nil))) (ih2  z12   (mb e13 e11 c1 mm2)))
        · skip
          have i14 := z_eq 0 0 c9 (i_rng z7) rfl
          refine g_iload_n 21 (gd rfl) rfl rfl ?_
          refine g_calls (As := [.int y2_2]) (r := []) 24 (gd rfl) rfl rfl rfl rfl rfl (Nat.le_of_ble_eq_true rfl) (Nat.zero_le _) (Nat.zero_le _) (k_264n (by omega) c1) (fun v u h => ?_)
          obtain ⟨z15, rfl, rfl, i16⟩ := h
          show GG _ _ _ _ _ _ _ _ [.int z15] _ _ _
          exact g_ireturn (gd rfl) rfl rfl (hP _ _ ⟨z15, rfl, rfl, in_w (-1) 31 i16 rfl⟩)
  refine g_enter2 (k := 146) (N := 3865470567301) (by omega) rfl (Nat.le_of_ble_eq_true rfl) ?_
  refine g_iload_n 1 (gd rfl) rfl rfl ?_
  refine g_istore_n 2 (gd rfl) rfl (Nat.le_of_ble_eq_true rfl) ?_
  exact gg_w (by omega) (gg_f (gf_cons rfl (gf_cons rfl (gf_cons rfl gf_nil))) (ct2 4294967296  x1   (mb_in _)))

/-- GraphHouse$Parts.triangles -/
theorem k_151_56_2 {Z : AmZ} {A : Nat → Nat} {s : GS} {ex : va_W} {d : Nat} {X : AmX}  (hd : 4 ≤ d) (hI : Inv s)  : GC Z d 151 [.ref (A 56), .ref (A 2)] (WW Z A s ++ ex) 0 0 (fun v u => ∃ t : GS, Inv t ∧ ∃ z : Int64, v = some (.long z) ∧ u = WW Z A t ++ ex) X := by
  intro post xp hP hX
  have ct9 : ∀ (k9 : Nat) (s : GS) (y9_2 : Int64) (y9_4 : Int32), Inv s → In y9_4 0 32 → 32 - (y9_4).toInt < (k9 : Int) → GG Z (d - 1) 151 post (gx xp) (1 + k9 * 3865470569101) 9 (fun j => xlook j [(0, .ref (A 56)), (1, .ref (A 2)), (2, .long y9_2), (4, .int y9_4)]) [] (WW Z A s ++ ex) 0 0 := by
    intro k9
    induction k9 with
    | zero => intro s y9_2 y9_4 hI j9_4 mm9; exact m_no mm9 j9_4 rfl
    | succ k9 ih9 =>
      intro s y9_2 y9_4 hI j9_4 mm9
      refine gg_w (M := 1 + k9 * 3865470569101 + 3865470569101) (by omega) ?_
      have ct27 : ∀ (k27 : Nat) (s : GS) (y27_2 : Int64) (y27_5 : Int32), Inv s → In y9_4 0 31 → ((y27_5.toBitVec.toNat : Nat) : Int) < (k27 : Int) → GG Z (d - 1) 151 post (gx xp) (1 + k9 * 3865470569101 + 1 + k27 * 900) 27 (fun j => xlook j [(0, .ref (A 56)), (1, .ref (A 2)), (2, .long y27_2), (4, .int y9_4), (5, .int y27_5)]) [] (WW Z A s ++ ex) 0 0 := by
        intro k27
        induction k27 with
        | zero => intro s y27_2 y27_5 hI j27_4 mm27; exact absurd mm27 (Int.not_lt.mpr (Int.natCast_nonneg _))
        | succ k27 ih27 =>
          intro s y27_2 y27_5 hI j27_4 mm27
          refine gg_w (M := 1 + k9 * 3865470569101 + 1 + k27 * 900 + 900) (by omega) ?_
          refine g_iload 29 (gd rfl) rfl rfl ?_
          refine g_if_eq 32 69 (gd rfl) rfl rfl (fun c1 => ?_) (fun c1 => ?_)
          · skip
            have i2 := z_eq 0 0 c1 (i_rng y27_5) rfl
            refine g_iinc 72 (gd rfl) rfl rfl (Nat.le_of_ble_eq_true rfl) (fun z3 e4 => ?_)
            have i5 := in_add 1 32 e4 j27_4 (in_c 1 rfl) rfl rfl
            refine g_goto 9 (gd rfl) rfl ?_
            exact gg_w (by omega) (gg_f (gf_cons rfl (gf_cons rfl (gf_cons rfl (gf_cons rfl gf_nil)))) (ih9 s y27_2 z3 hI (in_w 0 32 i5 rfl) (m_up mm9 (t_add e4 j27_4 (in_c 1 rfl) rfl) (in_w 1 1 (in_c 1 rfl) rfl))))
          · skip
            refine g_lload_n 33 (gd rfl) rfl rfl ?_
            refine g_aload_n 34 (gd rfl) rfl rfl ?_
            refine g_getA (q2 := 9) 37 (gd rfl) rfl rfl rfl rfl rfl ?_
            refine g_iload 39 (gd rfl) rfl rfl ?_
            refine g_iaload 40 (gd rfl) rfl (n := 32) rfl (in_ix j27_4 rfl) (fun z6 e7 => ?_)
            refine g_aload_n 41 (gd rfl) rfl rfl ?_
            refine g_getA (q2 := 9) 44 (gd rfl) rfl rfl rfl rfl rfl ?_
            refine g_iload 46 (gd rfl) rfl rfl ?_
            refine g_calls (As := [.int y27_5]) (r := [.ref (A 9), .int z6, .long y27_2]) 49 (gd rfl) rfl rfl rfl rfl rfl (Nat.le_of_ble_eq_true rfl) (Nat.zero_le _) (Nat.zero_le _) (k_264n (by omega) c1) (fun v u h => ?_)
            obtain ⟨z8, rfl, rfl, i9⟩ := h
            show GG _ _ _ _ _ _ _ _ [.int z8, .ref (A 9), .int z6, .long y27_2] _ _ _
            refine g_iaload 50 (gd rfl) rfl (n := 32) rfl (in_ix i9 rfl) (fun z10 e11 => ?_)
            refine g_iand 51 (gd rfl) rfl (fun z12 e13 => ?_)
            refine g_calls (As := [.int z12]) (r := [.long y27_2]) 54 (gd rfl) rfl rfl rfl rfl rfl (Nat.le_of_ble_eq_true rfl) (Nat.zero_le _) (Nat.zero_le _) (k_414 (by omega) hI ) (fun v u h => ?_)
            obtain ⟨z14, rfl, rfl, i15⟩ := h
            show GG _ _ _ _ _ _ _ _ [.int z14, .long y27_2] _ _ _
            refine g_i2l 55 (gd rfl) rfl (fun z16 e17 => ?_)
            have i18 := l_i e17 i15
            refine g_ladd 56 (gd rfl) rfl (fun z19 e20 => ?_)
            refine g_lstore_n 57 (gd rfl) rfl (Nat.le_of_ble_eq_true rfl) ?_
            refine g_iload 59 (gd rfl) rfl rfl ?_
            refine g_iload 61 (gd rfl) rfl rfl ?_
            refine g_iconst 1 62 (gd rfl) rfl rfl ?_
            refine g_isub 63 (gd rfl) rfl (fun z21 e22 => ?_)
            refine g_iand 64 (gd rfl) rfl (fun z23 e24 => ?_)
            refine g_istore 66 (gd rfl) rfl (Nat.le_of_ble_eq_true rfl) ?_
            refine g_goto 27 (gd rfl) rfl ?_
            exact gg_w (by omega) (gg_f (gf_cons rfl (gf_cons rfl (gf_cons rfl (gf_cons rfl (gf_cons rfl gf_nil))))) (ih27 s z19 z23 hI (in_w 0 31 j27_4 rfl) (mb e24 e22 c1 mm27)))
      refine g_iload 11 (gd rfl) rfl rfl ?_
      refine g_aload_n 12 (gd rfl) rfl rfl ?_
      refine g_getI 15 (gd rfl) rfl rfl rfl (fun z25 e26 => ?_)
      have i27 := inv_F hI 0 32 rfl e26
      refine g_cmp_ge 18 75 (gd rfl) rfl rfl (fun c28 => ?_) (fun c28 => ?_)
      · skip
        refine g_lload_n 76 (gd rfl) rfl rfl ?_
        refine g_ldc2_w 6 79 (gd rfl) rfl rfl ?_
        refine g_ldiv 80 (gd rfl) rfl (by decide) (fun z29 e30 => ?_)
        exact g_lreturn (gd rfl) rfl (hP _ _ ⟨s, hI, z29, rfl, rfl⟩)
      · skip
        have i31 := r_lt1 0 31 c28 j9_4 i27 rfl
        have i32 := r_lt2 1 32 c28 j9_4 i27 rfl
        refine g_aload_n 19 (gd rfl) rfl rfl ?_
        refine g_getA (q2 := 9) 22 (gd rfl) rfl rfl rfl rfl rfl ?_
        refine g_iload 24 (gd rfl) rfl rfl ?_
        refine g_iaload 25 (gd rfl) rfl (n := 32) rfl (in_ix i31 rfl) (fun z33 e34 => ?_)
        refine g_istore 27 (gd rfl) rfl (Nat.le_of_ble_eq_true rfl) ?_
        exact gg_w (by omega) (gg_f (gf_cons rfl (gf_cons rfl (gf_cons rfl (gf_cons rfl (gf_cons rfl gf_nil))))) (ct27 4294967296 s y9_2 z33 hI (in_w 0 31 i31 rfl) (mb_in _)))
  refine g_enter2 (k := 151) (N := 127560528781234) (by omega) rfl (Nat.le_of_ble_eq_true rfl) ?_
  refine g_aload_n 1 (gd rfl) rfl rfl ?_
  refine g_callv (X := _) (As := []) (r := []) (b := A 2) (q := 2) 4 (gd rfl) rfl rfl rfl rfl rfl (ww_o rfl) (Nat.le_of_ble_eq_true rfl) (Nat.zero_le _) (Nat.zero_le _) (k_106_2 (by omega) hI ) (fun e u h => h) (fun v u h => ?_)
  obtain ⟨s35, hI36, rfl, rfl⟩ := h
  show GG _ _ _ _ _ _ _ _ [] _ _ _
  refine g_lconst 0 5 (gd rfl) rfl rfl ?_
  refine g_lstore_n 6 (gd rfl) rfl (Nat.le_of_ble_eq_true rfl) ?_
  refine g_iconst 0 7 (gd rfl) rfl rfl ?_
  refine g_istore 9 (gd rfl) rfl (Nat.le_of_ble_eq_true rfl) ?_
  exact gg_w (by omega) (gg_f (gf_cons rfl (gf_cons rfl (gf_cons rfl (gf_cons rfl gf_nil)))) (ct9 33 s35 (Int64.ofInt 0) (Int32.ofInt 0) hI36 (in_w 0 32 (in_c 0 rfl) rfl) (m_in 33 (in_w 0 32 (in_c 0 rfl) rfl) rfl)))

/-- GraphHouse$Parts.triangles -/
theorem k_151_56_32 {Z : AmZ} {A : Nat → Nat} {s : GS} {ex : va_W} {d : Nat} {X : AmX}  (hd : 4 ≤ d) (hI : Inv s)  : GC Z d 151 [.ref (A 56), .ref (A 32)] (WW Z A s ++ ex) 0 0 (fun v u => ∃ t : GS, Inv t ∧ ∃ z : Int64, v = some (.long z) ∧ u = WW Z A t ++ ex) X := by
  intro post xp hP hX
  have ct9 : ∀ (k9 : Nat) (s : GS) (y9_2 : Int64) (y9_4 : Int32), Inv s → In y9_4 0 32 → 32 - (y9_4).toInt < (k9 : Int) → GG Z (d - 1) 151 post (gx xp) (1 + k9 * 3865470569101) 9 (fun j => xlook j [(0, .ref (A 56)), (1, .ref (A 32)), (2, .long y9_2), (4, .int y9_4)]) [] (WW Z A s ++ ex) 0 0 := by
    intro k9
    induction k9 with
    | zero => intro s y9_2 y9_4 hI j9_4 mm9; exact m_no mm9 j9_4 rfl
    | succ k9 ih9 =>
      intro s y9_2 y9_4 hI j9_4 mm9
      refine gg_w (M := 1 + k9 * 3865470569101 + 3865470569101) (by omega) ?_
      have ct27 : ∀ (k27 : Nat) (s : GS) (y27_2 : Int64) (y27_5 : Int32), Inv s → In y9_4 0 31 → ((y27_5.toBitVec.toNat : Nat) : Int) < (k27 : Int) → GG Z (d - 1) 151 post (gx xp) (1 + k9 * 3865470569101 + 1 + k27 * 900) 27 (fun j => xlook j [(0, .ref (A 56)), (1, .ref (A 32)), (2, .long y27_2), (4, .int y9_4), (5, .int y27_5)]) [] (WW Z A s ++ ex) 0 0 := by
        intro k27
        induction k27 with
        | zero => intro s y27_2 y27_5 hI j27_4 mm27; exact absurd mm27 (Int.not_lt.mpr (Int.natCast_nonneg _))
        | succ k27 ih27 =>
          intro s y27_2 y27_5 hI j27_4 mm27
          refine gg_w (M := 1 + k9 * 3865470569101 + 1 + k27 * 900 + 900) (by omega) ?_
          refine g_iload 29 (gd rfl) rfl rfl ?_
          refine g_if_eq 32 69 (gd rfl) rfl rfl (fun c1 => ?_) (fun c1 => ?_)
          · skip
            have i2 := z_eq 0 0 c1 (i_rng y27_5) rfl
            refine g_iinc 72 (gd rfl) rfl rfl (Nat.le_of_ble_eq_true rfl) (fun z3 e4 => ?_)
            have i5 := in_add 1 32 e4 j27_4 (in_c 1 rfl) rfl rfl
            refine g_goto 9 (gd rfl) rfl ?_
            exact gg_w (by omega) (gg_f (gf_cons rfl (gf_cons rfl (gf_cons rfl (gf_cons rfl gf_nil)))) (ih9 s y27_2 z3 hI (in_w 0 32 i5 rfl) (m_up mm9 (t_add e4 j27_4 (in_c 1 rfl) rfl) (in_w 1 1 (in_c 1 rfl) rfl))))
          · skip
            refine g_lload_n 33 (gd rfl) rfl rfl ?_
            refine g_aload_n 34 (gd rfl) rfl rfl ?_
            refine g_getA (q2 := 39) 37 (gd rfl) rfl rfl rfl rfl rfl ?_
            refine g_iload 39 (gd rfl) rfl rfl ?_
            refine g_iaload 40 (gd rfl) rfl (n := 32) rfl (in_ix j27_4 rfl) (fun z6 e7 => ?_)
            refine g_aload_n 41 (gd rfl) rfl rfl ?_
            refine g_getA (q2 := 39) 44 (gd rfl) rfl rfl rfl rfl rfl ?_
            refine g_iload 46 (gd rfl) rfl rfl ?_
            refine g_calls (As := [.int y27_5]) (r := [.ref (A 39), .int z6, .long y27_2]) 49 (gd rfl) rfl rfl rfl rfl rfl (Nat.le_of_ble_eq_true rfl) (Nat.zero_le _) (Nat.zero_le _) (k_264n (by omega) c1) (fun v u h => ?_)
            obtain ⟨z8, rfl, rfl, i9⟩ := h
            show GG _ _ _ _ _ _ _ _ [.int z8, .ref (A 39), .int z6, .long y27_2] _ _ _
            refine g_iaload 50 (gd rfl) rfl (n := 32) rfl (in_ix i9 rfl) (fun z10 e11 => ?_)
            refine g_iand 51 (gd rfl) rfl (fun z12 e13 => ?_)
            refine g_calls (As := [.int z12]) (r := [.long y27_2]) 54 (gd rfl) rfl rfl rfl rfl rfl (Nat.le_of_ble_eq_true rfl) (Nat.zero_le _) (Nat.zero_le _) (k_414 (by omega) hI ) (fun v u h => ?_)
            obtain ⟨z14, rfl, rfl, i15⟩ := h
            show GG _ _ _ _ _ _ _ _ [.int z14, .long y27_2] _ _ _
            refine g_i2l 55 (gd rfl) rfl (fun z16 e17 => ?_)
            have i18 := l_i e17 i15
            refine g_ladd 56 (gd rfl) rfl (fun z19 e20 => ?_)
            refine g_lstore_n 57 (gd rfl) rfl (Nat.le_of_ble_eq_true rfl) ?_
            refine g_iload 59 (gd rfl) rfl rfl ?_
            refine g_iload 61 (gd rfl) rfl rfl ?_
            refine g_iconst 1 62 (gd rfl) rfl rfl ?_
            refine g_isub 63 (gd rfl) rfl (fun z21 e22 => ?_)
            refine g_iand 64 (gd rfl) rfl (fun z23 e24 => ?_)
            refine g_istore 66 (gd rfl) rfl (Nat.le_of_ble_eq_true rfl) ?_
            refine g_goto 27 (gd rfl) rfl ?_
            exact gg_w (by omega) (gg_f (gf_cons rfl (gf_cons rfl (gf_cons rfl (gf_cons rfl (gf_cons rfl gf_nil))))) (ih27 s z19 z23 hI (in_w 0 31 j27_4 rfl) (mb e24 e22 c1 mm27)))
      refine g_iload 11 (gd rfl) rfl rfl ?_
      refine g_aload_n 12 (gd rfl) rfl rfl ?_
      refine g_getI 15 (gd rfl) rfl rfl rfl (fun z25 e26 => ?_)
      have i27 := inv_F hI 0 32 rfl e26
      refine g_cmp_ge 18 75 (gd rfl) rfl rfl (fun c28 => ?_) (fun c28 => ?_)
      · skip
        refine g_lload_n 76 (gd rfl) rfl rfl ?_
        refine g_ldc2_w 6 79 (gd rfl) rfl rfl ?_
        refine g_ldiv 80 (gd rfl) rfl (by decide) (fun z29 e30 => ?_)
        exact g_lreturn (gd rfl) rfl (hP _ _ ⟨s, hI, z29, rfl, rfl⟩)
      · skip
        have i31 := r_lt1 0 31 c28 j9_4 i27 rfl
        have i32 := r_lt2 1 32 c28 j9_4 i27 rfl
        refine g_aload_n 19 (gd rfl) rfl rfl ?_
        refine g_getA (q2 := 39) 22 (gd rfl) rfl rfl rfl rfl rfl ?_
        refine g_iload 24 (gd rfl) rfl rfl ?_
        refine g_iaload 25 (gd rfl) rfl (n := 32) rfl (in_ix i31 rfl) (fun z33 e34 => ?_)
        refine g_istore 27 (gd rfl) rfl (Nat.le_of_ble_eq_true rfl) ?_
        exact gg_w (by omega) (gg_f (gf_cons rfl (gf_cons rfl (gf_cons rfl (gf_cons rfl (gf_cons rfl gf_nil))))) (ct27 4294967296 s y9_2 z33 hI (in_w 0 31 i31 rfl) (mb_in _)))
  refine g_enter2 (k := 151) (N := 127560528781234) (by omega) rfl (Nat.le_of_ble_eq_true rfl) ?_
  refine g_aload_n 1 (gd rfl) rfl rfl ?_
  refine g_callv (X := _) (As := []) (r := []) (b := A 32) (q := 32) 4 (gd rfl) rfl rfl rfl rfl rfl (ww_o rfl) (Nat.le_of_ble_eq_true rfl) (Nat.zero_le _) (Nat.zero_le _) (k_106_32 (by omega) hI ) (fun e u h => h) (fun v u h => ?_)
  obtain ⟨s35, hI36, rfl, rfl⟩ := h
  show GG _ _ _ _ _ _ _ _ [] _ _ _
  refine g_lconst 0 5 (gd rfl) rfl rfl ?_
  refine g_lstore_n 6 (gd rfl) rfl (Nat.le_of_ble_eq_true rfl) ?_
  refine g_iconst 0 7 (gd rfl) rfl rfl ?_
  refine g_istore 9 (gd rfl) rfl (Nat.le_of_ble_eq_true rfl) ?_
  exact gg_w (by omega) (gg_f (gf_cons rfl (gf_cons rfl (gf_cons rfl (gf_cons rfl gf_nil)))) (ct9 33 s35 (Int64.ofInt 0) (Int32.ofInt 0) hI36 (in_w 0 32 (in_c 0 rfl) rfl) (m_in 33 (in_w 0 32 (in_c 0 rfl) rfl) rfl)))

/-- GraphHouse$Parts.squares -/
theorem k_152_56_2 {Z : AmZ} {A : Nat → Nat} {s : GS} {ex : va_W} {d : Nat} {X : AmX}  (hd : 4 ≤ d) (hI : Inv s)  : GC Z d 152 [.ref (A 56), .ref (A 2)] (WW Z A s ++ ex) 0 0 (fun v u => ∃ t : GS, Inv t ∧ ∃ z : Int64, v = some (.long z) ∧ u = WW Z A t ++ ex) X := by
  intro post xp hP hX
  have ct9 : ∀ (k9 : Nat) (s : GS) (y9_2 : Int64) (y9_4 : Int32), Inv s → In y9_4 0 32 → 32 - (y9_4).toInt < (k9 : Int) → GG Z (d - 1) 152 post (gx xp) (1 + k9 * 31501) 9 (fun j => xlook j [(0, .ref (A 56)), (1, .ref (A 2)), (2, .long y9_2), (4, .int y9_4)]) [] (WW Z A s ++ ex) 0 0 := by
    intro k9
    induction k9 with
    | zero => intro s y9_2 y9_4 hI j9_4 mm9; exact m_no mm9 j9_4 rfl
    | succ k9 ih9 =>
      intro s y9_2 y9_4 hI j9_4 mm9
      refine gg_w (M := 1 + k9 * 31501 + 31501) (by omega) ?_
      have ct24 : ∀ (k24 : Nat) (s : GS) (y24_2 : Int64) (y24_5 : Int32), Inv s → In y9_4 0 31 → In y24_5 1 32 → 32 - (y24_5).toInt < (k24 : Int) → GG Z (d - 1) 152 post (gx xp) (1 + k9 * 31501 + 1 + k24 * 900) 24 (fun j => xlook j [(0, .ref (A 56)), (1, .ref (A 2)), (2, .long y24_2), (4, .int y9_4), (5, .int y24_5)]) [] (WW Z A s ++ ex) 0 0 := by
        intro k24
        induction k24 with
        | zero => intro s y24_2 y24_5 hI j24_4 j24_5 mm24; exact m_no mm24 j24_5 rfl
        | succ k24 ih24 =>
          intro s y24_2 y24_5 hI j24_4 j24_5 mm24
          refine gg_w (M := 1 + k9 * 31501 + 1 + k24 * 900 + 900) (by omega) ?_
          refine g_iload 26 (gd rfl) rfl rfl ?_
          refine g_aload_n 27 (gd rfl) rfl rfl ?_
          refine g_getI 30 (gd rfl) rfl rfl rfl (fun z1 e2 => ?_)
          have i3 := inv_F hI 0 32 rfl e2
          refine g_cmp_ge 33 72 (gd rfl) rfl rfl (fun c4 => ?_) (fun c4 => ?_)
          · skip
            refine g_iinc 75 (gd rfl) rfl rfl (Nat.le_of_ble_eq_true rfl) (fun z5 e6 => ?_)
            have i7 := in_add 1 32 e6 j24_4 (in_c 1 rfl) rfl rfl
            refine g_goto 9 (gd rfl) rfl ?_
            exact gg_w (by omega) (gg_f (gf_cons rfl (gf_cons rfl (gf_cons rfl (gf_cons rfl gf_nil)))) (ih9 s y24_2 z5 hI (in_w 0 32 i7 rfl) (m_up mm9 (t_add e6 j24_4 (in_c 1 rfl) rfl) (in_w 1 1 (in_c 1 rfl) rfl))))
          · skip
            have i8 := r_lt1 1 31 c4 j24_5 i3 rfl
            have i9 := r_lt2 2 32 c4 j24_5 i3 rfl
            refine g_aload_n 34 (gd rfl) rfl rfl ?_
            refine g_getA (q2 := 9) 37 (gd rfl) rfl rfl rfl rfl rfl ?_
            refine g_iload 39 (gd rfl) rfl rfl ?_
            refine g_iaload 40 (gd rfl) rfl (n := 32) rfl (in_ix j24_4 rfl) (fun z10 e11 => ?_)
            refine g_aload_n 41 (gd rfl) rfl rfl ?_
            refine g_getA (q2 := 9) 44 (gd rfl) rfl rfl rfl rfl rfl ?_
            refine g_iload 46 (gd rfl) rfl rfl ?_
            refine g_iaload 47 (gd rfl) rfl (n := 32) rfl (in_ix i8 rfl) (fun z12 e13 => ?_)
            refine g_iand 48 (gd rfl) rfl (fun z14 e15 => ?_)
            refine g_calls (As := [.int z14]) (r := []) 51 (gd rfl) rfl rfl rfl rfl rfl (Nat.le_of_ble_eq_true rfl) (Nat.zero_le _) (Nat.zero_le _) (k_414 (by omega) hI ) (fun v u h => ?_)
            obtain ⟨z16, rfl, rfl, i17⟩ := h
            show GG _ _ _ _ _ _ _ _ [.int z16] _ _ _
            refine g_istore 53 (gd rfl) rfl (Nat.le_of_ble_eq_true rfl) ?_
            refine g_lload_n 54 (gd rfl) rfl rfl ?_
            refine g_iload 56 (gd rfl) rfl rfl ?_
            refine g_iload 58 (gd rfl) rfl rfl ?_
            refine g_iconst 1 59 (gd rfl) rfl rfl ?_
            refine g_isub 60 (gd rfl) rfl (fun z18 e19 => ?_)
            have i20 := in_sub (-1) 62 e19 i17 (in_c 1 rfl) rfl rfl
            refine g_imul 61 (gd rfl) rfl (fun z21 e22 => ?_)
            refine g_iconst 2 62 (gd rfl) rfl rfl ?_
            refine g_idiv 63 (gd rfl) rfl (by decide) (fun z23 e24 => ?_)
            refine g_i2l 64 (gd rfl) rfl (fun z25 e26 => ?_)
            have i27 := l_i e26 (i_rng z23)
            refine g_ladd 65 (gd rfl) rfl (fun z28 e29 => ?_)
            refine g_lstore_n 66 (gd rfl) rfl (Nat.le_of_ble_eq_true rfl) ?_
            refine g_iinc 69 (gd rfl) rfl rfl (Nat.le_of_ble_eq_true rfl) (fun z30 e31 => ?_)
            have i32 := in_add 2 32 e31 i8 (in_c 1 rfl) rfl rfl
            refine g_goto 24 (gd rfl) rfl ?_
            exact gg_w (by omega) (gg_f (gf_cons rfl (gf_cons rfl (gf_cons rfl (gf_cons rfl (gf_cons rfl gf_nil))))) (ih24 s z28 z30 hI (in_w 0 31 j24_4 rfl) (in_w 1 32 i32 rfl) (m_up mm24 (t_add e31 i8 (in_c 1 rfl) rfl) (in_w 1 1 (in_c 1 rfl) rfl))))
      refine g_iload 11 (gd rfl) rfl rfl ?_
      refine g_aload_n 12 (gd rfl) rfl rfl ?_
      refine g_getI 15 (gd rfl) rfl rfl rfl (fun z33 e34 => ?_)
      have i35 := inv_F hI 0 32 rfl e34
      refine g_cmp_ge 18 78 (gd rfl) rfl rfl (fun c36 => ?_) (fun c36 => ?_)
      · skip
        refine g_lload_n 79 (gd rfl) rfl rfl ?_
        refine g_ldc2_w 2 82 (gd rfl) rfl rfl ?_
        refine g_ldiv 83 (gd rfl) rfl (by decide) (fun z37 e38 => ?_)
        exact g_lreturn (gd rfl) rfl (hP _ _ ⟨s, hI, z37, rfl, rfl⟩)
      · skip
        have i39 := r_lt1 0 31 c36 j9_4 i35 rfl
        have i40 := r_lt2 1 32 c36 j9_4 i35 rfl
        refine g_iload 20 (gd rfl) rfl rfl ?_
        refine g_iconst 1 21 (gd rfl) rfl rfl ?_
        refine g_iadd 22 (gd rfl) rfl (fun z41 e42 => ?_)
        have i43 := in_add 1 32 e42 i39 (in_c 1 rfl) rfl rfl
        refine g_istore 24 (gd rfl) rfl (Nat.le_of_ble_eq_true rfl) ?_
        exact gg_w (by omega) (gg_f (gf_cons rfl (gf_cons rfl (gf_cons rfl (gf_cons rfl (gf_cons rfl gf_nil))))) (ct24 32 s y9_2 z41 hI (in_w 0 31 i39 rfl) (in_w 1 32 i43 rfl) (m_in 32 (in_w 1 32 i43 rfl) rfl)))
  refine g_enter2 (k := 152) (N := 1040434) (by omega) rfl (Nat.le_of_ble_eq_true rfl) ?_
  refine g_aload_n 1 (gd rfl) rfl rfl ?_
  refine g_callv (X := _) (As := []) (r := []) (b := A 2) (q := 2) 4 (gd rfl) rfl rfl rfl rfl rfl (ww_o rfl) (Nat.le_of_ble_eq_true rfl) (Nat.zero_le _) (Nat.zero_le _) (k_106_2 (by omega) hI ) (fun e u h => h) (fun v u h => ?_)
  obtain ⟨s44, hI45, rfl, rfl⟩ := h
  show GG _ _ _ _ _ _ _ _ [] _ _ _
  refine g_lconst 0 5 (gd rfl) rfl rfl ?_
  refine g_lstore_n 6 (gd rfl) rfl (Nat.le_of_ble_eq_true rfl) ?_
  refine g_iconst 0 7 (gd rfl) rfl rfl ?_
  refine g_istore 9 (gd rfl) rfl (Nat.le_of_ble_eq_true rfl) ?_
  exact gg_w (by omega) (gg_f (gf_cons rfl (gf_cons rfl (gf_cons rfl (gf_cons rfl gf_nil)))) (ct9 33 s44 (Int64.ofInt 0) (Int32.ofInt 0) hI45 (in_w 0 32 (in_c 0 rfl) rfl) (m_in 33 (in_w 0 32 (in_c 0 rfl) rfl) rfl)))

/-- GraphHouse$Parts.squares -/
theorem k_152_56_32 {Z : AmZ} {A : Nat → Nat} {s : GS} {ex : va_W} {d : Nat} {X : AmX}  (hd : 4 ≤ d) (hI : Inv s)  : GC Z d 152 [.ref (A 56), .ref (A 32)] (WW Z A s ++ ex) 0 0 (fun v u => ∃ t : GS, Inv t ∧ ∃ z : Int64, v = some (.long z) ∧ u = WW Z A t ++ ex) X := by
  intro post xp hP hX
  have ct9 : ∀ (k9 : Nat) (s : GS) (y9_2 : Int64) (y9_4 : Int32), Inv s → In y9_4 0 32 → 32 - (y9_4).toInt < (k9 : Int) → GG Z (d - 1) 152 post (gx xp) (1 + k9 * 31501) 9 (fun j => xlook j [(0, .ref (A 56)), (1, .ref (A 32)), (2, .long y9_2), (4, .int y9_4)]) [] (WW Z A s ++ ex) 0 0 := by
    intro k9
    induction k9 with
    | zero => intro s y9_2 y9_4 hI j9_4 mm9; exact m_no mm9 j9_4 rfl
    | succ k9 ih9 =>
      intro s y9_2 y9_4 hI j9_4 mm9
      refine gg_w (M := 1 + k9 * 31501 + 31501) (by omega) ?_
      have ct24 : ∀ (k24 : Nat) (s : GS) (y24_2 : Int64) (y24_5 : Int32), Inv s → In y9_4 0 31 → In y24_5 1 32 → 32 - (y24_5).toInt < (k24 : Int) → GG Z (d - 1) 152 post (gx xp) (1 + k9 * 31501 + 1 + k24 * 900) 24 (fun j => xlook j [(0, .ref (A 56)), (1, .ref (A 32)), (2, .long y24_2), (4, .int y9_4), (5, .int y24_5)]) [] (WW Z A s ++ ex) 0 0 := by
        intro k24
        induction k24 with
        | zero => intro s y24_2 y24_5 hI j24_4 j24_5 mm24; exact m_no mm24 j24_5 rfl
        | succ k24 ih24 =>
          intro s y24_2 y24_5 hI j24_4 j24_5 mm24
          refine gg_w (M := 1 + k9 * 31501 + 1 + k24 * 900 + 900) (by omega) ?_
          refine g_iload 26 (gd rfl) rfl rfl ?_
          refine g_aload_n 27 (gd rfl) rfl rfl ?_
          refine g_getI 30 (gd rfl) rfl rfl rfl (fun z1 e2 => ?_)
          have i3 := inv_F hI 0 32 rfl e2
          refine g_cmp_ge 33 72 (gd rfl) rfl rfl (fun c4 => ?_) (fun c4 => ?_)
          · skip
            refine g_iinc 75 (gd rfl) rfl rfl (Nat.le_of_ble_eq_true rfl) (fun z5 e6 => ?_)
            have i7 := in_add 1 32 e6 j24_4 (in_c 1 rfl) rfl rfl
            refine g_goto 9 (gd rfl) rfl ?_
            exact gg_w (by omega) (gg_f (gf_cons rfl (gf_cons rfl (gf_cons rfl (gf_cons rfl gf_nil)))) (ih9 s y24_2 z5 hI (in_w 0 32 i7 rfl) (m_up mm9 (t_add e6 j24_4 (in_c 1 rfl) rfl) (in_w 1 1 (in_c 1 rfl) rfl))))
          · skip
            have i8 := r_lt1 1 31 c4 j24_5 i3 rfl
            have i9 := r_lt2 2 32 c4 j24_5 i3 rfl
            refine g_aload_n 34 (gd rfl) rfl rfl ?_
            refine g_getA (q2 := 39) 37 (gd rfl) rfl rfl rfl rfl rfl ?_
            refine g_iload 39 (gd rfl) rfl rfl ?_
            refine g_iaload 40 (gd rfl) rfl (n := 32) rfl (in_ix j24_4 rfl) (fun z10 e11 => ?_)
            refine g_aload_n 41 (gd rfl) rfl rfl ?_
            refine g_getA (q2 := 39) 44 (gd rfl) rfl rfl rfl rfl rfl ?_
            refine g_iload 46 (gd rfl) rfl rfl ?_
            refine g_iaload 47 (gd rfl) rfl (n := 32) rfl (in_ix i8 rfl) (fun z12 e13 => ?_)
            refine g_iand 48 (gd rfl) rfl (fun z14 e15 => ?_)
            refine g_calls (As := [.int z14]) (r := []) 51 (gd rfl) rfl rfl rfl rfl rfl (Nat.le_of_ble_eq_true rfl) (Nat.zero_le _) (Nat.zero_le _) (k_414 (by omega) hI ) (fun v u h => ?_)
            obtain ⟨z16, rfl, rfl, i17⟩ := h
            show GG _ _ _ _ _ _ _ _ [.int z16] _ _ _
            refine g_istore 53 (gd rfl) rfl (Nat.le_of_ble_eq_true rfl) ?_
            refine g_lload_n 54 (gd rfl) rfl rfl ?_
            refine g_iload 56 (gd rfl) rfl rfl ?_
            refine g_iload 58 (gd rfl) rfl rfl ?_
            refine g_iconst 1 59 (gd rfl) rfl rfl ?_
            refine g_isub 60 (gd rfl) rfl (fun z18 e19 => ?_)
            have i20 := in_sub (-1) 62 e19 i17 (in_c 1 rfl) rfl rfl
            refine g_imul 61 (gd rfl) rfl (fun z21 e22 => ?_)
            refine g_iconst 2 62 (gd rfl) rfl rfl ?_
            refine g_idiv 63 (gd rfl) rfl (by decide) (fun z23 e24 => ?_)
            refine g_i2l 64 (gd rfl) rfl (fun z25 e26 => ?_)
            have i27 := l_i e26 (i_rng z23)
            refine g_ladd 65 (gd rfl) rfl (fun z28 e29 => ?_)
            refine g_lstore_n 66 (gd rfl) rfl (Nat.le_of_ble_eq_true rfl) ?_
            refine g_iinc 69 (gd rfl) rfl rfl (Nat.le_of_ble_eq_true rfl) (fun z30 e31 => ?_)
            have i32 := in_add 2 32 e31 i8 (in_c 1 rfl) rfl rfl
            refine g_goto 24 (gd rfl) rfl ?_
            exact gg_w (by omega) (gg_f (gf_cons rfl (gf_cons rfl (gf_cons rfl (gf_cons rfl (gf_cons rfl gf_nil))))) (ih24 s z28 z30 hI (in_w 0 31 j24_4 rfl) (in_w 1 32 i32 rfl) (m_up mm24 (t_add e31 i8 (in_c 1 rfl) rfl) (in_w 1 1 (in_c 1 rfl) rfl))))
      refine g_iload 11 (gd rfl) rfl rfl ?_
      refine g_aload_n 12 (gd rfl) rfl rfl ?_
      refine g_getI 15 (gd rfl) rfl rfl rfl (fun z33 e34 => ?_)
      have i35 := inv_F hI 0 32 rfl e34
      refine g_cmp_ge 18 78 (gd rfl) rfl rfl (fun c36 => ?_) (fun c36 => ?_)
      · skip
        refine g_lload_n 79 (gd rfl) rfl rfl ?_
        refine g_ldc2_w 2 82 (gd rfl) rfl rfl ?_
        refine g_ldiv 83 (gd rfl) rfl (by decide) (fun z37 e38 => ?_)
        exact g_lreturn (gd rfl) rfl (hP _ _ ⟨s, hI, z37, rfl, rfl⟩)
      · skip
        have i39 := r_lt1 0 31 c36 j9_4 i35 rfl
        have i40 := r_lt2 1 32 c36 j9_4 i35 rfl
        refine g_iload 20 (gd rfl) rfl rfl ?_
        refine g_iconst 1 21 (gd rfl) rfl rfl ?_
        refine g_iadd 22 (gd rfl) rfl (fun z41 e42 => ?_)
        have i43 := in_add 1 32 e42 i39 (in_c 1 rfl) rfl rfl
        refine g_istore 24 (gd rfl) rfl (Nat.le_of_ble_eq_true rfl) ?_
        exact gg_w (by omega) (gg_f (gf_cons rfl (gf_cons rfl (gf_cons rfl (gf_cons rfl (gf_cons rfl gf_nil))))) (ct24 32 s y9_2 z41 hI (in_w 0 31 i39 rfl) (in_w 1 32 i43 rfl) (m_in 32 (in_w 1 32 i43 rfl) rfl)))
  refine g_enter2 (k := 152) (N := 1040434) (by omega) rfl (Nat.le_of_ble_eq_true rfl) ?_
  refine g_aload_n 1 (gd rfl) rfl rfl ?_
  refine g_callv (X := _) (As := []) (r := []) (b := A 32) (q := 32) 4 (gd rfl) rfl rfl rfl rfl rfl (ww_o rfl) (Nat.le_of_ble_eq_true rfl) (Nat.zero_le _) (Nat.zero_le _) (k_106_32 (by omega) hI ) (fun e u h => h) (fun v u h => ?_)
  obtain ⟨s44, hI45, rfl, rfl⟩ := h
  show GG _ _ _ _ _ _ _ _ [] _ _ _
  refine g_lconst 0 5 (gd rfl) rfl rfl ?_
  refine g_lstore_n 6 (gd rfl) rfl (Nat.le_of_ble_eq_true rfl) ?_
  refine g_iconst 0 7 (gd rfl) rfl rfl ?_
  refine g_istore 9 (gd rfl) rfl (Nat.le_of_ble_eq_true rfl) ?_
  exact gg_w (by omega) (gg_f (gf_cons rfl (gf_cons rfl (gf_cons rfl (gf_cons rfl gf_nil)))) (ct9 33 s44 (Int64.ofInt 0) (Int32.ofInt 0) hI45 (in_w 0 32 (in_c 0 rfl) rfl) (m_in 33 (in_w 0 32 (in_c 0 rfl) rfl) rfl)))

/-- GraphHouse$Question.isGood -/
theorem k_155_46 {Z : AmZ} {A : Nat → Nat} {s : GS} {ex : va_W} {d : Nat} {X : AmX}  (hd : 4 ≤ d) (hI : Inv s)  : GC Z d 155 [.ref (A 46)] (WW Z A s ++ ex) 0 0 (fun v u => ∃ t : GS, Inv t ∧ ∃ z : Int32, v = some (.int z) ∧ u = WW Z A t ++ ex ∧ In z 0 1) X := by
  intro post xp hP hX
  have ct108 : ∀ (s : GS) (y108_1 : Int32) (y108_2 : Int32) (y108_3 : Int32), Inv s → In y108_1 0 0 → In y108_2 0 1 → In y108_3 0 2001 → GG Z (d - 1) 155 post (gx xp) (901) 108 (fun j => xlook j [(0, .ref (A 46)), (1, .int y108_1), (2, .int y108_2), (3, .int y108_3)]) [] (WW Z A s ++ ex) 0 0 := by
    intro s y108_1 y108_2 y108_3 hI j108_1 j108_2 j108_3
    refine g_iconst 1 109 (gd rfl) rfl rfl ?_
    refine g_goto 113 (gd rfl) rfl ?_
    exact g_ireturn (gd rfl) rfl (nb01 (in_w 0 1 (in_c 1 rfl) rfl)) (hP _ _ ⟨s, hI, (Int32.ofInt 1), rfl, rfl, in_w 0 1 (in_c 1 rfl) rfl⟩)
  have ct6 : ∀ (k6 : Nat) (s : GS) (y6_1 : Int32) (y6_2 : Int32) (y6_3 : Int32), Inv s → In y6_2 0 1 → In y6_3 0 2001 → 2001 - (y6_3).toInt < (k6 : Int) → GG Z (d - 1) 155 post (gx xp) (902 + k6 * 3603) 6 (fun j => xlook j [(0, .ref (A 46)), (1, .int y6_1), (2, .int y6_2), (3, .int y6_3)]) [] (WW Z A s ++ ex) 0 0 := by
    intro k6
    induction k6 with
    | zero => intro s y6_1 y6_2 y6_3 hI j6_2 j6_3 mm6; exact m_no mm6 j6_3 rfl
    | succ k6 ih6 =>
      intro s y6_1 y6_2 y6_3 hI j6_2 j6_3 mm6
      refine gg_w (M := 902 + k6 * 3603 + 3603) (by omega) ?_
      have ct80 : ∀ (s : GS) (y80_1 : Int32) (y80_4 : Int32) (y80_5 : Int32), Inv s → In y6_3 0 1000 → In y80_4 41 122 → In y80_5 (-1) (-1) → GG Z (d - 1) 155 post (gx xp) (902 + k6 * 3603 + 901) 80 (fun j => xlook j [(0, .ref (A 46)), (1, .int y80_1), (2, .int y6_2), (3, .int y6_3), (4, .int y80_4), (5, .int y80_5)]) [] (WW Z A s ++ ex) 0 0 := by
        intro s y80_1 y80_4 y80_5 hI j80_3 j80_4 j80_5
        refine g_iconst 1 81 (gd rfl) rfl rfl ?_
        refine g_goto 85 (gd rfl) rfl ?_
        refine g_istore_n 86 (gd rfl) rfl (Nat.le_of_ble_eq_true rfl) ?_
        refine g_iinc 89 (gd rfl) rfl rfl (Nat.le_of_ble_eq_true rfl) (fun z1 e2 => ?_)
        have i3 := in_add 1 1001 e2 j80_3 (in_c 1 rfl) rfl rfl
        refine g_goto 6 (gd rfl) rfl ?_
        exact gg_w (by omega) (gg_f (gf_cons rfl (gf_cons rfl (gf_cons rfl (gf_cons rfl gf_nil)))) (ih6 s y80_1 (Int32.ofInt 1) z1 hI (in_w 0 1 (in_c 1 rfl) rfl) (in_w 0 2001 i3 rfl) (m_up mm6 (t_add e2 j80_3 (in_c 1 rfl) rfl) (in_w 1 1 (in_c 1 rfl) rfl))))
      have ct65 : ∀ (s : GS) (y65_1 : Int32) (y65_4 : Int32) (y65_5 : Int32), Inv s → In y6_3 0 1000 → In y65_4 40 124 → In y65_5 (-1) (-1) → GG Z (d - 1) 155 post (gx xp) (902 + k6 * 3603 + 1802) 65 (fun j => xlook j [(0, .ref (A 46)), (1, .int y65_1), (2, .int y6_2), (3, .int y6_3), (4, .int y65_4), (5, .int y65_5)]) [] (WW Z A s ++ ex) 0 0 := by
        intro s y65_1 y65_4 y65_5 hI j65_3 j65_4 j65_5
        refine g_iload 67 (gd rfl) rfl rfl ?_
        refine g_bipush 41 69 (gd rfl) rfl rfl ?_
        refine g_cmp_eq 72 80 (gd rfl) rfl rfl (fun c4 => ?_) (fun c4 => ?_)
        · skip
          have i5 := r_eq1 41 41 c4 j65_4 (in_c 41 rfl) rfl
          exact gg_w (by omega) (gg_f (gf_cons rfl (gf_cons rfl (gf_cons rfl (gf_cons rfl (gf_cons rfl (gf_cons rfl gf_nil)))))) (ct80 s y65_1 y65_4 y65_5 hI (in_w 0 1000 j65_3 rfl) (in_w 41 122 i5 rfl) (in_w (-1) (-1) j65_5 rfl)))
        · skip
          refine g_iload 74 (gd rfl) rfl rfl ?_
          refine g_calls (As := [.int y65_4]) (r := []) 77 (gd rfl) rfl rfl rfl rfl rfl (Nat.le_of_ble_eq_true rfl) (mc := 0) (ms := 0) (Nat.zero_le _) (Nat.zero_le _) (P := fun v u => _) ?_ (fun v u h => h)
          intro po6 xx7 hp8 hx9
          refine g_enter2 (k := 157) (N := 300) (by omega) rfl (Nat.le_of_ble_eq_true rfl) ?_
          refine g_iload_n 1 (gd rfl) rfl rfl ?_
          refine g_bipush 46 3 (gd rfl) rfl rfl ?_
          refine g_cmp_eq 6 18 (gd rfl) rfl rfl (fun c10 => ?_) (fun c10 => ?_)
          · skip
            have i11 := r_eq1 46 46 c10 j65_4 (in_c 46 rfl) rfl
            refine g_iconst 1 19 (gd rfl) rfl rfl ?_
            refine g_goto 23 (gd rfl) rfl ?_
            refine g_ireturn (gd rfl) rfl (nb01 (in_w 0 1 (in_c 1 rfl) rfl)) (hp8 _ _ ?_)
            show GG _ _ _ _ _ _ _ _ [.int (Int32.ofInt 1)] _ _ _
            refine g_if_eq 80 84 (gd rfl) rfl rfl (fun c12 => ?_) (fun c12 => ?_)
            · skip
              exact zn_eq c12 (in_c 1 rfl) rfl
            · skip
              exact gg_w (by omega) (gg_f (gf_cons rfl (gf_cons rfl (gf_cons rfl (gf_cons rfl (gf_cons rfl (gf_cons rfl gf_nil)))))) (ct80 s y65_1 y65_4 y65_5 hI (in_w 0 1000 j65_3 rfl) (in_w 41 122 i11 rfl) (in_w (-1) (-1) j65_5 rfl)))
          · skip
            refine g_iload_n 7 (gd rfl) rfl rfl ?_
            refine g_bipush 97 9 (gd rfl) rfl rfl ?_
            refine g_cmp_lt 12 22 (gd rfl) rfl rfl (fun c13 => ?_) (fun c13 => ?_)
            · skip
              have i14 := r_lt1 40 96 c13 j65_4 (in_c 97 rfl) rfl
              refine g_iconst 0 23 (gd rfl) rfl rfl ?_
              refine g_ireturn (gd rfl) rfl (nb01 (in_w 0 1 (in_c 0 rfl) rfl)) (hp8 _ _ ?_)
              show GG _ _ _ _ _ _ _ _ [.int (Int32.ofInt 0)] _ _ _
              refine g_if_eq 80 84 (gd rfl) rfl rfl (fun c15 => ?_) (fun c15 => ?_)
              · skip
                refine g_iconst 0 85 (gd rfl) rfl rfl ?_
                refine g_istore_n 86 (gd rfl) rfl (Nat.le_of_ble_eq_true rfl) ?_
                refine g_iinc 89 (gd rfl) rfl rfl (Nat.le_of_ble_eq_true rfl) (fun z16 e17 => ?_)
                have i18 := in_add 1 1001 e17 j65_3 (in_c 1 rfl) rfl rfl
                refine g_goto 6 (gd rfl) rfl ?_
                exact gg_w (by omega) (gg_f (gf_cons rfl (gf_cons rfl (gf_cons rfl (gf_cons rfl gf_nil)))) (ih6 s y65_1 (Int32.ofInt 0) z16 hI (in_w 0 1 (in_c 0 rfl) rfl) (in_w 0 2001 i18 rfl) (m_up mm6 (t_add e17 j65_3 (in_c 1 rfl) rfl) (in_w 1 1 (in_c 1 rfl) rfl))))
              · skip
                exact zn_ne c15 (in_c 0 rfl) rfl
            · skip
              have i19 := r_le2 97 124 c13 (in_c 97 rfl) j65_4 rfl
              refine g_iload_n 13 (gd rfl) rfl rfl ?_
              refine g_bipush 122 15 (gd rfl) rfl rfl ?_
              refine g_cmp_gt 18 22 (gd rfl) rfl rfl (fun c20 => ?_) (fun c20 => ?_)
              · skip
                have i21 := r_lt2 123 124 c20 (in_c 122 rfl) i19 rfl
                refine g_iconst 0 23 (gd rfl) rfl rfl ?_
                refine g_ireturn (gd rfl) rfl (nb01 (in_w 0 1 (in_c 0 rfl) rfl)) (hp8 _ _ ?_)
                show GG _ _ _ _ _ _ _ _ [.int (Int32.ofInt 0)] _ _ _
                refine g_if_eq 80 84 (gd rfl) rfl rfl (fun c22 => ?_) (fun c22 => ?_)
                · skip
                  refine g_iconst 0 85 (gd rfl) rfl rfl ?_
                  refine g_istore_n 86 (gd rfl) rfl (Nat.le_of_ble_eq_true rfl) ?_
                  refine g_iinc 89 (gd rfl) rfl rfl (Nat.le_of_ble_eq_true rfl) (fun z23 e24 => ?_)
                  have i25 := in_add 1 1001 e24 j65_3 (in_c 1 rfl) rfl rfl
                  refine g_goto 6 (gd rfl) rfl ?_
                  exact gg_w (by omega) (gg_f (gf_cons rfl (gf_cons rfl (gf_cons rfl (gf_cons rfl gf_nil)))) (ih6 s y65_1 (Int32.ofInt 0) z23 hI (in_w 0 1 (in_c 0 rfl) rfl) (in_w 0 2001 i25 rfl) (m_up mm6 (t_add e24 j65_3 (in_c 1 rfl) rfl) (in_w 1 1 (in_c 1 rfl) rfl))))
                · skip
                  exact zn_ne c22 (in_c 0 rfl) rfl
              · skip
                have i26 := r_le1 97 122 c20 i19 (in_c 122 rfl) rfl
                refine g_iconst 1 19 (gd rfl) rfl rfl ?_
                refine g_goto 23 (gd rfl) rfl ?_
                refine g_ireturn (gd rfl) rfl (nb01 (in_w 0 1 (in_c 1 rfl) rfl)) (hp8 _ _ ?_)
                show GG _ _ _ _ _ _ _ _ [.int (Int32.ofInt 1)] _ _ _
                refine g_if_eq 80 84 (gd rfl) rfl rfl (fun c27 => ?_) (fun c27 => ?_)
                · skip
                  exact zn_eq c27 (in_c 1 rfl) rfl
                · skip
                  exact gg_w (by omega) (gg_f (gf_cons rfl (gf_cons rfl (gf_cons rfl (gf_cons rfl (gf_cons rfl (gf_cons rfl gf_nil)))))) (ct80 s y65_1 y65_4 y65_5 hI (in_w 0 1000 j65_3 rfl) (in_w 41 122 i26 rfl) (in_w (-1) (-1) j65_5 rfl)))
      have ct55 : ∀ (s : GS) (y55_1 : Int32) (y55_4 : Int32) (y55_5 : Int32), Inv s → In y6_3 0 1000 → In y55_4 40 124 → In y55_5 (-1) (-1) → GG Z (d - 1) 155 post (gx xp) (902 + k6 * 3603 + 2703) 55 (fun j => xlook j [(0, .ref (A 46)), (1, .int y55_1), (2, .int y6_2), (3, .int y6_3), (4, .int y55_4), (5, .int y55_5)]) [] (WW Z A s ++ ex) 0 0 := by
        intro s y55_1 y55_4 y55_5 hI j55_3 j55_4 j55_5
        refine g_iload 57 (gd rfl) rfl rfl ?_
        refine g_bipush 41 59 (gd rfl) rfl rfl ?_
        refine g_cmp_ne 62 65 (gd rfl) rfl rfl (fun c28 => ?_) (fun c28 => ?_)
        · skip
          exact gg_w (by omega) (gg_f (gf_cons rfl (gf_cons rfl (gf_cons rfl (gf_cons rfl (gf_cons rfl (gf_cons rfl gf_nil)))))) (ct65 s y55_1 y55_4 y55_5 hI (in_w 0 1000 j55_3 rfl) (in_w 40 124 j55_4 rfl) (in_w (-1) (-1) j55_5 rfl)))
        · skip
          have i29 := r_eq1 41 41 c28 j55_4 (in_c 41 rfl) rfl
          refine g_iinc 65 (gd rfl) rfl rfl (Nat.le_of_ble_eq_true rfl) (fun z30 e31 => ?_)
          exact gg_w (by omega) (gg_f (gf_cons rfl (gf_cons rfl (gf_cons rfl (gf_cons rfl (gf_cons rfl (gf_cons rfl gf_nil)))))) (ct65 s z30 y55_4 y55_5 hI (in_w 0 1000 j55_3 rfl) (in_w 40 124 i29 rfl) (in_w (-1) (-1) j55_5 rfl)))
      refine g_iload_n 7 (gd rfl) rfl rfl ?_
      refine g_aload_n 8 (gd rfl) rfl rfl ?_
      refine g_getI 11 (gd rfl) rfl rfl rfl (fun z32 e33 => ?_)
      have i34 := inv_F hI 0 1000 rfl e33
      refine g_cmp_ge 14 92 (gd rfl) rfl rfl (fun c35 => ?_) (fun c35 => ?_)
      · skip
        refine g_iload_n 93 (gd rfl) rfl rfl ?_
        refine g_if_eq 96 108 (gd rfl) rfl rfl (fun c36 => ?_) (fun c36 => ?_)
        · skip
          have i37 := z_eq 0 0 c36 (i_rng y6_1) rfl
          exact gg_w (by omega) (gg_f (gf_cons rfl (gf_cons rfl (gf_cons rfl (gf_cons rfl gf_nil)))) (ct108 s y6_1 y6_2 y6_3 hI (in_w 0 0 i37 rfl) (in_w 0 1 j6_2 rfl) (in_w 0 2001 j6_3 rfl)))
        · skip
          refine g_aload_n 97 (gd rfl) rfl rfl ?_
          refine g_iconst 2 98 (gd rfl) rfl rfl ?_
          refine g_aload_n 99 (gd rfl) rfl rfl ?_
          refine g_getI 102 (gd rfl) rfl rfl rfl (fun z38 e39 => ?_)
          have q40 : z32 = z38 := (e33).trans e39.symm
          subst q40
          refine g_callv (X := _) (As := [.int (Int32.ofInt 2), .int z32]) (r := []) (b := A 46) (q := 46) 105 (gd rfl) rfl rfl rfl rfl rfl (ww_o rfl) (Nat.le_of_ble_eq_true rfl) (mc := 0) (ms := 0) (Nat.zero_le _) (Nat.zero_le _) (P := fun v u => _) ?_ (fun e u h => h) (fun v u h => h)
          intro po41 xx42 hp43 hx44
          refine g_enter2 (k := 168) (N := 300) (by omega) rfl (Nat.le_of_ble_eq_true rfl) ?_
          refine g_aload_n 1 (gd rfl) rfl rfl ?_
          refine g_iload_n 2 (gd rfl) rfl rfl ?_
          refine g_putI 5 (gd rfl) rfl rfl rfl rfl ?_
          have hI45 := inv_sF (q := 46) (j := 6) hI rfl (in_w (-1) 5 (in_c 2 rfl) rfl)
          refine g_aload_n 6 (gd rfl) rfl rfl ?_
          refine g_iload_n 7 (gd rfl) rfl rfl ?_
          refine g_putI 10 (gd rfl) rfl rfl rfl rfl ?_
          have hI46 := inv_sF (q := 46) (j := 7) hI45 rfl (in_w (-1) 1000 i34 rfl)
          refine g_iconst 0 11 (gd rfl) rfl rfl ?_
          refine g_ireturn (gd rfl) rfl (nb01 (in_w 0 1 (in_c 0 rfl) rfl)) (hp43 _ _ ?_)
          show GG _ _ _ _ _ _ _ _ [.int (Int32.ofInt 0)] _ _ _
          refine g_if_eq 108 112 (gd rfl) rfl rfl (fun c47 => ?_) (fun c47 => ?_)
          · skip
            refine g_iconst 0 113 (gd rfl) rfl rfl ?_
            exact g_ireturn (gd rfl) rfl (nb01 (in_w 0 1 (in_c 0 rfl) rfl)) (hP _ _ ⟨(sF (sF s 46 6 (Int32.ofInt 2)) 46 7 z32), hI46, (Int32.ofInt 0), rfl, rfl, in_w 0 1 (in_c 0 rfl) rfl⟩)
          · skip
            exact zn_ne c47 (in_c 0 rfl) rfl
      · skip
        have i48 := r_lt1 0 999 c35 j6_3 i34 rfl
        have i49 := r_lt2 1 1000 c35 j6_3 i34 rfl
        refine g_aload_n 15 (gd rfl) rfl rfl ?_
        refine g_getA (q2 := 47) 18 (gd rfl) rfl rfl rfl rfl rfl ?_
        refine g_iload_n 19 (gd rfl) rfl rfl ?_
        refine g_caload 20 (gd rfl) rfl (n := 1000) rfl (in_ix i48 rfl) (fun z50 e51 => ?_)
        have i52 := inv_I hI (n := 1000) (t := 2) 0 65535 rfl (in_ix i48 rfl) rfl e51
        refine g_istore 22 (gd rfl) rfl (Nat.le_of_ble_eq_true rfl) ?_
        refine g_iload 24 (gd rfl) rfl rfl ?_
        refine g_iload_n 25 (gd rfl) rfl rfl ?_
        refine g_iload_n 26 (gd rfl) rfl rfl ?_
        refine g_calls (As := [.int z50, .int y6_2, .int y6_1]) (r := []) 29 (gd rfl) rfl rfl rfl rfl rfl (Nat.le_of_ble_eq_true rfl) (mc := 0) (ms := 0) (Nat.zero_le _) (Nat.zero_le _) (P := fun v u => _) ?_ (fun v u h => h)
        intro po53 xx54 hp55 hx56
        refine g_enter2 (k := 156) (N := 300) (by omega) rfl (Nat.le_of_ble_eq_true rfl) ?_
        refine g_iload_n 1 (gd rfl) rfl rfl ?_
        refine g_lsw [(40, 70), (41, 82), (42, 60), (43, 60), (63, 60), (124, 92)] 94 (gd rfl) rfl rfl rfl ⟨fun c57 => ?_, fun c57_0 => ⟨fun c57 => ?_, fun c57_1 => ⟨fun c57 => ?_, fun c57_2 => ⟨fun c57 => ?_, fun c57_3 => ⟨fun c57 => ?_, fun c57_4 => ⟨fun c57 => ?_, fun c57_5 => ?_⟩⟩⟩⟩⟩⟩
        · skip
          have i58 := sw_eq c57
          refine g_iload_n 71 (gd rfl) rfl rfl ?_
          refine g_bipush 10 73 (gd rfl) rfl rfl ?_
          refine g_cmp_ge 76 80 (gd rfl) rfl rfl (fun c59 => ?_) (fun c59 => ?_)
          · skip
            have i60 := r_le2 10 2147483647 c59 (in_c 10 rfl) (i_rng y6_1) rfl
            refine g_iconst 3 81 (gd rfl) rfl rfl ?_
            refine g_ireturn (gd rfl) rfl rfl (hp55 _ _ ?_)
            show GG _ _ _ _ _ _ _ _ [.int (Int32.ofInt 3)] _ _ _
            refine g_istore 31 (gd rfl) rfl (Nat.le_of_ble_eq_true rfl) ?_
            refine g_iload 33 (gd rfl) rfl rfl ?_
            refine g_iconst (-1) 34 (gd rfl) rfl rfl ?_
            refine g_cmp_eq 37 45 (gd rfl) rfl rfl (fun c61 => ?_) (fun c61 => ?_)
            · skip
              exact n_eq c61 (in_c 3 rfl) (in_c (-1) rfl) rfl
            · skip
              refine g_aload_n 38 (gd rfl) rfl rfl ?_
              refine g_iload 40 (gd rfl) rfl rfl ?_
              refine g_iload_n 41 (gd rfl) rfl rfl ?_
              refine g_callv (X := _) (As := [.int (Int32.ofInt 3), .int y6_3]) (r := []) (b := A 46) (q := 46) 44 (gd rfl) rfl rfl rfl rfl rfl (ww_o rfl) (Nat.le_of_ble_eq_true rfl) (mc := 0) (ms := 0) (Nat.zero_le _) (Nat.zero_le _) (P := fun v u => _) ?_ (fun e u h => h) (fun v u h => h)
              intro po62 xx63 hp64 hx65
              refine g_enter2 (k := 168) (N := 300) (by omega) rfl (Nat.le_of_ble_eq_true rfl) ?_
              refine g_aload_n 1 (gd rfl) rfl rfl ?_
              refine g_iload_n 2 (gd rfl) rfl rfl ?_
              refine g_putI 5 (gd rfl) rfl rfl rfl rfl ?_
              have hI66 := inv_sF (q := 46) (j := 6) hI rfl (in_w (-1) 5 (in_c 3 rfl) rfl)
              refine g_aload_n 6 (gd rfl) rfl rfl ?_
              refine g_iload_n 7 (gd rfl) rfl rfl ?_
              refine g_putI 10 (gd rfl) rfl rfl rfl rfl ?_
              have hI67 := inv_sF (q := 46) (j := 7) hI66 rfl (in_w (-1) 1000 i48 rfl)
              refine g_iconst 0 11 (gd rfl) rfl rfl ?_
              refine g_ireturn (gd rfl) rfl (nb01 (in_w 0 1 (in_c 0 rfl) rfl)) (hp64 _ _ ?_)
              show GG _ _ _ _ _ _ _ _ [.int (Int32.ofInt 0)] _ _ _
              exact g_ireturn (gd rfl) rfl (nb01 (in_w 0 1 (in_c 0 rfl) rfl)) (hP _ _ ⟨(sF (sF s 46 6 (Int32.ofInt 3)) 46 7 y6_3), hI67, (Int32.ofInt 0), rfl, rfl, in_w 0 1 (in_c 0 rfl) rfl⟩)
          · skip
            have i68 := r_lt1 (-2147483648) 9 c59 (i_rng y6_1) (in_c 10 rfl) rfl
            refine g_iconst (-1) 77 (gd rfl) rfl rfl ?_
            refine g_goto 81 (gd rfl) rfl ?_
            refine g_ireturn (gd rfl) rfl rfl (hp55 _ _ ?_)
            show GG _ _ _ _ _ _ _ _ [.int (Int32.ofInt (-1))] _ _ _
            refine g_istore 31 (gd rfl) rfl (Nat.le_of_ble_eq_true rfl) ?_
            refine g_iload 33 (gd rfl) rfl rfl ?_
            refine g_iconst (-1) 34 (gd rfl) rfl rfl ?_
            refine g_cmp_eq 37 45 (gd rfl) rfl rfl (fun c69 => ?_) (fun c69 => ?_)
            · skip
              refine g_iload 47 (gd rfl) rfl rfl ?_
              refine g_bipush 40 49 (gd rfl) rfl rfl ?_
              refine g_cmp_ne 52 55 (gd rfl) rfl rfl (fun c70 => ?_) (fun c70 => ?_)
              · skip
                exact n_ne c70 i58 (in_c 40 rfl) rfl
              · skip
                refine g_iinc 55 (gd rfl) rfl rfl (Nat.le_of_ble_eq_true rfl) (fun z71 e72 => ?_)
                have i73 := in_add (-2147483647) 10 e72 i68 (in_c 1 rfl) rfl rfl
                exact gg_w (by omega) (gg_f (gf_cons rfl (gf_cons rfl (gf_cons rfl (gf_cons rfl (gf_cons rfl (gf_cons rfl gf_nil)))))) (ct55 s z71 z50 (Int32.ofInt (-1)) hI (in_w 0 1000 i48 rfl) (in_w 40 124 i58 rfl) (in_w (-1) (-1) (in_c (-1) rfl) rfl)))
            · skip
              exact n_ne c69 (in_c (-1) rfl) (in_c (-1) rfl) rfl
        · skip
          have i74 := sw_eq c57
          refine g_iload_n 83 (gd rfl) rfl rfl ?_
          refine g_if_le 86 90 (gd rfl) rfl rfl (fun c75 => ?_) (fun c75 => ?_)
          · skip
            have i76 := z_le (-2147483648) 0 c75 (i_rng y6_1) rfl
            refine g_iconst 2 91 (gd rfl) rfl rfl ?_
            refine g_ireturn (gd rfl) rfl rfl (hp55 _ _ ?_)
            show GG _ _ _ _ _ _ _ _ [.int (Int32.ofInt 2)] _ _ _
            refine g_istore 31 (gd rfl) rfl (Nat.le_of_ble_eq_true rfl) ?_
            refine g_iload 33 (gd rfl) rfl rfl ?_
            refine g_iconst (-1) 34 (gd rfl) rfl rfl ?_
            refine g_cmp_eq 37 45 (gd rfl) rfl rfl (fun c77 => ?_) (fun c77 => ?_)
            · skip
              exact n_eq c77 (in_c 2 rfl) (in_c (-1) rfl) rfl
            · skip
              refine g_aload_n 38 (gd rfl) rfl rfl ?_
              refine g_iload 40 (gd rfl) rfl rfl ?_
              refine g_iload_n 41 (gd rfl) rfl rfl ?_
              refine g_callv (X := _) (As := [.int (Int32.ofInt 2), .int y6_3]) (r := []) (b := A 46) (q := 46) 44 (gd rfl) rfl rfl rfl rfl rfl (ww_o rfl) (Nat.le_of_ble_eq_true rfl) (mc := 0) (ms := 0) (Nat.zero_le _) (Nat.zero_le _) (P := fun v u => _) ?_ (fun e u h => h) (fun v u h => h)
              intro po78 xx79 hp80 hx81
              refine g_enter2 (k := 168) (N := 300) (by omega) rfl (Nat.le_of_ble_eq_true rfl) ?_
              refine g_aload_n 1 (gd rfl) rfl rfl ?_
              refine g_iload_n 2 (gd rfl) rfl rfl ?_
              refine g_putI 5 (gd rfl) rfl rfl rfl rfl ?_
              have hI82 := inv_sF (q := 46) (j := 6) hI rfl (in_w (-1) 5 (in_c 2 rfl) rfl)
              refine g_aload_n 6 (gd rfl) rfl rfl ?_
              refine g_iload_n 7 (gd rfl) rfl rfl ?_
              refine g_putI 10 (gd rfl) rfl rfl rfl rfl ?_
              have hI83 := inv_sF (q := 46) (j := 7) hI82 rfl (in_w (-1) 1000 i48 rfl)
              refine g_iconst 0 11 (gd rfl) rfl rfl ?_
              refine g_ireturn (gd rfl) rfl (nb01 (in_w 0 1 (in_c 0 rfl) rfl)) (hp80 _ _ ?_)
              show GG _ _ _ _ _ _ _ _ [.int (Int32.ofInt 0)] _ _ _
              exact g_ireturn (gd rfl) rfl (nb01 (in_w 0 1 (in_c 0 rfl) rfl)) (hP _ _ ⟨(sF (sF s 46 6 (Int32.ofInt 2)) 46 7 y6_3), hI83, (Int32.ofInt 0), rfl, rfl, in_w 0 1 (in_c 0 rfl) rfl⟩)
          · skip
            have i84 := z_gt 1 2147483647 c75 (i_rng y6_1) rfl
            refine g_iconst (-1) 87 (gd rfl) rfl rfl ?_
            refine g_goto 91 (gd rfl) rfl ?_
            refine g_ireturn (gd rfl) rfl rfl (hp55 _ _ ?_)
            show GG _ _ _ _ _ _ _ _ [.int (Int32.ofInt (-1))] _ _ _
            refine g_istore 31 (gd rfl) rfl (Nat.le_of_ble_eq_true rfl) ?_
            refine g_iload 33 (gd rfl) rfl rfl ?_
            refine g_iconst (-1) 34 (gd rfl) rfl rfl ?_
            refine g_cmp_eq 37 45 (gd rfl) rfl rfl (fun c85 => ?_) (fun c85 => ?_)
            · skip
              refine g_iload 47 (gd rfl) rfl rfl ?_
              refine g_bipush 40 49 (gd rfl) rfl rfl ?_
              refine g_cmp_ne 52 55 (gd rfl) rfl rfl (fun c86 => ?_) (fun c86 => ?_)
              · skip
                exact gg_w (by omega) (gg_f (gf_cons rfl (gf_cons rfl (gf_cons rfl (gf_cons rfl (gf_cons rfl (gf_cons rfl gf_nil)))))) (ct55 s y6_1 z50 (Int32.ofInt (-1)) hI (in_w 0 1000 i48 rfl) (in_w 40 124 i74 rfl) (in_w (-1) (-1) (in_c (-1) rfl) rfl)))
              · skip
                exact n_eq c86 i74 (in_c 40 rfl) rfl
            · skip
              exact n_ne c85 (in_c (-1) rfl) (in_c (-1) rfl) rfl
        · skip
          have i87 := sw_eq c57
          refine g_iload_n 61 (gd rfl) rfl rfl ?_
          refine g_if_eq 64 68 (gd rfl) rfl rfl (fun c88 => ?_) (fun c88 => ?_)
          · skip
            have i89 := z_eq 0 0 c88 j6_2 rfl
            refine g_iconst 2 69 (gd rfl) rfl rfl ?_
            refine g_ireturn (gd rfl) rfl rfl (hp55 _ _ ?_)
            show GG _ _ _ _ _ _ _ _ [.int (Int32.ofInt 2)] _ _ _
            refine g_istore 31 (gd rfl) rfl (Nat.le_of_ble_eq_true rfl) ?_
            refine g_iload 33 (gd rfl) rfl rfl ?_
            refine g_iconst (-1) 34 (gd rfl) rfl rfl ?_
            refine g_cmp_eq 37 45 (gd rfl) rfl rfl (fun c90 => ?_) (fun c90 => ?_)
            · skip
              exact n_eq c90 (in_c 2 rfl) (in_c (-1) rfl) rfl
            · skip
              refine g_aload_n 38 (gd rfl) rfl rfl ?_
              refine g_iload 40 (gd rfl) rfl rfl ?_
              refine g_iload_n 41 (gd rfl) rfl rfl ?_
              refine g_callv (X := _) (As := [.int (Int32.ofInt 2), .int y6_3]) (r := []) (b := A 46) (q := 46) 44 (gd rfl) rfl rfl rfl rfl rfl (ww_o rfl) (Nat.le_of_ble_eq_true rfl) (mc := 0) (ms := 0) (Nat.zero_le _) (Nat.zero_le _) (P := fun v u => _) ?_ (fun e u h => h) (fun v u h => h)
              intro po91 xx92 hp93 hx94
              refine g_enter2 (k := 168) (N := 300) (by omega) rfl (Nat.le_of_ble_eq_true rfl) ?_
              refine g_aload_n 1 (gd rfl) rfl rfl ?_
              refine g_iload_n 2 (gd rfl) rfl rfl ?_
              refine g_putI 5 (gd rfl) rfl rfl rfl rfl ?_
              have hI95 := inv_sF (q := 46) (j := 6) hI rfl (in_w (-1) 5 (in_c 2 rfl) rfl)
              refine g_aload_n 6 (gd rfl) rfl rfl ?_
              refine g_iload_n 7 (gd rfl) rfl rfl ?_
              refine g_putI 10 (gd rfl) rfl rfl rfl rfl ?_
              have hI96 := inv_sF (q := 46) (j := 7) hI95 rfl (in_w (-1) 1000 i48 rfl)
              refine g_iconst 0 11 (gd rfl) rfl rfl ?_
              refine g_ireturn (gd rfl) rfl (nb01 (in_w 0 1 (in_c 0 rfl) rfl)) (hp93 _ _ ?_)
              show GG _ _ _ _ _ _ _ _ [.int (Int32.ofInt 0)] _ _ _
              exact g_ireturn (gd rfl) rfl (nb01 (in_w 0 1 (in_c 0 rfl) rfl)) (hP _ _ ⟨(sF (sF s 46 6 (Int32.ofInt 2)) 46 7 y6_3), hI96, (Int32.ofInt 0), rfl, rfl, in_w 0 1 (in_c 0 rfl) rfl⟩)
          · skip
            have i97 := z_ne 1 1 c88 j6_2 rfl
            refine g_iconst (-1) 65 (gd rfl) rfl rfl ?_
            refine g_goto 69 (gd rfl) rfl ?_
            refine g_ireturn (gd rfl) rfl rfl (hp55 _ _ ?_)
            show GG _ _ _ _ _ _ _ _ [.int (Int32.ofInt (-1))] _ _ _
            refine g_istore 31 (gd rfl) rfl (Nat.le_of_ble_eq_true rfl) ?_
            refine g_iload 33 (gd rfl) rfl rfl ?_
            refine g_iconst (-1) 34 (gd rfl) rfl rfl ?_
            refine g_cmp_eq 37 45 (gd rfl) rfl rfl (fun c98 => ?_) (fun c98 => ?_)
            · skip
              refine g_iload 47 (gd rfl) rfl rfl ?_
              refine g_bipush 40 49 (gd rfl) rfl rfl ?_
              refine g_cmp_ne 52 55 (gd rfl) rfl rfl (fun c99 => ?_) (fun c99 => ?_)
              · skip
                exact gg_w (by omega) (gg_f (gf_cons rfl (gf_cons rfl (gf_cons rfl (gf_cons rfl (gf_cons rfl (gf_cons rfl gf_nil)))))) (ct55 s y6_1 z50 (Int32.ofInt (-1)) hI (in_w 0 1000 i48 rfl) (in_w 40 124 i87 rfl) (in_w (-1) (-1) (in_c (-1) rfl) rfl)))
              · skip
                exact n_eq c99 i87 (in_c 40 rfl) rfl
            · skip
              exact n_ne c98 (in_c (-1) rfl) (in_c (-1) rfl) rfl
        · skip
          have i100 := sw_eq c57
          refine g_iload_n 61 (gd rfl) rfl rfl ?_
          refine g_if_eq 64 68 (gd rfl) rfl rfl (fun c101 => ?_) (fun c101 => ?_)
          · skip
            have i102 := z_eq 0 0 c101 j6_2 rfl
            refine g_iconst 2 69 (gd rfl) rfl rfl ?_
            refine g_ireturn (gd rfl) rfl rfl (hp55 _ _ ?_)
            show GG _ _ _ _ _ _ _ _ [.int (Int32.ofInt 2)] _ _ _
            refine g_istore 31 (gd rfl) rfl (Nat.le_of_ble_eq_true rfl) ?_
            refine g_iload 33 (gd rfl) rfl rfl ?_
            refine g_iconst (-1) 34 (gd rfl) rfl rfl ?_
            refine g_cmp_eq 37 45 (gd rfl) rfl rfl (fun c103 => ?_) (fun c103 => ?_)
            · skip
              exact n_eq c103 (in_c 2 rfl) (in_c (-1) rfl) rfl
            · skip
              refine g_aload_n 38 (gd rfl) rfl rfl ?_
              refine g_iload 40 (gd rfl) rfl rfl ?_
              refine g_iload_n 41 (gd rfl) rfl rfl ?_
              refine g_callv (X := _) (As := [.int (Int32.ofInt 2), .int y6_3]) (r := []) (b := A 46) (q := 46) 44 (gd rfl) rfl rfl rfl rfl rfl (ww_o rfl) (Nat.le_of_ble_eq_true rfl) (mc := 0) (ms := 0) (Nat.zero_le _) (Nat.zero_le _) (P := fun v u => _) ?_ (fun e u h => h) (fun v u h => h)
              intro po104 xx105 hp106 hx107
              refine g_enter2 (k := 168) (N := 300) (by omega) rfl (Nat.le_of_ble_eq_true rfl) ?_
              refine g_aload_n 1 (gd rfl) rfl rfl ?_
              refine g_iload_n 2 (gd rfl) rfl rfl ?_
              refine g_putI 5 (gd rfl) rfl rfl rfl rfl ?_
              have hI108 := inv_sF (q := 46) (j := 6) hI rfl (in_w (-1) 5 (in_c 2 rfl) rfl)
              refine g_aload_n 6 (gd rfl) rfl rfl ?_
              refine g_iload_n 7 (gd rfl) rfl rfl ?_
              refine g_putI 10 (gd rfl) rfl rfl rfl rfl ?_
              have hI109 := inv_sF (q := 46) (j := 7) hI108 rfl (in_w (-1) 1000 i48 rfl)
              refine g_iconst 0 11 (gd rfl) rfl rfl ?_
              refine g_ireturn (gd rfl) rfl (nb01 (in_w 0 1 (in_c 0 rfl) rfl)) (hp106 _ _ ?_)
              show GG _ _ _ _ _ _ _ _ [.int (Int32.ofInt 0)] _ _ _
              exact g_ireturn (gd rfl) rfl (nb01 (in_w 0 1 (in_c 0 rfl) rfl)) (hP _ _ ⟨(sF (sF s 46 6 (Int32.ofInt 2)) 46 7 y6_3), hI109, (Int32.ofInt 0), rfl, rfl, in_w 0 1 (in_c 0 rfl) rfl⟩)
          · skip
            have i110 := z_ne 1 1 c101 j6_2 rfl
            refine g_iconst (-1) 65 (gd rfl) rfl rfl ?_
            refine g_goto 69 (gd rfl) rfl ?_
            refine g_ireturn (gd rfl) rfl rfl (hp55 _ _ ?_)
            show GG _ _ _ _ _ _ _ _ [.int (Int32.ofInt (-1))] _ _ _
            refine g_istore 31 (gd rfl) rfl (Nat.le_of_ble_eq_true rfl) ?_
            refine g_iload 33 (gd rfl) rfl rfl ?_
            refine g_iconst (-1) 34 (gd rfl) rfl rfl ?_
            refine g_cmp_eq 37 45 (gd rfl) rfl rfl (fun c111 => ?_) (fun c111 => ?_)
            · skip
              refine g_iload 47 (gd rfl) rfl rfl ?_
              refine g_bipush 40 49 (gd rfl) rfl rfl ?_
              refine g_cmp_ne 52 55 (gd rfl) rfl rfl (fun c112 => ?_) (fun c112 => ?_)
              · skip
                exact gg_w (by omega) (gg_f (gf_cons rfl (gf_cons rfl (gf_cons rfl (gf_cons rfl (gf_cons rfl (gf_cons rfl gf_nil)))))) (ct55 s y6_1 z50 (Int32.ofInt (-1)) hI (in_w 0 1000 i48 rfl) (in_w 40 124 i100 rfl) (in_w (-1) (-1) (in_c (-1) rfl) rfl)))
              · skip
                exact n_eq c112 i100 (in_c 40 rfl) rfl
            · skip
              exact n_ne c111 (in_c (-1) rfl) (in_c (-1) rfl) rfl
        · skip
          have i113 := sw_eq c57
          refine g_iload_n 61 (gd rfl) rfl rfl ?_
          refine g_if_eq 64 68 (gd rfl) rfl rfl (fun c114 => ?_) (fun c114 => ?_)
          · skip
            have i115 := z_eq 0 0 c114 j6_2 rfl
            refine g_iconst 2 69 (gd rfl) rfl rfl ?_
            refine g_ireturn (gd rfl) rfl rfl (hp55 _ _ ?_)
            show GG _ _ _ _ _ _ _ _ [.int (Int32.ofInt 2)] _ _ _
            refine g_istore 31 (gd rfl) rfl (Nat.le_of_ble_eq_true rfl) ?_
            refine g_iload 33 (gd rfl) rfl rfl ?_
            refine g_iconst (-1) 34 (gd rfl) rfl rfl ?_
            refine g_cmp_eq 37 45 (gd rfl) rfl rfl (fun c116 => ?_) (fun c116 => ?_)
            · skip
              exact n_eq c116 (in_c 2 rfl) (in_c (-1) rfl) rfl
            · skip
              refine g_aload_n 38 (gd rfl) rfl rfl ?_
              refine g_iload 40 (gd rfl) rfl rfl ?_
              refine g_iload_n 41 (gd rfl) rfl rfl ?_
              refine g_callv (X := _) (As := [.int (Int32.ofInt 2), .int y6_3]) (r := []) (b := A 46) (q := 46) 44 (gd rfl) rfl rfl rfl rfl rfl (ww_o rfl) (Nat.le_of_ble_eq_true rfl) (mc := 0) (ms := 0) (Nat.zero_le _) (Nat.zero_le _) (P := fun v u => _) ?_ (fun e u h => h) (fun v u h => h)
              intro po117 xx118 hp119 hx120
              refine g_enter2 (k := 168) (N := 300) (by omega) rfl (Nat.le_of_ble_eq_true rfl) ?_
              refine g_aload_n 1 (gd rfl) rfl rfl ?_
              refine g_iload_n 2 (gd rfl) rfl rfl ?_
              refine g_putI 5 (gd rfl) rfl rfl rfl rfl ?_
              have hI121 := inv_sF (q := 46) (j := 6) hI rfl (in_w (-1) 5 (in_c 2 rfl) rfl)
              refine g_aload_n 6 (gd rfl) rfl rfl ?_
              refine g_iload_n 7 (gd rfl) rfl rfl ?_
              refine g_putI 10 (gd rfl) rfl rfl rfl rfl ?_
              have hI122 := inv_sF (q := 46) (j := 7) hI121 rfl (in_w (-1) 1000 i48 rfl)
              refine g_iconst 0 11 (gd rfl) rfl rfl ?_
              refine g_ireturn (gd rfl) rfl (nb01 (in_w 0 1 (in_c 0 rfl) rfl)) (hp119 _ _ ?_)
              show GG _ _ _ _ _ _ _ _ [.int (Int32.ofInt 0)] _ _ _
              exact g_ireturn (gd rfl) rfl (nb01 (in_w 0 1 (in_c 0 rfl) rfl)) (hP _ _ ⟨(sF (sF s 46 6 (Int32.ofInt 2)) 46 7 y6_3), hI122, (Int32.ofInt 0), rfl, rfl, in_w 0 1 (in_c 0 rfl) rfl⟩)
          · skip
            have i123 := z_ne 1 1 c114 j6_2 rfl
            refine g_iconst (-1) 65 (gd rfl) rfl rfl ?_
            refine g_goto 69 (gd rfl) rfl ?_
            refine g_ireturn (gd rfl) rfl rfl (hp55 _ _ ?_)
            show GG _ _ _ _ _ _ _ _ [.int (Int32.ofInt (-1))] _ _ _
            refine g_istore 31 (gd rfl) rfl (Nat.le_of_ble_eq_true rfl) ?_
            refine g_iload 33 (gd rfl) rfl rfl ?_
            refine g_iconst (-1) 34 (gd rfl) rfl rfl ?_
            refine g_cmp_eq 37 45 (gd rfl) rfl rfl (fun c124 => ?_) (fun c124 => ?_)
            · skip
              refine g_iload 47 (gd rfl) rfl rfl ?_
              refine g_bipush 40 49 (gd rfl) rfl rfl ?_
              refine g_cmp_ne 52 55 (gd rfl) rfl rfl (fun c125 => ?_) (fun c125 => ?_)
              · skip
                exact gg_w (by omega) (gg_f (gf_cons rfl (gf_cons rfl (gf_cons rfl (gf_cons rfl (gf_cons rfl (gf_cons rfl gf_nil)))))) (ct55 s y6_1 z50 (Int32.ofInt (-1)) hI (in_w 0 1000 i48 rfl) (in_w 40 124 i113 rfl) (in_w (-1) (-1) (in_c (-1) rfl) rfl)))
              · skip
                exact n_eq c125 i113 (in_c 40 rfl) rfl
            · skip
              exact n_ne c124 (in_c (-1) rfl) (in_c (-1) rfl) rfl
        · skip
          have i126 := sw_eq c57
          refine g_iconst (-1) 93 (gd rfl) rfl rfl ?_
          refine g_ireturn (gd rfl) rfl rfl (hp55 _ _ ?_)
          show GG _ _ _ _ _ _ _ _ [.int (Int32.ofInt (-1))] _ _ _
          refine g_istore 31 (gd rfl) rfl (Nat.le_of_ble_eq_true rfl) ?_
          refine g_iload 33 (gd rfl) rfl rfl ?_
          refine g_iconst (-1) 34 (gd rfl) rfl rfl ?_
          refine g_cmp_eq 37 45 (gd rfl) rfl rfl (fun c127 => ?_) (fun c127 => ?_)
          · skip
            refine g_iload 47 (gd rfl) rfl rfl ?_
            refine g_bipush 40 49 (gd rfl) rfl rfl ?_
            refine g_cmp_ne 52 55 (gd rfl) rfl rfl (fun c128 => ?_) (fun c128 => ?_)
            · skip
              exact gg_w (by omega) (gg_f (gf_cons rfl (gf_cons rfl (gf_cons rfl (gf_cons rfl (gf_cons rfl (gf_cons rfl gf_nil)))))) (ct55 s y6_1 z50 (Int32.ofInt (-1)) hI (in_w 0 1000 i48 rfl) (in_w 40 124 i126 rfl) (in_w (-1) (-1) (in_c (-1) rfl) rfl)))
            · skip
              exact n_eq c128 i126 (in_c 40 rfl) rfl
          · skip
            exact n_ne c127 (in_c (-1) rfl) (in_c (-1) rfl) rfl
        · skip
          refine g_iload_n 95 (gd rfl) rfl rfl ?_
          refine g_calls (As := [.int z50]) (r := []) 98 (gd rfl) rfl rfl rfl rfl rfl (Nat.le_of_ble_eq_true rfl) (mc := 0) (ms := 0) (Nat.zero_le _) (Nat.zero_le _) (P := fun v u => _) ?_ (fun v u h => h)
          intro po129 xx130 hp131 hx132
          refine g_enter2 (k := 157) (N := 300) (by omega) rfl (Nat.le_of_ble_eq_true rfl) ?_
          refine g_iload_n 1 (gd rfl) rfl rfl ?_
          refine g_bipush 46 3 (gd rfl) rfl rfl ?_
          refine g_cmp_eq 6 18 (gd rfl) rfl rfl (fun c133 => ?_) (fun c133 => ?_)
          · skip
            have i134 := r_eq1 46 46 c133 i52 (in_c 46 rfl) rfl
            refine g_iconst 1 19 (gd rfl) rfl rfl ?_
            refine g_goto 23 (gd rfl) rfl ?_
            refine g_ireturn (gd rfl) rfl (nb01 (in_w 0 1 (in_c 1 rfl) rfl)) (hp131 _ _ ?_)
            show GG _ _ _ _ _ _ _ _ [.int (Int32.ofInt 1)] _ _ _
            refine g_if_eq 101 105 (gd rfl) rfl rfl (fun c135 => ?_) (fun c135 => ?_)
            · skip
              exact zn_eq c135 (in_c 1 rfl) rfl
            · skip
              refine g_iconst (-1) 102 (gd rfl) rfl rfl ?_
              refine g_goto 106 (gd rfl) rfl ?_
              refine g_ireturn (gd rfl) rfl rfl (hp55 _ _ ?_)
              show GG _ _ _ _ _ _ _ _ [.int (Int32.ofInt (-1))] _ _ _
              refine g_istore 31 (gd rfl) rfl (Nat.le_of_ble_eq_true rfl) ?_
              refine g_iload 33 (gd rfl) rfl rfl ?_
              refine g_iconst (-1) 34 (gd rfl) rfl rfl ?_
              refine g_cmp_eq 37 45 (gd rfl) rfl rfl (fun c136 => ?_) (fun c136 => ?_)
              · skip
                refine g_iload 47 (gd rfl) rfl rfl ?_
                refine g_bipush 40 49 (gd rfl) rfl rfl ?_
                refine g_cmp_ne 52 55 (gd rfl) rfl rfl (fun c137 => ?_) (fun c137 => ?_)
                · skip
                  exact gg_w (by omega) (gg_f (gf_cons rfl (gf_cons rfl (gf_cons rfl (gf_cons rfl (gf_cons rfl (gf_cons rfl gf_nil)))))) (ct55 s y6_1 z50 (Int32.ofInt (-1)) hI (in_w 0 1000 i48 rfl) (in_w 40 124 i134 rfl) (in_w (-1) (-1) (in_c (-1) rfl) rfl)))
                · skip
                  exact n_eq c137 i134 (in_c 40 rfl) rfl
              · skip
                exact n_ne c136 (in_c (-1) rfl) (in_c (-1) rfl) rfl
          · skip
            refine g_iload_n 7 (gd rfl) rfl rfl ?_
            refine g_bipush 97 9 (gd rfl) rfl rfl ?_
            refine g_cmp_lt 12 22 (gd rfl) rfl rfl (fun c138 => ?_) (fun c138 => ?_)
            · skip
              have i139 := r_lt1 0 96 c138 i52 (in_c 97 rfl) rfl
              refine g_iconst 0 23 (gd rfl) rfl rfl ?_
              refine g_ireturn (gd rfl) rfl (nb01 (in_w 0 1 (in_c 0 rfl) rfl)) (hp131 _ _ ?_)
              show GG _ _ _ _ _ _ _ _ [.int (Int32.ofInt 0)] _ _ _
              refine g_if_eq 101 105 (gd rfl) rfl rfl (fun c140 => ?_) (fun c140 => ?_)
              · skip
                refine g_iconst 1 106 (gd rfl) rfl rfl ?_
                refine g_ireturn (gd rfl) rfl rfl (hp55 _ _ ?_)
                show GG _ _ _ _ _ _ _ _ [.int (Int32.ofInt 1)] _ _ _
                refine g_istore 31 (gd rfl) rfl (Nat.le_of_ble_eq_true rfl) ?_
                refine g_iload 33 (gd rfl) rfl rfl ?_
                refine g_iconst (-1) 34 (gd rfl) rfl rfl ?_
                refine g_cmp_eq 37 45 (gd rfl) rfl rfl (fun c141 => ?_) (fun c141 => ?_)
                · skip
                  exact n_eq c141 (in_c 1 rfl) (in_c (-1) rfl) rfl
                · skip
                  refine g_aload_n 38 (gd rfl) rfl rfl ?_
                  refine g_iload 40 (gd rfl) rfl rfl ?_
                  refine g_iload_n 41 (gd rfl) rfl rfl ?_
                  refine g_callv (X := _) (As := [.int (Int32.ofInt 1), .int y6_3]) (r := []) (b := A 46) (q := 46) 44 (gd rfl) rfl rfl rfl rfl rfl (ww_o rfl) (Nat.le_of_ble_eq_true rfl) (mc := 0) (ms := 0) (Nat.zero_le _) (Nat.zero_le _) (P := fun v u => _) ?_ (fun e u h => h) (fun v u h => h)
                  intro po142 xx143 hp144 hx145
                  refine g_enter2 (k := 168) (N := 300) (by omega) rfl (Nat.le_of_ble_eq_true rfl) ?_
                  refine g_aload_n 1 (gd rfl) rfl rfl ?_
                  refine g_iload_n 2 (gd rfl) rfl rfl ?_
                  refine g_putI 5 (gd rfl) rfl rfl rfl rfl ?_
                  have hI146 := inv_sF (q := 46) (j := 6) hI rfl (in_w (-1) 5 (in_c 1 rfl) rfl)
                  refine g_aload_n 6 (gd rfl) rfl rfl ?_
                  refine g_iload_n 7 (gd rfl) rfl rfl ?_
                  refine g_putI 10 (gd rfl) rfl rfl rfl rfl ?_
                  have hI147 := inv_sF (q := 46) (j := 7) hI146 rfl (in_w (-1) 1000 i48 rfl)
                  refine g_iconst 0 11 (gd rfl) rfl rfl ?_
                  refine g_ireturn (gd rfl) rfl (nb01 (in_w 0 1 (in_c 0 rfl) rfl)) (hp144 _ _ ?_)
                  show GG _ _ _ _ _ _ _ _ [.int (Int32.ofInt 0)] _ _ _
                  exact g_ireturn (gd rfl) rfl (nb01 (in_w 0 1 (in_c 0 rfl) rfl)) (hP _ _ ⟨(sF (sF s 46 6 (Int32.ofInt 1)) 46 7 y6_3), hI147, (Int32.ofInt 0), rfl, rfl, in_w 0 1 (in_c 0 rfl) rfl⟩)
              · skip
                exact zn_ne c140 (in_c 0 rfl) rfl
            · skip
              have i148 := r_le2 97 65535 c138 (in_c 97 rfl) i52 rfl
              refine g_iload_n 13 (gd rfl) rfl rfl ?_
              refine g_bipush 122 15 (gd rfl) rfl rfl ?_
              refine g_cmp_gt 18 22 (gd rfl) rfl rfl (fun c149 => ?_) (fun c149 => ?_)
              · skip
                have i150 := r_lt2 123 65535 c149 (in_c 122 rfl) i148 rfl
                refine g_iconst 0 23 (gd rfl) rfl rfl ?_
                refine g_ireturn (gd rfl) rfl (nb01 (in_w 0 1 (in_c 0 rfl) rfl)) (hp131 _ _ ?_)
                show GG _ _ _ _ _ _ _ _ [.int (Int32.ofInt 0)] _ _ _
                refine g_if_eq 101 105 (gd rfl) rfl rfl (fun c151 => ?_) (fun c151 => ?_)
                · skip
                  refine g_iconst 1 106 (gd rfl) rfl rfl ?_
                  refine g_ireturn (gd rfl) rfl rfl (hp55 _ _ ?_)
                  show GG _ _ _ _ _ _ _ _ [.int (Int32.ofInt 1)] _ _ _
                  refine g_istore 31 (gd rfl) rfl (Nat.le_of_ble_eq_true rfl) ?_
                  refine g_iload 33 (gd rfl) rfl rfl ?_
                  refine g_iconst (-1) 34 (gd rfl) rfl rfl ?_
                  refine g_cmp_eq 37 45 (gd rfl) rfl rfl (fun c152 => ?_) (fun c152 => ?_)
                  · skip
                    exact n_eq c152 (in_c 1 rfl) (in_c (-1) rfl) rfl
                  · skip
                    refine g_aload_n 38 (gd rfl) rfl rfl ?_
                    refine g_iload 40 (gd rfl) rfl rfl ?_
                    refine g_iload_n 41 (gd rfl) rfl rfl ?_
                    refine g_callv (X := _) (As := [.int (Int32.ofInt 1), .int y6_3]) (r := []) (b := A 46) (q := 46) 44 (gd rfl) rfl rfl rfl rfl rfl (ww_o rfl) (Nat.le_of_ble_eq_true rfl) (mc := 0) (ms := 0) (Nat.zero_le _) (Nat.zero_le _) (P := fun v u => _) ?_ (fun e u h => h) (fun v u h => h)
                    intro po153 xx154 hp155 hx156
                    refine g_enter2 (k := 168) (N := 300) (by omega) rfl (Nat.le_of_ble_eq_true rfl) ?_
                    refine g_aload_n 1 (gd rfl) rfl rfl ?_
                    refine g_iload_n 2 (gd rfl) rfl rfl ?_
                    refine g_putI 5 (gd rfl) rfl rfl rfl rfl ?_
                    have hI157 := inv_sF (q := 46) (j := 6) hI rfl (in_w (-1) 5 (in_c 1 rfl) rfl)
                    refine g_aload_n 6 (gd rfl) rfl rfl ?_
                    refine g_iload_n 7 (gd rfl) rfl rfl ?_
                    refine g_putI 10 (gd rfl) rfl rfl rfl rfl ?_
                    have hI158 := inv_sF (q := 46) (j := 7) hI157 rfl (in_w (-1) 1000 i48 rfl)
                    refine g_iconst 0 11 (gd rfl) rfl rfl ?_
                    refine g_ireturn (gd rfl) rfl (nb01 (in_w 0 1 (in_c 0 rfl) rfl)) (hp155 _ _ ?_)
                    show GG _ _ _ _ _ _ _ _ [.int (Int32.ofInt 0)] _ _ _
                    exact g_ireturn (gd rfl) rfl (nb01 (in_w 0 1 (in_c 0 rfl) rfl)) (hP _ _ ⟨(sF (sF s 46 6 (Int32.ofInt 1)) 46 7 y6_3), hI158, (Int32.ofInt 0), rfl, rfl, in_w 0 1 (in_c 0 rfl) rfl⟩)
                · skip
                  exact zn_ne c151 (in_c 0 rfl) rfl
              · skip
                have i159 := r_le1 97 122 c149 i148 (in_c 122 rfl) rfl
                refine g_iconst 1 19 (gd rfl) rfl rfl ?_
                refine g_goto 23 (gd rfl) rfl ?_
                refine g_ireturn (gd rfl) rfl (nb01 (in_w 0 1 (in_c 1 rfl) rfl)) (hp131 _ _ ?_)
                show GG _ _ _ _ _ _ _ _ [.int (Int32.ofInt 1)] _ _ _
                refine g_if_eq 101 105 (gd rfl) rfl rfl (fun c160 => ?_) (fun c160 => ?_)
                · skip
                  exact zn_eq c160 (in_c 1 rfl) rfl
                · skip
                  refine g_iconst (-1) 102 (gd rfl) rfl rfl ?_
                  refine g_goto 106 (gd rfl) rfl ?_
                  refine g_ireturn (gd rfl) rfl rfl (hp55 _ _ ?_)
                  show GG _ _ _ _ _ _ _ _ [.int (Int32.ofInt (-1))] _ _ _
                  refine g_istore 31 (gd rfl) rfl (Nat.le_of_ble_eq_true rfl) ?_
                  refine g_iload 33 (gd rfl) rfl rfl ?_
                  refine g_iconst (-1) 34 (gd rfl) rfl rfl ?_
                  refine g_cmp_eq 37 45 (gd rfl) rfl rfl (fun c161 => ?_) (fun c161 => ?_)
                  · skip
                    refine g_iload 47 (gd rfl) rfl rfl ?_
                    refine g_bipush 40 49 (gd rfl) rfl rfl ?_
                    refine g_cmp_ne 52 55 (gd rfl) rfl rfl (fun c162 => ?_) (fun c162 => ?_)
                    · skip
                      exact gg_w (by omega) (gg_f (gf_cons rfl (gf_cons rfl (gf_cons rfl (gf_cons rfl (gf_cons rfl (gf_cons rfl gf_nil)))))) (ct55 s y6_1 z50 (Int32.ofInt (-1)) hI (in_w 0 1000 i48 rfl) (in_w 40 124 i159 rfl) (in_w (-1) (-1) (in_c (-1) rfl) rfl)))
                    · skip
                      exact n_eq c162 i159 (in_c 40 rfl) rfl
                  · skip
                    exact n_ne c161 (in_c (-1) rfl) (in_c (-1) rfl) rfl
  refine g_enter2 (k := 155) (N := 7215008) (by omega) rfl (Nat.le_of_ble_eq_true rfl) ?_
  refine g_iconst 0 1 (gd rfl) rfl rfl ?_
  refine g_istore_n 2 (gd rfl) rfl (Nat.le_of_ble_eq_true rfl) ?_
  refine g_iconst 0 3 (gd rfl) rfl rfl ?_
  refine g_istore_n 4 (gd rfl) rfl (Nat.le_of_ble_eq_true rfl) ?_
  refine g_iconst 0 5 (gd rfl) rfl rfl ?_
  refine g_istore_n 6 (gd rfl) rfl (Nat.le_of_ble_eq_true rfl) ?_
  exact gg_w (by omega) (gg_f (gf_cons rfl (gf_cons rfl (gf_cons rfl (gf_cons rfl gf_nil)))) (ct6 2002 s (Int32.ofInt 0) (Int32.ofInt 0) (Int32.ofInt 0) hI (in_w 0 1 (in_c 0 rfl) rfl) (in_w 0 2001 (in_c 0 rfl) rfl) (m_in 2002 (in_w 0 2001 (in_c 0 rfl) rfl) rfl)))
