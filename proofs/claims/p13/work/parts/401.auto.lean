/-! methods, by vc.py -/
/-- GraphHouse$Graph.copyOf -/
theorem k_93_16_2 {Z : AmZ} {A : Nat → Nat} {s : GS} {ex : va_W} {d : Nat} {X : AmX}  (hd : 1 ≤ d) (hI : Inv s)  : GC Z d 93 [.ref (A 16), .ref (A 2)] (WW Z A s ++ ex) 0 0 (fun v u => ∃ t : GS, Inv t ∧ v = none ∧ u = WW Z A t ++ ex) X := by
  intro post xp hP hX
  refine g_enter2 (k := 93) (N := 900) (by omega) rfl (Nat.le_of_ble_eq_true rfl) ?_
  refine g_aload_n 1 (gd rfl) rfl rfl ?_
  refine g_aload_n 2 (gd rfl) rfl rfl ?_
  refine g_getI 5 (gd rfl) rfl rfl rfl (fun z1 e2 => ?_)
  have i3 := inv_F hI 0 4000 rfl e2
  refine g_putI 8 (gd rfl) rfl rfl rfl rfl ?_
  have hI4 := inv_sF (q := 16) (j := 0) hI rfl (in_w 0 4000 i3 rfl)
  refine g_aload_n 9 (gd rfl) rfl rfl ?_
  refine g_aload_n 10 (gd rfl) rfl rfl ?_
  refine g_getI 13 (gd rfl) rfl rfl rfl (fun z5 e6 => ?_)
  have i7 := inv_F hI4 0 32 rfl e6
  refine g_putI 16 (gd rfl) rfl rfl rfl rfl ?_
  have hI8 := inv_sF (q := 16) (j := 1) hI4 rfl (in_w 0 32 i7 rfl)
  refine g_aload_n 17 (gd rfl) rfl rfl ?_
  refine g_aload_n 18 (gd rfl) rfl rfl ?_
  refine g_getI 21 (gd rfl) rfl rfl rfl (fun z9 e10 => ?_)
  have i11 := inv_F hI8 0 160 rfl e10
  refine g_putI 24 (gd rfl) rfl rfl rfl rfl ?_
  have hI12 := inv_sF (q := 16) (j := 2) hI8 rfl (in_w 0 160 i11 rfl)
  refine g_aload_n 25 (gd rfl) rfl rfl ?_
  refine g_aload_n 26 (gd rfl) rfl rfl ?_
  refine g_getI 29 (gd rfl) rfl rfl rfl (fun z13 e14 => ?_)
  have i15 := inv_F hI12 0 160 rfl e14
  refine g_putI 32 (gd rfl) rfl rfl rfl rfl ?_
  have hI16 := inv_sF (q := 16) (j := 3) hI12 rfl (in_w 0 160 i15 rfl)
  refine g_aload_n 33 (gd rfl) rfl rfl ?_
  refine g_iconst (-1) 34 (gd rfl) rfl rfl ?_
  refine g_putI 37 (gd rfl) rfl rfl rfl rfl ?_
  have hI17 := inv_sF (q := 16) (j := 4) hI16 rfl (in_w (-1) 4000 (in_c (-1) rfl) rfl)
  refine g_aload_n 38 (gd rfl) rfl rfl ?_
  refine g_getA (q2 := 3) 41 (gd rfl) rfl rfl rfl rfl rfl ?_
  refine g_iconst 0 42 (gd rfl) rfl rfl ?_
  refine g_aload_n 43 (gd rfl) rfl rfl ?_
  refine g_getA (q2 := 17) 46 (gd rfl) rfl rfl rfl rfl rfl ?_
  refine g_iconst 0 47 (gd rfl) rfl rfl ?_
  refine g_bipush 32 49 (gd rfl) rfl rfl ?_
  refine g_copyI (n0 := 32) (n1 := 32) 52 (gd rfl) rfl rfl rfl rfl (Nat.le_of_ble_eq_true rfl) (cp_0 (in_c 0 rfl) rfl) (cp_0 (in_c 0 rfl) rfl) (cp_0 (in_c 32 rfl) rfl) (cp_1 (in_c 0 rfl) (in_c 32 rfl) rfl) (cp_1 (in_c 0 rfl) (in_c 32 rfl) rfl) ?_
  have hI18 := inv_cpy (q := 17) (q2 := 3) (n0 := 32) (n1 := 32) (sp := (Int32.ofInt 0).toNatClampNeg) (dp := (Int32.ofInt 0).toNatClampNeg) (n := (Int32.ofInt 32).toNatClampNeg) hI17 rfl rfl (cp_2 (in_c 0 rfl) (in_c 32 rfl) rfl) rfl rfl rfl
  refine g_aload_n 53 (gd rfl) rfl rfl ?_
  refine g_getA (q2 := 4) 56 (gd rfl) rfl rfl rfl rfl rfl ?_
  refine g_iconst 0 57 (gd rfl) rfl rfl ?_
  refine g_aload_n 58 (gd rfl) rfl rfl ?_
  refine g_getA (q2 := 18) 61 (gd rfl) rfl rfl rfl rfl rfl ?_
  refine g_iconst 0 62 (gd rfl) rfl rfl ?_
  refine g_sipush 160 65 (gd rfl) rfl rfl ?_
  refine g_copyI (n0 := 160) (n1 := 160) 68 (gd rfl) rfl rfl rfl rfl (Nat.le_of_ble_eq_true rfl) (cp_0 (in_c 0 rfl) rfl) (cp_0 (in_c 0 rfl) rfl) (cp_0 (in_c 160 rfl) rfl) (cp_1 (in_c 0 rfl) (in_c 160 rfl) rfl) (cp_1 (in_c 0 rfl) (in_c 160 rfl) rfl) ?_
  have hI19 := inv_cpy (q := 18) (q2 := 4) (n0 := 160) (n1 := 160) (sp := (Int32.ofInt 0).toNatClampNeg) (dp := (Int32.ofInt 0).toNatClampNeg) (n := (Int32.ofInt 160).toNatClampNeg) hI18 rfl rfl (cp_2 (in_c 0 rfl) (in_c 160 rfl) rfl) rfl rfl rfl
  refine g_aload_n 69 (gd rfl) rfl rfl ?_
  refine g_getA (q2 := 5) 72 (gd rfl) rfl rfl rfl rfl rfl ?_
  refine g_iconst 0 73 (gd rfl) rfl rfl ?_
  refine g_aload_n 74 (gd rfl) rfl rfl ?_
  refine g_getA (q2 := 19) 77 (gd rfl) rfl rfl rfl rfl rfl ?_
  refine g_iconst 0 78 (gd rfl) rfl rfl ?_
  refine g_sipush 160 81 (gd rfl) rfl rfl ?_
  refine g_copyI (n0 := 160) (n1 := 160) 84 (gd rfl) rfl rfl rfl rfl (Nat.le_of_ble_eq_true rfl) (cp_0 (in_c 0 rfl) rfl) (cp_0 (in_c 0 rfl) rfl) (cp_0 (in_c 160 rfl) rfl) (cp_1 (in_c 0 rfl) (in_c 160 rfl) rfl) (cp_1 (in_c 0 rfl) (in_c 160 rfl) rfl) ?_
  have hI20 := inv_cpy (q := 19) (q2 := 5) (n0 := 160) (n1 := 160) (sp := (Int32.ofInt 0).toNatClampNeg) (dp := (Int32.ofInt 0).toNatClampNeg) (n := (Int32.ofInt 160).toNatClampNeg) hI19 rfl rfl (cp_2 (in_c 0 rfl) (in_c 160 rfl) rfl) rfl rfl rfl
  refine g_aload_n 85 (gd rfl) rfl rfl ?_
  refine g_getA (q2 := 6) 88 (gd rfl) rfl rfl rfl rfl rfl ?_
  refine g_iconst 0 89 (gd rfl) rfl rfl ?_
  refine g_aload_n 90 (gd rfl) rfl rfl ?_
  refine g_getA (q2 := 20) 93 (gd rfl) rfl rfl rfl rfl rfl ?_
  refine g_iconst 0 94 (gd rfl) rfl rfl ?_
  refine g_sipush 160 97 (gd rfl) rfl rfl ?_
  refine g_copyI (n0 := 160) (n1 := 160) 100 (gd rfl) rfl rfl rfl rfl (Nat.le_of_ble_eq_true rfl) (cp_0 (in_c 0 rfl) rfl) (cp_0 (in_c 0 rfl) rfl) (cp_0 (in_c 160 rfl) rfl) (cp_1 (in_c 0 rfl) (in_c 160 rfl) rfl) (cp_1 (in_c 0 rfl) (in_c 160 rfl) rfl) ?_
  have hI21 := inv_cpy (q := 20) (q2 := 6) (n0 := 160) (n1 := 160) (sp := (Int32.ofInt 0).toNatClampNeg) (dp := (Int32.ofInt 0).toNatClampNeg) (n := (Int32.ofInt 160).toNatClampNeg) hI20 rfl rfl (cp_2 (in_c 0 rfl) (in_c 160 rfl) rfl) rfl rfl rfl
  refine g_aload_n 101 (gd rfl) rfl rfl ?_
  refine g_getA (q2 := 7) 104 (gd rfl) rfl rfl rfl rfl rfl ?_
  refine g_iconst 0 105 (gd rfl) rfl rfl ?_
  refine g_aload_n 106 (gd rfl) rfl rfl ?_
  refine g_getA (q2 := 21) 109 (gd rfl) rfl rfl rfl rfl rfl ?_
  refine g_iconst 0 110 (gd rfl) rfl rfl ?_
  refine g_sipush 160 113 (gd rfl) rfl rfl ?_
  refine g_copyI (n0 := 160) (n1 := 160) 116 (gd rfl) rfl rfl rfl rfl (Nat.le_of_ble_eq_true rfl) (cp_0 (in_c 0 rfl) rfl) (cp_0 (in_c 0 rfl) rfl) (cp_0 (in_c 160 rfl) rfl) (cp_1 (in_c 0 rfl) (in_c 160 rfl) rfl) (cp_1 (in_c 0 rfl) (in_c 160 rfl) rfl) ?_
  have hI22 := inv_cpy (q := 21) (q2 := 7) (n0 := 160) (n1 := 160) (sp := (Int32.ofInt 0).toNatClampNeg) (dp := (Int32.ofInt 0).toNatClampNeg) (n := (Int32.ofInt 160).toNatClampNeg) hI21 rfl rfl (cp_2 (in_c 0 rfl) (in_c 160 rfl) rfl) rfl rfl rfl
  refine g_aload_n 117 (gd rfl) rfl rfl ?_
  refine g_getA (q2 := 8) 120 (gd rfl) rfl rfl rfl rfl rfl ?_
  refine g_iconst 0 121 (gd rfl) rfl rfl ?_
  refine g_aload_n 122 (gd rfl) rfl rfl ?_
  refine g_getA (q2 := 22) 125 (gd rfl) rfl rfl rfl rfl rfl ?_
  refine g_iconst 0 126 (gd rfl) rfl rfl ?_
  refine g_sipush 160 129 (gd rfl) rfl rfl ?_
  refine g_copyI (n0 := 160) (n1 := 160) 132 (gd rfl) rfl rfl rfl rfl (Nat.le_of_ble_eq_true rfl) (cp_0 (in_c 0 rfl) rfl) (cp_0 (in_c 0 rfl) rfl) (cp_0 (in_c 160 rfl) rfl) (cp_1 (in_c 0 rfl) (in_c 160 rfl) rfl) (cp_1 (in_c 0 rfl) (in_c 160 rfl) rfl) ?_
  have hI23 := inv_cpy (q := 22) (q2 := 8) (n0 := 160) (n1 := 160) (sp := (Int32.ofInt 0).toNatClampNeg) (dp := (Int32.ofInt 0).toNatClampNeg) (n := (Int32.ofInt 160).toNatClampNeg) hI22 rfl rfl (cp_2 (in_c 0 rfl) (in_c 160 rfl) rfl) rfl rfl rfl
  exact g_return (gd rfl) rfl (hP _ _ ⟨(sA (sA (sA (sA (sA (sA (sF (sF (sF (sF (sF s 16 0 z1) 16 1 z5) 16 2 z9) 16 3 z13) 16 4 (Int32.ofInt (-1))) 17 (va_cpy ((sF (sF (sF (sF (sF s 16 0 z1) 16 1 z5) 16 2 z9) 16 3 z13) 16 4 (Int32.ofInt (-1))).1 3) ((sF (sF (sF (sF (sF s 16 0 z1) 16 1 z5) 16 2 z9) 16 3 z13) 16 4 (Int32.ofInt (-1))).1 17) (Int32.ofInt 0).toNatClampNeg (Int32.ofInt 0).toNatClampNeg (Int32.ofInt 32).toNatClampNeg)) 18 (va_cpy ((sA (sF (sF (sF (sF (sF s 16 0 z1) 16 1 z5) 16 2 z9) 16 3 z13) 16 4 (Int32.ofInt (-1))) 17 (va_cpy ((sF (sF (sF (sF (sF s 16 0 z1) 16 1 z5) 16 2 z9) 16 3 z13) 16 4 (Int32.ofInt (-1))).1 3) ((sF (sF (sF (sF (sF s 16 0 z1) 16 1 z5) 16 2 z9) 16 3 z13) 16 4 (Int32.ofInt (-1))).1 17) (Int32.ofInt 0).toNatClampNeg (Int32.ofInt 0).toNatClampNeg (Int32.ofInt 32).toNatClampNeg)).1 4) ((sA (sF (sF (sF (sF (sF s 16 0 z1) 16 1 z5) 16 2 z9) 16 3 z13) 16 4 (Int32.ofInt (-1))) 17 (va_cpy ((sF (sF (sF (sF (sF s 16 0 z1) 16 1 z5) 16 2 z9) 16 3 z13) 16 4 (Int32.ofInt (-1))).1 3) ((sF (sF (sF (sF (sF s 16 0 z1) 16 1 z5) 16 2 z9) 16 3 z13) 16 4 (Int32.ofInt (-1))).1 17) (Int32.ofInt 0).toNatClampNeg (Int32.ofInt 0).toNatClampNeg (Int32.ofInt 32).toNatClampNeg)).1 18) (Int32.ofInt 0).toNatClampNeg (Int32.ofInt 0).toNatClampNeg (Int32.ofInt 160).toNatClampNeg)) 19 (va_cpy ((sA (sA (sF (sF (sF (sF (sF s 16 0 z1) 16 1 z5) 16 2 z9) 16 3 z13) 16 4 (Int32.ofInt (-1))) 17 (va_cpy ((sF (sF (sF (sF (sF s 16 0 z1) 16 1 z5) 16 2 z9) 16 3 z13) 16 4 (Int32.ofInt (-1))).1 3) ((sF (sF (sF (sF (sF s 16 0 z1) 16 1 z5) 16 2 z9) 16 3 z13) 16 4 (Int32.ofInt (-1))).1 17) (Int32.ofInt 0).toNatClampNeg (Int32.ofInt 0).toNatClampNeg (Int32.ofInt 32).toNatClampNeg)) 18 (va_cpy ((sA (sF (sF (sF (sF (sF s 16 0 z1) 16 1 z5) 16 2 z9) 16 3 z13) 16 4 (Int32.ofInt (-1))) 17 (va_cpy ((sF (sF (sF (sF (sF s 16 0 z1) 16 1 z5) 16 2 z9) 16 3 z13) 16 4 (Int32.ofInt (-1))).1 3) ((sF (sF (sF (sF (sF s 16 0 z1) 16 1 z5) 16 2 z9) 16 3 z13) 16 4 (Int32.ofInt (-1))).1 17) (Int32.ofInt 0).toNatClampNeg (Int32.ofInt 0).toNatClampNeg (Int32.ofInt 32).toNatClampNeg)).1 4) ((sA (sF (sF (sF (sF (sF s 16 0 z1) 16 1 z5) 16 2 z9) 16 3 z13) 16 4 (Int32.ofInt (-1))) 17 (va_cpy ((sF (sF (sF (sF (sF s 16 0 z1) 16 1 z5) 16 2 z9) 16 3 z13) 16 4 (Int32.ofInt (-1))).1 3) ((sF (sF (sF (sF (sF s 16 0 z1) 16 1 z5) 16 2 z9) 16 3 z13) 16 4 (Int32.ofInt (-1))).1 17) (Int32.ofInt 0).toNatClampNeg (Int32.ofInt 0).toNatClampNeg (Int32.ofInt 32).toNatClampNeg)).1 18) (Int32.ofInt 0).toNatClampNeg (Int32.ofInt 0).toNatClampNeg (Int32.ofInt 160).toNatClampNeg)).1 5) ((sA (sA (sF (sF (sF (sF (sF s 16 0 z1) 16 1 z5) 16 2 z9) 16 3 z13) 16 4 (Int32.ofInt (-1))) 17 (va_cpy ((sF (sF (sF (sF (sF s 16 0 z1) 16 1 z5) 16 2 z9) 16 3 z13) 16 4 (Int32.ofInt (-1))).1 3) ((sF (sF (sF (sF (sF s 16 0 z1) 16 1 z5) 16 2 z9) 16 3 z13) 16 4 (Int32.ofInt (-1))).1 17) (Int32.ofInt 0).toNatClampNeg (Int32.ofInt 0).toNatClampNeg (Int32.ofInt 32).toNatClampNeg)) 18 (va_cpy ((sA (sF (sF (sF (sF (sF s 16 0 z1) 16 1 z5) 16 2 z9) 16 3 z13) 16 4 (Int32.ofInt (-1))) 17 (va_cpy ((sF (sF (sF (sF (sF s 16 0 z1) 16 1 z5) 16 2 z9) 16 3 z13) 16 4 (Int32.ofInt (-1))).1 3) ((sF (sF (sF (sF (sF s 16 0 z1) 16 1 z5) 16 2 z9) 16 3 z13) 16 4 (Int32.ofInt (-1))).1 17) (Int32.ofInt 0).toNatClampNeg (Int32.ofInt 0).toNatClampNeg (Int32.ofInt 32).toNatClampNeg)).1 4) ((sA (sF (sF (sF (sF (sF s 16 0 z1) 16 1 z5) 16 2 z9) 16 3 z13) 16 4 (Int32.ofInt (-1))) 17 (va_cpy ((sF (sF (sF (sF (sF s 16 0 z1) 16 1 z5) 16 2 z9) 16 3 z13) 16 4 (Int32.ofInt (-1))).1 3) ((sF (sF (sF (sF (sF s 16 0 z1) 16 1 z5) 16 2 z9) 16 3 z13) 16 4 (Int32.ofInt (-1))).1 17) (Int32.ofInt 0).toNatClampNeg (Int32.ofInt 0).toNatClampNeg (Int32.ofInt 32).toNatClampNeg)).1 18) (Int32.ofInt 0).toNatClampNeg (Int32.ofInt 0).toNatClampNeg (Int32.ofInt 160).toNatClampNeg)).1 19) (Int32.ofInt 0).toNatClampNeg (Int32.ofInt 0).toNatClampNeg (Int32.ofInt 160).toNatClampNeg)) 20 (va_cpy ((sA (sA (sA (sF (sF (sF (sF (sF s 16 0 z1) 16 1 z5) 16 2 z9) 16 3 z13) 16 4 (Int32.ofInt (-1))) 17 (va_cpy ((sF (sF (sF (sF (sF s 16 0 z1) 16 1 z5) 16 2 z9) 16 3 z13) 16 4 (Int32.ofInt (-1))).1 3) ((sF (sF (sF (sF (sF s 16 0 z1) 16 1 z5) 16 2 z9) 16 3 z13) 16 4 (Int32.ofInt (-1))).1 17) (Int32.ofInt 0).toNatClampNeg (Int32.ofInt 0).toNatClampNeg (Int32.ofInt 32).toNatClampNeg)) 18 (va_cpy ((sA (sF (sF (sF (sF (sF s 16 0 z1) 16 1 z5) 16 2 z9) 16 3 z13) 16 4 (Int32.ofInt (-1))) 17 (va_cpy ((sF (sF (sF (sF (sF s 16 0 z1) 16 1 z5) 16 2 z9) 16 3 z13) 16 4 (Int32.ofInt (-1))).1 3) ((sF (sF (sF (sF (sF s 16 0 z1) 16 1 z5) 16 2 z9) 16 3 z13) 16 4 (Int32.ofInt (-1))).1 17) (Int32.ofInt 0).toNatClampNeg (Int32.ofInt 0).toNatClampNeg (Int32.ofInt 32).toNatClampNeg)).1 4) ((sA (sF (sF (sF (sF (sF s 16 0 z1) 16 1 z5) 16 2 z9) 16 3 z13) 16 4 (Int32.ofInt (-1))) 17 (va_cpy ((sF (sF (sF (sF (sF s 16 0 z1) 16 1 z5) 16 2 z9) 16 3 z13) 16 4 (Int32.ofInt (-1))).1 3) ((sF (sF (sF (sF (sF s 16 0 z1) 16 1 z5) 16 2 z9) 16 3 z13) 16 4 (Int32.ofInt (-1))).1 17) (Int32.ofInt 0).toNatClampNeg (Int32.ofInt 0).toNatClampNeg (Int32.ofInt 32).toNatClampNeg)).1 18) (Int32.ofInt 0).toNatClampNeg (Int32.ofInt 0).toNatClampNeg (Int32.ofInt 160).toNatClampNeg)) 19 (va_cpy ((sA (sA (sF (sF (sF (sF (sF s 16 0 z1) 16 1 z5) 16 2 z9) 16 3 z13) 16 4 (Int32.ofInt (-1))) 17 (va_cpy ((sF (sF (sF (sF (sF s 16 0 z1) 16 1 z5) 16 2 z9) 16 3 z13) 16 4 (Int32.ofInt (-1))).1 3) ((sF (sF (sF (sF (sF s 16 0 z1) 16 1 z5) 16 2 z9) 16 3 z13) 16 4 (Int32.ofInt (-1))).1 17) (Int32.ofInt 0).toNatClampNeg (Int32.ofInt 0).toNatClampNeg (Int32.ofInt 32).toNatClampNeg)) 18 (va_cpy ((sA (sF (sF (sF (sF (sF s 16 0 z1) 16 1 z5) 16 2 z9) 16 3 z13) 16 4 (Int32.ofInt (-1))) 17 (va_cpy ((sF (sF (sF (sF (sF s 16 0 z1) 16 1 z5) 16 2 z9) 16 3 z13) 16 4 (Int32.ofInt (-1))).1 3) ((sF (sF (sF (sF (sF s 16 0 z1) 16 1 z5) 16 2 z9) 16 3 z13) 16 4 (Int32.ofInt (-1))).1 17) (Int32.ofInt 0).toNatClampNeg (Int32.ofInt 0).toNatClampNeg (Int32.ofInt 32).toNatClampNeg)).1 4) ((sA (sF (sF (sF (sF (sF s 16 0 z1) 16 1 z5) 16 2 z9) 16 3 z13) 16 4 (Int32.ofInt (-1))) 17 (va_cpy ((sF (sF (sF (sF (sF s 16 0 z1) 16 1 z5) 16 2 z9) 16 3 z13) 16 4 (Int32.ofInt (-1))).1 3) ((sF (sF (sF (sF (sF s 16 0 z1) 16 1 z5) 16 2 z9) 16 3 z13) 16 4 (Int32.ofInt (-1))).1 17) (Int32.ofInt 0).toNatClampNeg (Int32.ofInt 0).toNatClampNeg (Int32.ofInt 32).toNatClampNeg)).1 18) (Int32.ofInt 0).toNatClampNeg (Int32.ofInt 0).toNatClampNeg (Int32.ofInt 160).toNatClampNeg)).1 5) ((sA (sA (sF (sF (sF (sF (sF s 16 0 z1) 16 1 z5) 16 2 z9) 16 3 z13) 16 4 (Int32.ofInt (-1))) 17 (va_cpy ((sF (sF (sF (sF (sF s 16 0 z1) 16 1 z5) 16 2 z9) 16 3 z13) 16 4 (Int32.ofInt (-1))).1 3) ((sF (sF (sF (sF (sF s 16 0 z1) 16 1 z5) 16 2 z9) 16 3 z13) 16 4 (Int32.ofInt (-1))).1 17) (Int32.ofInt 0).toNatClampNeg (Int32.ofInt 0).toNatClampNeg (Int32.ofInt 32).toNatClampNeg)) 18 (va_cpy ((sA (sF (sF (sF (sF (sF s 16 0 z1) 16 1 z5) 16 2 z9) 16 3 z13) 16 4 (Int32.ofInt (-1))) 17 (va_cpy ((sF (sF (sF (sF (sF s 16 0 z1) 16 1 z5) 16 2 z9) 16 3 z13) 16 4 (Int32.ofInt (-1))).1 3) ((sF (sF (sF (sF (sF s 16 0 z1) 16 1 z5) 16 2 z9) 16 3 z13) 16 4 (Int32.ofInt (-1))).1 17) (Int32.ofInt 0).toNatClampNeg (Int32.ofInt 0).toNatClampNeg (Int32.ofInt 32).toNatClampNeg)).1 4) ((sA (sF (sF (sF (sF (sF s 16 0 z1) 16 1 z5) 16 2 z9) 16 3 z13) 16 4 (Int32.ofInt (-1))) 17 (va_cpy ((sF (sF (sF (sF (sF s 16 0 z1) 16 1 z5) 16 2 z9) 16 3 z13) 16 4 (Int32.ofInt (-1))).1 3) ((sF (sF (sF (sF (sF s 16 0 z1) 16 1 z5) 16 2 z9) 16 3 z13) 16 4 (Int32.ofInt (-1))).1 17) (Int32.ofInt 0).toNatClampNeg (Int32.ofInt 0).toNatClampNeg (Int32.ofInt 32).toNatClampNeg)).1 18) (Int32.ofInt 0).toNatClampNeg (Int32.ofInt 0).toNatClampNeg (Int32.ofInt 160).toNatClampNeg)).1 19) (Int32.ofInt 0).toNatClampNeg (Int32.ofInt 0).toNatClampNeg (Int32.ofInt 160).toNatClampNeg)).1 6) ((sA (sA (sA (sF (sF (sF (sF (sF s 16 0 z1) 16 1 z5) 16 2 z9) 16 3 z13) 16 4 (Int32.ofInt (-1))) 17 (va_cpy ((sF (sF (sF (sF (sF s 16 0 z1) 16 1 z5) 16 2 z9) 16 3 z13) 16 4 (Int32.ofInt (-1))).1 3) ((sF (sF (sF (sF (sF s 16 0 z1) 16 1 z5) 16 2 z9) 16 3 z13) 16 4 (Int32.ofInt (-1))).1 17) (Int32.ofInt 0).toNatClampNeg (Int32.ofInt 0).toNatClampNeg (Int32.ofInt 32).toNatClampNeg)) 18 (va_cpy ((sA (sF (sF (sF (sF (sF s 16 0 z1) 16 1 z5) 16 2 z9) 16 3 z13) 16 4 (Int32.ofInt (-1))) 17 (va_cpy ((sF (sF (sF (sF (sF s 16 0 z1) 16 1 z5) 16 2 z9) 16 3 z13) 16 4 (Int32.ofInt (-1))).1 3) ((sF (sF (sF (sF (sF s 16 0 z1) 16 1 z5) 16 2 z9) 16 3 z13) 16 4 (Int32.ofInt (-1))).1 17) (Int32.ofInt 0).toNatClampNeg (Int32.ofInt 0).toNatClampNeg (Int32.ofInt 32).toNatClampNeg)).1 4) ((sA (sF (sF (sF (sF (sF s 16 0 z1) 16 1 z5) 16 2 z9) 16 3 z13) 16 4 (Int32.ofInt (-1))) 17 (va_cpy ((sF (sF (sF (sF (sF s 16 0 z1) 16 1 z5) 16 2 z9) 16 3 z13) 16 4 (Int32.ofInt (-1))).1 3) ((sF (sF (sF (sF (sF s 16 0 z1) 16 1 z5) 16 2 z9) 16 3 z13) 16 4 (Int32.ofInt (-1))).1 17) (Int32.ofInt 0).toNatClampNeg (Int32.ofInt 0).toNatClampNeg (Int32.ofInt 32).toNatClampNeg)).1 18) (Int32.ofInt 0).toNatClampNeg (Int32.ofInt 0).toNatClampNeg (Int32.ofInt 160).toNatClampNeg)) 19 (va_cpy ((sA (sA (sF (sF (sF (sF (sF s 16 0 z1) 16 1 z5) 16 2 z9) 16 3 z13) 16 4 (Int32.ofInt (-1))) 17 (va_cpy ((sF (sF (sF (sF (sF s 16 0 z1) 16 1 z5) 16 2 z9) 16 3 z13) 16 4 (Int32.ofInt (-1))).1 3) ((sF (sF (sF (sF (sF s 16 0 z1) 16 1 z5) 16 2 z9) 16 3 z13) 16 4 (Int32.ofInt (-1))).1 17) (Int32.ofInt 0).toNatClampNeg (Int32.ofInt 0).toNatClampNeg (Int32.ofInt 32).toNatClampNeg)) 18 (va_cpy ((sA (sF (sF (sF (sF (sF s 16 0 z1) 16 1 z5) 16 2 z9) 16 3 z13) 16 4 (Int32.ofInt (-1))) 17 (va_cpy ((sF (sF (sF (sF (sF s 16 0 z1) 16 1 z5) 16 2 z9) 16 3 z13) 16 4 (Int32.ofInt (-1))).1 3) ((sF (sF (sF (sF (sF s 16 0 z1) 16 1 z5) 16 2 z9) 16 3 z13) 16 4 (Int32.ofInt (-1))).1 17) (Int32.ofInt 0).toNatClampNeg (Int32.ofInt 0).toNatClampNeg (Int32.ofInt 32).toNatClampNeg)).1 4) ((sA (sF (sF (sF (sF (sF s 16 0 z1) 16 1 z5) 16 2 z9) 16 3 z13) 16 4 (Int32.ofInt (-1))) 17 (va_cpy ((sF (sF (sF (sF (sF s 16 0 z1) 16 1 z5) 16 2 z9) 16 3 z13) 16 4 (Int32.ofInt (-1))).1 3) ((sF (sF (sF (sF (sF s 16 0 z1) 16 1 z5) 16 2 z9) 16 3 z13) 16 4 (Int32.ofInt (-1))).1 17) (Int32.ofInt 0).toNatClampNeg (Int32.ofInt 0).toNatClampNeg (Int32.ofInt 32).toNatClampNeg)).1 18) (Int32.ofInt 0).toNatClampNeg (Int32.ofInt 0).toNatClampNeg (Int32.ofInt 160).toNatClampNeg)).1 5) ((sA (sA (sF (sF (sF (sF (sF s 16 0 z1) 16 1 z5) 16 2 z9) 16 3 z13) 16 4 (Int32.ofInt (-1))) 17 (va_cpy ((sF (sF (sF (sF (sF s 16 0 z1) 16 1 z5) 16 2 z9) 16 3 z13) 16 4 (Int32.ofInt (-1))).1 3) ((sF (sF (sF (sF (sF s 16 0 z1) 16 1 z5) 16 2 z9) 16 3 z13) 16 4 (Int32.ofInt (-1))).1 17) (Int32.ofInt 0).toNatClampNeg (Int32.ofInt 0).toNatClampNeg (Int32.ofInt 32).toNatClampNeg)) 18 (va_cpy ((sA (sF (sF (sF (sF (sF s 16 0 z1) 16 1 z5) 16 2 z9) 16 3 z13) 16 4 (Int32.ofInt (-1))) 17 (va_cpy ((sF (sF (sF (sF (sF s 16 0 z1) 16 1 z5) 16 2 z9) 16 3 z13) 16 4 (Int32.ofInt (-1))).1 3) ((sF (sF (sF (sF (sF s 16 0 z1) 16 1 z5) 16 2 z9) 16 3 z13) 16 4 (Int32.ofInt (-1))).1 17) (Int32.ofInt 0).toNatClampNeg (Int32.ofInt 0).toNatClampNeg (Int32.ofInt 32).toNatClampNeg)).1 4) ((sA (sF (sF (sF (sF (sF s 16 0 z1) 16 1 z5) 16 2 z9) 16 3 z13) 16 4 (Int32.ofInt (-1))) 17 (va_cpy ((sF (sF (sF (sF (sF s 16 0 z1) 16 1 z5) 16 2 z9) 16 3 z13) 16 4 (Int32.ofInt (-1))).1 3) ((sF (sF (sF (sF (sF s 16 0 z1) 16 1 z5) 16 2 z9) 16 3 z13) 16 4 (Int32.ofInt (-1))).1 17) (Int32.ofInt 0).toNatClampNeg (Int32.ofInt 0).toNatClampNeg (Int32.ofInt 32).toNatClampNeg)).1 18) (Int32.ofInt 0).toNatClampNeg (Int32.ofInt 0).toNatClampNeg (Int32.ofInt 160).toNatClampNeg)).1 19) (Int32.ofInt 0).toNatClampNeg (Int32.ofInt 0).toNatClampNeg (Int32.ofInt 160).toNatClampNeg)).1 20) (Int32.ofInt 0).toNatClampNeg (Int32.ofInt 0).toNatClampNeg (Int32.ofInt 160).toNatClampNeg)) 21 (va_cpy ((sA (sA (sA (sA (sF (sF (sF (sF (sF s 16 0 z1) 16 1 z5) 16 2 z9) 16 3 z13) 16 4 (Int32.ofInt (-1))) 17 (va_cpy ((sF (sF (sF (sF (sF s 16 0 z1) 16 1 z5) 16 2 z9) 16 3 z13) 16 4 (Int32.ofInt (-1))).1 3) ((sF (sF (sF (sF (sF s 16 0 z1) 16 1 z5) 16 2 z9) 16 3 z13) 16 4 (Int32.ofInt (-1))).1 17) (Int32.ofInt 0).toNatClampNeg (Int32.ofInt 0).toNatClampNeg (Int32.ofInt 32).toNatClampNeg)) 18 (va_cpy ((sA (sF (sF (sF (sF (sF s 16 0 z1) 16 1 z5) 16 2 z9) 16 3 z13) 16 4 (Int32.ofInt (-1))) 17 (va_cpy ((sF (sF (sF (sF (sF s 16 0 z1) 16 1 z5) 16 2 z9) 16 3 z13) 16 4 (Int32.ofInt (-1))).1 3) ((sF (sF (sF (sF (sF s 16 0 z1) 16 1 z5) 16 2 z9) 16 3 z13) 16 4 (Int32.ofInt (-1))).1 17) (Int32.ofInt 0).toNatClampNeg (Int32.ofInt 0).toNatClampNeg (Int32.ofInt 32).toNatClampNeg)).1 4) ((sA (sF (sF (sF (sF (sF s 16 0 z1) 16 1 z5) 16 2 z9) 16 3 z13) 16 4 (Int32.ofInt (-1))) 17 (va_cpy ((sF (sF (sF (sF (sF s 16 0 z1) 16 1 z5) 16 2 z9) 16 3 z13) 16 4 (Int32.ofInt (-1))).1 3) ((sF (sF (sF (sF (sF s 16 0 z1) 16 1 z5) 16 2 z9) 16 3 z13) 16 4 (Int32.ofInt (-1))).1 17) (Int32.ofInt 0).toNatClampNeg (Int32.ofInt 0).toNatClampNeg (Int32.ofInt 32).toNatClampNeg)).1 18) (Int32.ofInt 0).toNatClampNeg (Int32.ofInt 0).toNatClampNeg (Int32.ofInt 160).toNatClampNeg)) 19 (va_cpy ((sA (sA (sF (sF (sF (sF (sF s 16 0 z1) 16 1 z5) 16 2 z9) 16 3 z13) 16 4 (Int32.ofInt (-1))) 17 (va_cpy ((sF (sF (sF (sF (sF s 16 0 z1) 16 1 z5) 16 2 z9) 16 3 z13) 16 4 (Int32.ofInt (-1))).1 3) ((sF (sF (sF (sF (sF s 16 0 z1) 16 1 z5) 16 2 z9) 16 3 z13) 16 4 (Int32.ofInt (-1))).1 17) (Int32.ofInt 0).toNatClampNeg (Int32.ofInt 0).toNatClampNeg (Int32.ofInt 32).toNatClampNeg)) 18 (va_cpy ((sA (sF (sF (sF (sF (sF s 16 0 z1) 16 1 z5) 16 2 z9) 16 3 z13) 16 4 (Int32.ofInt (-1))) 17 (va_cpy ((sF (sF (sF (sF (sF s 16 0 z1) 16 1 z5) 16 2 z9) 16 3 z13) 16 4 (Int32.ofInt (-1))).1 3) ((sF (sF (sF (sF (sF s 16 0 z1) 16 1 z5) 16 2 z9) 16 3 z13) 16 4 (Int32.ofInt (-1))).1 17) (Int32.ofInt 0).toNatClampNeg (Int32.ofInt 0).toNatClampNeg (Int32.ofInt 32).toNatClampNeg)).1 4) ((sA (sF (sF (sF (sF (sF s 16 0 z1) 16 1 z5) 16 2 z9) 16 3 z13) 16 4 (Int32.ofInt (-1))) 17 (va_cpy ((sF (sF (sF (sF (sF s 16 0 z1) 16 1 z5) 16 2 z9) 16 3 z13) 16 4 (Int32.ofInt (-1))).1 3) ((sF (sF (sF (sF (sF s 16 0 z1) 16 1 z5) 16 2 z9) 16 3 z13) 16 4 (Int32.ofInt (-1))).1 17) (Int32.ofInt 0).toNatClampNeg (Int32.ofInt 0).toNatClampNeg (Int32.ofInt 32).toNatClampNeg)).1 18) (Int32.ofInt 0).toNatClampNeg (Int32.ofInt 0).toNatClampNeg (Int32.ofInt 160).toNatClampNeg)).1 5) ((sA (sA (sF (sF (sF (sF (sF s 16 0 z1) 16 1 z5) 16 2 z9) 16 3 z13) 16 4 (Int32.ofInt (-1))) 17 (va_cpy ((sF (sF (sF (sF (sF s 16 0 z1) 16 1 z5) 16 2 z9) 16 3 z13) 16 4 (Int32.ofInt (-1))).1 3) ((sF (sF (sF (sF (sF s 16 0 z1) 16 1 z5) 16 2 z9) 16 3 z13) 16 4 (Int32.ofInt (-1))).1 17) (Int32.ofInt 0).toNatClampNeg (Int32.ofInt 0).toNatClampNeg (Int32.ofInt 32).toNatClampNeg)) 18 (va_cpy ((sA (sF (sF (sF (sF (sF s 16 0 z1) 16 1 z5) 16 2 z9) 16 3 z13) 16 4 (Int32.ofInt (-1))) 17 (va_cpy ((sF (sF (sF (sF (sF s 16 0 z1) 16 1 z5) 16 2 z9) 16 3 z13) 16 4 (Int32.ofInt (-1))).1 3) ((sF (sF (sF (sF (sF s 16 0 z1) 16 1 z5) 16 2 z9) 16 3 z13) 16 4 (Int32.ofInt (-1))).1 17) (Int32.ofInt 0).toNatClampNeg (Int32.ofInt 0).toNatClampNeg (Int32.ofInt 32).toNatClampNeg)).1 4) ((sA (sF (sF (sF (sF (sF s 16 0 z1) 16 1 z5) 16 2 z9) 16 3 z13) 16 4 (Int32.ofInt (-1))) 17 (va_cpy ((sF (sF (sF (sF (sF s 16 0 z1) 16 1 z5) 16 2 z9) 16 3 z13) 16 4 (Int32.ofInt (-1))).1 3) ((sF (sF (sF (sF (sF s 16 0 z1) 16 1 z5) 16 2 z9) 16 3 z13) 16 4 (Int32.ofInt (-1))).1 17) (Int32.ofInt 0).toNatClampNeg (Int32.ofInt 0).toNatClampNeg (Int32.ofInt 32).toNatClampNeg)).1 18) (Int32.ofInt 0).toNatClampNeg (Int32.ofInt 0).toNatClampNeg (Int32.ofInt 160).toNatClampNeg)).1 19) (Int32.ofInt 0).toNatClampNeg (Int32.ofInt 0).toNatClampNeg (Int32.ofInt 160).toNatClampNeg)) 20 (va_cpy ((sA (sA (sA (sF (sF (sF (sF (sF s 16 0 z1) 16 1 z5) 16 2 z9) 16 3 z13) 16 4 (Int32.ofInt (-1))) 17 (va_cpy ((sF (sF (sF (sF (sF s 16 0 z1) 16 1 z5) 16 2 z9) 16 3 z13) 16 4 (Int32.ofInt (-1))).1 3) ((sF (sF (sF (sF (sF s 16 0 z1) 16 1 z5) 16 2 z9) 16 3 z13) 16 4 (Int32.ofInt (-1))).1 17) (Int32.ofInt 0).toNatClampNeg (Int32.ofInt 0).toNatClampNeg (Int32.ofInt 32).toNatClampNeg)) 18 (va_cpy ((sA (sF (sF (sF (sF (sF s 16 0 z1) 16 1 z5) 16 2 z9) 16 3 z13) 16 4 (Int32.ofInt (-1))) 17 (va_cpy ((sF (sF (sF (sF (sF s 16 0 z1) 16 1 z5) 16 2 z9) 16 3 z13) 16 4 (Int32.ofInt (-1))).1 3) ((sF (sF (sF (sF (sF s 16 0 z1) 16 1 z5) 16 2 z9) 16 3 z13) 16 4 (Int32.ofInt (-1))).1 17) (Int32.ofInt 0).toNatClampNeg (Int32.ofInt 0).toNatClampNeg (Int32.ofInt 32).toNatClampNeg)).1 4) ((sA (sF (sF (sF (sF (sF s 16 0 z1) 16 1 z5) 16 2 z9) 16 3 z13) 16 4 (Int32.ofInt (-1))) 17 (va_cpy ((sF (sF (sF (sF (sF s 16 0 z1) 16 1 z5) 16 2 z9) 16 3 z13) 16 4 (Int32.ofInt (-1))).1 3) ((sF (sF (sF (sF (sF s 16 0 z1) 16 1 z5) 16 2 z9) 16 3 z13) 16 4 (Int32.ofInt (-1))).1 17) (Int32.ofInt 0).toNatClampNeg (Int32.ofInt 0).toNatClampNeg (Int32.ofInt 32).toNatClampNeg)).1 18) (Int32.ofInt 0).toNatClampNeg (Int32.ofInt 0).toNatClampNeg (Int32.ofInt 160).toNatClampNeg)) 19 (va_cpy ((sA (sA (sF (sF (sF (sF (sF s 16 0 z1) 16 1 z5) 16 2 z9) 16 3 z13) 16 4 (Int32.ofInt (-1))) 17 (va_cpy ((sF (sF (sF (sF (sF s 16 0 z1) 16 1 z5) 16 2 z9) 16 3 z13) 16 4 (Int32.ofInt (-1))).1 3) ((sF (sF (sF (sF (sF s 16 0 z1) 16 1 z5) 16 2 z9) 16 3 z13) 16 4 (Int32.ofInt (-1))).1 17) (Int32.ofInt 0).toNatClampNeg (Int32.ofInt 0).toNatClampNeg (Int32.ofInt 32).toNatClampNeg)) 18 (va_cpy ((sA (sF (sF (sF (sF (sF s 16 0 z1) 16 1 z5) 16 2 z9) 16 3 z13) 16 4 (Int32.ofInt (-1))) 17 (va_cpy ((sF (sF (sF (sF (sF s 16 0 z1) 16 1 z5) 16 2 z9) 16 3 z13) 16 4 (Int32.ofInt (-1))).1 3) ((sF (sF (sF (sF (sF s 16 0 z1) 16 1 z5) 16 2 z9) 16 3 z13) 16 4 (Int32.ofInt (-1))).1 17) (Int32.ofInt 0).toNatClampNeg (Int32.ofInt 0).toNatClampNeg (Int32.ofInt 32).toNatClampNeg)).1 4) ((sA (sF (sF (sF (sF (sF s 16 0 z1) 16 1 z5) 16 2 z9) 16 3 z13) 16 4 (Int32.ofInt (-1))) 17 (va_cpy ((sF (sF (sF (sF (sF s 16 0 z1) 16 1 z5) 16 2 z9) 16 3 z13) 16 4 (Int32.ofInt (-1))).1 3) ((sF (sF (sF (sF (sF s 16 0 z1) 16 1 z5) 16 2 z9) 16 3 z13) 16 4 (Int32.ofInt (-1))).1 17) (Int32.ofInt 0).toNatClampNeg (Int32.ofInt 0).toNatClampNeg (Int32.ofInt 32).toNatClampNeg)).1 18) (Int32.ofInt 0).toNatClampNeg (Int32.ofInt 0).toNatClampNeg (Int32.ofInt 160).toNatClampNeg)).1 5) ((sA (sA (sF (sF (sF (sF (sF s 16 0 z1) 16 1 z5) 16 2 z9) 16 3 z13) 16 4 (Int32.ofInt (-1))) 17 (va_cpy ((sF (sF (sF (sF (sF s 16 0 z1) 16 1 z5) 16 2 z9) 16 3 z13) 16 4 (Int32.ofInt (-1))).1 3) ((sF (sF (sF (sF (sF s 16 0 z1) 16 1 z5) 16 2 z9) 16 3 z13) 16 4 (Int32.ofInt (-1))).1 17) (Int32.ofInt 0).toNatClampNeg (Int32.ofInt 0).toNatClampNeg (Int32.ofInt 32).toNatClampNeg)) 18 (va_cpy ((sA (sF (sF (sF (sF (sF s 16 0 z1) 16 1 z5) 16 2 z9) 16 3 z13) 16 4 (Int32.ofInt (-1))) 17 (va_cpy ((sF (sF (sF (sF (sF s 16 0 z1) 16 1 z5) 16 2 z9) 16 3 z13) 16 4 (Int32.ofInt (-1))).1 3) ((sF (sF (sF (sF (sF s 16 0 z1) 16 1 z5) 16 2 z9) 16 3 z13) 16 4 (Int32.ofInt (-1))).1 17) (Int32.ofInt 0).toNatClampNeg (Int32.ofInt 0).toNatClampNeg (Int32.ofInt 32).toNatClampNeg)).1 4) ((sA (sF (sF (sF (sF (sF s 16 0 z1) 16 1 z5) 16 2 z9) 16 3 z13) 16 4 (Int32.ofInt (-1))) 17 (va_cpy ((sF (sF (sF (sF (sF s 16 0 z1) 16 1 z5) 16 2 z9) 16 3 z13) 16 4 (Int32.ofInt (-1))).1 3) ((sF (sF (sF (sF (sF s 16 0 z1) 16 1 z5) 16 2 z9) 16 3 z13) 16 4 (Int32.ofInt (-1))).1 17) (Int32.ofInt 0).toNatClampNeg (Int32.ofInt 0).toNatClampNeg (Int32.ofInt 32).toNatClampNeg)).1 18) (Int32.ofInt 0).toNatClampNeg (Int32.ofInt 0).toNatClampNeg (Int32.ofInt 160).toNatClampNeg)).1 19) (Int32.ofInt 0).toNatClampNeg (Int32.ofInt 0).toNatClampNeg (Int32.ofInt 160).toNatClampNeg)).1 6) ((sA (sA (sA (sF (sF (sF (sF (sF s 16 0 z1) 16 1 z5) 16 2 z9) 16 3 z13) 16 4 (Int32.ofInt (-1))) 17 (va_cpy ((sF (sF (sF (sF (sF s 16 0 z1) 16 1 z5) 16 2 z9) 16 3 z13) 16 4 (Int32.ofInt (-1))).1 3) ((sF (sF (sF (sF (sF s 16 0 z1) 16 1 z5) 16 2 z9) 16 3 z13) 16 4 (Int32.ofInt (-1))).1 17) (Int32.ofInt 0).toNatClampNeg (Int32.ofInt 0).toNatClampNeg (Int32.ofInt 32).toNatClampNeg)) 18 (va_cpy ((sA (sF (sF (sF (sF (sF s 16 0 z1) 16 1 z5) 16 2 z9) 16 3 z13) 16 4 (Int32.ofInt (-1))) 17 (va_cpy ((sF (sF (sF (sF (sF s 16 0 z1) 16 1 z5) 16 2 z9) 16 3 z13) 16 4 (Int32.ofInt (-1))).1 3) ((sF (sF (sF (sF (sF s 16 0 z1) 16 1 z5) 16 2 z9) 16 3 z13) 16 4 (Int32.ofInt (-1))).1 17) (Int32.ofInt 0).toNatClampNeg (Int32.ofInt 0).toNatClampNeg (Int32.ofInt 32).toNatClampNeg)).1 4) ((sA (sF (sF (sF (sF (sF s 16 0 z1) 16 1 z5) 16 2 z9) 16 3 z13) 16 4 (Int32.ofInt (-1))) 17 (va_cpy ((sF (sF (sF (sF (sF s 16 0 z1) 16 1 z5) 16 2 z9) 16 3 z13) 16 4 (Int32.ofInt (-1))).1 3) ((sF (sF (sF (sF (sF s 16 0 z1) 16 1 z5) 16 2 z9) 16 3 z13) 16 4 (Int32.ofInt (-1))).1 17) (Int32.ofInt 0).toNatClampNeg (Int32.ofInt 0).toNatClampNeg (Int32.ofInt 32).toNatClampNeg)).1 18) (Int32.ofInt 0).toNatClampNeg (Int32.ofInt 0).toNatClampNeg (Int32.ofInt 160).toNatClampNeg)) 19 (va_cpy ((sA (sA (sF (sF (sF (sF (sF s 16 0 z1) 16 1 z5) 16 2 z9) 16 3 z13) 16 4 (Int32.ofInt (-1))) 17 (va_cpy ((sF (sF (sF (sF (sF s 16 0 z1) 16 1 z5) 16 2 z9) 16 3 z13) 16 4 (Int32.ofInt (-1))).1 3) ((sF (sF (sF (sF (sF s 16 0 z1) 16 1 z5) 16 2 z9) 16 3 z13) 16 4 (Int32.ofInt (-1))).1 17) (Int32.ofInt 0).toNatClampNeg (Int32.ofInt 0).toNatClampNeg (Int32.ofInt 32).toNatClampNeg)) 18 (va_cpy ((sA (sF (sF (sF (sF (sF s 16 0 z1) 16 1 z5) 16 2 z9) 16 3 z13) 16 4 (Int32.ofInt (-1))) 17 (va_cpy ((sF (sF (sF (sF (sF s 16 0 z1) 16 1 z5) 16 2 z9) 16 3 z13) 16 4 (Int32.ofInt (-1))).1 3) ((sF (sF (sF (sF (sF s 16 0 z1) 16 1 z5) 16 2 z9) 16 3 z13) 16 4 (Int32.ofInt (-1))).1 17) (Int32.ofInt 0).toNatClampNeg (Int32.ofInt 0).toNatClampNeg (Int32.ofInt 32).toNatClampNeg)).1 4) ((sA (sF (sF (sF (sF (sF s 16 0 z1) 16 1 z5) 16 2 z9) 16 3 z13) 16 4 (Int32.ofInt (-1))) 17 (va_cpy ((sF (sF (sF (sF (sF s 16 0 z1) 16 1 z5) 16 2 z9) 16 3 z13) 16 4 (Int32.ofInt (-1))).1 3) ((sF (sF (sF (sF (sF s 16 0 z1) 16 1 z5) 16 2 z9) 16 3 z13) 16 4 (Int32.ofInt (-1))).1 17) (Int32.ofInt 0).toNatClampNeg (Int32.ofInt 0).toNatClampNeg (Int32.ofInt 32).toNatClampNeg)).1 18) (Int32.ofInt 0).toNatClampNeg (Int32.ofInt 0).toNatClampNeg (Int32.ofInt 160).toNatClampNeg)).1 5) ((sA (sA (sF (sF (sF (sF (sF s 16 0 z1) 16 1 z5) 16 2 z9) 16 3 z13) 16 4 (Int32.ofInt (-1))) 17 (va_cpy ((sF (sF (sF (sF (sF s 16 0 z1) 16 1 z5) 16 2 z9) 16 3 z13) 16 4 (Int32.ofInt (-1))).1 3) ((sF (sF (sF (sF (sF s 16 0 z1) 16 1 z5) 16 2 z9) 16 3 z13) 16 4 (Int32.ofInt (-1))).1 17) (Int32.ofInt 0).toNatClampNeg (Int32.ofInt 0).toNatClampNeg (Int32.ofInt 32).toNatClampNeg)) 18 (va_cpy ((sA (sF (sF (sF (sF (sF s 16 0 z1) 16 1 z5) 16 2 z9) 16 3 z13) 16 4 (Int32.ofInt (-1))) 17 (va_cpy ((sF (sF (sF (sF (sF s 16 0 z1) 16 1 z5) 16 2 z9) 16 3 z13) 16 4 (Int32.ofInt (-1))).1 3) ((sF (sF (sF (sF (sF s 16 0 z1) 16 1 z5) 16 2 z9) 16 3 z13) 16 4 (Int32.ofInt (-1))).1 17) (Int32.ofInt 0).toNatClampNeg (Int32.ofInt 0).toNatClampNeg (Int32.ofInt 32).toNatClampNeg)).1 4) ((sA (sF (sF (sF (sF (sF s 16 0 z1) 16 1 z5) 16 2 z9) 16 3 z13) 16 4 (Int32.ofInt (-1))) 17 (va_cpy ((sF (sF (sF (sF (sF s 16 0 z1) 16 1 z5) 16 2 z9) 16 3 z13) 16 4 (Int32.ofInt (-1))).1 3) ((sF (sF (sF (sF (sF s 16 0 z1) 16 1 z5) 16 2 z9) 16 3 z13) 16 4 (Int32.ofInt (-1))).1 17) (Int32.ofInt 0).toNatClampNeg (Int32.ofInt 0).toNatClampNeg (Int32.ofInt 32).toNatClampNeg)).1 18) (Int32.ofInt 0).toNatClampNeg (Int32.ofInt 0).toNatClampNeg (Int32.ofInt 160).toNatClampNeg)).1 19) (Int32.ofInt 0).toNatClampNeg (Int32.ofInt 0).toNatClampNeg (Int32.ofInt 160).toNatClampNeg)).1 20) (Int32.ofInt 0).toNatClampNeg (Int32.ofInt 0).toNatClampNeg (Int32.ofInt 160).toNatClampNeg)).1 7) ((sA (sA (sA (sA (sF (sF (sF (sF (sF s 16 0 z1) 16 1 z5) 16 2 z9) 16 3 z13) 16 4 (Int32.ofInt (-1))) 17 (va_cpy ((sF (sF (sF (sF (sF s 16 0 z1) 16 1 z5) 16 2 z9) 16 3 z13) 16 4 (Int32.ofInt (-1))).1 3) ((sF (sF (sF (sF (sF s 16 0 z1) 16 1 z5) 16 2 z9) 16 3 z13) 16 4 (Int32.ofInt (-1))).1 17) (Int32.ofInt 0).toNatClampNeg (Int32.ofInt 0).toNatClampNeg (Int32.ofInt 32).toNatClampNeg)) 18 (va_cpy ((sA (sF (sF (sF (sF (sF s 16 0 z1) 16 1 z5) 16 2 z9) 16 3 z13) 16 4 (Int32.ofInt (-1))) 17 (va_cpy ((sF (sF (sF (sF (sF s 16 0 z1) 16 1 z5) 16 2 z9) 16 3 z13) 16 4 (Int32.ofInt (-1))).1 3) ((sF (sF (sF (sF (sF s 16 0 z1) 16 1 z5) 16 2 z9) 16 3 z13) 16 4 (Int32.ofInt (-1))).1 17) (Int32.ofInt 0).toNatClampNeg (Int32.ofInt 0).toNatClampNeg (Int32.ofInt 32).toNatClampNeg)).1 4) ((sA (sF (sF (sF (sF (sF s 16 0 z1) 16 1 z5) 16 2 z9) 16 3 z13) 16 4 (Int32.ofInt (-1))) 17 (va_cpy ((sF (sF (sF (sF (sF s 16 0 z1) 16 1 z5) 16 2 z9) 16 3 z13) 16 4 (Int32.ofInt (-1))).1 3) ((sF (sF (sF (sF (sF s 16 0 z1) 16 1 z5) 16 2 z9) 16 3 z13) 16 4 (Int32.ofInt (-1))).1 17) (Int32.ofInt 0).toNatClampNeg (Int32.ofInt 0).toNatClampNeg (Int32.ofInt 32).toNatClampNeg)).1 18) (Int32.ofInt 0).toNatClampNeg (Int32.ofInt 0).toNatClampNeg (Int32.ofInt 160).toNatClampNeg)) 19 (va_cpy ((sA (sA (sF (sF (sF (sF (sF s 16 0 z1) 16 1 z5) 16 2 z9) 16 3 z13) 16 4 (Int32.ofInt (-1))) 17 (va_cpy ((sF (sF (sF (sF (sF s 16 0 z1) 16 1 z5) 16 2 z9) 16 3 z13) 16 4 (Int32.ofInt (-1))).1 3) ((sF (sF (sF (sF (sF s 16 0 z1) 16 1 z5) 16 2 z9) 16 3 z13) 16 4 (Int32.ofInt (-1))).1 17) (Int32.ofInt 0).toNatClampNeg (Int32.ofInt 0).toNatClampNeg (Int32.ofInt 32).toNatClampNeg)) 18 (va_cpy ((sA (sF (sF (sF (sF (sF s 16 0 z1) 16 1 z5) 16 2 z9) 16 3 z13) 16 4 (Int32.ofInt (-1))) 17 (va_cpy ((sF (sF (sF (sF (sF s 16 0 z1) 16 1 z5) 16 2 z9) 16 3 z13) 16 4 (Int32.ofInt (-1))).1 3) ((sF (sF (sF (sF (sF s 16 0 z1) 16 1 z5) 16 2 z9) 16 3 z13) 16 4 (Int32.ofInt (-1))).1 17) (Int32.ofInt 0).toNatClampNeg (Int32.ofInt 0).toNatClampNeg (Int32.ofInt 32).toNatClampNeg)).1 4) ((sA (sF (sF (sF (sF (sF s 16 0 z1) 16 1 z5) 16 2 z9) 16 3 z13) 16 4 (Int32.ofInt (-1))) 17 (va_cpy ((sF (sF (sF (sF (sF s 16 0 z1) 16 1 z5) 16 2 z9) 16 3 z13) 16 4 (Int32.ofInt (-1))).1 3) ((sF (sF (sF (sF (sF s 16 0 z1) 16 1 z5) 16 2 z9) 16 3 z13) 16 4 (Int32.ofInt (-1))).1 17) (Int32.ofInt 0).toNatClampNeg (Int32.ofInt 0).toNatClampNeg (Int32.ofInt 32).toNatClampNeg)).1 18) (Int32.ofInt 0).toNatClampNeg (Int32.ofInt 0).toNatClampNeg (Int32.ofInt 160).toNatClampNeg)).1 5) ((sA (sA (sF (sF (sF (sF (sF s 16 0 z1) 16 1 z5) 16 2 z9) 16 3 z13) 16 4 (Int32.ofInt (-1))) 17 (va_cpy ((sF (sF (sF (sF (sF s 16 0 z1) 16 1 z5) 16 2 z9) 16 3 z13) 16 4 (Int32.ofInt (-1))).1 3) ((sF (sF (sF (sF (sF s 16 0 z1) 16 1 z5) 16 2 z9) 16 3 z13) 16 4 (Int32.ofInt (-1))).1 17) (Int32.ofInt 0).toNatClampNeg (Int32.ofInt 0).toNatClampNeg (Int32.ofInt 32).toNatClampNeg)) 18 (va_cpy ((sA (sF (sF (sF (sF (sF s 16 0 z1) 16 1 z5) 16 2 z9) 16 3 z13) 16 4 (Int32.ofInt (-1))) 17 (va_cpy ((sF (sF (sF (sF (sF s 16 0 z1) 16 1 z5) 16 2 z9) 16 3 z13) 16 4 (Int32.ofInt (-1))).1 3) ((sF (sF (sF (sF (sF s 16 0 z1) 16 1 z5) 16 2 z9) 16 3 z13) 16 4 (Int32.ofInt (-1))).1 17) (Int32.ofInt 0).toNatClampNeg (Int32.ofInt 0).toNatClampNeg (Int32.ofInt 32).toNatClampNeg)).1 4) ((sA (sF (sF (sF (sF (sF s 16 0 z1) 16 1 z5) 16 2 z9) 16 3 z13) 16 4 (Int32.ofInt (-1))) 17 (va_cpy ((sF (sF (sF (sF (sF s 16 0 z1) 16 1 z5) 16 2 z9) 16 3 z13) 16 4 (Int32.ofInt (-1))).1 3) ((sF (sF (sF (sF (sF s 16 0 z1) 16 1 z5) 16 2 z9) 16 3 z13) 16 4 (Int32.ofInt (-1))).1 17) (Int32.ofInt 0).toNatClampNeg (Int32.ofInt 0).toNatClampNeg (Int32.ofInt 32).toNatClampNeg)).1 18) (Int32.ofInt 0).toNatClampNeg (Int32.ofInt 0).toNatClampNeg (Int32.ofInt 160).toNatClampNeg)).1 19) (Int32.ofInt 0).toNatClampNeg (Int32.ofInt 0).toNatClampNeg (Int32.ofInt 160).toNatClampNeg)) 20 (va_cpy ((sA (sA (sA (sF (sF (sF (sF (sF s 16 0 z1) 16 1 z5) 16 2 z9) 16 3 z13) 16 4 (Int32.ofInt (-1))) 17 (va_cpy ((sF (sF (sF (sF (sF s 16 0 z1) 16 1 z5) 16 2 z9) 16 3 z13) 16 4 (Int32.ofInt (-1))).1 3) ((sF (sF (sF (sF (sF s 16 0 z1) 16 1 z5) 16 2 z9) 16 3 z13) 16 4 (Int32.ofInt (-1))).1 17) (Int32.ofInt 0).toNatClampNeg (Int32.ofInt 0).toNatClampNeg (Int32.ofInt 32).toNatClampNeg)) 18 (va_cpy ((sA (sF (sF (sF (sF (sF s 16 0 z1) 16 1 z5) 16 2 z9) 16 3 z13) 16 4 (Int32.ofInt (-1))) 17 (va_cpy ((sF (sF (sF (sF (sF s 16 0 z1) 16 1 z5) 16 2 z9) 16 3 z13) 16 4 (Int32.ofInt (-1))).1 3) ((sF (sF (sF (sF (sF s 16 0 z1) 16 1 z5) 16 2 z9) 16 3 z13) 16 4 (Int32.ofInt (-1))).1 17) (Int32.ofInt 0).toNatClampNeg (Int32.ofInt 0).toNatClampNeg (Int32.ofInt 32).toNatClampNeg)).1 4) ((sA (sF (sF (sF (sF (sF s 16 0 z1) 16 1 z5) 16 2 z9) 16 3 z13) 16 4 (Int32.ofInt (-1))) 17 (va_cpy ((sF (sF (sF (sF (sF s 16 0 z1) 16 1 z5) 16 2 z9) 16 3 z13) 16 4 (Int32.ofInt (-1))).1 3) ((sF (sF (sF (sF (sF s 16 0 z1) 16 1 z5) 16 2 z9) 16 3 z13) 16 4 (Int32.ofInt (-1))).1 17) (Int32.ofInt 0).toNatClampNeg (Int32.ofInt 0).toNatClampNeg (Int32.ofInt 32).toNatClampNeg)).1 18) (Int32.ofInt 0).toNatClampNeg (Int32.ofInt 0).toNatClampNeg (Int32.ofInt 160).toNatClampNeg)) 19 (va_cpy ((sA (sA (sF (sF (sF (sF (sF s 16 0 z1) 16 1 z5) 16 2 z9) 16 3 z13) 16 4 (Int32.ofInt (-1))) 17 (va_cpy ((sF (sF (sF (sF (sF s 16 0 z1) 16 1 z5) 16 2 z9) 16 3 z13) 16 4 (Int32.ofInt (-1))).1 3) ((sF (sF (sF (sF (sF s 16 0 z1) 16 1 z5) 16 2 z9) 16 3 z13) 16 4 (Int32.ofInt (-1))).1 17) (Int32.ofInt 0).toNatClampNeg (Int32.ofInt 0).toNatClampNeg (Int32.ofInt 32).toNatClampNeg)) 18 (va_cpy ((sA (sF (sF (sF (sF (sF s 16 0 z1) 16 1 z5) 16 2 z9) 16 3 z13) 16 4 (Int32.ofInt (-1))) 17 (va_cpy ((sF (sF (sF (sF (sF s 16 0 z1) 16 1 z5) 16 2 z9) 16 3 z13) 16 4 (Int32.ofInt (-1))).1 3) ((sF (sF (sF (sF (sF s 16 0 z1) 16 1 z5) 16 2 z9) 16 3 z13) 16 4 (Int32.ofInt (-1))).1 17) (Int32.ofInt 0).toNatClampNeg (Int32.ofInt 0).toNatClampNeg (Int32.ofInt 32).toNatClampNeg)).1 4) ((sA (sF (sF (sF (sF (sF s 16 0 z1) 16 1 z5) 16 2 z9) 16 3 z13) 16 4 (Int32.ofInt (-1))) 17 (va_cpy ((sF (sF (sF (sF (sF s 16 0 z1) 16 1 z5) 16 2 z9) 16 3 z13) 16 4 (Int32.ofInt (-1))).1 3) ((sF (sF (sF (sF (sF s 16 0 z1) 16 1 z5) 16 2 z9) 16 3 z13) 16 4 (Int32.ofInt (-1))).1 17) (Int32.ofInt 0).toNatClampNeg (Int32.ofInt 0).toNatClampNeg (Int32.ofInt 32).toNatClampNeg)).1 18) (Int32.ofInt 0).toNatClampNeg (Int32.ofInt 0).toNatClampNeg (Int32.ofInt 160).toNatClampNeg)).1 5) ((sA (sA (sF (sF (sF (sF (sF s 16 0 z1) 16 1 z5) 16 2 z9) 16 3 z13) 16 4 (Int32.ofInt (-1))) 17 (va_cpy ((sF (sF (sF (sF (sF s 16 0 z1) 16 1 z5) 16 2 z9) 16 3 z13) 16 4 (Int32.ofInt (-1))).1 3) ((sF (sF (sF (sF (sF s 16 0 z1) 16 1 z5) 16 2 z9) 16 3 z13) 16 4 (Int32.ofInt (-1))).1 17) (Int32.ofInt 0).toNatClampNeg (Int32.ofInt 0).toNatClampNeg (Int32.ofInt 32).toNatClampNeg)) 18 (va_cpy ((sA (sF (sF (sF (sF (sF s 16 0 z1) 16 1 z5) 16 2 z9) 16 3 z13) 16 4 (Int32.ofInt (-1))) 17 (va_cpy ((sF (sF (sF (sF (sF s 16 0 z1) 16 1 z5) 16 2 z9) 16 3 z13) 16 4 (Int32.ofInt (-1))).1 3) ((sF (sF (sF (sF (sF s 16 0 z1) 16 1 z5) 16 2 z9) 16 3 z13) 16 4 (Int32.ofInt (-1))).1 17) (Int32.ofInt 0).toNatClampNeg (Int32.ofInt 0).toNatClampNeg (Int32.ofInt 32).toNatClampNeg)).1 4) ((sA (sF (sF (sF (sF (sF s 16 0 z1) 16 1 z5) 16 2 z9) 16 3 z13) 16 4 (Int32.ofInt (-1))) 17 (va_cpy ((sF (sF (sF (sF (sF s 16 0 z1) 16 1 z5) 16 2 z9) 16 3 z13) 16 4 (Int32.ofInt (-1))).1 3) ((sF (sF (sF (sF (sF s 16 0 z1) 16 1 z5) 16 2 z9) 16 3 z13) 16 4 (Int32.ofInt (-1))).1 17) (Int32.ofInt 0).toNatClampNeg (Int32.ofInt 0).toNatClampNeg (Int32.ofInt 32).toNatClampNeg)).1 18) (Int32.ofInt 0).toNatClampNeg (Int32.ofInt 0).toNatClampNeg (Int32.ofInt 160).toNatClampNeg)).1 19) (Int32.ofInt 0).toNatClampNeg (Int32.ofInt 0).toNatClampNeg (Int32.ofInt 160).toNatClampNeg)).1 6) ((sA (sA (sA (sF (sF (sF (sF (sF s 16 0 z1) 16 1 z5) 16 2 z9) 16 3 z13) 16 4 (Int32.ofInt (-1))) 17 (va_cpy ((sF (sF (sF (sF (sF s 16 0 z1) 16 1 z5) 16 2 z9) 16 3 z13) 16 4 (Int32.ofInt (-1))).1 3) ((sF (sF (sF (sF (sF s 16 0 z1) 16 1 z5) 16 2 z9) 16 3 z13) 16 4 (Int32.ofInt (-1))).1 17) (Int32.ofInt 0).toNatClampNeg (Int32.ofInt 0).toNatClampNeg (Int32.ofInt 32).toNatClampNeg)) 18 (va_cpy ((sA (sF (sF (sF (sF (sF s 16 0 z1) 16 1 z5) 16 2 z9) 16 3 z13) 16 4 (Int32.ofInt (-1))) 17 (va_cpy ((sF (sF (sF (sF (sF s 16 0 z1) 16 1 z5) 16 2 z9) 16 3 z13) 16 4 (Int32.ofInt (-1))).1 3) ((sF (sF (sF (sF (sF s 16 0 z1) 16 1 z5) 16 2 z9) 16 3 z13) 16 4 (Int32.ofInt (-1))).1 17) (Int32.ofInt 0).toNatClampNeg (Int32.ofInt 0).toNatClampNeg (Int32.ofInt 32).toNatClampNeg)).1 4) ((sA (sF (sF (sF (sF (sF s 16 0 z1) 16 1 z5) 16 2 z9) 16 3 z13) 16 4 (Int32.ofInt (-1))) 17 (va_cpy ((sF (sF (sF (sF (sF s 16 0 z1) 16 1 z5) 16 2 z9) 16 3 z13) 16 4 (Int32.ofInt (-1))).1 3) ((sF (sF (sF (sF (sF s 16 0 z1) 16 1 z5) 16 2 z9) 16 3 z13) 16 4 (Int32.ofInt (-1))).1 17) (Int32.ofInt 0).toNatClampNeg (Int32.ofInt 0).toNatClampNeg (Int32.ofInt 32).toNatClampNeg)).1 18) (Int32.ofInt 0).toNatClampNeg (Int32.ofInt 0).toNatClampNeg (Int32.ofInt 160).toNatClampNeg)) 19 (va_cpy ((sA (sA (sF (sF (sF (sF (sF s 16 0 z1) 16 1 z5) 16 2 z9) 16 3 z13) 16 4 (Int32.ofInt (-1))) 17 (va_cpy ((sF (sF (sF (sF (sF s 16 0 z1) 16 1 z5) 16 2 z9) 16 3 z13) 16 4 (Int32.ofInt (-1))).1 3) ((sF (sF (sF (sF (sF s 16 0 z1) 16 1 z5) 16 2 z9) 16 3 z13) 16 4 (Int32.ofInt (-1))).1 17) (Int32.ofInt 0).toNatClampNeg (Int32.ofInt 0).toNatClampNeg (Int32.ofInt 32).toNatClampNeg)) 18 (va_cpy ((sA (sF (sF (sF (sF (sF s 16 0 z1) 16 1 z5) 16 2 z9) 16 3 z13) 16 4 (Int32.ofInt (-1))) 17 (va_cpy ((sF (sF (sF (sF (sF s 16 0 z1) 16 1 z5) 16 2 z9) 16 3 z13) 16 4 (Int32.ofInt (-1))).1 3) ((sF (sF (sF (sF (sF s 16 0 z1) 16 1 z5) 16 2 z9) 16 3 z13) 16 4 (Int32.ofInt (-1))).1 17) (Int32.ofInt 0).toNatClampNeg (Int32.ofInt 0).toNatClampNeg (Int32.ofInt 32).toNatClampNeg)).1 4) ((sA (sF (sF (sF (sF (sF s 16 0 z1) 16 1 z5) 16 2 z9) 16 3 z13) 16 4 (Int32.ofInt (-1))) 17 (va_cpy ((sF (sF (sF (sF (sF s 16 0 z1) 16 1 z5) 16 2 z9) 16 3 z13) 16 4 (Int32.ofInt (-1))).1 3) ((sF (sF (sF (sF (sF s 16 0 z1) 16 1 z5) 16 2 z9) 16 3 z13) 16 4 (Int32.ofInt (-1))).1 17) (Int32.ofInt 0).toNatClampNeg (Int32.ofInt 0).toNatClampNeg (Int32.ofInt 32).toNatClampNeg)).1 18) (Int32.ofInt 0).toNatClampNeg (Int32.ofInt 0).toNatClampNeg (Int32.ofInt 160).toNatClampNeg)).1 5) ((sA (sA (sF (sF (sF (sF (sF s 16 0 z1) 16 1 z5) 16 2 z9) 16 3 z13) 16 4 (Int32.ofInt (-1))) 17 (va_cpy ((sF (sF (sF (sF (sF s 16 0 z1) 16 1 z5) 16 2 z9) 16 3 z13) 16 4 (Int32.ofInt (-1))).1 3) ((sF (sF (sF (sF (sF s 16 0 z1) 16 1 z5) 16 2 z9) 16 3 z13) 16 4 (Int32.ofInt (-1))).1 17) (Int32.ofInt 0).toNatClampNeg (Int32.ofInt 0).toNatClampNeg (Int32.ofInt 32).toNatClampNeg)) 18 (va_cpy ((sA (sF (sF (sF (sF (sF s 16 0 z1) 16 1 z5) 16 2 z9) 16 3 z13) 16 4 (Int32.ofInt (-1))) 17 (va_cpy ((sF (sF (sF (sF (sF s 16 0 z1) 16 1 z5) 16 2 z9) 16 3 z13) 16 4 (Int32.ofInt (-1))).1 3) ((sF (sF (sF (sF (sF s 16 0 z1) 16 1 z5) 16 2 z9) 16 3 z13) 16 4 (Int32.ofInt (-1))).1 17) (Int32.ofInt 0).toNatClampNeg (Int32.ofInt 0).toNatClampNeg (Int32.ofInt 32).toNatClampNeg)).1 4) ((sA (sF (sF (sF (sF (sF s 16 0 z1) 16 1 z5) 16 2 z9) 16 3 z13) 16 4 (Int32.ofInt (-1))) 17 (va_cpy ((sF (sF (sF (sF (sF s 16 0 z1) 16 1 z5) 16 2 z9) 16 3 z13) 16 4 (Int32.ofInt (-1))).1 3) ((sF (sF (sF (sF (sF s 16 0 z1) 16 1 z5) 16 2 z9) 16 3 z13) 16 4 (Int32.ofInt (-1))).1 17) (Int32.ofInt 0).toNatClampNeg (Int32.ofInt 0).toNatClampNeg (Int32.ofInt 32).toNatClampNeg)).1 18) (Int32.ofInt 0).toNatClampNeg (Int32.ofInt 0).toNatClampNeg (Int32.ofInt 160).toNatClampNeg)).1 19) (Int32.ofInt 0).toNatClampNeg (Int32.ofInt 0).toNatClampNeg (Int32.ofInt 160).toNatClampNeg)).1 20) (Int32.ofInt 0).toNatClampNeg (Int32.ofInt 0).toNatClampNeg (Int32.ofInt 160).toNatClampNeg)).1 21) (Int32.ofInt 0).toNatClampNeg (Int32.ofInt 0).toNatClampNeg (Int32.ofInt 160).toNatClampNeg)) 22 (va_cpy ((sA (sA (sA (sA (sA (sF (sF (sF (sF (sF s 16 0 z1) 16 1 z5) 16 2 z9) 16 3 z13) 16 4 (Int32.ofInt (-1))) 17 (va_cpy ((sF (sF (sF (sF (sF s 16 0 z1) 16 1 z5) 16 2 z9) 16 3 z13) 16 4 (Int32.ofInt (-1))).1 3) ((sF (sF (sF (sF (sF s 16 0 z1) 16 1 z5) 16 2 z9) 16 3 z13) 16 4 (Int32.ofInt (-1))).1 17) (Int32.ofInt 0).toNatClampNeg (Int32.ofInt 0).toNatClampNeg (Int32.ofInt 32).toNatClampNeg)) 18 (va_cpy ((sA (sF (sF (sF (sF (sF s 16 0 z1) 16 1 z5) 16 2 z9) 16 3 z13) 16 4 (Int32.ofInt (-1))) 17 (va_cpy ((sF (sF (sF (sF (sF s 16 0 z1) 16 1 z5) 16 2 z9) 16 3 z13) 16 4 (Int32.ofInt (-1))).1 3) ((sF (sF (sF (sF (sF s 16 0 z1) 16 1 z5) 16 2 z9) 16 3 z13) 16 4 (Int32.ofInt (-1))).1 17) (Int32.ofInt 0).toNatClampNeg (Int32.ofInt 0).toNatClampNeg (Int32.ofInt 32).toNatClampNeg)).1 4) ((sA (sF (sF (sF (sF (sF s 16 0 z1) 16 1 z5) 16 2 z9) 16 3 z13) 16 4 (Int32.ofInt (-1))) 17 (va_cpy ((sF (sF (sF (sF (sF s 16 0 z1) 16 1 z5) 16 2 z9) 16 3 z13) 16 4 (Int32.ofInt (-1))).1 3) ((sF (sF (sF (sF (sF s 16 0 z1) 16 1 z5) 16 2 z9) 16 3 z13) 16 4 (Int32.ofInt (-1))).1 17) (Int32.ofInt 0).toNatClampNeg (Int32.ofInt 0).toNatClampNeg (Int32.ofInt 32).toNatClampNeg)).1 18) (Int32.ofInt 0).toNatClampNeg (Int32.ofInt 0).toNatClampNeg (Int32.ofInt 160).toNatClampNeg)) 19 (va_cpy ((sA (sA (sF (sF (sF (sF (sF s 16 0 z1) 16 1 z5) 16 2 z9) 16 3 z13) 16 4 (Int32.ofInt (-1))) 17 (va_cpy ((sF (sF (sF (sF (sF s 16 0 z1) 16 1 z5) 16 2 z9) 16 3 z13) 16 4 (Int32.ofInt (-1))).1 3) ((sF (sF (sF (sF (sF s 16 0 z1) 16 1 z5) 16 2 z9) 16 3 z13) 16 4 (Int32.ofInt (-1))).1 17) (Int32.ofInt 0).toNatClampNeg (Int32.ofInt 0).toNatClampNeg (Int32.ofInt 32).toNatClampNeg)) 18 (va_cpy ((sA (sF (sF (sF (sF (sF s 16 0 z1) 16 1 z5) 16 2 z9) 16 3 z13) 16 4 (Int32.ofInt (-1))) 17 (va_cpy ((sF (sF (sF (sF (sF s 16 0 z1) 16 1 z5) 16 2 z9) 16 3 z13) 16 4 (Int32.ofInt (-1))).1 3) ((sF (sF (sF (sF (sF s 16 0 z1) 16 1 z5) 16 2 z9) 16 3 z13) 16 4 (Int32.ofInt (-1))).1 17) (Int32.ofInt 0).toNatClampNeg (Int32.ofInt 0).toNatClampNeg (Int32.ofInt 32).toNatClampNeg)).1 4) ((sA (sF (sF (sF (sF (sF s 16 0 z1) 16 1 z5) 16 2 z9) 16 3 z13) 16 4 (Int32.ofInt (-1))) 17 (va_cpy ((sF (sF (sF (sF (sF s 16 0 z1) 16 1 z5) 16 2 z9) 16 3 z13) 16 4 (Int32.ofInt (-1))).1 3) ((sF (sF (sF (sF (sF s 16 0 z1) 16 1 z5) 16 2 z9) 16 3 z13) 16 4 (Int32.ofInt (-1))).1 17) (Int32.ofInt 0).toNatClampNeg (Int32.ofInt 0).toNatClampNeg (Int32.ofInt 32).toNatClampNeg)).1 18) (Int32.ofInt 0).toNatClampNeg (Int32.ofInt 0).toNatClampNeg (Int32.ofInt 160).toNatClampNeg)).1 5) ((sA (sA (sF (sF (sF (sF (sF s 16 0 z1) 16 1 z5) 16 2 z9) 16 3 z13) 16 4 (Int32.ofInt (-1))) 17 (va_cpy ((sF (sF (sF (sF (sF s 16 0 z1) 16 1 z5) 16 2 z9) 16 3 z13) 16 4 (Int32.ofInt (-1))).1 3) ((sF (sF (sF (sF (sF s 16 0 z1) 16 1 z5) 16 2 z9) 16 3 z13) 16 4 (Int32.ofInt (-1))).1 17) (Int32.ofInt 0).toNatClampNeg (Int32.ofInt 0).toNatClampNeg (Int32.ofInt 32).toNatClampNeg)) 18 (va_cpy ((sA (sF (sF (sF (sF (sF s 16 0 z1) 16 1 z5) 16 2 z9) 16 3 z13) 16 4 (Int32.ofInt (-1))) 17 (va_cpy ((sF (sF (sF (sF (sF s 16 0 z1) 16 1 z5) 16 2 z9) 16 3 z13) 16 4 (Int32.ofInt (-1))).1 3) ((sF (sF (sF (sF (sF s 16 0 z1) 16 1 z5) 16 2 z9) 16 3 z13) 16 4 (Int32.ofInt (-1))).1 17) (Int32.ofInt 0).toNatClampNeg (Int32.ofInt 0).toNatClampNeg (Int32.ofInt 32).toNatClampNeg)).1 4) ((sA (sF (sF (sF (sF (sF s 16 0 z1) 16 1 z5) 16 2 z9) 16 3 z13) 16 4 (Int32.ofInt (-1))) 17 (va_cpy ((sF (sF (sF (sF (sF s 16 0 z1) 16 1 z5) 16 2 z9) 16 3 z13) 16 4 (Int32.ofInt (-1))).1 3) ((sF (sF (sF (sF (sF s 16 0 z1) 16 1 z5) 16 2 z9) 16 3 z13) 16 4 (Int32.ofInt (-1))).1 17) (Int32.ofInt 0).toNatClampNeg (Int32.ofInt 0).toNatClampNeg (Int32.ofInt 32).toNatClampNeg)).1 18) (Int32.ofInt 0).toNatClampNeg (Int32.ofInt 0).toNatClampNeg (Int32.ofInt 160).toNatClampNeg)).1 19) (Int32.ofInt 0).toNatClampNeg (Int32.ofInt 0).toNatClampNeg (Int32.ofInt 160).toNatClampNeg)) 20 (va_cpy ((sA (sA (sA (sF (sF (sF (sF (sF s 16 0 z1) 16 1 z5) 16 2 z9) 16 3 z13) 16 4 (Int32.ofInt (-1))) 17 (va_cpy ((sF (sF (sF (sF (sF s 16 0 z1) 16 1 z5) 16 2 z9) 16 3 z13) 16 4 (Int32.ofInt (-1))).1 3) ((sF (sF (sF (sF (sF s 16 0 z1) 16 1 z5) 16 2 z9) 16 3 z13) 16 4 (Int32.ofInt (-1))).1 17) (Int32.ofInt 0).toNatClampNeg (Int32.ofInt 0).toNatClampNeg (Int32.ofInt 32).toNatClampNeg)) 18 (va_cpy ((sA (sF (sF (sF (sF (sF s 16 0 z1) 16 1 z5) 16 2 z9) 16 3 z13) 16 4 (Int32.ofInt (-1))) 17 (va_cpy ((sF (sF (sF (sF (sF s 16 0 z1) 16 1 z5) 16 2 z9) 16 3 z13) 16 4 (Int32.ofInt (-1))).1 3) ((sF (sF (sF (sF (sF s 16 0 z1) 16 1 z5) 16 2 z9) 16 3 z13) 16 4 (Int32.ofInt (-1))).1 17) (Int32.ofInt 0).toNatClampNeg (Int32.ofInt 0).toNatClampNeg (Int32.ofInt 32).toNatClampNeg)).1 4) ((sA (sF (sF (sF (sF (sF s 16 0 z1) 16 1 z5) 16 2 z9) 16 3 z13) 16 4 (Int32.ofInt (-1))) 17 (va_cpy ((sF (sF (sF (sF (sF s 16 0 z1) 16 1 z5) 16 2 z9) 16 3 z13) 16 4 (Int32.ofInt (-1))).1 3) ((sF (sF (sF (sF (sF s 16 0 z1) 16 1 z5) 16 2 z9) 16 3 z13) 16 4 (Int32.ofInt (-1))).1 17) (Int32.ofInt 0).toNatClampNeg (Int32.ofInt 0).toNatClampNeg (Int32.ofInt 32).toNatClampNeg)).1 18) (Int32.ofInt 0).toNatClampNeg (Int32.ofInt 0).toNatClampNeg (Int32.ofInt 160).toNatClampNeg)) 19 (va_cpy ((sA (sA (sF (sF (sF (sF (sF s 16 0 z1) 16 1 z5) 16 2 z9) 16 3 z13) 16 4 (Int32.ofInt (-1))) 17 (va_cpy ((sF (sF (sF (sF (sF s 16 0 z1) 16 1 z5) 16 2 z9) 16 3 z13) 16 4 (Int32.ofInt (-1))).1 3) ((sF (sF (sF (sF (sF s 16 0 z1) 16 1 z5) 16 2 z9) 16 3 z13) 16 4 (Int32.ofInt (-1))).1 17) (Int32.ofInt 0).toNatClampNeg (Int32.ofInt 0).toNatClampNeg (Int32.ofInt 32).toNatClampNeg)) 18 (va_cpy ((sA (sF (sF (sF (sF (sF s 16 0 z1) 16 1 z5) 16 2 z9) 16 3 z13) 16 4 (Int32.ofInt (-1))) 17 (va_cpy ((sF (sF (sF (sF (sF s 16 0 z1) 16 1 z5) 16 2 z9) 16 3 z13) 16 4 (Int32.ofInt (-1))).1 3) ((sF (sF (sF (sF (sF s 16 0 z1) 16 1 z5) 16 2 z9) 16 3 z13) 16 4 (Int32.ofInt (-1))).1 17) (Int32.ofInt 0).toNatClampNeg (Int32.ofInt 0).toNatClampNeg (Int32.ofInt 32).toNatClampNeg)).1 4) ((sA (sF (sF (sF (sF (sF s 16 0 z1) 16 1 z5) 16 2 z9) 16 3 z13) 16 4 (Int32.ofInt (-1))) 17 (va_cpy ((sF (sF (sF (sF (sF s 16 0 z1) 16 1 z5) 16 2 z9) 16 3 z13) 16 4 (Int32.ofInt (-1))).1 3) ((sF (sF (sF (sF (sF s 16 0 z1) 16 1 z5) 16 2 z9) 16 3 z13) 16 4 (Int32.ofInt (-1))).1 17) (Int32.ofInt 0).toNatClampNeg (Int32.ofInt 0).toNatClampNeg (Int32.ofInt 32).toNatClampNeg)).1 18) (Int32.ofInt 0).toNatClampNeg (Int32.ofInt 0).toNatClampNeg (Int32.ofInt 160).toNatClampNeg)).1 5) ((sA (sA (sF (sF (sF (sF (sF s 16 0 z1) 16 1 z5) 16 2 z9) 16 3 z13) 16 4 (Int32.ofInt (-1))) 17 (va_cpy ((sF (sF (sF (sF (sF s 16 0 z1) 16 1 z5) 16 2 z9) 16 3 z13) 16 4 (Int32.ofInt (-1))).1 3) ((sF (sF (sF (sF (sF s 16 0 z1) 16 1 z5) 16 2 z9) 16 3 z13) 16 4 (Int32.ofInt (-1))).1 17) (Int32.ofInt 0).toNatClampNeg (Int32.ofInt 0).toNatClampNeg (Int32.ofInt 32).toNatClampNeg)) 18 (va_cpy ((sA (sF (sF (sF (sF (sF s 16 0 z1) 16 1 z5) 16 2 z9) 16 3 z13) 16 4 (Int32.ofInt (-1))) 17 (va_cpy ((sF (sF (sF (sF (sF s 16 0 z1) 16 1 z5) 16 2 z9) 16 3 z13) 16 4 (Int32.ofInt (-1))).1 3) ((sF (sF (sF (sF (sF s 16 0 z1) 16 1 z5) 16 2 z9) 16 3 z13) 16 4 (Int32.ofInt (-1))).1 17) (Int32.ofInt 0).toNatClampNeg (Int32.ofInt 0).toNatClampNeg (Int32.ofInt 32).toNatClampNeg)).1 4) ((sA (sF (sF (sF (sF (sF s 16 0 z1) 16 1 z5) 16 2 z9) 16 3 z13) 16 4 (Int32.ofInt (-1))) 17 (va_cpy ((sF (sF (sF (sF (sF s 16 0 z1) 16 1 z5) 16 2 z9) 16 3 z13) 16 4 (Int32.ofInt (-1))).1 3) ((sF (sF (sF (sF (sF s 16 0 z1) 16 1 z5) 16 2 z9) 16 3 z13) 16 4 (Int32.ofInt (-1))).1 17) (Int32.ofInt 0).toNatClampNeg (Int32.ofInt 0).toNatClampNeg (Int32.ofInt 32).toNatClampNeg)).1 18) (Int32.ofInt 0).toNatClampNeg (Int32.ofInt 0).toNatClampNeg (Int32.ofInt 160).toNatClampNeg)).1 19) (Int32.ofInt 0).toNatClampNeg (Int32.ofInt 0).toNatClampNeg (Int32.ofInt 160).toNatClampNeg)).1 6) ((sA (sA (sA (sF (sF (sF (sF (sF s 16 0 z1) 16 1 z5) 16 2 z9) 16 3 z13) 16 4 (Int32.ofInt (-1))) 17 (va_cpy ((sF (sF (sF (sF (sF s 16 0 z1) 16 1 z5) 16 2 z9) 16 3 z13) 16 4 (Int32.ofInt (-1))).1 3) ((sF (sF (sF (sF (sF s 16 0 z1) 16 1 z5) 16 2 z9) 16 3 z13) 16 4 (Int32.ofInt (-1))).1 17) (Int32.ofInt 0).toNatClampNeg (Int32.ofInt 0).toNatClampNeg (Int32.ofInt 32).toNatClampNeg)) 18 (va_cpy ((sA (sF (sF (sF (sF (sF s 16 0 z1) 16 1 z5) 16 2 z9) 16 3 z13) 16 4 (Int32.ofInt (-1))) 17 (va_cpy ((sF (sF (sF (sF (sF s 16 0 z1) 16 1 z5) 16 2 z9) 16 3 z13) 16 4 (Int32.ofInt (-1))).1 3) ((sF (sF (sF (sF (sF s 16 0 z1) 16 1 z5) 16 2 z9) 16 3 z13) 16 4 (Int32.ofInt (-1))).1 17) (Int32.ofInt 0).toNatClampNeg (Int32.ofInt 0).toNatClampNeg (Int32.ofInt 32).toNatClampNeg)).1 4) ((sA (sF (sF (sF (sF (sF s 16 0 z1) 16 1 z5) 16 2 z9) 16 3 z13) 16 4 (Int32.ofInt (-1))) 17 (va_cpy ((sF (sF (sF (sF (sF s 16 0 z1) 16 1 z5) 16 2 z9) 16 3 z13) 16 4 (Int32.ofInt (-1))).1 3) ((sF (sF (sF (sF (sF s 16 0 z1) 16 1 z5) 16 2 z9) 16 3 z13) 16 4 (Int32.ofInt (-1))).1 17) (Int32.ofInt 0).toNatClampNeg (Int32.ofInt 0).toNatClampNeg (Int32.ofInt 32).toNatClampNeg)).1 18) (Int32.ofInt 0).toNatClampNeg (Int32.ofInt 0).toNatClampNeg (Int32.ofInt 160).toNatClampNeg)) 19 (va_cpy ((sA (sA (sF (sF (sF (sF (sF s 16 0 z1) 16 1 z5) 16 2 z9) 16 3 z13) 16 4 (Int32.ofInt (-1))) 17 (va_cpy ((sF (sF (sF (sF (sF s 16 0 z1) 16 1 z5) 16 2 z9) 16 3 z13) 16 4 (Int32.ofInt (-1))).1 3) ((sF (sF (sF (sF (sF s 16 0 z1) 16 1 z5) 16 2 z9) 16 3 z13) 16 4 (Int32.ofInt (-1))).1 17) (Int32.ofInt 0).toNatClampNeg (Int32.ofInt 0).toNatClampNeg (Int32.ofInt 32).toNatClampNeg)) 18 (va_cpy ((sA (sF (sF (sF (sF (sF s 16 0 z1) 16 1 z5) 16 2 z9) 16 3 z13) 16 4 (Int32.ofInt (-1))) 17 (va_cpy ((sF (sF (sF (sF (sF s 16 0 z1) 16 1 z5) 16 2 z9) 16 3 z13) 16 4 (Int32.ofInt (-1))).1 3) ((sF (sF (sF (sF (sF s 16 0 z1) 16 1 z5) 16 2 z9) 16 3 z13) 16 4 (Int32.ofInt (-1))).1 17) (Int32.ofInt 0).toNatClampNeg (Int32.ofInt 0).toNatClampNeg (Int32.ofInt 32).toNatClampNeg)).1 4) ((sA (sF (sF (sF (sF (sF s 16 0 z1) 16 1 z5) 16 2 z9) 16 3 z13) 16 4 (Int32.ofInt (-1))) 17 (va_cpy ((sF (sF (sF (sF (sF s 16 0 z1) 16 1 z5) 16 2 z9) 16 3 z13) 16 4 (Int32.ofInt (-1))).1 3) ((sF (sF (sF (sF (sF s 16 0 z1) 16 1 z5) 16 2 z9) 16 3 z13) 16 4 (Int32.ofInt (-1))).1 17) (Int32.ofInt 0).toNatClampNeg (Int32.ofInt 0).toNatClampNeg (Int32.ofInt 32).toNatClampNeg)).1 18) (Int32.ofInt 0).toNatClampNeg (Int32.ofInt 0).toNatClampNeg (Int32.ofInt 160).toNatClampNeg)).1 5) ((sA (sA (sF (sF (sF (sF (sF s 16 0 z1) 16 1 z5) 16 2 z9) 16 3 z13) 16 4 (Int32.ofInt (-1))) 17 (va_cpy ((sF (sF (sF (sF (sF s 16 0 z1) 16 1 z5) 16 2 z9) 16 3 z13) 16 4 (Int32.ofInt (-1))).1 3) ((sF (sF (sF (sF (sF s 16 0 z1) 16 1 z5) 16 2 z9) 16 3 z13) 16 4 (Int32.ofInt (-1))).1 17) (Int32.ofInt 0).toNatClampNeg (Int32.ofInt 0).toNatClampNeg (Int32.ofInt 32).toNatClampNeg)) 18 (va_cpy ((sA (sF (sF (sF (sF (sF s 16 0 z1) 16 1 z5) 16 2 z9) 16 3 z13) 16 4 (Int32.ofInt (-1))) 17 (va_cpy ((sF (sF (sF (sF (sF s 16 0 z1) 16 1 z5) 16 2 z9) 16 3 z13) 16 4 (Int32.ofInt (-1))).1 3) ((sF (sF (sF (sF (sF s 16 0 z1) 16 1 z5) 16 2 z9) 16 3 z13) 16 4 (Int32.ofInt (-1))).1 17) (Int32.ofInt 0).toNatClampNeg (Int32.ofInt 0).toNatClampNeg (Int32.ofInt 32).toNatClampNeg)).1 4) ((sA (sF (sF (sF (sF (sF s 16 0 z1) 16 1 z5) 16 2 z9) 16 3 z13) 16 4 (Int32.ofInt (-1))) 17 (va_cpy ((sF (sF (sF (sF (sF s 16 0 z1) 16 1 z5) 16 2 z9) 16 3 z13) 16 4 (Int32.ofInt (-1))).1 3) ((sF (sF (sF (sF (sF s 16 0 z1) 16 1 z5) 16 2 z9) 16 3 z13) 16 4 (Int32.ofInt (-1))).1 17) (Int32.ofInt 0).toNatClampNeg (Int32.ofInt 0).toNatClampNeg (Int32.ofInt 32).toNatClampNeg)).1 18) (Int32.ofInt 0).toNatClampNeg (Int32.ofInt 0).toNatClampNeg (Int32.ofInt 160).toNatClampNeg)).1 19) (Int32.ofInt 0).toNatClampNeg (Int32.ofInt 0).toNatClampNeg (Int32.ofInt 160).toNatClampNeg)).1 20) (Int32.ofInt 0).toNatClampNeg (Int32.ofInt 0).toNatClampNeg (Int32.ofInt 160).toNatClampNeg)) 21 (va_cpy ((sA (sA (sA (sA (sF (sF (sF (sF (sF s 16 0 z1) 16 1 z5) 16 2 z9) 16 3 z13) 16 4 (Int32.ofInt (-1))) 17 (va_cpy ((sF (sF (sF (sF (sF s 16 0 z1) 16 1 z5) 16 2 z9) 16 3 z13) 16 4 (Int32.ofInt (-1))).1 3) ((sF (sF (sF (sF (sF s 16 0 z1) 16 1 z5) 16 2 z9) 16 3 z13) 16 4 (Int32.ofInt (-1))).1 17) (Int32.ofInt 0).toNatClampNeg (Int32.ofInt 0).toNatClampNeg (Int32.ofInt 32).toNatClampNeg)) 18 (va_cpy ((sA (sF (sF (sF (sF (sF s 16 0 z1) 16 1 z5) 16 2 z9) 16 3 z13) 16 4 (Int32.ofInt (-1))) 17 (va_cpy ((sF (sF (sF (sF (sF s 16 0 z1) 16 1 z5) 16 2 z9) 16 3 z13) 16 4 (Int32.ofInt (-1))).1 3) ((sF (sF (sF (sF (sF s 16 0 z1) 16 1 z5) 16 2 z9) 16 3 z13) 16 4 (Int32.ofInt (-1))).1 17) (Int32.ofInt 0).toNatClampNeg (Int32.ofInt 0).toNatClampNeg (Int32.ofInt 32).toNatClampNeg)).1 4) ((sA (sF (sF (sF (sF (sF s 16 0 z1) 16 1 z5) 16 2 z9) 16 3 z13) 16 4 (Int32.ofInt (-1))) 17 (va_cpy ((sF (sF (sF (sF (sF s 16 0 z1) 16 1 z5) 16 2 z9) 16 3 z13) 16 4 (Int32.ofInt (-1))).1 3) ((sF (sF (sF (sF (sF s 16 0 z1) 16 1 z5) 16 2 z9) 16 3 z13) 16 4 (Int32.ofInt (-1))).1 17) (Int32.ofInt 0).toNatClampNeg (Int32.ofInt 0).toNatClampNeg (Int32.ofInt 32).toNatClampNeg)).1 18) (Int32.ofInt 0).toNatClampNeg (Int32.ofInt 0).toNatClampNeg (Int32.ofInt 160).toNatClampNeg)) 19 (va_cpy ((sA (sA (sF (sF (sF (sF (sF s 16 0 z1) 16 1 z5) 16 2 z9) 16 3 z13) 16 4 (Int32.ofInt (-1))) 17 (va_cpy ((sF (sF (sF (sF (sF s 16 0 z1) 16 1 z5) 16 2 z9) 16 3 z13) 16 4 (Int32.ofInt (-1))).1 3) ((sF (sF (sF (sF (sF s 16 0 z1) 16 1 z5) 16 2 z9) 16 3 z13) 16 4 (Int32.ofInt (-1))).1 17) (Int32.ofInt 0).toNatClampNeg (Int32.ofInt 0).toNatClampNeg (Int32.ofInt 32).toNatClampNeg)) 18 (va_cpy ((sA (sF (sF (sF (sF (sF s 16 0 z1) 16 1 z5) 16 2 z9) 16 3 z13) 16 4 (Int32.ofInt (-1))) 17 (va_cpy ((sF (sF (sF (sF (sF s 16 0 z1) 16 1 z5) 16 2 z9) 16 3 z13) 16 4 (Int32.ofInt (-1))).1 3) ((sF (sF (sF (sF (sF s 16 0 z1) 16 1 z5) 16 2 z9) 16 3 z13) 16 4 (Int32.ofInt (-1))).1 17) (Int32.ofInt 0).toNatClampNeg (Int32.ofInt 0).toNatClampNeg (Int32.ofInt 32).toNatClampNeg)).1 4) ((sA (sF (sF (sF (sF (sF s 16 0 z1) 16 1 z5) 16 2 z9) 16 3 z13) 16 4 (Int32.ofInt (-1))) 17 (va_cpy ((sF (sF (sF (sF (sF s 16 0 z1) 16 1 z5) 16 2 z9) 16 3 z13) 16 4 (Int32.ofInt (-1))).1 3) ((sF (sF (sF (sF (sF s 16 0 z1) 16 1 z5) 16 2 z9) 16 3 z13) 16 4 (Int32.ofInt (-1))).1 17) (Int32.ofInt 0).toNatClampNeg (Int32.ofInt 0).toNatClampNeg (Int32.ofInt 32).toNatClampNeg)).1 18) (Int32.ofInt 0).toNatClampNeg (Int32.ofInt 0).toNatClampNeg (Int32.ofInt 160).toNatClampNeg)).1 5) ((sA (sA (sF (sF (sF (sF (sF s 16 0 z1) 16 1 z5) 16 2 z9) 16 3 z13) 16 4 (Int32.ofInt (-1))) 17 (va_cpy ((sF (sF (sF (sF (sF s 16 0 z1) 16 1 z5) 16 2 z9) 16 3 z13) 16 4 (Int32.ofInt (-1))).1 3) ((sF (sF (sF (sF (sF s 16 0 z1) 16 1 z5) 16 2 z9) 16 3 z13) 16 4 (Int32.ofInt (-1))).1 17) (Int32.ofInt 0).toNatClampNeg (Int32.ofInt 0).toNatClampNeg (Int32.ofInt 32).toNatClampNeg)) 18 (va_cpy ((sA (sF (sF (sF (sF (sF s 16 0 z1) 16 1 z5) 16 2 z9) 16 3 z13) 16 4 (Int32.ofInt (-1))) 17 (va_cpy ((sF (sF (sF (sF (sF s 16 0 z1) 16 1 z5) 16 2 z9) 16 3 z13) 16 4 (Int32.ofInt (-1))).1 3) ((sF (sF (sF (sF (sF s 16 0 z1) 16 1 z5) 16 2 z9) 16 3 z13) 16 4 (Int32.ofInt (-1))).1 17) (Int32.ofInt 0).toNatClampNeg (Int32.ofInt 0).toNatClampNeg (Int32.ofInt 32).toNatClampNeg)).1 4) ((sA (sF (sF (sF (sF (sF s 16 0 z1) 16 1 z5) 16 2 z9) 16 3 z13) 16 4 (Int32.ofInt (-1))) 17 (va_cpy ((sF (sF (sF (sF (sF s 16 0 z1) 16 1 z5) 16 2 z9) 16 3 z13) 16 4 (Int32.ofInt (-1))).1 3) ((sF (sF (sF (sF (sF s 16 0 z1) 16 1 z5) 16 2 z9) 16 3 z13) 16 4 (Int32.ofInt (-1))).1 17) (Int32.ofInt 0).toNatClampNeg (Int32.ofInt 0).toNatClampNeg (Int32.ofInt 32).toNatClampNeg)).1 18) (Int32.ofInt 0).toNatClampNeg (Int32.ofInt 0).toNatClampNeg (Int32.ofInt 160).toNatClampNeg)).1 19) (Int32.ofInt 0).toNatClampNeg (Int32.ofInt 0).toNatClampNeg (Int32.ofInt 160).toNatClampNeg)) 20 (va_cpy ((sA (sA (sA (sF (sF (sF (sF (sF s 16 0 z1) 16 1 z5) 16 2 z9) 16 3 z13) 16 4 (Int32.ofInt (-1))) 17 (va_cpy ((sF (sF (sF (sF (sF s 16 0 z1) 16 1 z5) 16 2 z9) 16 3 z13) 16 4 (Int32.ofInt (-1))).1 3) ((sF (sF (sF (sF (sF s 16 0 z1) 16 1 z5) 16 2 z9) 16 3 z13) 16 4 (Int32.ofInt (-1))).1 17) (Int32.ofInt 0).toNatClampNeg (Int32.ofInt 0).toNatClampNeg (Int32.ofInt 32).toNatClampNeg)) 18 (va_cpy ((sA (sF (sF (sF (sF (sF s 16 0 z1) 16 1 z5) 16 2 z9) 16 3 z13) 16 4 (Int32.ofInt (-1))) 17 (va_cpy ((sF (sF (sF (sF (sF s 16 0 z1) 16 1 z5) 16 2 z9) 16 3 z13) 16 4 (Int32.ofInt (-1))).1 3) ((sF (sF (sF (sF (sF s 16 0 z1) 16 1 z5) 16 2 z9) 16 3 z13) 16 4 (Int32.ofInt (-1))).1 17) (Int32.ofInt 0).toNatClampNeg (Int32.ofInt 0).toNatClampNeg (Int32.ofInt 32).toNatClampNeg)).1 4) ((sA (sF (sF (sF (sF (sF s 16 0 z1) 16 1 z5) 16 2 z9) 16 3 z13) 16 4 (Int32.ofInt (-1))) 17 (va_cpy ((sF (sF (sF (sF (sF s 16 0 z1) 16 1 z5) 16 2 z9) 16 3 z13) 16 4 (Int32.ofInt (-1))).1 3) ((sF (sF (sF (sF (sF s 16 0 z1) 16 1 z5) 16 2 z9) 16 3 z13) 16 4 (Int32.ofInt (-1))).1 17) (Int32.ofInt 0).toNatClampNeg (Int32.ofInt 0).toNatClampNeg (Int32.ofInt 32).toNatClampNeg)).1 18) (Int32.ofInt 0).toNatClampNeg (Int32.ofInt 0).toNatClampNeg (Int32.ofInt 160).toNatClampNeg)) 19 (va_cpy ((sA (sA (sF (sF (sF (sF (sF s 16 0 z1) 16 1 z5) 16 2 z9) 16 3 z13) 16 4 (Int32.ofInt (-1))) 17 (va_cpy ((sF (sF (sF (sF (sF s 16 0 z1) 16 1 z5) 16 2 z9) 16 3 z13) 16 4 (Int32.ofInt (-1))).1 3) ((sF (sF (sF (sF (sF s 16 0 z1) 16 1 z5) 16 2 z9) 16 3 z13) 16 4 (Int32.ofInt (-1))).1 17) (Int32.ofInt 0).toNatClampNeg (Int32.ofInt 0).toNatClampNeg (Int32.ofInt 32).toNatClampNeg)) 18 (va_cpy ((sA (sF (sF (sF (sF (sF s 16 0 z1) 16 1 z5) 16 2 z9) 16 3 z13) 16 4 (Int32.ofInt (-1))) 17 (va_cpy ((sF (sF (sF (sF (sF s 16 0 z1) 16 1 z5) 16 2 z9) 16 3 z13) 16 4 (Int32.ofInt (-1))).1 3) ((sF (sF (sF (sF (sF s 16 0 z1) 16 1 z5) 16 2 z9) 16 3 z13) 16 4 (Int32.ofInt (-1))).1 17) (Int32.ofInt 0).toNatClampNeg (Int32.ofInt 0).toNatClampNeg (Int32.ofInt 32).toNatClampNeg)).1 4) ((sA (sF (sF (sF (sF (sF s 16 0 z1) 16 1 z5) 16 2 z9) 16 3 z13) 16 4 (Int32.ofInt (-1))) 17 (va_cpy ((sF (sF (sF (sF (sF s 16 0 z1) 16 1 z5) 16 2 z9) 16 3 z13) 16 4 (Int32.ofInt (-1))).1 3) ((sF (sF (sF (sF (sF s 16 0 z1) 16 1 z5) 16 2 z9) 16 3 z13) 16 4 (Int32.ofInt (-1))).1 17) (Int32.ofInt 0).toNatClampNeg (Int32.ofInt 0).toNatClampNeg (Int32.ofInt 32).toNatClampNeg)).1 18) (Int32.ofInt 0).toNatClampNeg (Int32.ofInt 0).toNatClampNeg (Int32.ofInt 160).toNatClampNeg)).1 5) ((sA (sA (sF (sF (sF (sF (sF s 16 0 z1) 16 1 z5) 16 2 z9) 16 3 z13) 16 4 (Int32.ofInt (-1))) 17 (va_cpy ((sF (sF (sF (sF (sF s 16 0 z1) 16 1 z5) 16 2 z9) 16 3 z13) 16 4 (Int32.ofInt (-1))).1 3) ((sF (sF (sF (sF (sF s 16 0 z1) 16 1 z5) 16 2 z9) 16 3 z13) 16 4 (Int32.ofInt (-1))).1 17) (Int32.ofInt 0).toNatClampNeg (Int32.ofInt 0).toNatClampNeg (Int32.ofInt 32).toNatClampNeg)) 18 (va_cpy ((sA (sF (sF (sF (sF (sF s 16 0 z1) 16 1 z5) 16 2 z9) 16 3 z13) 16 4 (Int32.ofInt (-1))) 17 (va_cpy ((sF (sF (sF (sF (sF s 16 0 z1) 16 1 z5) 16 2 z9) 16 3 z13) 16 4 (Int32.ofInt (-1))).1 3) ((sF (sF (sF (sF (sF s 16 0 z1) 16 1 z5) 16 2 z9) 16 3 z13) 16 4 (Int32.ofInt (-1))).1 17) (Int32.ofInt 0).toNatClampNeg (Int32.ofInt 0).toNatClampNeg (Int32.ofInt 32).toNatClampNeg)).1 4) ((sA (sF (sF (sF (sF (sF s 16 0 z1) 16 1 z5) 16 2 z9) 16 3 z13) 16 4 (Int32.ofInt (-1))) 17 (va_cpy ((sF (sF (sF (sF (sF s 16 0 z1) 16 1 z5) 16 2 z9) 16 3 z13) 16 4 (Int32.ofInt (-1))).1 3) ((sF (sF (sF (sF (sF s 16 0 z1) 16 1 z5) 16 2 z9) 16 3 z13) 16 4 (Int32.ofInt (-1))).1 17) (Int32.ofInt 0).toNatClampNeg (Int32.ofInt 0).toNatClampNeg (Int32.ofInt 32).toNatClampNeg)).1 18) (Int32.ofInt 0).toNatClampNeg (Int32.ofInt 0).toNatClampNeg (Int32.ofInt 160).toNatClampNeg)).1 19) (Int32.ofInt 0).toNatClampNeg (Int32.ofInt 0).toNatClampNeg (Int32.ofInt 160).toNatClampNeg)).1 6) ((sA (sA (sA (sF (sF (sF (sF (sF s 16 0 z1) 16 1 z5) 16 2 z9) 16 3 z13) 16 4 (Int32.ofInt (-1))) 17 (va_cpy ((sF (sF (sF (sF (sF s 16 0 z1) 16 1 z5) 16 2 z9) 16 3 z13) 16 4 (Int32.ofInt (-1))).1 3) ((sF (sF (sF (sF (sF s 16 0 z1) 16 1 z5) 16 2 z9) 16 3 z13) 16 4 (Int32.ofInt (-1))).1 17) (Int32.ofInt 0).toNatClampNeg (Int32.ofInt 0).toNatClampNeg (Int32.ofInt 32).toNatClampNeg)) 18 (va_cpy ((sA (sF (sF (sF (sF (sF s 16 0 z1) 16 1 z5) 16 2 z9) 16 3 z13) 16 4 (Int32.ofInt (-1))) 17 (va_cpy ((sF (sF (sF (sF (sF s 16 0 z1) 16 1 z5) 16 2 z9) 16 3 z13) 16 4 (Int32.ofInt (-1))).1 3) ((sF (sF (sF (sF (sF s 16 0 z1) 16 1 z5) 16 2 z9) 16 3 z13) 16 4 (Int32.ofInt (-1))).1 17) (Int32.ofInt 0).toNatClampNeg (Int32.ofInt 0).toNatClampNeg (Int32.ofInt 32).toNatClampNeg)).1 4) ((sA (sF (sF (sF (sF (sF s 16 0 z1) 16 1 z5) 16 2 z9) 16 3 z13) 16 4 (Int32.ofInt (-1))) 17 (va_cpy ((sF (sF (sF (sF (sF s 16 0 z1) 16 1 z5) 16 2 z9) 16 3 z13) 16 4 (Int32.ofInt (-1))).1 3) ((sF (sF (sF (sF (sF s 16 0 z1) 16 1 z5) 16 2 z9) 16 3 z13) 16 4 (Int32.ofInt (-1))).1 17) (Int32.ofInt 0).toNatClampNeg (Int32.ofInt 0).toNatClampNeg (Int32.ofInt 32).toNatClampNeg)).1 18) (Int32.ofInt 0).toNatClampNeg (Int32.ofInt 0).toNatClampNeg (Int32.ofInt 160).toNatClampNeg)) 19 (va_cpy ((sA (sA (sF (sF (sF (sF (sF s 16 0 z1) 16 1 z5) 16 2 z9) 16 3 z13) 16 4 (Int32.ofInt (-1))) 17 (va_cpy ((sF (sF (sF (sF (sF s 16 0 z1) 16 1 z5) 16 2 z9) 16 3 z13) 16 4 (Int32.ofInt (-1))).1 3) ((sF (sF (sF (sF (sF s 16 0 z1) 16 1 z5) 16 2 z9) 16 3 z13) 16 4 (Int32.ofInt (-1))).1 17) (Int32.ofInt 0).toNatClampNeg (Int32.ofInt 0).toNatClampNeg (Int32.ofInt 32).toNatClampNeg)) 18 (va_cpy ((sA (sF (sF (sF (sF (sF s 16 0 z1) 16 1 z5) 16 2 z9) 16 3 z13) 16 4 (Int32.ofInt (-1))) 17 (va_cpy ((sF (sF (sF (sF (sF s 16 0 z1) 16 1 z5) 16 2 z9) 16 3 z13) 16 4 (Int32.ofInt (-1))).1 3) ((sF (sF (sF (sF (sF s 16 0 z1) 16 1 z5) 16 2 z9) 16 3 z13) 16 4 (Int32.ofInt (-1))).1 17) (Int32.ofInt 0).toNatClampNeg (Int32.ofInt 0).toNatClampNeg (Int32.ofInt 32).toNatClampNeg)).1 4) ((sA (sF (sF (sF (sF (sF s 16 0 z1) 16 1 z5) 16 2 z9) 16 3 z13) 16 4 (Int32.ofInt (-1))) 17 (va_cpy ((sF (sF (sF (sF (sF s 16 0 z1) 16 1 z5) 16 2 z9) 16 3 z13) 16 4 (Int32.ofInt (-1))).1 3) ((sF (sF (sF (sF (sF s 16 0 z1) 16 1 z5) 16 2 z9) 16 3 z13) 16 4 (Int32.ofInt (-1))).1 17) (Int32.ofInt 0).toNatClampNeg (Int32.ofInt 0).toNatClampNeg (Int32.ofInt 32).toNatClampNeg)).1 18) (Int32.ofInt 0).toNatClampNeg (Int32.ofInt 0).toNatClampNeg (Int32.ofInt 160).toNatClampNeg)).1 5) ((sA (sA (sF (sF (sF (sF (sF s 16 0 z1) 16 1 z5) 16 2 z9) 16 3 z13) 16 4 (Int32.ofInt (-1))) 17 (va_cpy ((sF (sF (sF (sF (sF s 16 0 z1) 16 1 z5) 16 2 z9) 16 3 z13) 16 4 (Int32.ofInt (-1))).1 3) ((sF (sF (sF (sF (sF s 16 0 z1) 16 1 z5) 16 2 z9) 16 3 z13) 16 4 (Int32.ofInt (-1))).1 17) (Int32.ofInt 0).toNatClampNeg (Int32.ofInt 0).toNatClampNeg (Int32.ofInt 32).toNatClampNeg)) 18 (va_cpy ((sA (sF (sF (sF (sF (sF s 16 0 z1) 16 1 z5) 16 2 z9) 16 3 z13) 16 4 (Int32.ofInt (-1))) 17 (va_cpy ((sF (sF (sF (sF (sF s 16 0 z1) 16 1 z5) 16 2 z9) 16 3 z13) 16 4 (Int32.ofInt (-1))).1 3) ((sF (sF (sF (sF (sF s 16 0 z1) 16 1 z5) 16 2 z9) 16 3 z13) 16 4 (Int32.ofInt (-1))).1 17) (Int32.ofInt 0).toNatClampNeg (Int32.ofInt 0).toNatClampNeg (Int32.ofInt 32).toNatClampNeg)).1 4) ((sA (sF (sF (sF (sF (sF s 16 0 z1) 16 1 z5) 16 2 z9) 16 3 z13) 16 4 (Int32.ofInt (-1))) 17 (va_cpy ((sF (sF (sF (sF (sF s 16 0 z1) 16 1 z5) 16 2 z9) 16 3 z13) 16 4 (Int32.ofInt (-1))).1 3) ((sF (sF (sF (sF (sF s 16 0 z1) 16 1 z5) 16 2 z9) 16 3 z13) 16 4 (Int32.ofInt (-1))).1 17) (Int32.ofInt 0).toNatClampNeg (Int32.ofInt 0).toNatClampNeg (Int32.ofInt 32).toNatClampNeg)).1 18) (Int32.ofInt 0).toNatClampNeg (Int32.ofInt 0).toNatClampNeg (Int32.ofInt 160).toNatClampNeg)).1 19) (Int32.ofInt 0).toNatClampNeg (Int32.ofInt 0).toNatClampNeg (Int32.ofInt 160).toNatClampNeg)).1 20) (Int32.ofInt 0).toNatClampNeg (Int32.ofInt 0).toNatClampNeg (Int32.ofInt 160).toNatClampNeg)).1 7) ((sA (sA (sA (sA (sF (sF (sF (sF (sF s 16 0 z1) 16 1 z5) 16 2 z9) 16 3 z13) 16 4 (Int32.ofInt (-1))) 17 (va_cpy ((sF (sF (sF (sF (sF s 16 0 z1) 16 1 z5) 16 2 z9) 16 3 z13) 16 4 (Int32.ofInt (-1))).1 3) ((sF (sF (sF (sF (sF s 16 0 z1) 16 1 z5) 16 2 z9) 16 3 z13) 16 4 (Int32.ofInt (-1))).1 17) (Int32.ofInt 0).toNatClampNeg (Int32.ofInt 0).toNatClampNeg (Int32.ofInt 32).toNatClampNeg)) 18 (va_cpy ((sA (sF (sF (sF (sF (sF s 16 0 z1) 16 1 z5) 16 2 z9) 16 3 z13) 16 4 (Int32.ofInt (-1))) 17 (va_cpy ((sF (sF (sF (sF (sF s 16 0 z1) 16 1 z5) 16 2 z9) 16 3 z13) 16 4 (Int32.ofInt (-1))).1 3) ((sF (sF (sF (sF (sF s 16 0 z1) 16 1 z5) 16 2 z9) 16 3 z13) 16 4 (Int32.ofInt (-1))).1 17) (Int32.ofInt 0).toNatClampNeg (Int32.ofInt 0).toNatClampNeg (Int32.ofInt 32).toNatClampNeg)).1 4) ((sA (sF (sF (sF (sF (sF s 16 0 z1) 16 1 z5) 16 2 z9) 16 3 z13) 16 4 (Int32.ofInt (-1))) 17 (va_cpy ((sF (sF (sF (sF (sF s 16 0 z1) 16 1 z5) 16 2 z9) 16 3 z13) 16 4 (Int32.ofInt (-1))).1 3) ((sF (sF (sF (sF (sF s 16 0 z1) 16 1 z5) 16 2 z9) 16 3 z13) 16 4 (Int32.ofInt (-1))).1 17) (Int32.ofInt 0).toNatClampNeg (Int32.ofInt 0).toNatClampNeg (Int32.ofInt 32).toNatClampNeg)).1 18) (Int32.ofInt 0).toNatClampNeg (Int32.ofInt 0).toNatClampNeg (Int32.ofInt 160).toNatClampNeg)) 19 (va_cpy ((sA (sA (sF (sF (sF (sF (sF s 16 0 z1) 16 1 z5) 16 2 z9) 16 3 z13) 16 4 (Int32.ofInt (-1))) 17 (va_cpy ((sF (sF (sF (sF (sF s 16 0 z1) 16 1 z5) 16 2 z9) 16 3 z13) 16 4 (Int32.ofInt (-1))).1 3) ((sF (sF (sF (sF (sF s 16 0 z1) 16 1 z5) 16 2 z9) 16 3 z13) 16 4 (Int32.ofInt (-1))).1 17) (Int32.ofInt 0).toNatClampNeg (Int32.ofInt 0).toNatClampNeg (Int32.ofInt 32).toNatClampNeg)) 18 (va_cpy ((sA (sF (sF (sF (sF (sF s 16 0 z1) 16 1 z5) 16 2 z9) 16 3 z13) 16 4 (Int32.ofInt (-1))) 17 (va_cpy ((sF (sF (sF (sF (sF s 16 0 z1) 16 1 z5) 16 2 z9) 16 3 z13) 16 4 (Int32.ofInt (-1))).1 3) ((sF (sF (sF (sF (sF s 16 0 z1) 16 1 z5) 16 2 z9) 16 3 z13) 16 4 (Int32.ofInt (-1))).1 17) (Int32.ofInt 0).toNatClampNeg (Int32.ofInt 0).toNatClampNeg (Int32.ofInt 32).toNatClampNeg)).1 4) ((sA (sF (sF (sF (sF (sF s 16 0 z1) 16 1 z5) 16 2 z9) 16 3 z13) 16 4 (Int32.ofInt (-1))) 17 (va_cpy ((sF (sF (sF (sF (sF s 16 0 z1) 16 1 z5) 16 2 z9) 16 3 z13) 16 4 (Int32.ofInt (-1))).1 3) ((sF (sF (sF (sF (sF s 16 0 z1) 16 1 z5) 16 2 z9) 16 3 z13) 16 4 (Int32.ofInt (-1))).1 17) (Int32.ofInt 0).toNatClampNeg (Int32.ofInt 0).toNatClampNeg (Int32.ofInt 32).toNatClampNeg)).1 18) (Int32.ofInt 0).toNatClampNeg (Int32.ofInt 0).toNatClampNeg (Int32.ofInt 160).toNatClampNeg)).1 5) ((sA (sA (sF (sF (sF (sF (sF s 16 0 z1) 16 1 z5) 16 2 z9) 16 3 z13) 16 4 (Int32.ofInt (-1))) 17 (va_cpy ((sF (sF (sF (sF (sF s 16 0 z1) 16 1 z5) 16 2 z9) 16 3 z13) 16 4 (Int32.ofInt (-1))).1 3) ((sF (sF (sF (sF (sF s 16 0 z1) 16 1 z5) 16 2 z9) 16 3 z13) 16 4 (Int32.ofInt (-1))).1 17) (Int32.ofInt 0).toNatClampNeg (Int32.ofInt 0).toNatClampNeg (Int32.ofInt 32).toNatClampNeg)) 18 (va_cpy ((sA (sF (sF (sF (sF (sF s 16 0 z1) 16 1 z5) 16 2 z9) 16 3 z13) 16 4 (Int32.ofInt (-1))) 17 (va_cpy ((sF (sF (sF (sF (sF s 16 0 z1) 16 1 z5) 16 2 z9) 16 3 z13) 16 4 (Int32.ofInt (-1))).1 3) ((sF (sF (sF (sF (sF s 16 0 z1) 16 1 z5) 16 2 z9) 16 3 z13) 16 4 (Int32.ofInt (-1))).1 17) (Int32.ofInt 0).toNatClampNeg (Int32.ofInt 0).toNatClampNeg (Int32.ofInt 32).toNatClampNeg)).1 4) ((sA (sF (sF (sF (sF (sF s 16 0 z1) 16 1 z5) 16 2 z9) 16 3 z13) 16 4 (Int32.ofInt (-1))) 17 (va_cpy ((sF (sF (sF (sF (sF s 16 0 z1) 16 1 z5) 16 2 z9) 16 3 z13) 16 4 (Int32.ofInt (-1))).1 3) ((sF (sF (sF (sF (sF s 16 0 z1) 16 1 z5) 16 2 z9) 16 3 z13) 16 4 (Int32.ofInt (-1))).1 17) (Int32.ofInt 0).toNatClampNeg (Int32.ofInt 0).toNatClampNeg (Int32.ofInt 32).toNatClampNeg)).1 18) (Int32.ofInt 0).toNatClampNeg (Int32.ofInt 0).toNatClampNeg (Int32.ofInt 160).toNatClampNeg)).1 19) (Int32.ofInt 0).toNatClampNeg (Int32.ofInt 0).toNatClampNeg (Int32.ofInt 160).toNatClampNeg)) 20 (va_cpy ((sA (sA (sA (sF (sF (sF (sF (sF s 16 0 z1) 16 1 z5) 16 2 z9) 16 3 z13) 16 4 (Int32.ofInt (-1))) 17 (va_cpy ((sF (sF (sF (sF (sF s 16 0 z1) 16 1 z5) 16 2 z9) 16 3 z13) 16 4 (Int32.ofInt (-1))).1 3) ((sF (sF (sF (sF (sF s 16 0 z1) 16 1 z5) 16 2 z9) 16 3 z13) 16 4 (Int32.ofInt (-1))).1 17) (Int32.ofInt 0).toNatClampNeg (Int32.ofInt 0).toNatClampNeg (Int32.ofInt 32).toNatClampNeg)) 18 (va_cpy ((sA (sF (sF (sF (sF (sF s 16 0 z1) 16 1 z5) 16 2 z9) 16 3 z13) 16 4 (Int32.ofInt (-1))) 17 (va_cpy ((sF (sF (sF (sF (sF s 16 0 z1) 16 1 z5) 16 2 z9) 16 3 z13) 16 4 (Int32.ofInt (-1))).1 3) ((sF (sF (sF (sF (sF s 16 0 z1) 16 1 z5) 16 2 z9) 16 3 z13) 16 4 (Int32.ofInt (-1))).1 17) (Int32.ofInt 0).toNatClampNeg (Int32.ofInt 0).toNatClampNeg (Int32.ofInt 32).toNatClampNeg)).1 4) ((sA (sF (sF (sF (sF (sF s 16 0 z1) 16 1 z5) 16 2 z9) 16 3 z13) 16 4 (Int32.ofInt (-1))) 17 (va_cpy ((sF (sF (sF (sF (sF s 16 0 z1) 16 1 z5) 16 2 z9) 16 3 z13) 16 4 (Int32.ofInt (-1))).1 3) ((sF (sF (sF (sF (sF s 16 0 z1) 16 1 z5) 16 2 z9) 16 3 z13) 16 4 (Int32.ofInt (-1))).1 17) (Int32.ofInt 0).toNatClampNeg (Int32.ofInt 0).toNatClampNeg (Int32.ofInt 32).toNatClampNeg)).1 18) (Int32.ofInt 0).toNatClampNeg (Int32.ofInt 0).toNatClampNeg (Int32.ofInt 160).toNatClampNeg)) 19 (va_cpy ((sA (sA (sF (sF (sF (sF (sF s 16 0 z1) 16 1 z5) 16 2 z9) 16 3 z13) 16 4 (Int32.ofInt (-1))) 17 (va_cpy ((sF (sF (sF (sF (sF s 16 0 z1) 16 1 z5) 16 2 z9) 16 3 z13) 16 4 (Int32.ofInt (-1))).1 3) ((sF (sF (sF (sF (sF s 16 0 z1) 16 1 z5) 16 2 z9) 16 3 z13) 16 4 (Int32.ofInt (-1))).1 17) (Int32.ofInt 0).toNatClampNeg (Int32.ofInt 0).toNatClampNeg (Int32.ofInt 32).toNatClampNeg)) 18 (va_cpy ((sA (sF (sF (sF (sF (sF s 16 0 z1) 16 1 z5) 16 2 z9) 16 3 z13) 16 4 (Int32.ofInt (-1))) 17 (va_cpy ((sF (sF (sF (sF (sF s 16 0 z1) 16 1 z5) 16 2 z9) 16 3 z13) 16 4 (Int32.ofInt (-1))).1 3) ((sF (sF (sF (sF (sF s 16 0 z1) 16 1 z5) 16 2 z9) 16 3 z13) 16 4 (Int32.ofInt (-1))).1 17) (Int32.ofInt 0).toNatClampNeg (Int32.ofInt 0).toNatClampNeg (Int32.ofInt 32).toNatClampNeg)).1 4) ((sA (sF (sF (sF (sF (sF s 16 0 z1) 16 1 z5) 16 2 z9) 16 3 z13) 16 4 (Int32.ofInt (-1))) 17 (va_cpy ((sF (sF (sF (sF (sF s 16 0 z1) 16 1 z5) 16 2 z9) 16 3 z13) 16 4 (Int32.ofInt (-1))).1 3) ((sF (sF (sF (sF (sF s 16 0 z1) 16 1 z5) 16 2 z9) 16 3 z13) 16 4 (Int32.ofInt (-1))).1 17) (Int32.ofInt 0).toNatClampNeg (Int32.ofInt 0).toNatClampNeg (Int32.ofInt 32).toNatClampNeg)).1 18) (Int32.ofInt 0).toNatClampNeg (Int32.ofInt 0).toNatClampNeg (Int32.ofInt 160).toNatClampNeg)).1 5) ((sA (sA (sF (sF (sF (sF (sF s 16 0 z1) 16 1 z5) 16 2 z9) 16 3 z13) 16 4 (Int32.ofInt (-1))) 17 (va_cpy ((sF (sF (sF (sF (sF s 16 0 z1) 16 1 z5) 16 2 z9) 16 3 z13) 16 4 (Int32.ofInt (-1))).1 3) ((sF (sF (sF (sF (sF s 16 0 z1) 16 1 z5) 16 2 z9) 16 3 z13) 16 4 (Int32.ofInt (-1))).1 17) (Int32.ofInt 0).toNatClampNeg (Int32.ofInt 0).toNatClampNeg (Int32.ofInt 32).toNatClampNeg)) 18 (va_cpy ((sA (sF (sF (sF (sF (sF s 16 0 z1) 16 1 z5) 16 2 z9) 16 3 z13) 16 4 (Int32.ofInt (-1))) 17 (va_cpy ((sF (sF (sF (sF (sF s 16 0 z1) 16 1 z5) 16 2 z9) 16 3 z13) 16 4 (Int32.ofInt (-1))).1 3) ((sF (sF (sF (sF (sF s 16 0 z1) 16 1 z5) 16 2 z9) 16 3 z13) 16 4 (Int32.ofInt (-1))).1 17) (Int32.ofInt 0).toNatClampNeg (Int32.ofInt 0).toNatClampNeg (Int32.ofInt 32).toNatClampNeg)).1 4) ((sA (sF (sF (sF (sF (sF s 16 0 z1) 16 1 z5) 16 2 z9) 16 3 z13) 16 4 (Int32.ofInt (-1))) 17 (va_cpy ((sF (sF (sF (sF (sF s 16 0 z1) 16 1 z5) 16 2 z9) 16 3 z13) 16 4 (Int32.ofInt (-1))).1 3) ((sF (sF (sF (sF (sF s 16 0 z1) 16 1 z5) 16 2 z9) 16 3 z13) 16 4 (Int32.ofInt (-1))).1 17) (Int32.ofInt 0).toNatClampNeg (Int32.ofInt 0).toNatClampNeg (Int32.ofInt 32).toNatClampNeg)).1 18) (Int32.ofInt 0).toNatClampNeg (Int32.ofInt 0).toNatClampNeg (Int32.ofInt 160).toNatClampNeg)).1 19) (Int32.ofInt 0).toNatClampNeg (Int32.ofInt 0).toNatClampNeg (Int32.ofInt 160).toNatClampNeg)).1 6) ((sA (sA (sA (sF (sF (sF (sF (sF s 16 0 z1) 16 1 z5) 16 2 z9) 16 3 z13) 16 4 (Int32.ofInt (-1))) 17 (va_cpy ((sF (sF (sF (sF (sF s 16 0 z1) 16 1 z5) 16 2 z9) 16 3 z13) 16 4 (Int32.ofInt (-1))).1 3) ((sF (sF (sF (sF (sF s 16 0 z1) 16 1 z5) 16 2 z9) 16 3 z13) 16 4 (Int32.ofInt (-1))).1 17) (Int32.ofInt 0).toNatClampNeg (Int32.ofInt 0).toNatClampNeg (Int32.ofInt 32).toNatClampNeg)) 18 (va_cpy ((sA (sF (sF (sF (sF (sF s 16 0 z1) 16 1 z5) 16 2 z9) 16 3 z13) 16 4 (Int32.ofInt (-1))) 17 (va_cpy ((sF (sF (sF (sF (sF s 16 0 z1) 16 1 z5) 16 2 z9) 16 3 z13) 16 4 (Int32.ofInt (-1))).1 3) ((sF (sF (sF (sF (sF s 16 0 z1) 16 1 z5) 16 2 z9) 16 3 z13) 16 4 (Int32.ofInt (-1))).1 17) (Int32.ofInt 0).toNatClampNeg (Int32.ofInt 0).toNatClampNeg (Int32.ofInt 32).toNatClampNeg)).1 4) ((sA (sF (sF (sF (sF (sF s 16 0 z1) 16 1 z5) 16 2 z9) 16 3 z13) 16 4 (Int32.ofInt (-1))) 17 (va_cpy ((sF (sF (sF (sF (sF s 16 0 z1) 16 1 z5) 16 2 z9) 16 3 z13) 16 4 (Int32.ofInt (-1))).1 3) ((sF (sF (sF (sF (sF s 16 0 z1) 16 1 z5) 16 2 z9) 16 3 z13) 16 4 (Int32.ofInt (-1))).1 17) (Int32.ofInt 0).toNatClampNeg (Int32.ofInt 0).toNatClampNeg (Int32.ofInt 32).toNatClampNeg)).1 18) (Int32.ofInt 0).toNatClampNeg (Int32.ofInt 0).toNatClampNeg (Int32.ofInt 160).toNatClampNeg)) 19 (va_cpy ((sA (sA (sF (sF (sF (sF (sF s 16 0 z1) 16 1 z5) 16 2 z9) 16 3 z13) 16 4 (Int32.ofInt (-1))) 17 (va_cpy ((sF (sF (sF (sF (sF s 16 0 z1) 16 1 z5) 16 2 z9) 16 3 z13) 16 4 (Int32.ofInt (-1))).1 3) ((sF (sF (sF (sF (sF s 16 0 z1) 16 1 z5) 16 2 z9) 16 3 z13) 16 4 (Int32.ofInt (-1))).1 17) (Int32.ofInt 0).toNatClampNeg (Int32.ofInt 0).toNatClampNeg (Int32.ofInt 32).toNatClampNeg)) 18 (va_cpy ((sA (sF (sF (sF (sF (sF s 16 0 z1) 16 1 z5) 16 2 z9) 16 3 z13) 16 4 (Int32.ofInt (-1))) 17 (va_cpy ((sF (sF (sF (sF (sF s 16 0 z1) 16 1 z5) 16 2 z9) 16 3 z13) 16 4 (Int32.ofInt (-1))).1 3) ((sF (sF (sF (sF (sF s 16 0 z1) 16 1 z5) 16 2 z9) 16 3 z13) 16 4 (Int32.ofInt (-1))).1 17) (Int32.ofInt 0).toNatClampNeg (Int32.ofInt 0).toNatClampNeg (Int32.ofInt 32).toNatClampNeg)).1 4) ((sA (sF (sF (sF (sF (sF s 16 0 z1) 16 1 z5) 16 2 z9) 16 3 z13) 16 4 (Int32.ofInt (-1))) 17 (va_cpy ((sF (sF (sF (sF (sF s 16 0 z1) 16 1 z5) 16 2 z9) 16 3 z13) 16 4 (Int32.ofInt (-1))).1 3) ((sF (sF (sF (sF (sF s 16 0 z1) 16 1 z5) 16 2 z9) 16 3 z13) 16 4 (Int32.ofInt (-1))).1 17) (Int32.ofInt 0).toNatClampNeg (Int32.ofInt 0).toNatClampNeg (Int32.ofInt 32).toNatClampNeg)).1 18) (Int32.ofInt 0).toNatClampNeg (Int32.ofInt 0).toNatClampNeg (Int32.ofInt 160).toNatClampNeg)).1 5) ((sA (sA (sF (sF (sF (sF (sF s 16 0 z1) 16 1 z5) 16 2 z9) 16 3 z13) 16 4 (Int32.ofInt (-1))) 17 (va_cpy ((sF (sF (sF (sF (sF s 16 0 z1) 16 1 z5) 16 2 z9) 16 3 z13) 16 4 (Int32.ofInt (-1))).1 3) ((sF (sF (sF (sF (sF s 16 0 z1) 16 1 z5) 16 2 z9) 16 3 z13) 16 4 (Int32.ofInt (-1))).1 17) (Int32.ofInt 0).toNatClampNeg (Int32.ofInt 0).toNatClampNeg (Int32.ofInt 32).toNatClampNeg)) 18 (va_cpy ((sA (sF (sF (sF (sF (sF s 16 0 z1) 16 1 z5) 16 2 z9) 16 3 z13) 16 4 (Int32.ofInt (-1))) 17 (va_cpy ((sF (sF (sF (sF (sF s 16 0 z1) 16 1 z5) 16 2 z9) 16 3 z13) 16 4 (Int32.ofInt (-1))).1 3) ((sF (sF (sF (sF (sF s 16 0 z1) 16 1 z5) 16 2 z9) 16 3 z13) 16 4 (Int32.ofInt (-1))).1 17) (Int32.ofInt 0).toNatClampNeg (Int32.ofInt 0).toNatClampNeg (Int32.ofInt 32).toNatClampNeg)).1 4) ((sA (sF (sF (sF (sF (sF s 16 0 z1) 16 1 z5) 16 2 z9) 16 3 z13) 16 4 (Int32.ofInt (-1))) 17 (va_cpy ((sF (sF (sF (sF (sF s 16 0 z1) 16 1 z5) 16 2 z9) 16 3 z13) 16 4 (Int32.ofInt (-1))).1 3) ((sF (sF (sF (sF (sF s 16 0 z1) 16 1 z5) 16 2 z9) 16 3 z13) 16 4 (Int32.ofInt (-1))).1 17) (Int32.ofInt 0).toNatClampNeg (Int32.ofInt 0).toNatClampNeg (Int32.ofInt 32).toNatClampNeg)).1 18) (Int32.ofInt 0).toNatClampNeg (Int32.ofInt 0).toNatClampNeg (Int32.ofInt 160).toNatClampNeg)).1 19) (Int32.ofInt 0).toNatClampNeg (Int32.ofInt 0).toNatClampNeg (Int32.ofInt 160).toNatClampNeg)).1 20) (Int32.ofInt 0).toNatClampNeg (Int32.ofInt 0).toNatClampNeg (Int32.ofInt 160).toNatClampNeg)).1 21) (Int32.ofInt 0).toNatClampNeg (Int32.ofInt 0).toNatClampNeg (Int32.ofInt 160).toNatClampNeg)).1 8) ((sA (sA (sA (sA (sA (sF (sF (sF (sF (sF s 16 0 z1) 16 1 z5) 16 2 z9) 16 3 z13) 16 4 (Int32.ofInt (-1))) 17 (va_cpy ((sF (sF (sF (sF (sF s 16 0 z1) 16 1 z5) 16 2 z9) 16 3 z13) 16 4 (Int32.ofInt (-1))).1 3) ((sF (sF (sF (sF (sF s 16 0 z1) 16 1 z5) 16 2 z9) 16 3 z13) 16 4 (Int32.ofInt (-1))).1 17) (Int32.ofInt 0).toNatClampNeg (Int32.ofInt 0).toNatClampNeg (Int32.ofInt 32).toNatClampNeg)) 18 (va_cpy ((sA (sF (sF (sF (sF (sF s 16 0 z1) 16 1 z5) 16 2 z9) 16 3 z13) 16 4 (Int32.ofInt (-1))) 17 (va_cpy ((sF (sF (sF (sF (sF s 16 0 z1) 16 1 z5) 16 2 z9) 16 3 z13) 16 4 (Int32.ofInt (-1))).1 3) ((sF (sF (sF (sF (sF s 16 0 z1) 16 1 z5) 16 2 z9) 16 3 z13) 16 4 (Int32.ofInt (-1))).1 17) (Int32.ofInt 0).toNatClampNeg (Int32.ofInt 0).toNatClampNeg (Int32.ofInt 32).toNatClampNeg)).1 4) ((sA (sF (sF (sF (sF (sF s 16 0 z1) 16 1 z5) 16 2 z9) 16 3 z13) 16 4 (Int32.ofInt (-1))) 17 (va_cpy ((sF (sF (sF (sF (sF s 16 0 z1) 16 1 z5) 16 2 z9) 16 3 z13) 16 4 (Int32.ofInt (-1))).1 3) ((sF (sF (sF (sF (sF s 16 0 z1) 16 1 z5) 16 2 z9) 16 3 z13) 16 4 (Int32.ofInt (-1))).1 17) (Int32.ofInt 0).toNatClampNeg (Int32.ofInt 0).toNatClampNeg (Int32.ofInt 32).toNatClampNeg)).1 18) (Int32.ofInt 0).toNatClampNeg (Int32.ofInt 0).toNatClampNeg (Int32.ofInt 160).toNatClampNeg)) 19 (va_cpy ((sA (sA (sF (sF (sF (sF (sF s 16 0 z1) 16 1 z5) 16 2 z9) 16 3 z13) 16 4 (Int32.ofInt (-1))) 17 (va_cpy ((sF (sF (sF (sF (sF s 16 0 z1) 16 1 z5) 16 2 z9) 16 3 z13) 16 4 (Int32.ofInt (-1))).1 3) ((sF (sF (sF (sF (sF s 16 0 z1) 16 1 z5) 16 2 z9) 16 3 z13) 16 4 (Int32.ofInt (-1))).1 17) (Int32.ofInt 0).toNatClampNeg (Int32.ofInt 0).toNatClampNeg (Int32.ofInt 32).toNatClampNeg)) 18 (va_cpy ((sA (sF (sF (sF (sF (sF s 16 0 z1) 16 1 z5) 16 2 z9) 16 3 z13) 16 4 (Int32.ofInt (-1))) 17 (va_cpy ((sF (sF (sF (sF (sF s 16 0 z1) 16 1 z5) 16 2 z9) 16 3 z13) 16 4 (Int32.ofInt (-1))).1 3) ((sF (sF (sF (sF (sF s 16 0 z1) 16 1 z5) 16 2 z9) 16 3 z13) 16 4 (Int32.ofInt (-1))).1 17) (Int32.ofInt 0).toNatClampNeg (Int32.ofInt 0).toNatClampNeg (Int32.ofInt 32).toNatClampNeg)).1 4) ((sA (sF (sF (sF (sF (sF s 16 0 z1) 16 1 z5) 16 2 z9) 16 3 z13) 16 4 (Int32.ofInt (-1))) 17 (va_cpy ((sF (sF (sF (sF (sF s 16 0 z1) 16 1 z5) 16 2 z9) 16 3 z13) 16 4 (Int32.ofInt (-1))).1 3) ((sF (sF (sF (sF (sF s 16 0 z1) 16 1 z5) 16 2 z9) 16 3 z13) 16 4 (Int32.ofInt (-1))).1 17) (Int32.ofInt 0).toNatClampNeg (Int32.ofInt 0).toNatClampNeg (Int32.ofInt 32).toNatClampNeg)).1 18) (Int32.ofInt 0).toNatClampNeg (Int32.ofInt 0).toNatClampNeg (Int32.ofInt 160).toNatClampNeg)).1 5) ((sA (sA (sF (sF (sF (sF (sF s 16 0 z1) 16 1 z5) 16 2 z9) 16 3 z13) 16 4 (Int32.ofInt (-1))) 17 (va_cpy ((sF (sF (sF (sF (sF s 16 0 z1) 16 1 z5) 16 2 z9) 16 3 z13) 16 4 (Int32.ofInt (-1))).1 3) ((sF (sF (sF (sF (sF s 16 0 z1) 16 1 z5) 16 2 z9) 16 3 z13) 16 4 (Int32.ofInt (-1))).1 17) (Int32.ofInt 0).toNatClampNeg (Int32.ofInt 0).toNatClampNeg (Int32.ofInt 32).toNatClampNeg)) 18 (va_cpy ((sA (sF (sF (sF (sF (sF s 16 0 z1) 16 1 z5) 16 2 z9) 16 3 z13) 16 4 (Int32.ofInt (-1))) 17 (va_cpy ((sF (sF (sF (sF (sF s 16 0 z1) 16 1 z5) 16 2 z9) 16 3 z13) 16 4 (Int32.ofInt (-1))).1 3) ((sF (sF (sF (sF (sF s 16 0 z1) 16 1 z5) 16 2 z9) 16 3 z13) 16 4 (Int32.ofInt (-1))).1 17) (Int32.ofInt 0).toNatClampNeg (Int32.ofInt 0).toNatClampNeg (Int32.ofInt 32).toNatClampNeg)).1 4) ((sA (sF (sF (sF (sF (sF s 16 0 z1) 16 1 z5) 16 2 z9) 16 3 z13) 16 4 (Int32.ofInt (-1))) 17 (va_cpy ((sF (sF (sF (sF (sF s 16 0 z1) 16 1 z5) 16 2 z9) 16 3 z13) 16 4 (Int32.ofInt (-1))).1 3) ((sF (sF (sF (sF (sF s 16 0 z1) 16 1 z5) 16 2 z9) 16 3 z13) 16 4 (Int32.ofInt (-1))).1 17) (Int32.ofInt 0).toNatClampNeg (Int32.ofInt 0).toNatClampNeg (Int32.ofInt 32).toNatClampNeg)).1 18) (Int32.ofInt 0).toNatClampNeg (Int32.ofInt 0).toNatClampNeg (Int32.ofInt 160).toNatClampNeg)).1 19) (Int32.ofInt 0).toNatClampNeg (Int32.ofInt 0).toNatClampNeg (Int32.ofInt 160).toNatClampNeg)) 20 (va_cpy ((sA (sA (sA (sF (sF (sF (sF (sF s 16 0 z1) 16 1 z5) 16 2 z9) 16 3 z13) 16 4 (Int32.ofInt (-1))) 17 (va_cpy ((sF (sF (sF (sF (sF s 16 0 z1) 16 1 z5) 16 2 z9) 16 3 z13) 16 4 (Int32.ofInt (-1))).1 3) ((sF (sF (sF (sF (sF s 16 0 z1) 16 1 z5) 16 2 z9) 16 3 z13) 16 4 (Int32.ofInt (-1))).1 17) (Int32.ofInt 0).toNatClampNeg (Int32.ofInt 0).toNatClampNeg (Int32.ofInt 32).toNatClampNeg)) 18 (va_cpy ((sA (sF (sF (sF (sF (sF s 16 0 z1) 16 1 z5) 16 2 z9) 16 3 z13) 16 4 (Int32.ofInt (-1))) 17 (va_cpy ((sF (sF (sF (sF (sF s 16 0 z1) 16 1 z5) 16 2 z9) 16 3 z13) 16 4 (Int32.ofInt (-1))).1 3) ((sF (sF (sF (sF (sF s 16 0 z1) 16 1 z5) 16 2 z9) 16 3 z13) 16 4 (Int32.ofInt (-1))).1 17) (Int32.ofInt 0).toNatClampNeg (Int32.ofInt 0).toNatClampNeg (Int32.ofInt 32).toNatClampNeg)).1 4) ((sA (sF (sF (sF (sF (sF s 16 0 z1) 16 1 z5) 16 2 z9) 16 3 z13) 16 4 (Int32.ofInt (-1))) 17 (va_cpy ((sF (sF (sF (sF (sF s 16 0 z1) 16 1 z5) 16 2 z9) 16 3 z13) 16 4 (Int32.ofInt (-1))).1 3) ((sF (sF (sF (sF (sF s 16 0 z1) 16 1 z5) 16 2 z9) 16 3 z13) 16 4 (Int32.ofInt (-1))).1 17) (Int32.ofInt 0).toNatClampNeg (Int32.ofInt 0).toNatClampNeg (Int32.ofInt 32).toNatClampNeg)).1 18) (Int32.ofInt 0).toNatClampNeg (Int32.ofInt 0).toNatClampNeg (Int32.ofInt 160).toNatClampNeg)) 19 (va_cpy ((sA (sA (sF (sF (sF (sF (sF s 16 0 z1) 16 1 z5) 16 2 z9) 16 3 z13) 16 4 (Int32.ofInt (-1))) 17 (va_cpy ((sF (sF (sF (sF (sF s 16 0 z1) 16 1 z5) 16 2 z9) 16 3 z13) 16 4 (Int32.ofInt (-1))).1 3) ((sF (sF (sF (sF (sF s 16 0 z1) 16 1 z5) 16 2 z9) 16 3 z13) 16 4 (Int32.ofInt (-1))).1 17) (Int32.ofInt 0).toNatClampNeg (Int32.ofInt 0).toNatClampNeg (Int32.ofInt 32).toNatClampNeg)) 18 (va_cpy ((sA (sF (sF (sF (sF (sF s 16 0 z1) 16 1 z5) 16 2 z9) 16 3 z13) 16 4 (Int32.ofInt (-1))) 17 (va_cpy ((sF (sF (sF (sF (sF s 16 0 z1) 16 1 z5) 16 2 z9) 16 3 z13) 16 4 (Int32.ofInt (-1))).1 3) ((sF (sF (sF (sF (sF s 16 0 z1) 16 1 z5) 16 2 z9) 16 3 z13) 16 4 (Int32.ofInt (-1))).1 17) (Int32.ofInt 0).toNatClampNeg (Int32.ofInt 0).toNatClampNeg (Int32.ofInt 32).toNatClampNeg)).1 4) ((sA (sF (sF (sF (sF (sF s 16 0 z1) 16 1 z5) 16 2 z9) 16 3 z13) 16 4 (Int32.ofInt (-1))) 17 (va_cpy ((sF (sF (sF (sF (sF s 16 0 z1) 16 1 z5) 16 2 z9) 16 3 z13) 16 4 (Int32.ofInt (-1))).1 3) ((sF (sF (sF (sF (sF s 16 0 z1) 16 1 z5) 16 2 z9) 16 3 z13) 16 4 (Int32.ofInt (-1))).1 17) (Int32.ofInt 0).toNatClampNeg (Int32.ofInt 0).toNatClampNeg (Int32.ofInt 32).toNatClampNeg)).1 18) (Int32.ofInt 0).toNatClampNeg (Int32.ofInt 0).toNatClampNeg (Int32.ofInt 160).toNatClampNeg)).1 5) ((sA (sA (sF (sF (sF (sF (sF s 16 0 z1) 16 1 z5) 16 2 z9) 16 3 z13) 16 4 (Int32.ofInt (-1))) 17 (va_cpy ((sF (sF (sF (sF (sF s 16 0 z1) 16 1 z5) 16 2 z9) 16 3 z13) 16 4 (Int32.ofInt (-1))).1 3) ((sF (sF (sF (sF (sF s 16 0 z1) 16 1 z5) 16 2 z9) 16 3 z13) 16 4 (Int32.ofInt (-1))).1 17) (Int32.ofInt 0).toNatClampNeg (Int32.ofInt 0).toNatClampNeg (Int32.ofInt 32).toNatClampNeg)) 18 (va_cpy ((sA (sF (sF (sF (sF (sF s 16 0 z1) 16 1 z5) 16 2 z9) 16 3 z13) 16 4 (Int32.ofInt (-1))) 17 (va_cpy ((sF (sF (sF (sF (sF s 16 0 z1) 16 1 z5) 16 2 z9) 16 3 z13) 16 4 (Int32.ofInt (-1))).1 3) ((sF (sF (sF (sF (sF s 16 0 z1) 16 1 z5) 16 2 z9) 16 3 z13) 16 4 (Int32.ofInt (-1))).1 17) (Int32.ofInt 0).toNatClampNeg (Int32.ofInt 0).toNatClampNeg (Int32.ofInt 32).toNatClampNeg)).1 4) ((sA (sF (sF (sF (sF (sF s 16 0 z1) 16 1 z5) 16 2 z9) 16 3 z13) 16 4 (Int32.ofInt (-1))) 17 (va_cpy ((sF (sF (sF (sF (sF s 16 0 z1) 16 1 z5) 16 2 z9) 16 3 z13) 16 4 (Int32.ofInt (-1))).1 3) ((sF (sF (sF (sF (sF s 16 0 z1) 16 1 z5) 16 2 z9) 16 3 z13) 16 4 (Int32.ofInt (-1))).1 17) (Int32.ofInt 0).toNatClampNeg (Int32.ofInt 0).toNatClampNeg (Int32.ofInt 32).toNatClampNeg)).1 18) (Int32.ofInt 0).toNatClampNeg (Int32.ofInt 0).toNatClampNeg (Int32.ofInt 160).toNatClampNeg)).1 19) (Int32.ofInt 0).toNatClampNeg (Int32.ofInt 0).toNatClampNeg (Int32.ofInt 160).toNatClampNeg)).1 6) ((sA (sA (sA (sF (sF (sF (sF (sF s 16 0 z1) 16 1 z5) 16 2 z9) 16 3 z13) 16 4 (Int32.ofInt (-1))) 17 (va_cpy ((sF (sF (sF (sF (sF s 16 0 z1) 16 1 z5) 16 2 z9) 16 3 z13) 16 4 (Int32.ofInt (-1))).1 3) ((sF (sF (sF (sF (sF s 16 0 z1) 16 1 z5) 16 2 z9) 16 3 z13) 16 4 (Int32.ofInt (-1))).1 17) (Int32.ofInt 0).toNatClampNeg (Int32.ofInt 0).toNatClampNeg (Int32.ofInt 32).toNatClampNeg)) 18 (va_cpy ((sA (sF (sF (sF (sF (sF s 16 0 z1) 16 1 z5) 16 2 z9) 16 3 z13) 16 4 (Int32.ofInt (-1))) 17 (va_cpy ((sF (sF (sF (sF (sF s 16 0 z1) 16 1 z5) 16 2 z9) 16 3 z13) 16 4 (Int32.ofInt (-1))).1 3) ((sF (sF (sF (sF (sF s 16 0 z1) 16 1 z5) 16 2 z9) 16 3 z13) 16 4 (Int32.ofInt (-1))).1 17) (Int32.ofInt 0).toNatClampNeg (Int32.ofInt 0).toNatClampNeg (Int32.ofInt 32).toNatClampNeg)).1 4) ((sA (sF (sF (sF (sF (sF s 16 0 z1) 16 1 z5) 16 2 z9) 16 3 z13) 16 4 (Int32.ofInt (-1))) 17 (va_cpy ((sF (sF (sF (sF (sF s 16 0 z1) 16 1 z5) 16 2 z9) 16 3 z13) 16 4 (Int32.ofInt (-1))).1 3) ((sF (sF (sF (sF (sF s 16 0 z1) 16 1 z5) 16 2 z9) 16 3 z13) 16 4 (Int32.ofInt (-1))).1 17) (Int32.ofInt 0).toNatClampNeg (Int32.ofInt 0).toNatClampNeg (Int32.ofInt 32).toNatClampNeg)).1 18) (Int32.ofInt 0).toNatClampNeg (Int32.ofInt 0).toNatClampNeg (Int32.ofInt 160).toNatClampNeg)) 19 (va_cpy ((sA (sA (sF (sF (sF (sF (sF s 16 0 z1) 16 1 z5) 16 2 z9) 16 3 z13) 16 4 (Int32.ofInt (-1))) 17 (va_cpy ((sF (sF (sF (sF (sF s 16 0 z1) 16 1 z5) 16 2 z9) 16 3 z13) 16 4 (Int32.ofInt (-1))).1 3) ((sF (sF (sF (sF (sF s 16 0 z1) 16 1 z5) 16 2 z9) 16 3 z13) 16 4 (Int32.ofInt (-1))).1 17) (Int32.ofInt 0).toNatClampNeg (Int32.ofInt 0).toNatClampNeg (Int32.ofInt 32).toNatClampNeg)) 18 (va_cpy ((sA (sF (sF (sF (sF (sF s 16 0 z1) 16 1 z5) 16 2 z9) 16 3 z13) 16 4 (Int32.ofInt (-1))) 17 (va_cpy ((sF (sF (sF (sF (sF s 16 0 z1) 16 1 z5) 16 2 z9) 16 3 z13) 16 4 (Int32.ofInt (-1))).1 3) ((sF (sF (sF (sF (sF s 16 0 z1) 16 1 z5) 16 2 z9) 16 3 z13) 16 4 (Int32.ofInt (-1))).1 17) (Int32.ofInt 0).toNatClampNeg (Int32.ofInt 0).toNatClampNeg (Int32.ofInt 32).toNatClampNeg)).1 4) ((sA (sF (sF (sF (sF (sF s 16 0 z1) 16 1 z5) 16 2 z9) 16 3 z13) 16 4 (Int32.ofInt (-1))) 17 (va_cpy ((sF (sF (sF (sF (sF s 16 0 z1) 16 1 z5) 16 2 z9) 16 3 z13) 16 4 (Int32.ofInt (-1))).1 3) ((sF (sF (sF (sF (sF s 16 0 z1) 16 1 z5) 16 2 z9) 16 3 z13) 16 4 (Int32.ofInt (-1))).1 17) (Int32.ofInt 0).toNatClampNeg (Int32.ofInt 0).toNatClampNeg (Int32.ofInt 32).toNatClampNeg)).1 18) (Int32.ofInt 0).toNatClampNeg (Int32.ofInt 0).toNatClampNeg (Int32.ofInt 160).toNatClampNeg)).1 5) ((sA (sA (sF (sF (sF (sF (sF s 16 0 z1) 16 1 z5) 16 2 z9) 16 3 z13) 16 4 (Int32.ofInt (-1))) 17 (va_cpy ((sF (sF (sF (sF (sF s 16 0 z1) 16 1 z5) 16 2 z9) 16 3 z13) 16 4 (Int32.ofInt (-1))).1 3) ((sF (sF (sF (sF (sF s 16 0 z1) 16 1 z5) 16 2 z9) 16 3 z13) 16 4 (Int32.ofInt (-1))).1 17) (Int32.ofInt 0).toNatClampNeg (Int32.ofInt 0).toNatClampNeg (Int32.ofInt 32).toNatClampNeg)) 18 (va_cpy ((sA (sF (sF (sF (sF (sF s 16 0 z1) 16 1 z5) 16 2 z9) 16 3 z13) 16 4 (Int32.ofInt (-1))) 17 (va_cpy ((sF (sF (sF (sF (sF s 16 0 z1) 16 1 z5) 16 2 z9) 16 3 z13) 16 4 (Int32.ofInt (-1))).1 3) ((sF (sF (sF (sF (sF s 16 0 z1) 16 1 z5) 16 2 z9) 16 3 z13) 16 4 (Int32.ofInt (-1))).1 17) (Int32.ofInt 0).toNatClampNeg (Int32.ofInt 0).toNatClampNeg (Int32.ofInt 32).toNatClampNeg)).1 4) ((sA (sF (sF (sF (sF (sF s 16 0 z1) 16 1 z5) 16 2 z9) 16 3 z13) 16 4 (Int32.ofInt (-1))) 17 (va_cpy ((sF (sF (sF (sF (sF s 16 0 z1) 16 1 z5) 16 2 z9) 16 3 z13) 16 4 (Int32.ofInt (-1))).1 3) ((sF (sF (sF (sF (sF s 16 0 z1) 16 1 z5) 16 2 z9) 16 3 z13) 16 4 (Int32.ofInt (-1))).1 17) (Int32.ofInt 0).toNatClampNeg (Int32.ofInt 0).toNatClampNeg (Int32.ofInt 32).toNatClampNeg)).1 18) (Int32.ofInt 0).toNatClampNeg (Int32.ofInt 0).toNatClampNeg (Int32.ofInt 160).toNatClampNeg)).1 19) (Int32.ofInt 0).toNatClampNeg (Int32.ofInt 0).toNatClampNeg (Int32.ofInt 160).toNatClampNeg)).1 20) (Int32.ofInt 0).toNatClampNeg (Int32.ofInt 0).toNatClampNeg (Int32.ofInt 160).toNatClampNeg)) 21 (va_cpy ((sA (sA (sA (sA (sF (sF (sF (sF (sF s 16 0 z1) 16 1 z5) 16 2 z9) 16 3 z13) 16 4 (Int32.ofInt (-1))) 17 (va_cpy ((sF (sF (sF (sF (sF s 16 0 z1) 16 1 z5) 16 2 z9) 16 3 z13) 16 4 (Int32.ofInt (-1))).1 3) ((sF (sF (sF (sF (sF s 16 0 z1) 16 1 z5) 16 2 z9) 16 3 z13) 16 4 (Int32.ofInt (-1))).1 17) (Int32.ofInt 0).toNatClampNeg (Int32.ofInt 0).toNatClampNeg (Int32.ofInt 32).toNatClampNeg)) 18 (va_cpy ((sA (sF (sF (sF (sF (sF s 16 0 z1) 16 1 z5) 16 2 z9) 16 3 z13) 16 4 (Int32.ofInt (-1))) 17 (va_cpy ((sF (sF (sF (sF (sF s 16 0 z1) 16 1 z5) 16 2 z9) 16 3 z13) 16 4 (Int32.ofInt (-1))).1 3) ((sF (sF (sF (sF (sF s 16 0 z1) 16 1 z5) 16 2 z9) 16 3 z13) 16 4 (Int32.ofInt (-1))).1 17) (Int32.ofInt 0).toNatClampNeg (Int32.ofInt 0).toNatClampNeg (Int32.ofInt 32).toNatClampNeg)).1 4) ((sA (sF (sF (sF (sF (sF s 16 0 z1) 16 1 z5) 16 2 z9) 16 3 z13) 16 4 (Int32.ofInt (-1))) 17 (va_cpy ((sF (sF (sF (sF (sF s 16 0 z1) 16 1 z5) 16 2 z9) 16 3 z13) 16 4 (Int32.ofInt (-1))).1 3) ((sF (sF (sF (sF (sF s 16 0 z1) 16 1 z5) 16 2 z9) 16 3 z13) 16 4 (Int32.ofInt (-1))).1 17) (Int32.ofInt 0).toNatClampNeg (Int32.ofInt 0).toNatClampNeg (Int32.ofInt 32).toNatClampNeg)).1 18) (Int32.ofInt 0).toNatClampNeg (Int32.ofInt 0).toNatClampNeg (Int32.ofInt 160).toNatClampNeg)) 19 (va_cpy ((sA (sA (sF (sF (sF (sF (sF s 16 0 z1) 16 1 z5) 16 2 z9) 16 3 z13) 16 4 (Int32.ofInt (-1))) 17 (va_cpy ((sF (sF (sF (sF (sF s 16 0 z1) 16 1 z5) 16 2 z9) 16 3 z13) 16 4 (Int32.ofInt (-1))).1 3) ((sF (sF (sF (sF (sF s 16 0 z1) 16 1 z5) 16 2 z9) 16 3 z13) 16 4 (Int32.ofInt (-1))).1 17) (Int32.ofInt 0).toNatClampNeg (Int32.ofInt 0).toNatClampNeg (Int32.ofInt 32).toNatClampNeg)) 18 (va_cpy ((sA (sF (sF (sF (sF (sF s 16 0 z1) 16 1 z5) 16 2 z9) 16 3 z13) 16 4 (Int32.ofInt (-1))) 17 (va_cpy ((sF (sF (sF (sF (sF s 16 0 z1) 16 1 z5) 16 2 z9) 16 3 z13) 16 4 (Int32.ofInt (-1))).1 3) ((sF (sF (sF (sF (sF s 16 0 z1) 16 1 z5) 16 2 z9) 16 3 z13) 16 4 (Int32.ofInt (-1))).1 17) (Int32.ofInt 0).toNatClampNeg (Int32.ofInt 0).toNatClampNeg (Int32.ofInt 32).toNatClampNeg)).1 4) ((sA (sF (sF (sF (sF (sF s 16 0 z1) 16 1 z5) 16 2 z9) 16 3 z13) 16 4 (Int32.ofInt (-1))) 17 (va_cpy ((sF (sF (sF (sF (sF s 16 0 z1) 16 1 z5) 16 2 z9) 16 3 z13) 16 4 (Int32.ofInt (-1))).1 3) ((sF (sF (sF (sF (sF s 16 0 z1) 16 1 z5) 16 2 z9) 16 3 z13) 16 4 (Int32.ofInt (-1))).1 17) (Int32.ofInt 0).toNatClampNeg (Int32.ofInt 0).toNatClampNeg (Int32.ofInt 32).toNatClampNeg)).1 18) (Int32.ofInt 0).toNatClampNeg (Int32.ofInt 0).toNatClampNeg (Int32.ofInt 160).toNatClampNeg)).1 5) ((sA (sA (sF (sF (sF (sF (sF s 16 0 z1) 16 1 z5) 16 2 z9) 16 3 z13) 16 4 (Int32.ofInt (-1))) 17 (va_cpy ((sF (sF (sF (sF (sF s 16 0 z1) 16 1 z5) 16 2 z9) 16 3 z13) 16 4 (Int32.ofInt (-1))).1 3) ((sF (sF (sF (sF (sF s 16 0 z1) 16 1 z5) 16 2 z9) 16 3 z13) 16 4 (Int32.ofInt (-1))).1 17) (Int32.ofInt 0).toNatClampNeg (Int32.ofInt 0).toNatClampNeg (Int32.ofInt 32).toNatClampNeg)) 18 (va_cpy ((sA (sF (sF (sF (sF (sF s 16 0 z1) 16 1 z5) 16 2 z9) 16 3 z13) 16 4 (Int32.ofInt (-1))) 17 (va_cpy ((sF (sF (sF (sF (sF s 16 0 z1) 16 1 z5) 16 2 z9) 16 3 z13) 16 4 (Int32.ofInt (-1))).1 3) ((sF (sF (sF (sF (sF s 16 0 z1) 16 1 z5) 16 2 z9) 16 3 z13) 16 4 (Int32.ofInt (-1))).1 17) (Int32.ofInt 0).toNatClampNeg (Int32.ofInt 0).toNatClampNeg (Int32.ofInt 32).toNatClampNeg)).1 4) ((sA (sF (sF (sF (sF (sF s 16 0 z1) 16 1 z5) 16 2 z9) 16 3 z13) 16 4 (Int32.ofInt (-1))) 17 (va_cpy ((sF (sF (sF (sF (sF s 16 0 z1) 16 1 z5) 16 2 z9) 16 3 z13) 16 4 (Int32.ofInt (-1))).1 3) ((sF (sF (sF (sF (sF s 16 0 z1) 16 1 z5) 16 2 z9) 16 3 z13) 16 4 (Int32.ofInt (-1))).1 17) (Int32.ofInt 0).toNatClampNeg (Int32.ofInt 0).toNatClampNeg (Int32.ofInt 32).toNatClampNeg)).1 18) (Int32.ofInt 0).toNatClampNeg (Int32.ofInt 0).toNatClampNeg (Int32.ofInt 160).toNatClampNeg)).1 19) (Int32.ofInt 0).toNatClampNeg (Int32.ofInt 0).toNatClampNeg (Int32.ofInt 160).toNatClampNeg)) 20 (va_cpy ((sA (sA (sA (sF (sF (sF (sF (sF s 16 0 z1) 16 1 z5) 16 2 z9) 16 3 z13) 16 4 (Int32.ofInt (-1))) 17 (va_cpy ((sF (sF (sF (sF (sF s 16 0 z1) 16 1 z5) 16 2 z9) 16 3 z13) 16 4 (Int32.ofInt (-1))).1 3) ((sF (sF (sF (sF (sF s 16 0 z1) 16 1 z5) 16 2 z9) 16 3 z13) 16 4 (Int32.ofInt (-1))).1 17) (Int32.ofInt 0).toNatClampNeg (Int32.ofInt 0).toNatClampNeg (Int32.ofInt 32).toNatClampNeg)) 18 (va_cpy ((sA (sF (sF (sF (sF (sF s 16 0 z1) 16 1 z5) 16 2 z9) 16 3 z13) 16 4 (Int32.ofInt (-1))) 17 (va_cpy ((sF (sF (sF (sF (sF s 16 0 z1) 16 1 z5) 16 2 z9) 16 3 z13) 16 4 (Int32.ofInt (-1))).1 3) ((sF (sF (sF (sF (sF s 16 0 z1) 16 1 z5) 16 2 z9) 16 3 z13) 16 4 (Int32.ofInt (-1))).1 17) (Int32.ofInt 0).toNatClampNeg (Int32.ofInt 0).toNatClampNeg (Int32.ofInt 32).toNatClampNeg)).1 4) ((sA (sF (sF (sF (sF (sF s 16 0 z1) 16 1 z5) 16 2 z9) 16 3 z13) 16 4 (Int32.ofInt (-1))) 17 (va_cpy ((sF (sF (sF (sF (sF s 16 0 z1) 16 1 z5) 16 2 z9) 16 3 z13) 16 4 (Int32.ofInt (-1))).1 3) ((sF (sF (sF (sF (sF s 16 0 z1) 16 1 z5) 16 2 z9) 16 3 z13) 16 4 (Int32.ofInt (-1))).1 17) (Int32.ofInt 0).toNatClampNeg (Int32.ofInt 0).toNatClampNeg (Int32.ofInt 32).toNatClampNeg)).1 18) (Int32.ofInt 0).toNatClampNeg (Int32.ofInt 0).toNatClampNeg (Int32.ofInt 160).toNatClampNeg)) 19 (va_cpy ((sA (sA (sF (sF (sF (sF (sF s 16 0 z1) 16 1 z5) 16 2 z9) 16 3 z13) 16 4 (Int32.ofInt (-1))) 17 (va_cpy ((sF (sF (sF (sF (sF s 16 0 z1) 16 1 z5) 16 2 z9) 16 3 z13) 16 4 (Int32.ofInt (-1))).1 3) ((sF (sF (sF (sF (sF s 16 0 z1) 16 1 z5) 16 2 z9) 16 3 z13) 16 4 (Int32.ofInt (-1))).1 17) (Int32.ofInt 0).toNatClampNeg (Int32.ofInt 0).toNatClampNeg (Int32.ofInt 32).toNatClampNeg)) 18 (va_cpy ((sA (sF (sF (sF (sF (sF s 16 0 z1) 16 1 z5) 16 2 z9) 16 3 z13) 16 4 (Int32.ofInt (-1))) 17 (va_cpy ((sF (sF (sF (sF (sF s 16 0 z1) 16 1 z5) 16 2 z9) 16 3 z13) 16 4 (Int32.ofInt (-1))).1 3) ((sF (sF (sF (sF (sF s 16 0 z1) 16 1 z5) 16 2 z9) 16 3 z13) 16 4 (Int32.ofInt (-1))).1 17) (Int32.ofInt 0).toNatClampNeg (Int32.ofInt 0).toNatClampNeg (Int32.ofInt 32).toNatClampNeg)).1 4) ((sA (sF (sF (sF (sF (sF s 16 0 z1) 16 1 z5) 16 2 z9) 16 3 z13) 16 4 (Int32.ofInt (-1))) 17 (va_cpy ((sF (sF (sF (sF (sF s 16 0 z1) 16 1 z5) 16 2 z9) 16 3 z13) 16 4 (Int32.ofInt (-1))).1 3) ((sF (sF (sF (sF (sF s 16 0 z1) 16 1 z5) 16 2 z9) 16 3 z13) 16 4 (Int32.ofInt (-1))).1 17) (Int32.ofInt 0).toNatClampNeg (Int32.ofInt 0).toNatClampNeg (Int32.ofInt 32).toNatClampNeg)).1 18) (Int32.ofInt 0).toNatClampNeg (Int32.ofInt 0).toNatClampNeg (Int32.ofInt 160).toNatClampNeg)).1 5) ((sA (sA (sF (sF (sF (sF (sF s 16 0 z1) 16 1 z5) 16 2 z9) 16 3 z13) 16 4 (Int32.ofInt (-1))) 17 (va_cpy ((sF (sF (sF (sF (sF s 16 0 z1) 16 1 z5) 16 2 z9) 16 3 z13) 16 4 (Int32.ofInt (-1))).1 3) ((sF (sF (sF (sF (sF s 16 0 z1) 16 1 z5) 16 2 z9) 16 3 z13) 16 4 (Int32.ofInt (-1))).1 17) (Int32.ofInt 0).toNatClampNeg (Int32.ofInt 0).toNatClampNeg (Int32.ofInt 32).toNatClampNeg)) 18 (va_cpy ((sA (sF (sF (sF (sF (sF s 16 0 z1) 16 1 z5) 16 2 z9) 16 3 z13) 16 4 (Int32.ofInt (-1))) 17 (va_cpy ((sF (sF (sF (sF (sF s 16 0 z1) 16 1 z5) 16 2 z9) 16 3 z13) 16 4 (Int32.ofInt (-1))).1 3) ((sF (sF (sF (sF (sF s 16 0 z1) 16 1 z5) 16 2 z9) 16 3 z13) 16 4 (Int32.ofInt (-1))).1 17) (Int32.ofInt 0).toNatClampNeg (Int32.ofInt 0).toNatClampNeg (Int32.ofInt 32).toNatClampNeg)).1 4) ((sA (sF (sF (sF (sF (sF s 16 0 z1) 16 1 z5) 16 2 z9) 16 3 z13) 16 4 (Int32.ofInt (-1))) 17 (va_cpy ((sF (sF (sF (sF (sF s 16 0 z1) 16 1 z5) 16 2 z9) 16 3 z13) 16 4 (Int32.ofInt (-1))).1 3) ((sF (sF (sF (sF (sF s 16 0 z1) 16 1 z5) 16 2 z9) 16 3 z13) 16 4 (Int32.ofInt (-1))).1 17) (Int32.ofInt 0).toNatClampNeg (Int32.ofInt 0).toNatClampNeg (Int32.ofInt 32).toNatClampNeg)).1 18) (Int32.ofInt 0).toNatClampNeg (Int32.ofInt 0).toNatClampNeg (Int32.ofInt 160).toNatClampNeg)).1 19) (Int32.ofInt 0).toNatClampNeg (Int32.ofInt 0).toNatClampNeg (Int32.ofInt 160).toNatClampNeg)).1 6) ((sA (sA (sA (sF (sF (sF (sF (sF s 16 0 z1) 16 1 z5) 16 2 z9) 16 3 z13) 16 4 (Int32.ofInt (-1))) 17 (va_cpy ((sF (sF (sF (sF (sF s 16 0 z1) 16 1 z5) 16 2 z9) 16 3 z13) 16 4 (Int32.ofInt (-1))).1 3) ((sF (sF (sF (sF (sF s 16 0 z1) 16 1 z5) 16 2 z9) 16 3 z13) 16 4 (Int32.ofInt (-1))).1 17) (Int32.ofInt 0).toNatClampNeg (Int32.ofInt 0).toNatClampNeg (Int32.ofInt 32).toNatClampNeg)) 18 (va_cpy ((sA (sF (sF (sF (sF (sF s 16 0 z1) 16 1 z5) 16 2 z9) 16 3 z13) 16 4 (Int32.ofInt (-1))) 17 (va_cpy ((sF (sF (sF (sF (sF s 16 0 z1) 16 1 z5) 16 2 z9) 16 3 z13) 16 4 (Int32.ofInt (-1))).1 3) ((sF (sF (sF (sF (sF s 16 0 z1) 16 1 z5) 16 2 z9) 16 3 z13) 16 4 (Int32.ofInt (-1))).1 17) (Int32.ofInt 0).toNatClampNeg (Int32.ofInt 0).toNatClampNeg (Int32.ofInt 32).toNatClampNeg)).1 4) ((sA (sF (sF (sF (sF (sF s 16 0 z1) 16 1 z5) 16 2 z9) 16 3 z13) 16 4 (Int32.ofInt (-1))) 17 (va_cpy ((sF (sF (sF (sF (sF s 16 0 z1) 16 1 z5) 16 2 z9) 16 3 z13) 16 4 (Int32.ofInt (-1))).1 3) ((sF (sF (sF (sF (sF s 16 0 z1) 16 1 z5) 16 2 z9) 16 3 z13) 16 4 (Int32.ofInt (-1))).1 17) (Int32.ofInt 0).toNatClampNeg (Int32.ofInt 0).toNatClampNeg (Int32.ofInt 32).toNatClampNeg)).1 18) (Int32.ofInt 0).toNatClampNeg (Int32.ofInt 0).toNatClampNeg (Int32.ofInt 160).toNatClampNeg)) 19 (va_cpy ((sA (sA (sF (sF (sF (sF (sF s 16 0 z1) 16 1 z5) 16 2 z9) 16 3 z13) 16 4 (Int32.ofInt (-1))) 17 (va_cpy ((sF (sF (sF (sF (sF s 16 0 z1) 16 1 z5) 16 2 z9) 16 3 z13) 16 4 (Int32.ofInt (-1))).1 3) ((sF (sF (sF (sF (sF s 16 0 z1) 16 1 z5) 16 2 z9) 16 3 z13) 16 4 (Int32.ofInt (-1))).1 17) (Int32.ofInt 0).toNatClampNeg (Int32.ofInt 0).toNatClampNeg (Int32.ofInt 32).toNatClampNeg)) 18 (va_cpy ((sA (sF (sF (sF (sF (sF s 16 0 z1) 16 1 z5) 16 2 z9) 16 3 z13) 16 4 (Int32.ofInt (-1))) 17 (va_cpy ((sF (sF (sF (sF (sF s 16 0 z1) 16 1 z5) 16 2 z9) 16 3 z13) 16 4 (Int32.ofInt (-1))).1 3) ((sF (sF (sF (sF (sF s 16 0 z1) 16 1 z5) 16 2 z9) 16 3 z13) 16 4 (Int32.ofInt (-1))).1 17) (Int32.ofInt 0).toNatClampNeg (Int32.ofInt 0).toNatClampNeg (Int32.ofInt 32).toNatClampNeg)).1 4) ((sA (sF (sF (sF (sF (sF s 16 0 z1) 16 1 z5) 16 2 z9) 16 3 z13) 16 4 (Int32.ofInt (-1))) 17 (va_cpy ((sF (sF (sF (sF (sF s 16 0 z1) 16 1 z5) 16 2 z9) 16 3 z13) 16 4 (Int32.ofInt (-1))).1 3) ((sF (sF (sF (sF (sF s 16 0 z1) 16 1 z5) 16 2 z9) 16 3 z13) 16 4 (Int32.ofInt (-1))).1 17) (Int32.ofInt 0).toNatClampNeg (Int32.ofInt 0).toNatClampNeg (Int32.ofInt 32).toNatClampNeg)).1 18) (Int32.ofInt 0).toNatClampNeg (Int32.ofInt 0).toNatClampNeg (Int32.ofInt 160).toNatClampNeg)).1 5) ((sA (sA (sF (sF (sF (sF (sF s 16 0 z1) 16 1 z5) 16 2 z9) 16 3 z13) 16 4 (Int32.ofInt (-1))) 17 (va_cpy ((sF (sF (sF (sF (sF s 16 0 z1) 16 1 z5) 16 2 z9) 16 3 z13) 16 4 (Int32.ofInt (-1))).1 3) ((sF (sF (sF (sF (sF s 16 0 z1) 16 1 z5) 16 2 z9) 16 3 z13) 16 4 (Int32.ofInt (-1))).1 17) (Int32.ofInt 0).toNatClampNeg (Int32.ofInt 0).toNatClampNeg (Int32.ofInt 32).toNatClampNeg)) 18 (va_cpy ((sA (sF (sF (sF (sF (sF s 16 0 z1) 16 1 z5) 16 2 z9) 16 3 z13) 16 4 (Int32.ofInt (-1))) 17 (va_cpy ((sF (sF (sF (sF (sF s 16 0 z1) 16 1 z5) 16 2 z9) 16 3 z13) 16 4 (Int32.ofInt (-1))).1 3) ((sF (sF (sF (sF (sF s 16 0 z1) 16 1 z5) 16 2 z9) 16 3 z13) 16 4 (Int32.ofInt (-1))).1 17) (Int32.ofInt 0).toNatClampNeg (Int32.ofInt 0).toNatClampNeg (Int32.ofInt 32).toNatClampNeg)).1 4) ((sA (sF (sF (sF (sF (sF s 16 0 z1) 16 1 z5) 16 2 z9) 16 3 z13) 16 4 (Int32.ofInt (-1))) 17 (va_cpy ((sF (sF (sF (sF (sF s 16 0 z1) 16 1 z5) 16 2 z9) 16 3 z13) 16 4 (Int32.ofInt (-1))).1 3) ((sF (sF (sF (sF (sF s 16 0 z1) 16 1 z5) 16 2 z9) 16 3 z13) 16 4 (Int32.ofInt (-1))).1 17) (Int32.ofInt 0).toNatClampNeg (Int32.ofInt 0).toNatClampNeg (Int32.ofInt 32).toNatClampNeg)).1 18) (Int32.ofInt 0).toNatClampNeg (Int32.ofInt 0).toNatClampNeg (Int32.ofInt 160).toNatClampNeg)).1 19) (Int32.ofInt 0).toNatClampNeg (Int32.ofInt 0).toNatClampNeg (Int32.ofInt 160).toNatClampNeg)).1 20) (Int32.ofInt 0).toNatClampNeg (Int32.ofInt 0).toNatClampNeg (Int32.ofInt 160).toNatClampNeg)).1 7) ((sA (sA (sA (sA (sF (sF (sF (sF (sF s 16 0 z1) 16 1 z5) 16 2 z9) 16 3 z13) 16 4 (Int32.ofInt (-1))) 17 (va_cpy ((sF (sF (sF (sF (sF s 16 0 z1) 16 1 z5) 16 2 z9) 16 3 z13) 16 4 (Int32.ofInt (-1))).1 3) ((sF (sF (sF (sF (sF s 16 0 z1) 16 1 z5) 16 2 z9) 16 3 z13) 16 4 (Int32.ofInt (-1))).1 17) (Int32.ofInt 0).toNatClampNeg (Int32.ofInt 0).toNatClampNeg (Int32.ofInt 32).toNatClampNeg)) 18 (va_cpy ((sA (sF (sF (sF (sF (sF s 16 0 z1) 16 1 z5) 16 2 z9) 16 3 z13) 16 4 (Int32.ofInt (-1))) 17 (va_cpy ((sF (sF (sF (sF (sF s 16 0 z1) 16 1 z5) 16 2 z9) 16 3 z13) 16 4 (Int32.ofInt (-1))).1 3) ((sF (sF (sF (sF (sF s 16 0 z1) 16 1 z5) 16 2 z9) 16 3 z13) 16 4 (Int32.ofInt (-1))).1 17) (Int32.ofInt 0).toNatClampNeg (Int32.ofInt 0).toNatClampNeg (Int32.ofInt 32).toNatClampNeg)).1 4) ((sA (sF (sF (sF (sF (sF s 16 0 z1) 16 1 z5) 16 2 z9) 16 3 z13) 16 4 (Int32.ofInt (-1))) 17 (va_cpy ((sF (sF (sF (sF (sF s 16 0 z1) 16 1 z5) 16 2 z9) 16 3 z13) 16 4 (Int32.ofInt (-1))).1 3) ((sF (sF (sF (sF (sF s 16 0 z1) 16 1 z5) 16 2 z9) 16 3 z13) 16 4 (Int32.ofInt (-1))).1 17) (Int32.ofInt 0).toNatClampNeg (Int32.ofInt 0).toNatClampNeg (Int32.ofInt 32).toNatClampNeg)).1 18) (Int32.ofInt 0).toNatClampNeg (Int32.ofInt 0).toNatClampNeg (Int32.ofInt 160).toNatClampNeg)) 19 (va_cpy ((sA (sA (sF (sF (sF (sF (sF s 16 0 z1) 16 1 z5) 16 2 z9) 16 3 z13) 16 4 (Int32.ofInt (-1))) 17 (va_cpy ((sF (sF (sF (sF (sF s 16 0 z1) 16 1 z5) 16 2 z9) 16 3 z13) 16 4 (Int32.ofInt (-1))).1 3) ((sF (sF (sF (sF (sF s 16 0 z1) 16 1 z5) 16 2 z9) 16 3 z13) 16 4 (Int32.ofInt (-1))).1 17) (Int32.ofInt 0).toNatClampNeg (Int32.ofInt 0).toNatClampNeg (Int32.ofInt 32).toNatClampNeg)) 18 (va_cpy ((sA (sF (sF (sF (sF (sF s 16 0 z1) 16 1 z5) 16 2 z9) 16 3 z13) 16 4 (Int32.ofInt (-1))) 17 (va_cpy ((sF (sF (sF (sF (sF s 16 0 z1) 16 1 z5) 16 2 z9) 16 3 z13) 16 4 (Int32.ofInt (-1))).1 3) ((sF (sF (sF (sF (sF s 16 0 z1) 16 1 z5) 16 2 z9) 16 3 z13) 16 4 (Int32.ofInt (-1))).1 17) (Int32.ofInt 0).toNatClampNeg (Int32.ofInt 0).toNatClampNeg (Int32.ofInt 32).toNatClampNeg)).1 4) ((sA (sF (sF (sF (sF (sF s 16 0 z1) 16 1 z5) 16 2 z9) 16 3 z13) 16 4 (Int32.ofInt (-1))) 17 (va_cpy ((sF (sF (sF (sF (sF s 16 0 z1) 16 1 z5) 16 2 z9) 16 3 z13) 16 4 (Int32.ofInt (-1))).1 3) ((sF (sF (sF (sF (sF s 16 0 z1) 16 1 z5) 16 2 z9) 16 3 z13) 16 4 (Int32.ofInt (-1))).1 17) (Int32.ofInt 0).toNatClampNeg (Int32.ofInt 0).toNatClampNeg (Int32.ofInt 32).toNatClampNeg)).1 18) (Int32.ofInt 0).toNatClampNeg (Int32.ofInt 0).toNatClampNeg (Int32.ofInt 160).toNatClampNeg)).1 5) ((sA (sA (sF (sF (sF (sF (sF s 16 0 z1) 16 1 z5) 16 2 z9) 16 3 z13) 16 4 (Int32.ofInt (-1))) 17 (va_cpy ((sF (sF (sF (sF (sF s 16 0 z1) 16 1 z5) 16 2 z9) 16 3 z13) 16 4 (Int32.ofInt (-1))).1 3) ((sF (sF (sF (sF (sF s 16 0 z1) 16 1 z5) 16 2 z9) 16 3 z13) 16 4 (Int32.ofInt (-1))).1 17) (Int32.ofInt 0).toNatClampNeg (Int32.ofInt 0).toNatClampNeg (Int32.ofInt 32).toNatClampNeg)) 18 (va_cpy ((sA (sF (sF (sF (sF (sF s 16 0 z1) 16 1 z5) 16 2 z9) 16 3 z13) 16 4 (Int32.ofInt (-1))) 17 (va_cpy ((sF (sF (sF (sF (sF s 16 0 z1) 16 1 z5) 16 2 z9) 16 3 z13) 16 4 (Int32.ofInt (-1))).1 3) ((sF (sF (sF (sF (sF s 16 0 z1) 16 1 z5) 16 2 z9) 16 3 z13) 16 4 (Int32.ofInt (-1))).1 17) (Int32.ofInt 0).toNatClampNeg (Int32.ofInt 0).toNatClampNeg (Int32.ofInt 32).toNatClampNeg)).1 4) ((sA (sF (sF (sF (sF (sF s 16 0 z1) 16 1 z5) 16 2 z9) 16 3 z13) 16 4 (Int32.ofInt (-1))) 17 (va_cpy ((sF (sF (sF (sF (sF s 16 0 z1) 16 1 z5) 16 2 z9) 16 3 z13) 16 4 (Int32.ofInt (-1))).1 3) ((sF (sF (sF (sF (sF s 16 0 z1) 16 1 z5) 16 2 z9) 16 3 z13) 16 4 (Int32.ofInt (-1))).1 17) (Int32.ofInt 0).toNatClampNeg (Int32.ofInt 0).toNatClampNeg (Int32.ofInt 32).toNatClampNeg)).1 18) (Int32.ofInt 0).toNatClampNeg (Int32.ofInt 0).toNatClampNeg (Int32.ofInt 160).toNatClampNeg)).1 19) (Int32.ofInt 0).toNatClampNeg (Int32.ofInt 0).toNatClampNeg (Int32.ofInt 160).toNatClampNeg)) 20 (va_cpy ((sA (sA (sA (sF (sF (sF (sF (sF s 16 0 z1) 16 1 z5) 16 2 z9) 16 3 z13) 16 4 (Int32.ofInt (-1))) 17 (va_cpy ((sF (sF (sF (sF (sF s 16 0 z1) 16 1 z5) 16 2 z9) 16 3 z13) 16 4 (Int32.ofInt (-1))).1 3) ((sF (sF (sF (sF (sF s 16 0 z1) 16 1 z5) 16 2 z9) 16 3 z13) 16 4 (Int32.ofInt (-1))).1 17) (Int32.ofInt 0).toNatClampNeg (Int32.ofInt 0).toNatClampNeg (Int32.ofInt 32).toNatClampNeg)) 18 (va_cpy ((sA (sF (sF (sF (sF (sF s 16 0 z1) 16 1 z5) 16 2 z9) 16 3 z13) 16 4 (Int32.ofInt (-1))) 17 (va_cpy ((sF (sF (sF (sF (sF s 16 0 z1) 16 1 z5) 16 2 z9) 16 3 z13) 16 4 (Int32.ofInt (-1))).1 3) ((sF (sF (sF (sF (sF s 16 0 z1) 16 1 z5) 16 2 z9) 16 3 z13) 16 4 (Int32.ofInt (-1))).1 17) (Int32.ofInt 0).toNatClampNeg (Int32.ofInt 0).toNatClampNeg (Int32.ofInt 32).toNatClampNeg)).1 4) ((sA (sF (sF (sF (sF (sF s 16 0 z1) 16 1 z5) 16 2 z9) 16 3 z13) 16 4 (Int32.ofInt (-1))) 17 (va_cpy ((sF (sF (sF (sF (sF s 16 0 z1) 16 1 z5) 16 2 z9) 16 3 z13) 16 4 (Int32.ofInt (-1))).1 3) ((sF (sF (sF (sF (sF s 16 0 z1) 16 1 z5) 16 2 z9) 16 3 z13) 16 4 (Int32.ofInt (-1))).1 17) (Int32.ofInt 0).toNatClampNeg (Int32.ofInt 0).toNatClampNeg (Int32.ofInt 32).toNatClampNeg)).1 18) (Int32.ofInt 0).toNatClampNeg (Int32.ofInt 0).toNatClampNeg (Int32.ofInt 160).toNatClampNeg)) 19 (va_cpy ((sA (sA (sF (sF (sF (sF (sF s 16 0 z1) 16 1 z5) 16 2 z9) 16 3 z13) 16 4 (Int32.ofInt (-1))) 17 (va_cpy ((sF (sF (sF (sF (sF s 16 0 z1) 16 1 z5) 16 2 z9) 16 3 z13) 16 4 (Int32.ofInt (-1))).1 3) ((sF (sF (sF (sF (sF s 16 0 z1) 16 1 z5) 16 2 z9) 16 3 z13) 16 4 (Int32.ofInt (-1))).1 17) (Int32.ofInt 0).toNatClampNeg (Int32.ofInt 0).toNatClampNeg (Int32.ofInt 32).toNatClampNeg)) 18 (va_cpy ((sA (sF (sF (sF (sF (sF s 16 0 z1) 16 1 z5) 16 2 z9) 16 3 z13) 16 4 (Int32.ofInt (-1))) 17 (va_cpy ((sF (sF (sF (sF (sF s 16 0 z1) 16 1 z5) 16 2 z9) 16 3 z13) 16 4 (Int32.ofInt (-1))).1 3) ((sF (sF (sF (sF (sF s 16 0 z1) 16 1 z5) 16 2 z9) 16 3 z13) 16 4 (Int32.ofInt (-1))).1 17) (Int32.ofInt 0).toNatClampNeg (Int32.ofInt 0).toNatClampNeg (Int32.ofInt 32).toNatClampNeg)).1 4) ((sA (sF (sF (sF (sF (sF s 16 0 z1) 16 1 z5) 16 2 z9) 16 3 z13) 16 4 (Int32.ofInt (-1))) 17 (va_cpy ((sF (sF (sF (sF (sF s 16 0 z1) 16 1 z5) 16 2 z9) 16 3 z13) 16 4 (Int32.ofInt (-1))).1 3) ((sF (sF (sF (sF (sF s 16 0 z1) 16 1 z5) 16 2 z9) 16 3 z13) 16 4 (Int32.ofInt (-1))).1 17) (Int32.ofInt 0).toNatClampNeg (Int32.ofInt 0).toNatClampNeg (Int32.ofInt 32).toNatClampNeg)).1 18) (Int32.ofInt 0).toNatClampNeg (Int32.ofInt 0).toNatClampNeg (Int32.ofInt 160).toNatClampNeg)).1 5) ((sA (sA (sF (sF (sF (sF (sF s 16 0 z1) 16 1 z5) 16 2 z9) 16 3 z13) 16 4 (Int32.ofInt (-1))) 17 (va_cpy ((sF (sF (sF (sF (sF s 16 0 z1) 16 1 z5) 16 2 z9) 16 3 z13) 16 4 (Int32.ofInt (-1))).1 3) ((sF (sF (sF (sF (sF s 16 0 z1) 16 1 z5) 16 2 z9) 16 3 z13) 16 4 (Int32.ofInt (-1))).1 17) (Int32.ofInt 0).toNatClampNeg (Int32.ofInt 0).toNatClampNeg (Int32.ofInt 32).toNatClampNeg)) 18 (va_cpy ((sA (sF (sF (sF (sF (sF s 16 0 z1) 16 1 z5) 16 2 z9) 16 3 z13) 16 4 (Int32.ofInt (-1))) 17 (va_cpy ((sF (sF (sF (sF (sF s 16 0 z1) 16 1 z5) 16 2 z9) 16 3 z13) 16 4 (Int32.ofInt (-1))).1 3) ((sF (sF (sF (sF (sF s 16 0 z1) 16 1 z5) 16 2 z9) 16 3 z13) 16 4 (Int32.ofInt (-1))).1 17) (Int32.ofInt 0).toNatClampNeg (Int32.ofInt 0).toNatClampNeg (Int32.ofInt 32).toNatClampNeg)).1 4) ((sA (sF (sF (sF (sF (sF s 16 0 z1) 16 1 z5) 16 2 z9) 16 3 z13) 16 4 (Int32.ofInt (-1))) 17 (va_cpy ((sF (sF (sF (sF (sF s 16 0 z1) 16 1 z5) 16 2 z9) 16 3 z13) 16 4 (Int32.ofInt (-1))).1 3) ((sF (sF (sF (sF (sF s 16 0 z1) 16 1 z5) 16 2 z9) 16 3 z13) 16 4 (Int32.ofInt (-1))).1 17) (Int32.ofInt 0).toNatClampNeg (Int32.ofInt 0).toNatClampNeg (Int32.ofInt 32).toNatClampNeg)).1 18) (Int32.ofInt 0).toNatClampNeg (Int32.ofInt 0).toNatClampNeg (Int32.ofInt 160).toNatClampNeg)).1 19) (Int32.ofInt 0).toNatClampNeg (Int32.ofInt 0).toNatClampNeg (Int32.ofInt 160).toNatClampNeg)).1 6) ((sA (sA (sA (sF (sF (sF (sF (sF s 16 0 z1) 16 1 z5) 16 2 z9) 16 3 z13) 16 4 (Int32.ofInt (-1))) 17 (va_cpy ((sF (sF (sF (sF (sF s 16 0 z1) 16 1 z5) 16 2 z9) 16 3 z13) 16 4 (Int32.ofInt (-1))).1 3) ((sF (sF (sF (sF (sF s 16 0 z1) 16 1 z5) 16 2 z9) 16 3 z13) 16 4 (Int32.ofInt (-1))).1 17) (Int32.ofInt 0).toNatClampNeg (Int32.ofInt 0).toNatClampNeg (Int32.ofInt 32).toNatClampNeg)) 18 (va_cpy ((sA (sF (sF (sF (sF (sF s 16 0 z1) 16 1 z5) 16 2 z9) 16 3 z13) 16 4 (Int32.ofInt (-1))) 17 (va_cpy ((sF (sF (sF (sF (sF s 16 0 z1) 16 1 z5) 16 2 z9) 16 3 z13) 16 4 (Int32.ofInt (-1))).1 3) ((sF (sF (sF (sF (sF s 16 0 z1) 16 1 z5) 16 2 z9) 16 3 z13) 16 4 (Int32.ofInt (-1))).1 17) (Int32.ofInt 0).toNatClampNeg (Int32.ofInt 0).toNatClampNeg (Int32.ofInt 32).toNatClampNeg)).1 4) ((sA (sF (sF (sF (sF (sF s 16 0 z1) 16 1 z5) 16 2 z9) 16 3 z13) 16 4 (Int32.ofInt (-1))) 17 (va_cpy ((sF (sF (sF (sF (sF s 16 0 z1) 16 1 z5) 16 2 z9) 16 3 z13) 16 4 (Int32.ofInt (-1))).1 3) ((sF (sF (sF (sF (sF s 16 0 z1) 16 1 z5) 16 2 z9) 16 3 z13) 16 4 (Int32.ofInt (-1))).1 17) (Int32.ofInt 0).toNatClampNeg (Int32.ofInt 0).toNatClampNeg (Int32.ofInt 32).toNatClampNeg)).1 18) (Int32.ofInt 0).toNatClampNeg (Int32.ofInt 0).toNatClampNeg (Int32.ofInt 160).toNatClampNeg)) 19 (va_cpy ((sA (sA (sF (sF (sF (sF (sF s 16 0 z1) 16 1 z5) 16 2 z9) 16 3 z13) 16 4 (Int32.ofInt (-1))) 17 (va_cpy ((sF (sF (sF (sF (sF s 16 0 z1) 16 1 z5) 16 2 z9) 16 3 z13) 16 4 (Int32.ofInt (-1))).1 3) ((sF (sF (sF (sF (sF s 16 0 z1) 16 1 z5) 16 2 z9) 16 3 z13) 16 4 (Int32.ofInt (-1))).1 17) (Int32.ofInt 0).toNatClampNeg (Int32.ofInt 0).toNatClampNeg (Int32.ofInt 32).toNatClampNeg)) 18 (va_cpy ((sA (sF (sF (sF (sF (sF s 16 0 z1) 16 1 z5) 16 2 z9) 16 3 z13) 16 4 (Int32.ofInt (-1))) 17 (va_cpy ((sF (sF (sF (sF (sF s 16 0 z1) 16 1 z5) 16 2 z9) 16 3 z13) 16 4 (Int32.ofInt (-1))).1 3) ((sF (sF (sF (sF (sF s 16 0 z1) 16 1 z5) 16 2 z9) 16 3 z13) 16 4 (Int32.ofInt (-1))).1 17) (Int32.ofInt 0).toNatClampNeg (Int32.ofInt 0).toNatClampNeg (Int32.ofInt 32).toNatClampNeg)).1 4) ((sA (sF (sF (sF (sF (sF s 16 0 z1) 16 1 z5) 16 2 z9) 16 3 z13) 16 4 (Int32.ofInt (-1))) 17 (va_cpy ((sF (sF (sF (sF (sF s 16 0 z1) 16 1 z5) 16 2 z9) 16 3 z13) 16 4 (Int32.ofInt (-1))).1 3) ((sF (sF (sF (sF (sF s 16 0 z1) 16 1 z5) 16 2 z9) 16 3 z13) 16 4 (Int32.ofInt (-1))).1 17) (Int32.ofInt 0).toNatClampNeg (Int32.ofInt 0).toNatClampNeg (Int32.ofInt 32).toNatClampNeg)).1 18) (Int32.ofInt 0).toNatClampNeg (Int32.ofInt 0).toNatClampNeg (Int32.ofInt 160).toNatClampNeg)).1 5) ((sA (sA (sF (sF (sF (sF (sF s 16 0 z1) 16 1 z5) 16 2 z9) 16 3 z13) 16 4 (Int32.ofInt (-1))) 17 (va_cpy ((sF (sF (sF (sF (sF s 16 0 z1) 16 1 z5) 16 2 z9) 16 3 z13) 16 4 (Int32.ofInt (-1))).1 3) ((sF (sF (sF (sF (sF s 16 0 z1) 16 1 z5) 16 2 z9) 16 3 z13) 16 4 (Int32.ofInt (-1))).1 17) (Int32.ofInt 0).toNatClampNeg (Int32.ofInt 0).toNatClampNeg (Int32.ofInt 32).toNatClampNeg)) 18 (va_cpy ((sA (sF (sF (sF (sF (sF s 16 0 z1) 16 1 z5) 16 2 z9) 16 3 z13) 16 4 (Int32.ofInt (-1))) 17 (va_cpy ((sF (sF (sF (sF (sF s 16 0 z1) 16 1 z5) 16 2 z9) 16 3 z13) 16 4 (Int32.ofInt (-1))).1 3) ((sF (sF (sF (sF (sF s 16 0 z1) 16 1 z5) 16 2 z9) 16 3 z13) 16 4 (Int32.ofInt (-1))).1 17) (Int32.ofInt 0).toNatClampNeg (Int32.ofInt 0).toNatClampNeg (Int32.ofInt 32).toNatClampNeg)).1 4) ((sA (sF (sF (sF (sF (sF s 16 0 z1) 16 1 z5) 16 2 z9) 16 3 z13) 16 4 (Int32.ofInt (-1))) 17 (va_cpy ((sF (sF (sF (sF (sF s 16 0 z1) 16 1 z5) 16 2 z9) 16 3 z13) 16 4 (Int32.ofInt (-1))).1 3) ((sF (sF (sF (sF (sF s 16 0 z1) 16 1 z5) 16 2 z9) 16 3 z13) 16 4 (Int32.ofInt (-1))).1 17) (Int32.ofInt 0).toNatClampNeg (Int32.ofInt 0).toNatClampNeg (Int32.ofInt 32).toNatClampNeg)).1 18) (Int32.ofInt 0).toNatClampNeg (Int32.ofInt 0).toNatClampNeg (Int32.ofInt 160).toNatClampNeg)).1 19) (Int32.ofInt 0).toNatClampNeg (Int32.ofInt 0).toNatClampNeg (Int32.ofInt 160).toNatClampNeg)).1 20) (Int32.ofInt 0).toNatClampNeg (Int32.ofInt 0).toNatClampNeg (Int32.ofInt 160).toNatClampNeg)).1 21) (Int32.ofInt 0).toNatClampNeg (Int32.ofInt 0).toNatClampNeg (Int32.ofInt 160).toNatClampNeg)).1 22) (Int32.ofInt 0).toNatClampNeg (Int32.ofInt 0).toNatClampNeg (Int32.ofInt 160).toNatClampNeg)), hI23, rfl, rfl⟩)

/-- GraphHouse$Graph.joints -/
theorem k_98_2 {Z : AmZ} {A : Nat → Nat} {s : GS} {ex : va_W} {d : Nat} {X : AmX}  (hd : 3 ≤ d) (hI : Inv s)  : GC Z d 98 [.ref (A 2)] (WW Z A s ++ ex) 0 0 (fun v u => ∃ z : Int32, v = some (.int z) ∧ u = WW Z A s ++ ex ∧ In z 0 160) X := by
  intro post xp hP hX
  have ct4 : ∀ (k4 : Nat) (y4_1 : Int32) (y4_2 : Int32), In y4_1 0 160 → In y4_2 0 160 → (y4_1).toInt ≤ (y4_2).toInt + 0 → 160 - (y4_2).toInt < (k4 : Int) → GG Z (d - 1) 98 post (gx xp) (1 + k4 * 900) 4 (fun j => xlook j [(0, .ref (A 2)), (1, .int y4_1), (2, .int y4_2)]) [] (WW Z A s ++ ex) 0 0 := by
    intro k4
    induction k4 with
    | zero => intro y4_1 y4_2 j4_1 j4_2 l4_1 mm4; exact m_no mm4 j4_2 rfl
    | succ k4 ih4 =>
      intro y4_1 y4_2 j4_1 j4_2 l4_1 mm4
      refine gg_w (M := 1 + k4 * 900 + 900) (by omega) ?_
      refine g_iload_n 5 (gd rfl) rfl rfl ?_
      refine g_aload_n 6 (gd rfl) rfl rfl ?_
      refine g_getI 9 (gd rfl) rfl rfl rfl (fun z1 e2 => ?_)
      have i3 := inv_F hI 0 160 rfl e2
      refine g_cmp_ge 12 29 (gd rfl) rfl rfl (fun c4 => ?_) (fun c4 => ?_)
      · skip
        refine g_iload_n 30 (gd rfl) rfl rfl ?_
        exact g_ireturn (gd rfl) rfl rfl (hP _ _ ⟨y4_1, rfl, rfl, in_w 0 160 j4_1 rfl⟩)
      · skip
        have i5 := r_lt1 0 159 c4 j4_2 i3 rfl
        have i6 := r_lt2 1 160 c4 j4_2 i3 rfl
        refine g_aload_n 13 (gd rfl) rfl rfl ?_
        refine g_iload_n 14 (gd rfl) rfl rfl ?_
        refine g_callv (X := _) (As := [.int y4_2]) (r := []) (b := A 2) (q := 2) 17 (gd rfl) rfl rfl rfl rfl rfl (ww_o rfl) (Nat.le_of_ble_eq_true rfl) (mc := 0) (ms := 0) (Nat.zero_le _) (Nat.zero_le _) (P := fun v u => _) ?_ (fun e u h => h) (fun v u h => h)
        intro po7 xx8 hp9 hx10
        refine g_enter2 (k := 97) (N := 300) (by omega) rfl (Nat.le_of_ble_eq_true rfl) ?_
        refine g_aload_n 1 (gd rfl) rfl rfl ?_
        refine g_getA (q2 := 4) 4 (gd rfl) rfl rfl rfl rfl rfl ?_
        refine g_iload_n 5 (gd rfl) rfl rfl ?_
        refine g_iaload 6 (gd rfl) rfl (n := 160) rfl (in_ix i5 rfl) (fun z11 e12 => ?_)
        have i13 := inv_I hI (n := 160) (t := 0) (-1) 31 rfl (in_ix i5 rfl) rfl e12
        refine g_iconst (-1) 7 (gd rfl) rfl rfl ?_
        refine g_cmp_eq 10 29 (gd rfl) rfl rfl (fun c14 => ?_) (fun c14 => ?_)
        · skip
          have i15 := r_eq1 (-1) (-1) c14 i13 (in_c (-1) rfl) rfl
          refine g_iconst 0 30 (gd rfl) rfl rfl ?_
          refine g_ireturn (gd rfl) rfl (nb01 (in_w 0 1 (in_c 0 rfl) rfl)) (hp9 _ _ ?_)
          show GG _ _ _ _ _ _ _ _ [.int (Int32.ofInt 0)] _ _ _
          refine g_if_eq 20 23 (gd rfl) rfl rfl (fun c16 => ?_) (fun c16 => ?_)
          · skip
            refine g_iinc 26 (gd rfl) rfl rfl (Nat.le_of_ble_eq_true rfl) (fun z17 e18 => ?_)
            have i19 := in_add 1 160 e18 i5 (in_c 1 rfl) rfl rfl
            refine g_goto 4 (gd rfl) rfl ?_
            have l20 := rl_0 l4_1 (t_add e18 i5 (in_c 1 rfl) rfl) (in_w 0 1 (in_c 1 rfl) rfl)
            exact gg_w (by omega) (gg_f (gf_cons rfl (gf_cons rfl (gf_cons rfl gf_nil))) (ih4  y4_1 z17  (rl_w 0 160 l20 j4_1 (in_w 0 160 i19 rfl) rfl) (in_w 0 160 i19 rfl) l20 (m_up mm4 (t_add e18 i5 (in_c 1 rfl) rfl) (in_w 1 1 (in_c 1 rfl) rfl))))
          · skip
            exact zn_ne c16 (in_c 0 rfl) rfl
        · skip
          have i21 := r_ne1 0 31 c14 i13 (in_c (-1) rfl) rfl
          refine g_aload_n 11 (gd rfl) rfl rfl ?_
          refine g_getA (q2 := 4) 14 (gd rfl) rfl rfl rfl rfl rfl ?_
          refine g_iload_n 15 (gd rfl) rfl rfl ?_
          refine g_iaload 16 (gd rfl) rfl (n := 160) rfl (in_ix i5 rfl) (fun z22 e23 => ?_)
          have q24 : z11 = z22 := (e12).trans e23.symm
          subst q24
          refine g_aload_n 17 (gd rfl) rfl rfl ?_
          refine g_getA (q2 := 5) 20 (gd rfl) rfl rfl rfl rfl rfl ?_
          refine g_iload_n 21 (gd rfl) rfl rfl ?_
          refine g_iaload 22 (gd rfl) rfl (n := 160) rfl (in_ix i5 rfl) (fun z25 e26 => ?_)
          have i27 := inv_I hI (n := 160) (t := 0) 0 31 rfl (in_ix i5 rfl) rfl e26
          refine g_cmp_eq 25 29 (gd rfl) rfl rfl (fun c28 => ?_) (fun c28 => ?_)
          · skip
            refine g_iconst 0 30 (gd rfl) rfl rfl ?_
            refine g_ireturn (gd rfl) rfl (nb01 (in_w 0 1 (in_c 0 rfl) rfl)) (hp9 _ _ ?_)
            show GG _ _ _ _ _ _ _ _ [.int (Int32.ofInt 0)] _ _ _
            refine g_if_eq 20 23 (gd rfl) rfl rfl (fun c29 => ?_) (fun c29 => ?_)
            · skip
              refine g_iinc 26 (gd rfl) rfl rfl (Nat.le_of_ble_eq_true rfl) (fun z30 e31 => ?_)
              have i32 := in_add 1 160 e31 i5 (in_c 1 rfl) rfl rfl
              refine g_goto 4 (gd rfl) rfl ?_
              have l33 := rl_0 l4_1 (t_add e31 i5 (in_c 1 rfl) rfl) (in_w 0 1 (in_c 1 rfl) rfl)
              exact gg_w (by omega) (gg_f (gf_cons rfl (gf_cons rfl (gf_cons rfl gf_nil))) (ih4  y4_1 z30  (rl_w 0 160 l33 j4_1 (in_w 0 160 i32 rfl) rfl) (in_w 0 160 i32 rfl) l33 (m_up mm4 (t_add e31 i5 (in_c 1 rfl) rfl) (in_w 1 1 (in_c 1 rfl) rfl))))
            · skip
              exact zn_ne c29 (in_c 0 rfl) rfl
          · skip
            refine g_iconst 1 26 (gd rfl) rfl rfl ?_
            refine g_goto 30 (gd rfl) rfl ?_
            refine g_ireturn (gd rfl) rfl (nb01 (in_w 0 1 (in_c 1 rfl) rfl)) (hp9 _ _ ?_)
            show GG _ _ _ _ _ _ _ _ [.int (Int32.ofInt 1)] _ _ _
            refine g_if_eq 20 23 (gd rfl) rfl rfl (fun c34 => ?_) (fun c34 => ?_)
            · skip
              exact zn_eq c34 (in_c 1 rfl) rfl
            · skip
              refine g_iinc 23 (gd rfl) rfl rfl (Nat.le_of_ble_eq_true rfl) (fun z35 e36 => ?_)
              have i37 := in_add 1 161 e36 j4_1 (in_c 1 rfl) rfl rfl
              refine g_iinc 26 (gd rfl) rfl rfl (Nat.le_of_ble_eq_true rfl) (fun z38 e39 => ?_)
              have i40 := in_add 1 160 e39 i5 (in_c 1 rfl) rfl rfl
              refine g_goto 4 (gd rfl) rfl ?_
              have l41 := rl_1 l4_1 (t_add e36 j4_1 (in_c 1 rfl) rfl) (in_c 1 rfl) (t_add e39 i5 (in_c 1 rfl) rfl) (in_c 1 rfl) rfl
              exact gg_w (by omega) (gg_f (gf_cons rfl (gf_cons rfl (gf_cons rfl gf_nil))) (ih4  z35 z38  (rl_w 0 160 l41 i37 (in_w 0 160 i40 rfl) rfl) (in_w 0 160 i40 rfl) l41 (m_up mm4 (t_add e39 i5 (in_c 1 rfl) rfl) (in_w 1 1 (in_c 1 rfl) rfl))))
  refine g_enter2 (k := 98) (N := 145801) (by omega) rfl (Nat.le_of_ble_eq_true rfl) ?_
  refine g_iconst 0 1 (gd rfl) rfl rfl ?_
  refine g_istore_n 2 (gd rfl) rfl (Nat.le_of_ble_eq_true rfl) ?_
  refine g_iconst 0 3 (gd rfl) rfl rfl ?_
  refine g_istore_n 4 (gd rfl) rfl (Nat.le_of_ble_eq_true rfl) ?_
  have l42 := rl_in 0 (in_c 0 rfl) (in_c 0 rfl) rfl
  exact gg_w (by omega) (gg_f (gf_cons rfl (gf_cons rfl (gf_cons rfl gf_nil))) (ct4 161  (Int32.ofInt 0) (Int32.ofInt 0)  (rl_w 0 160 l42 (in_c 0 rfl) (in_w 0 160 (in_c 0 rfl) rfl) rfl) (in_w 0 160 (in_c 0 rfl) rfl) l42 (m_in 161 (in_w 0 160 (in_c 0 rfl) rfl) rfl)))

/-- GraphHouse$Graph.joints -/
theorem k_98_32 {Z : AmZ} {A : Nat → Nat} {s : GS} {ex : va_W} {d : Nat} {X : AmX}  (hd : 3 ≤ d) (hI : Inv s)  : GC Z d 98 [.ref (A 32)] (WW Z A s ++ ex) 0 0 (fun v u => ∃ z : Int32, v = some (.int z) ∧ u = WW Z A s ++ ex ∧ In z 0 160) X := by
  intro post xp hP hX
  have ct4 : ∀ (k4 : Nat) (y4_1 : Int32) (y4_2 : Int32), In y4_1 0 160 → In y4_2 0 160 → (y4_1).toInt ≤ (y4_2).toInt + 0 → 160 - (y4_2).toInt < (k4 : Int) → GG Z (d - 1) 98 post (gx xp) (1 + k4 * 900) 4 (fun j => xlook j [(0, .ref (A 32)), (1, .int y4_1), (2, .int y4_2)]) [] (WW Z A s ++ ex) 0 0 := by
    intro k4
    induction k4 with
    | zero => intro y4_1 y4_2 j4_1 j4_2 l4_1 mm4; exact m_no mm4 j4_2 rfl
    | succ k4 ih4 =>
      intro y4_1 y4_2 j4_1 j4_2 l4_1 mm4
      refine gg_w (M := 1 + k4 * 900 + 900) (by omega) ?_
      refine g_iload_n 5 (gd rfl) rfl rfl ?_
      refine g_aload_n 6 (gd rfl) rfl rfl ?_
      refine g_getI 9 (gd rfl) rfl rfl rfl (fun z1 e2 => ?_)
      have i3 := inv_F hI 0 160 rfl e2
      refine g_cmp_ge 12 29 (gd rfl) rfl rfl (fun c4 => ?_) (fun c4 => ?_)
      · skip
        refine g_iload_n 30 (gd rfl) rfl rfl ?_
        exact g_ireturn (gd rfl) rfl rfl (hP _ _ ⟨y4_1, rfl, rfl, in_w 0 160 j4_1 rfl⟩)
      · skip
        have i5 := r_lt1 0 159 c4 j4_2 i3 rfl
        have i6 := r_lt2 1 160 c4 j4_2 i3 rfl
        refine g_aload_n 13 (gd rfl) rfl rfl ?_
        refine g_iload_n 14 (gd rfl) rfl rfl ?_
        refine g_callv (X := _) (As := [.int y4_2]) (r := []) (b := A 32) (q := 32) 17 (gd rfl) rfl rfl rfl rfl rfl (ww_o rfl) (Nat.le_of_ble_eq_true rfl) (mc := 0) (ms := 0) (Nat.zero_le _) (Nat.zero_le _) (P := fun v u => _) ?_ (fun e u h => h) (fun v u h => h)
        intro po7 xx8 hp9 hx10
        refine g_enter2 (k := 97) (N := 300) (by omega) rfl (Nat.le_of_ble_eq_true rfl) ?_
        refine g_aload_n 1 (gd rfl) rfl rfl ?_
        refine g_getA (q2 := 34) 4 (gd rfl) rfl rfl rfl rfl rfl ?_
        refine g_iload_n 5 (gd rfl) rfl rfl ?_
        refine g_iaload 6 (gd rfl) rfl (n := 160) rfl (in_ix i5 rfl) (fun z11 e12 => ?_)
        have i13 := inv_I hI (n := 160) (t := 0) (-1) 31 rfl (in_ix i5 rfl) rfl e12
        refine g_iconst (-1) 7 (gd rfl) rfl rfl ?_
        refine g_cmp_eq 10 29 (gd rfl) rfl rfl (fun c14 => ?_) (fun c14 => ?_)
        · skip
          have i15 := r_eq1 (-1) (-1) c14 i13 (in_c (-1) rfl) rfl
          refine g_iconst 0 30 (gd rfl) rfl rfl ?_
          refine g_ireturn (gd rfl) rfl (nb01 (in_w 0 1 (in_c 0 rfl) rfl)) (hp9 _ _ ?_)
          show GG _ _ _ _ _ _ _ _ [.int (Int32.ofInt 0)] _ _ _
          refine g_if_eq 20 23 (gd rfl) rfl rfl (fun c16 => ?_) (fun c16 => ?_)
          · skip
            refine g_iinc 26 (gd rfl) rfl rfl (Nat.le_of_ble_eq_true rfl) (fun z17 e18 => ?_)
            have i19 := in_add 1 160 e18 i5 (in_c 1 rfl) rfl rfl
            refine g_goto 4 (gd rfl) rfl ?_
            have l20 := rl_0 l4_1 (t_add e18 i5 (in_c 1 rfl) rfl) (in_w 0 1 (in_c 1 rfl) rfl)
            exact gg_w (by omega) (gg_f (gf_cons rfl (gf_cons rfl (gf_cons rfl gf_nil))) (ih4  y4_1 z17  (rl_w 0 160 l20 j4_1 (in_w 0 160 i19 rfl) rfl) (in_w 0 160 i19 rfl) l20 (m_up mm4 (t_add e18 i5 (in_c 1 rfl) rfl) (in_w 1 1 (in_c 1 rfl) rfl))))
          · skip
            exact zn_ne c16 (in_c 0 rfl) rfl
        · skip
          have i21 := r_ne1 0 31 c14 i13 (in_c (-1) rfl) rfl
          refine g_aload_n 11 (gd rfl) rfl rfl ?_
          refine g_getA (q2 := 34) 14 (gd rfl) rfl rfl rfl rfl rfl ?_
          refine g_iload_n 15 (gd rfl) rfl rfl ?_
          refine g_iaload 16 (gd rfl) rfl (n := 160) rfl (in_ix i5 rfl) (fun z22 e23 => ?_)
          have q24 : z11 = z22 := (e12).trans e23.symm
          subst q24
          refine g_aload_n 17 (gd rfl) rfl rfl ?_
          refine g_getA (q2 := 35) 20 (gd rfl) rfl rfl rfl rfl rfl ?_
          refine g_iload_n 21 (gd rfl) rfl rfl ?_
          refine g_iaload 22 (gd rfl) rfl (n := 160) rfl (in_ix i5 rfl) (fun z25 e26 => ?_)
          have i27 := inv_I hI (n := 160) (t := 0) 0 31 rfl (in_ix i5 rfl) rfl e26
          refine g_cmp_eq 25 29 (gd rfl) rfl rfl (fun c28 => ?_) (fun c28 => ?_)
          · skip
            refine g_iconst 0 30 (gd rfl) rfl rfl ?_
            refine g_ireturn (gd rfl) rfl (nb01 (in_w 0 1 (in_c 0 rfl) rfl)) (hp9 _ _ ?_)
            show GG _ _ _ _ _ _ _ _ [.int (Int32.ofInt 0)] _ _ _
            refine g_if_eq 20 23 (gd rfl) rfl rfl (fun c29 => ?_) (fun c29 => ?_)
            · skip
              refine g_iinc 26 (gd rfl) rfl rfl (Nat.le_of_ble_eq_true rfl) (fun z30 e31 => ?_)
              have i32 := in_add 1 160 e31 i5 (in_c 1 rfl) rfl rfl
              refine g_goto 4 (gd rfl) rfl ?_
              have l33 := rl_0 l4_1 (t_add e31 i5 (in_c 1 rfl) rfl) (in_w 0 1 (in_c 1 rfl) rfl)
              exact gg_w (by omega) (gg_f (gf_cons rfl (gf_cons rfl (gf_cons rfl gf_nil))) (ih4  y4_1 z30  (rl_w 0 160 l33 j4_1 (in_w 0 160 i32 rfl) rfl) (in_w 0 160 i32 rfl) l33 (m_up mm4 (t_add e31 i5 (in_c 1 rfl) rfl) (in_w 1 1 (in_c 1 rfl) rfl))))
            · skip
              exact zn_ne c29 (in_c 0 rfl) rfl
          · skip
            refine g_iconst 1 26 (gd rfl) rfl rfl ?_
            refine g_goto 30 (gd rfl) rfl ?_
            refine g_ireturn (gd rfl) rfl (nb01 (in_w 0 1 (in_c 1 rfl) rfl)) (hp9 _ _ ?_)
            show GG _ _ _ _ _ _ _ _ [.int (Int32.ofInt 1)] _ _ _
            refine g_if_eq 20 23 (gd rfl) rfl rfl (fun c34 => ?_) (fun c34 => ?_)
            · skip
              exact zn_eq c34 (in_c 1 rfl) rfl
            · skip
              refine g_iinc 23 (gd rfl) rfl rfl (Nat.le_of_ble_eq_true rfl) (fun z35 e36 => ?_)
              have i37 := in_add 1 161 e36 j4_1 (in_c 1 rfl) rfl rfl
              refine g_iinc 26 (gd rfl) rfl rfl (Nat.le_of_ble_eq_true rfl) (fun z38 e39 => ?_)
              have i40 := in_add 1 160 e39 i5 (in_c 1 rfl) rfl rfl
              refine g_goto 4 (gd rfl) rfl ?_
              have l41 := rl_1 l4_1 (t_add e36 j4_1 (in_c 1 rfl) rfl) (in_c 1 rfl) (t_add e39 i5 (in_c 1 rfl) rfl) (in_c 1 rfl) rfl
              exact gg_w (by omega) (gg_f (gf_cons rfl (gf_cons rfl (gf_cons rfl gf_nil))) (ih4  z35 z38  (rl_w 0 160 l41 i37 (in_w 0 160 i40 rfl) rfl) (in_w 0 160 i40 rfl) l41 (m_up mm4 (t_add e39 i5 (in_c 1 rfl) rfl) (in_w 1 1 (in_c 1 rfl) rfl))))
  refine g_enter2 (k := 98) (N := 145801) (by omega) rfl (Nat.le_of_ble_eq_true rfl) ?_
  refine g_iconst 0 1 (gd rfl) rfl rfl ?_
  refine g_istore_n 2 (gd rfl) rfl (Nat.le_of_ble_eq_true rfl) ?_
  refine g_iconst 0 3 (gd rfl) rfl rfl ?_
  refine g_istore_n 4 (gd rfl) rfl (Nat.le_of_ble_eq_true rfl) ?_
  have l42 := rl_in 0 (in_c 0 rfl) (in_c 0 rfl) rfl
  exact gg_w (by omega) (gg_f (gf_cons rfl (gf_cons rfl (gf_cons rfl gf_nil))) (ct4 161  (Int32.ofInt 0) (Int32.ofInt 0)  (rl_w 0 160 l42 (in_c 0 rfl) (in_w 0 160 (in_c 0 rfl) rfl) rfl) (in_w 0 160 (in_c 0 rfl) rfl) l42 (m_in 161 (in_w 0 160 (in_c 0 rfl) rfl) rfl)))

/-- GraphHouse$Graph.countJoints -/
theorem k_99_2_59 {Z : AmZ} {A : Nat → Nat} {s : GS} {ex : va_W} {d : Nat} {X : AmX}  (hd : 3 ≤ d) (hI : Inv s)  : GC Z d 99 [.ref (A 2), .ref (A 59)] (WW Z A s ++ ex) 0 0 (fun v u => ∃ t : GS, Inv t ∧ v = none ∧ u = WW Z A t ++ ex) X := by
  intro post xp hP hX
  have ct7 : ∀ (k7 : Nat) (s : GS) (y7_2 : Int32), Inv s → In y7_2 0 160 → 160 - (y7_2).toInt < (k7 : Int) → GG Z (d - 1) 99 post (gx xp) (1 + k7 * 900) 7 (fun j => xlook j [(0, .ref (A 2)), (1, .ref (A 59)), (2, .int y7_2)]) [] (WW Z A s ++ ex) 0 0 := by
    intro k7
    induction k7 with
    | zero => intro s y7_2 hI j7_2 mm7; exact m_no mm7 j7_2 rfl
    | succ k7 ih7 =>
      intro s y7_2 hI j7_2 mm7
      refine gg_w (M := 1 + k7 * 900 + 900) (by omega) ?_
      refine g_iload_n 8 (gd rfl) rfl rfl ?_
      refine g_aload_n 9 (gd rfl) rfl rfl ?_
      refine g_getI 12 (gd rfl) rfl rfl rfl (fun z1 e2 => ?_)
      have i3 := inv_F hI 0 160 rfl e2
      refine g_cmp_ge 15 53 (gd rfl) rfl rfl (fun c4 => ?_) (fun c4 => ?_)
      · skip
        exact g_return (gd rfl) rfl (hP _ _ ⟨s, hI, rfl, rfl⟩)
      · skip
        have i5 := r_lt1 0 159 c4 j7_2 i3 rfl
        have i6 := r_lt2 1 160 c4 j7_2 i3 rfl
        refine g_aload_n 16 (gd rfl) rfl rfl ?_
        refine g_iload_n 17 (gd rfl) rfl rfl ?_
        refine g_callv (X := _) (As := [.int y7_2]) (r := []) (b := A 2) (q := 2) 20 (gd rfl) rfl rfl rfl rfl rfl (ww_o rfl) (Nat.le_of_ble_eq_true rfl) (mc := 0) (ms := 0) (Nat.zero_le _) (Nat.zero_le _) (P := fun v u => _) ?_ (fun e u h => h) (fun v u h => h)
        intro po7 xx8 hp9 hx10
        refine g_enter2 (k := 97) (N := 300) (by omega) rfl (Nat.le_of_ble_eq_true rfl) ?_
        refine g_aload_n 1 (gd rfl) rfl rfl ?_
        refine g_getA (q2 := 4) 4 (gd rfl) rfl rfl rfl rfl rfl ?_
        refine g_iload_n 5 (gd rfl) rfl rfl ?_
        refine g_iaload 6 (gd rfl) rfl (n := 160) rfl (in_ix i5 rfl) (fun z11 e12 => ?_)
        have i13 := inv_I hI (n := 160) (t := 0) (-1) 31 rfl (in_ix i5 rfl) rfl e12
        refine g_iconst (-1) 7 (gd rfl) rfl rfl ?_
        refine g_cmp_eq 10 29 (gd rfl) rfl rfl (fun c14 => ?_) (fun c14 => ?_)
        · skip
          have i15 := r_eq1 (-1) (-1) c14 i13 (in_c (-1) rfl) rfl
          refine g_iconst 0 30 (gd rfl) rfl rfl ?_
          refine g_ireturn (gd rfl) rfl (nb01 (in_w 0 1 (in_c 0 rfl) rfl)) (hp9 _ _ ?_)
          show GG _ _ _ _ _ _ _ _ [.int (Int32.ofInt 0)] _ _ _
          refine g_if_eq 23 47 (gd rfl) rfl rfl (fun c16 => ?_) (fun c16 => ?_)
          · skip
            refine g_iinc 50 (gd rfl) rfl rfl (Nat.le_of_ble_eq_true rfl) (fun z17 e18 => ?_)
            have i19 := in_add 1 160 e18 i5 (in_c 1 rfl) rfl rfl
            refine g_goto 7 (gd rfl) rfl ?_
            exact gg_w (by omega) (gg_f (gf_cons rfl (gf_cons rfl (gf_cons rfl gf_nil))) (ih7 s z17 hI (in_w 0 160 i19 rfl) (m_up mm7 (t_add e18 i5 (in_c 1 rfl) rfl) (in_w 1 1 (in_c 1 rfl) rfl))))
          · skip
            exact zn_ne c16 (in_c 0 rfl) rfl
        · skip
          have i20 := r_ne1 0 31 c14 i13 (in_c (-1) rfl) rfl
          refine g_aload_n 11 (gd rfl) rfl rfl ?_
          refine g_getA (q2 := 4) 14 (gd rfl) rfl rfl rfl rfl rfl ?_
          refine g_iload_n 15 (gd rfl) rfl rfl ?_
          refine g_iaload 16 (gd rfl) rfl (n := 160) rfl (in_ix i5 rfl) (fun z21 e22 => ?_)
          have q23 : z11 = z21 := (e12).trans e22.symm
          subst q23
          refine g_aload_n 17 (gd rfl) rfl rfl ?_
          refine g_getA (q2 := 5) 20 (gd rfl) rfl rfl rfl rfl rfl ?_
          refine g_iload_n 21 (gd rfl) rfl rfl ?_
          refine g_iaload 22 (gd rfl) rfl (n := 160) rfl (in_ix i5 rfl) (fun z24 e25 => ?_)
          have i26 := inv_I hI (n := 160) (t := 0) 0 31 rfl (in_ix i5 rfl) rfl e25
          refine g_cmp_eq 25 29 (gd rfl) rfl rfl (fun c27 => ?_) (fun c27 => ?_)
          · skip
            refine g_iconst 0 30 (gd rfl) rfl rfl ?_
            refine g_ireturn (gd rfl) rfl (nb01 (in_w 0 1 (in_c 0 rfl) rfl)) (hp9 _ _ ?_)
            show GG _ _ _ _ _ _ _ _ [.int (Int32.ofInt 0)] _ _ _
            refine g_if_eq 23 47 (gd rfl) rfl rfl (fun c28 => ?_) (fun c28 => ?_)
            · skip
              refine g_iinc 50 (gd rfl) rfl rfl (Nat.le_of_ble_eq_true rfl) (fun z29 e30 => ?_)
              have i31 := in_add 1 160 e30 i5 (in_c 1 rfl) rfl rfl
              refine g_goto 7 (gd rfl) rfl ?_
              exact gg_w (by omega) (gg_f (gf_cons rfl (gf_cons rfl (gf_cons rfl gf_nil))) (ih7 s z29 hI (in_w 0 160 i31 rfl) (m_up mm7 (t_add e30 i5 (in_c 1 rfl) rfl) (in_w 1 1 (in_c 1 rfl) rfl))))
            · skip
              exact zn_ne c28 (in_c 0 rfl) rfl
          · skip
            refine g_iconst 1 26 (gd rfl) rfl rfl ?_
            refine g_goto 30 (gd rfl) rfl ?_
            refine g_ireturn (gd rfl) rfl (nb01 (in_w 0 1 (in_c 1 rfl) rfl)) (hp9 _ _ ?_)
            show GG _ _ _ _ _ _ _ _ [.int (Int32.ofInt 1)] _ _ _
            refine g_if_eq 23 47 (gd rfl) rfl rfl (fun c32 => ?_) (fun c32 => ?_)
            · skip
              exact zn_eq c32 (in_c 1 rfl) rfl
            · skip
              refine g_aload_n 24 (gd rfl) rfl rfl ?_
              refine g_aload_n 25 (gd rfl) rfl rfl ?_
              refine g_getA (q2 := 4) 28 (gd rfl) rfl rfl rfl rfl rfl ?_
              refine g_iload_n 29 (gd rfl) rfl rfl ?_
              refine g_iaload 30 (gd rfl) rfl (n := 160) rfl (in_ix i5 rfl) (fun z33 e34 => ?_)
              have q35 : z11 = z33 := (e12).trans e34.symm
              subst q35
              refine g_dup2 31 (gd rfl) rfl rfl rfl ?_
              refine g_iaload 32 (gd rfl) rfl (n := 32) rfl (in_ix i20 rfl) (fun z36 e37 => ?_)
              refine g_iconst 1 33 (gd rfl) rfl rfl ?_
              refine g_iadd 34 (gd rfl) rfl (fun z38 e39 => ?_)
              refine g_iastore 35 (gd rfl) rfl (n := 32) rfl (in_ix i20 rfl) ?_
              have hI40 := inv_sI (q := 59) (j := z11.toNatClampNeg) hI rfl (in_w (-2147483648) 2147483647 (i_rng z38) rfl)
              refine g_aload_n 36 (gd rfl) rfl rfl ?_
              refine g_aload_n 37 (gd rfl) rfl rfl ?_
              refine g_getA (q2 := 5) 40 (gd rfl) rfl rfl rfl rfl rfl ?_
              refine g_iload_n 41 (gd rfl) rfl rfl ?_
              refine g_iaload 42 (gd rfl) rfl (n := 160) rfl (in_ix i5 rfl) (fun z41 e42 => ?_)
              have q43 : z24 = z41 := (sI_ne rfl (e25)).trans e42.symm
              subst q43
              refine g_dup2 43 (gd rfl) rfl rfl rfl ?_
              refine g_iaload 44 (gd rfl) rfl (n := 32) rfl (in_ix i26 rfl) (fun z44 e45 => ?_)
              refine g_iconst 1 45 (gd rfl) rfl rfl ?_
              refine g_iadd 46 (gd rfl) rfl (fun z46 e47 => ?_)
              refine g_iastore 47 (gd rfl) rfl (n := 32) rfl (in_ix i26 rfl) ?_
              have hI48 := inv_sI (q := 59) (j := z24.toNatClampNeg) hI40 rfl (in_w (-2147483648) 2147483647 (i_rng z46) rfl)
              refine g_iinc 50 (gd rfl) rfl rfl (Nat.le_of_ble_eq_true rfl) (fun z49 e50 => ?_)
              have i51 := in_add 1 160 e50 i5 (in_c 1 rfl) rfl rfl
              refine g_goto 7 (gd rfl) rfl ?_
              exact gg_w (by omega) (gg_f (gf_cons rfl (gf_cons rfl (gf_cons rfl gf_nil))) (ih7 (sI (sI s 59 z11.toNatClampNeg z38) 59 z24.toNatClampNeg z46) z49 hI48 (in_w 0 160 i51 rfl) (m_up mm7 (t_add e50 i5 (in_c 1 rfl) rfl) (in_w 1 1 (in_c 1 rfl) rfl))))
  refine g_enter2 (k := 99) (N := 145801) (by omega) rfl (Nat.le_of_ble_eq_true rfl) ?_
  refine g_aload_n 1 (gd rfl) rfl rfl ?_
  refine g_iconst 0 2 (gd rfl) rfl rfl ?_
  refine g_calls (As := [.ref (A 59), .int (Int32.ofInt 0)]) (r := []) 5 (gd rfl) rfl rfl rfl rfl rfl (Nat.le_of_ble_eq_true rfl) (Nat.zero_le _) (Nat.zero_le _) (k_fillI 59 (by omega) hI (in_c 0 rfl) (n := 32) rfl rfl rfl rfl) (fun v u h => ?_)
  obtain ⟨s52, hI53, rfl, rfl⟩ := h
  show GG _ _ _ _ _ _ _ _ [] _ _ _
  refine g_iconst 0 6 (gd rfl) rfl rfl ?_
  refine g_istore_n 7 (gd rfl) rfl (Nat.le_of_ble_eq_true rfl) ?_
  exact gg_w (by omega) (gg_f (gf_cons rfl (gf_cons rfl (gf_cons rfl gf_nil))) (ct7 161 s52 (Int32.ofInt 0) hI53 (in_w 0 160 (in_c 0 rfl) rfl) (m_in 161 (in_w 0 160 (in_c 0 rfl) rfl) rfl)))

/-- GraphHouse$Graph.countJoints -/
theorem k_99_2_91 {Z : AmZ} {A : Nat → Nat} {s : GS} {ex : va_W} {d : Nat} {X : AmX}  (hd : 3 ≤ d) (hI : Inv s)  : GC Z d 99 [.ref (A 2), .ref (A 91)] (WW Z A s ++ ex) 0 0 (fun v u => ∃ t : GS, Inv t ∧ v = none ∧ u = WW Z A t ++ ex) X := by
  intro post xp hP hX
  have ct7 : ∀ (k7 : Nat) (s : GS) (y7_2 : Int32), Inv s → In y7_2 0 160 → 160 - (y7_2).toInt < (k7 : Int) → GG Z (d - 1) 99 post (gx xp) (1 + k7 * 900) 7 (fun j => xlook j [(0, .ref (A 2)), (1, .ref (A 91)), (2, .int y7_2)]) [] (WW Z A s ++ ex) 0 0 := by
    intro k7
    induction k7 with
    | zero => intro s y7_2 hI j7_2 mm7; exact m_no mm7 j7_2 rfl
    | succ k7 ih7 =>
      intro s y7_2 hI j7_2 mm7
      refine gg_w (M := 1 + k7 * 900 + 900) (by omega) ?_
      refine g_iload_n 8 (gd rfl) rfl rfl ?_
      refine g_aload_n 9 (gd rfl) rfl rfl ?_
      refine g_getI 12 (gd rfl) rfl rfl rfl (fun z1 e2 => ?_)
      have i3 := inv_F hI 0 160 rfl e2
      refine g_cmp_ge 15 53 (gd rfl) rfl rfl (fun c4 => ?_) (fun c4 => ?_)
      · skip
        exact g_return (gd rfl) rfl (hP _ _ ⟨s, hI, rfl, rfl⟩)
      · skip
        have i5 := r_lt1 0 159 c4 j7_2 i3 rfl
        have i6 := r_lt2 1 160 c4 j7_2 i3 rfl
        refine g_aload_n 16 (gd rfl) rfl rfl ?_
        refine g_iload_n 17 (gd rfl) rfl rfl ?_
        refine g_callv (X := _) (As := [.int y7_2]) (r := []) (b := A 2) (q := 2) 20 (gd rfl) rfl rfl rfl rfl rfl (ww_o rfl) (Nat.le_of_ble_eq_true rfl) (mc := 0) (ms := 0) (Nat.zero_le _) (Nat.zero_le _) (P := fun v u => _) ?_ (fun e u h => h) (fun v u h => h)
        intro po7 xx8 hp9 hx10
        refine g_enter2 (k := 97) (N := 300) (by omega) rfl (Nat.le_of_ble_eq_true rfl) ?_
        refine g_aload_n 1 (gd rfl) rfl rfl ?_
        refine g_getA (q2 := 4) 4 (gd rfl) rfl rfl rfl rfl rfl ?_
        refine g_iload_n 5 (gd rfl) rfl rfl ?_
        refine g_iaload 6 (gd rfl) rfl (n := 160) rfl (in_ix i5 rfl) (fun z11 e12 => ?_)
        have i13 := inv_I hI (n := 160) (t := 0) (-1) 31 rfl (in_ix i5 rfl) rfl e12
        refine g_iconst (-1) 7 (gd rfl) rfl rfl ?_
        refine g_cmp_eq 10 29 (gd rfl) rfl rfl (fun c14 => ?_) (fun c14 => ?_)
        · skip
          have i15 := r_eq1 (-1) (-1) c14 i13 (in_c (-1) rfl) rfl
          refine g_iconst 0 30 (gd rfl) rfl rfl ?_
          refine g_ireturn (gd rfl) rfl (nb01 (in_w 0 1 (in_c 0 rfl) rfl)) (hp9 _ _ ?_)
          show GG _ _ _ _ _ _ _ _ [.int (Int32.ofInt 0)] _ _ _
          refine g_if_eq 23 47 (gd rfl) rfl rfl (fun c16 => ?_) (fun c16 => ?_)
          · skip
            refine g_iinc 50 (gd rfl) rfl rfl (Nat.le_of_ble_eq_true rfl) (fun z17 e18 => ?_)
            have i19 := in_add 1 160 e18 i5 (in_c 1 rfl) rfl rfl
            refine g_goto 7 (gd rfl) rfl ?_
            exact gg_w (by omega) (gg_f (gf_cons rfl (gf_cons rfl (gf_cons rfl gf_nil))) (ih7 s z17 hI (in_w 0 160 i19 rfl) (m_up mm7 (t_add e18 i5 (in_c 1 rfl) rfl) (in_w 1 1 (in_c 1 rfl) rfl))))
          · skip
            exact zn_ne c16 (in_c 0 rfl) rfl
        · skip
          have i20 := r_ne1 0 31 c14 i13 (in_c (-1) rfl) rfl
          refine g_aload_n 11 (gd rfl) rfl rfl ?_
          refine g_getA (q2 := 4) 14 (gd rfl) rfl rfl rfl rfl rfl ?_
          refine g_iload_n 15 (gd rfl) rfl rfl ?_
          refine g_iaload 16 (gd rfl) rfl (n := 160) rfl (in_ix i5 rfl) (fun z21 e22 => ?_)
          have q23 : z11 = z21 := (e12).trans e22.symm
          subst q23
          refine g_aload_n 17 (gd rfl) rfl rfl ?_
          refine g_getA (q2 := 5) 20 (gd rfl) rfl rfl rfl rfl rfl ?_
          refine g_iload_n 21 (gd rfl) rfl rfl ?_
          refine g_iaload 22 (gd rfl) rfl (n := 160) rfl (in_ix i5 rfl) (fun z24 e25 => ?_)
          have i26 := inv_I hI (n := 160) (t := 0) 0 31 rfl (in_ix i5 rfl) rfl e25
          refine g_cmp_eq 25 29 (gd rfl) rfl rfl (fun c27 => ?_) (fun c27 => ?_)
          · skip
            refine g_iconst 0 30 (gd rfl) rfl rfl ?_
            refine g_ireturn (gd rfl) rfl (nb01 (in_w 0 1 (in_c 0 rfl) rfl)) (hp9 _ _ ?_)
            show GG _ _ _ _ _ _ _ _ [.int (Int32.ofInt 0)] _ _ _
            refine g_if_eq 23 47 (gd rfl) rfl rfl (fun c28 => ?_) (fun c28 => ?_)
            · skip
              refine g_iinc 50 (gd rfl) rfl rfl (Nat.le_of_ble_eq_true rfl) (fun z29 e30 => ?_)
              have i31 := in_add 1 160 e30 i5 (in_c 1 rfl) rfl rfl
              refine g_goto 7 (gd rfl) rfl ?_
              exact gg_w (by omega) (gg_f (gf_cons rfl (gf_cons rfl (gf_cons rfl gf_nil))) (ih7 s z29 hI (in_w 0 160 i31 rfl) (m_up mm7 (t_add e30 i5 (in_c 1 rfl) rfl) (in_w 1 1 (in_c 1 rfl) rfl))))
            · skip
              exact zn_ne c28 (in_c 0 rfl) rfl
          · skip
            refine g_iconst 1 26 (gd rfl) rfl rfl ?_
            refine g_goto 30 (gd rfl) rfl ?_
            refine g_ireturn (gd rfl) rfl (nb01 (in_w 0 1 (in_c 1 rfl) rfl)) (hp9 _ _ ?_)
            show GG _ _ _ _ _ _ _ _ [.int (Int32.ofInt 1)] _ _ _
            refine g_if_eq 23 47 (gd rfl) rfl rfl (fun c32 => ?_) (fun c32 => ?_)
            · skip
              exact zn_eq c32 (in_c 1 rfl) rfl
            · skip
              refine g_aload_n 24 (gd rfl) rfl rfl ?_
              refine g_aload_n 25 (gd rfl) rfl rfl ?_
              refine g_getA (q2 := 4) 28 (gd rfl) rfl rfl rfl rfl rfl ?_
              refine g_iload_n 29 (gd rfl) rfl rfl ?_
              refine g_iaload 30 (gd rfl) rfl (n := 160) rfl (in_ix i5 rfl) (fun z33 e34 => ?_)
              have q35 : z11 = z33 := (e12).trans e34.symm
              subst q35
              refine g_dup2 31 (gd rfl) rfl rfl rfl ?_
              refine g_iaload 32 (gd rfl) rfl (n := 32) rfl (in_ix i20 rfl) (fun z36 e37 => ?_)
              refine g_iconst 1 33 (gd rfl) rfl rfl ?_
              refine g_iadd 34 (gd rfl) rfl (fun z38 e39 => ?_)
              refine g_iastore 35 (gd rfl) rfl (n := 32) rfl (in_ix i20 rfl) ?_
              have hI40 := inv_sI (q := 91) (j := z11.toNatClampNeg) hI rfl (in_w (-2147483648) 2147483647 (i_rng z38) rfl)
              refine g_aload_n 36 (gd rfl) rfl rfl ?_
              refine g_aload_n 37 (gd rfl) rfl rfl ?_
              refine g_getA (q2 := 5) 40 (gd rfl) rfl rfl rfl rfl rfl ?_
              refine g_iload_n 41 (gd rfl) rfl rfl ?_
              refine g_iaload 42 (gd rfl) rfl (n := 160) rfl (in_ix i5 rfl) (fun z41 e42 => ?_)
              have q43 : z24 = z41 := (sI_ne rfl (e25)).trans e42.symm
              subst q43
              refine g_dup2 43 (gd rfl) rfl rfl rfl ?_
              refine g_iaload 44 (gd rfl) rfl (n := 32) rfl (in_ix i26 rfl) (fun z44 e45 => ?_)
              refine g_iconst 1 45 (gd rfl) rfl rfl ?_
              refine g_iadd 46 (gd rfl) rfl (fun z46 e47 => ?_)
              refine g_iastore 47 (gd rfl) rfl (n := 32) rfl (in_ix i26 rfl) ?_
              have hI48 := inv_sI (q := 91) (j := z24.toNatClampNeg) hI40 rfl (in_w (-2147483648) 2147483647 (i_rng z46) rfl)
              refine g_iinc 50 (gd rfl) rfl rfl (Nat.le_of_ble_eq_true rfl) (fun z49 e50 => ?_)
              have i51 := in_add 1 160 e50 i5 (in_c 1 rfl) rfl rfl
              refine g_goto 7 (gd rfl) rfl ?_
              exact gg_w (by omega) (gg_f (gf_cons rfl (gf_cons rfl (gf_cons rfl gf_nil))) (ih7 (sI (sI s 91 z11.toNatClampNeg z38) 91 z24.toNatClampNeg z46) z49 hI48 (in_w 0 160 i51 rfl) (m_up mm7 (t_add e50 i5 (in_c 1 rfl) rfl) (in_w 1 1 (in_c 1 rfl) rfl))))
  refine g_enter2 (k := 99) (N := 145801) (by omega) rfl (Nat.le_of_ble_eq_true rfl) ?_
  refine g_aload_n 1 (gd rfl) rfl rfl ?_
  refine g_iconst 0 2 (gd rfl) rfl rfl ?_
  refine g_calls (As := [.ref (A 91), .int (Int32.ofInt 0)]) (r := []) 5 (gd rfl) rfl rfl rfl rfl rfl (Nat.le_of_ble_eq_true rfl) (Nat.zero_le _) (Nat.zero_le _) (k_fillI 91 (by omega) hI (in_c 0 rfl) (n := 32) rfl rfl rfl rfl) (fun v u h => ?_)
  obtain ⟨s52, hI53, rfl, rfl⟩ := h
  show GG _ _ _ _ _ _ _ _ [] _ _ _
  refine g_iconst 0 6 (gd rfl) rfl rfl ?_
  refine g_istore_n 7 (gd rfl) rfl (Nat.le_of_ble_eq_true rfl) ?_
  exact gg_w (by omega) (gg_f (gf_cons rfl (gf_cons rfl (gf_cons rfl gf_nil))) (ct7 161 s52 (Int32.ofInt 0) hI53 (in_w 0 160 (in_c 0 rfl) rfl) (m_in 161 (in_w 0 160 (in_c 0 rfl) rfl) rfl)))

/-- GraphHouse$Graph.countJoints -/
theorem k_99_32_59 {Z : AmZ} {A : Nat → Nat} {s : GS} {ex : va_W} {d : Nat} {X : AmX}  (hd : 3 ≤ d) (hI : Inv s)  : GC Z d 99 [.ref (A 32), .ref (A 59)] (WW Z A s ++ ex) 0 0 (fun v u => ∃ t : GS, Inv t ∧ v = none ∧ u = WW Z A t ++ ex) X := by
  intro post xp hP hX
  have ct7 : ∀ (k7 : Nat) (s : GS) (y7_2 : Int32), Inv s → In y7_2 0 160 → 160 - (y7_2).toInt < (k7 : Int) → GG Z (d - 1) 99 post (gx xp) (1 + k7 * 900) 7 (fun j => xlook j [(0, .ref (A 32)), (1, .ref (A 59)), (2, .int y7_2)]) [] (WW Z A s ++ ex) 0 0 := by
    intro k7
    induction k7 with
    | zero => intro s y7_2 hI j7_2 mm7; exact m_no mm7 j7_2 rfl
    | succ k7 ih7 =>
      intro s y7_2 hI j7_2 mm7
      refine gg_w (M := 1 + k7 * 900 + 900) (by omega) ?_
      refine g_iload_n 8 (gd rfl) rfl rfl ?_
      refine g_aload_n 9 (gd rfl) rfl rfl ?_
      refine g_getI 12 (gd rfl) rfl rfl rfl (fun z1 e2 => ?_)
      have i3 := inv_F hI 0 160 rfl e2
      refine g_cmp_ge 15 53 (gd rfl) rfl rfl (fun c4 => ?_) (fun c4 => ?_)
      · skip
        exact g_return (gd rfl) rfl (hP _ _ ⟨s, hI, rfl, rfl⟩)
      · skip
        have i5 := r_lt1 0 159 c4 j7_2 i3 rfl
        have i6 := r_lt2 1 160 c4 j7_2 i3 rfl
        refine g_aload_n 16 (gd rfl) rfl rfl ?_
        refine g_iload_n 17 (gd rfl) rfl rfl ?_
        refine g_callv (X := _) (As := [.int y7_2]) (r := []) (b := A 32) (q := 32) 20 (gd rfl) rfl rfl rfl rfl rfl (ww_o rfl) (Nat.le_of_ble_eq_true rfl) (mc := 0) (ms := 0) (Nat.zero_le _) (Nat.zero_le _) (P := fun v u => _) ?_ (fun e u h => h) (fun v u h => h)
        intro po7 xx8 hp9 hx10
        refine g_enter2 (k := 97) (N := 300) (by omega) rfl (Nat.le_of_ble_eq_true rfl) ?_
        refine g_aload_n 1 (gd rfl) rfl rfl ?_
        refine g_getA (q2 := 34) 4 (gd rfl) rfl rfl rfl rfl rfl ?_
        refine g_iload_n 5 (gd rfl) rfl rfl ?_
        refine g_iaload 6 (gd rfl) rfl (n := 160) rfl (in_ix i5 rfl) (fun z11 e12 => ?_)
        have i13 := inv_I hI (n := 160) (t := 0) (-1) 31 rfl (in_ix i5 rfl) rfl e12
        refine g_iconst (-1) 7 (gd rfl) rfl rfl ?_
        refine g_cmp_eq 10 29 (gd rfl) rfl rfl (fun c14 => ?_) (fun c14 => ?_)
        · skip
          have i15 := r_eq1 (-1) (-1) c14 i13 (in_c (-1) rfl) rfl
          refine g_iconst 0 30 (gd rfl) rfl rfl ?_
          refine g_ireturn (gd rfl) rfl (nb01 (in_w 0 1 (in_c 0 rfl) rfl)) (hp9 _ _ ?_)
          show GG _ _ _ _ _ _ _ _ [.int (Int32.ofInt 0)] _ _ _
          refine g_if_eq 23 47 (gd rfl) rfl rfl (fun c16 => ?_) (fun c16 => ?_)
          · skip
            refine g_iinc 50 (gd rfl) rfl rfl (Nat.le_of_ble_eq_true rfl) (fun z17 e18 => ?_)
            have i19 := in_add 1 160 e18 i5 (in_c 1 rfl) rfl rfl
            refine g_goto 7 (gd rfl) rfl ?_
            exact gg_w (by omega) (gg_f (gf_cons rfl (gf_cons rfl (gf_cons rfl gf_nil))) (ih7 s z17 hI (in_w 0 160 i19 rfl) (m_up mm7 (t_add e18 i5 (in_c 1 rfl) rfl) (in_w 1 1 (in_c 1 rfl) rfl))))
          · skip
            exact zn_ne c16 (in_c 0 rfl) rfl
        · skip
          have i20 := r_ne1 0 31 c14 i13 (in_c (-1) rfl) rfl
          refine g_aload_n 11 (gd rfl) rfl rfl ?_
          refine g_getA (q2 := 34) 14 (gd rfl) rfl rfl rfl rfl rfl ?_
          refine g_iload_n 15 (gd rfl) rfl rfl ?_
          refine g_iaload 16 (gd rfl) rfl (n := 160) rfl (in_ix i5 rfl) (fun z21 e22 => ?_)
          have q23 : z11 = z21 := (e12).trans e22.symm
          subst q23
          refine g_aload_n 17 (gd rfl) rfl rfl ?_
          refine g_getA (q2 := 35) 20 (gd rfl) rfl rfl rfl rfl rfl ?_
          refine g_iload_n 21 (gd rfl) rfl rfl ?_
          refine g_iaload 22 (gd rfl) rfl (n := 160) rfl (in_ix i5 rfl) (fun z24 e25 => ?_)
          have i26 := inv_I hI (n := 160) (t := 0) 0 31 rfl (in_ix i5 rfl) rfl e25
          refine g_cmp_eq 25 29 (gd rfl) rfl rfl (fun c27 => ?_) (fun c27 => ?_)
          · skip
            refine g_iconst 0 30 (gd rfl) rfl rfl ?_
            refine g_ireturn (gd rfl) rfl (nb01 (in_w 0 1 (in_c 0 rfl) rfl)) (hp9 _ _ ?_)
            show GG _ _ _ _ _ _ _ _ [.int (Int32.ofInt 0)] _ _ _
            refine g_if_eq 23 47 (gd rfl) rfl rfl (fun c28 => ?_) (fun c28 => ?_)
            · skip
              refine g_iinc 50 (gd rfl) rfl rfl (Nat.le_of_ble_eq_true rfl) (fun z29 e30 => ?_)
              have i31 := in_add 1 160 e30 i5 (in_c 1 rfl) rfl rfl
              refine g_goto 7 (gd rfl) rfl ?_
              exact gg_w (by omega) (gg_f (gf_cons rfl (gf_cons rfl (gf_cons rfl gf_nil))) (ih7 s z29 hI (in_w 0 160 i31 rfl) (m_up mm7 (t_add e30 i5 (in_c 1 rfl) rfl) (in_w 1 1 (in_c 1 rfl) rfl))))
            · skip
              exact zn_ne c28 (in_c 0 rfl) rfl
          · skip
            refine g_iconst 1 26 (gd rfl) rfl rfl ?_
            refine g_goto 30 (gd rfl) rfl ?_
            refine g_ireturn (gd rfl) rfl (nb01 (in_w 0 1 (in_c 1 rfl) rfl)) (hp9 _ _ ?_)
            show GG _ _ _ _ _ _ _ _ [.int (Int32.ofInt 1)] _ _ _
            refine g_if_eq 23 47 (gd rfl) rfl rfl (fun c32 => ?_) (fun c32 => ?_)
            · skip
              exact zn_eq c32 (in_c 1 rfl) rfl
            · skip
              refine g_aload_n 24 (gd rfl) rfl rfl ?_
              refine g_aload_n 25 (gd rfl) rfl rfl ?_
              refine g_getA (q2 := 34) 28 (gd rfl) rfl rfl rfl rfl rfl ?_
              refine g_iload_n 29 (gd rfl) rfl rfl ?_
              refine g_iaload 30 (gd rfl) rfl (n := 160) rfl (in_ix i5 rfl) (fun z33 e34 => ?_)
              have q35 : z11 = z33 := (e12).trans e34.symm
              subst q35
              refine g_dup2 31 (gd rfl) rfl rfl rfl ?_
              refine g_iaload 32 (gd rfl) rfl (n := 32) rfl (in_ix i20 rfl) (fun z36 e37 => ?_)
              refine g_iconst 1 33 (gd rfl) rfl rfl ?_
              refine g_iadd 34 (gd rfl) rfl (fun z38 e39 => ?_)
              refine g_iastore 35 (gd rfl) rfl (n := 32) rfl (in_ix i20 rfl) ?_
              have hI40 := inv_sI (q := 59) (j := z11.toNatClampNeg) hI rfl (in_w (-2147483648) 2147483647 (i_rng z38) rfl)
              refine g_aload_n 36 (gd rfl) rfl rfl ?_
              refine g_aload_n 37 (gd rfl) rfl rfl ?_
              refine g_getA (q2 := 35) 40 (gd rfl) rfl rfl rfl rfl rfl ?_
              refine g_iload_n 41 (gd rfl) rfl rfl ?_
              refine g_iaload 42 (gd rfl) rfl (n := 160) rfl (in_ix i5 rfl) (fun z41 e42 => ?_)
              have q43 : z24 = z41 := (sI_ne rfl (e25)).trans e42.symm
              subst q43
              refine g_dup2 43 (gd rfl) rfl rfl rfl ?_
              refine g_iaload 44 (gd rfl) rfl (n := 32) rfl (in_ix i26 rfl) (fun z44 e45 => ?_)
              refine g_iconst 1 45 (gd rfl) rfl rfl ?_
              refine g_iadd 46 (gd rfl) rfl (fun z46 e47 => ?_)
              refine g_iastore 47 (gd rfl) rfl (n := 32) rfl (in_ix i26 rfl) ?_
              have hI48 := inv_sI (q := 59) (j := z24.toNatClampNeg) hI40 rfl (in_w (-2147483648) 2147483647 (i_rng z46) rfl)
              refine g_iinc 50 (gd rfl) rfl rfl (Nat.le_of_ble_eq_true rfl) (fun z49 e50 => ?_)
              have i51 := in_add 1 160 e50 i5 (in_c 1 rfl) rfl rfl
              refine g_goto 7 (gd rfl) rfl ?_
              exact gg_w (by omega) (gg_f (gf_cons rfl (gf_cons rfl (gf_cons rfl gf_nil))) (ih7 (sI (sI s 59 z11.toNatClampNeg z38) 59 z24.toNatClampNeg z46) z49 hI48 (in_w 0 160 i51 rfl) (m_up mm7 (t_add e50 i5 (in_c 1 rfl) rfl) (in_w 1 1 (in_c 1 rfl) rfl))))
  refine g_enter2 (k := 99) (N := 145801) (by omega) rfl (Nat.le_of_ble_eq_true rfl) ?_
  refine g_aload_n 1 (gd rfl) rfl rfl ?_
  refine g_iconst 0 2 (gd rfl) rfl rfl ?_
  refine g_calls (As := [.ref (A 59), .int (Int32.ofInt 0)]) (r := []) 5 (gd rfl) rfl rfl rfl rfl rfl (Nat.le_of_ble_eq_true rfl) (Nat.zero_le _) (Nat.zero_le _) (k_fillI 59 (by omega) hI (in_c 0 rfl) (n := 32) rfl rfl rfl rfl) (fun v u h => ?_)
  obtain ⟨s52, hI53, rfl, rfl⟩ := h
  show GG _ _ _ _ _ _ _ _ [] _ _ _
  refine g_iconst 0 6 (gd rfl) rfl rfl ?_
  refine g_istore_n 7 (gd rfl) rfl (Nat.le_of_ble_eq_true rfl) ?_
  exact gg_w (by omega) (gg_f (gf_cons rfl (gf_cons rfl (gf_cons rfl gf_nil))) (ct7 161 s52 (Int32.ofInt 0) hI53 (in_w 0 160 (in_c 0 rfl) rfl) (m_in 161 (in_w 0 160 (in_c 0 rfl) rfl) rfl)))

/-- GraphHouse$Graph.countJoints -/
theorem k_99_32_91 {Z : AmZ} {A : Nat → Nat} {s : GS} {ex : va_W} {d : Nat} {X : AmX}  (hd : 3 ≤ d) (hI : Inv s)  : GC Z d 99 [.ref (A 32), .ref (A 91)] (WW Z A s ++ ex) 0 0 (fun v u => ∃ t : GS, Inv t ∧ v = none ∧ u = WW Z A t ++ ex) X := by
  intro post xp hP hX
  have ct7 : ∀ (k7 : Nat) (s : GS) (y7_2 : Int32), Inv s → In y7_2 0 160 → 160 - (y7_2).toInt < (k7 : Int) → GG Z (d - 1) 99 post (gx xp) (1 + k7 * 900) 7 (fun j => xlook j [(0, .ref (A 32)), (1, .ref (A 91)), (2, .int y7_2)]) [] (WW Z A s ++ ex) 0 0 := by
    intro k7
    induction k7 with
    | zero => intro s y7_2 hI j7_2 mm7; exact m_no mm7 j7_2 rfl
    | succ k7 ih7 =>
      intro s y7_2 hI j7_2 mm7
      refine gg_w (M := 1 + k7 * 900 + 900) (by omega) ?_
      refine g_iload_n 8 (gd rfl) rfl rfl ?_
      refine g_aload_n 9 (gd rfl) rfl rfl ?_
      refine g_getI 12 (gd rfl) rfl rfl rfl (fun z1 e2 => ?_)
      have i3 := inv_F hI 0 160 rfl e2
      refine g_cmp_ge 15 53 (gd rfl) rfl rfl (fun c4 => ?_) (fun c4 => ?_)
      · skip
        exact g_return (gd rfl) rfl (hP _ _ ⟨s, hI, rfl, rfl⟩)
      · skip
        have i5 := r_lt1 0 159 c4 j7_2 i3 rfl
        have i6 := r_lt2 1 160 c4 j7_2 i3 rfl
        refine g_aload_n 16 (gd rfl) rfl rfl ?_
        refine g_iload_n 17 (gd rfl) rfl rfl ?_
        refine g_callv (X := _) (As := [.int y7_2]) (r := []) (b := A 32) (q := 32) 20 (gd rfl) rfl rfl rfl rfl rfl (ww_o rfl) (Nat.le_of_ble_eq_true rfl) (mc := 0) (ms := 0) (Nat.zero_le _) (Nat.zero_le _) (P := fun v u => _) ?_ (fun e u h => h) (fun v u h => h)
        intro po7 xx8 hp9 hx10
        refine g_enter2 (k := 97) (N := 300) (by omega) rfl (Nat.le_of_ble_eq_true rfl) ?_
        refine g_aload_n 1 (gd rfl) rfl rfl ?_
        refine g_getA (q2 := 34) 4 (gd rfl) rfl rfl rfl rfl rfl ?_
        refine g_iload_n 5 (gd rfl) rfl rfl ?_
        refine g_iaload 6 (gd rfl) rfl (n := 160) rfl (in_ix i5 rfl) (fun z11 e12 => ?_)
        have i13 := inv_I hI (n := 160) (t := 0) (-1) 31 rfl (in_ix i5 rfl) rfl e12
        refine g_iconst (-1) 7 (gd rfl) rfl rfl ?_
        refine g_cmp_eq 10 29 (gd rfl) rfl rfl (fun c14 => ?_) (fun c14 => ?_)
        · skip
          have i15 := r_eq1 (-1) (-1) c14 i13 (in_c (-1) rfl) rfl
          refine g_iconst 0 30 (gd rfl) rfl rfl ?_
          refine g_ireturn (gd rfl) rfl (nb01 (in_w 0 1 (in_c 0 rfl) rfl)) (hp9 _ _ ?_)
          show GG _ _ _ _ _ _ _ _ [.int (Int32.ofInt 0)] _ _ _
          refine g_if_eq 23 47 (gd rfl) rfl rfl (fun c16 => ?_) (fun c16 => ?_)
          · skip
            refine g_iinc 50 (gd rfl) rfl rfl (Nat.le_of_ble_eq_true rfl) (fun z17 e18 => ?_)
            have i19 := in_add 1 160 e18 i5 (in_c 1 rfl) rfl rfl
            refine g_goto 7 (gd rfl) rfl ?_
            exact gg_w (by omega) (gg_f (gf_cons rfl (gf_cons rfl (gf_cons rfl gf_nil))) (ih7 s z17 hI (in_w 0 160 i19 rfl) (m_up mm7 (t_add e18 i5 (in_c 1 rfl) rfl) (in_w 1 1 (in_c 1 rfl) rfl))))
          · skip
            exact zn_ne c16 (in_c 0 rfl) rfl
        · skip
          have i20 := r_ne1 0 31 c14 i13 (in_c (-1) rfl) rfl
          refine g_aload_n 11 (gd rfl) rfl rfl ?_
          refine g_getA (q2 := 34) 14 (gd rfl) rfl rfl rfl rfl rfl ?_
          refine g_iload_n 15 (gd rfl) rfl rfl ?_
          refine g_iaload 16 (gd rfl) rfl (n := 160) rfl (in_ix i5 rfl) (fun z21 e22 => ?_)
          have q23 : z11 = z21 := (e12).trans e22.symm
          subst q23
          refine g_aload_n 17 (gd rfl) rfl rfl ?_
          refine g_getA (q2 := 35) 20 (gd rfl) rfl rfl rfl rfl rfl ?_
          refine g_iload_n 21 (gd rfl) rfl rfl ?_
          refine g_iaload 22 (gd rfl) rfl (n := 160) rfl (in_ix i5 rfl) (fun z24 e25 => ?_)
          have i26 := inv_I hI (n := 160) (t := 0) 0 31 rfl (in_ix i5 rfl) rfl e25
          refine g_cmp_eq 25 29 (gd rfl) rfl rfl (fun c27 => ?_) (fun c27 => ?_)
          · skip
            refine g_iconst 0 30 (gd rfl) rfl rfl ?_
            refine g_ireturn (gd rfl) rfl (nb01 (in_w 0 1 (in_c 0 rfl) rfl)) (hp9 _ _ ?_)
            show GG _ _ _ _ _ _ _ _ [.int (Int32.ofInt 0)] _ _ _
            refine g_if_eq 23 47 (gd rfl) rfl rfl (fun c28 => ?_) (fun c28 => ?_)
            · skip
              refine g_iinc 50 (gd rfl) rfl rfl (Nat.le_of_ble_eq_true rfl) (fun z29 e30 => ?_)
              have i31 := in_add 1 160 e30 i5 (in_c 1 rfl) rfl rfl
              refine g_goto 7 (gd rfl) rfl ?_
              exact gg_w (by omega) (gg_f (gf_cons rfl (gf_cons rfl (gf_cons rfl gf_nil))) (ih7 s z29 hI (in_w 0 160 i31 rfl) (m_up mm7 (t_add e30 i5 (in_c 1 rfl) rfl) (in_w 1 1 (in_c 1 rfl) rfl))))
            · skip
              exact zn_ne c28 (in_c 0 rfl) rfl
          · skip
            refine g_iconst 1 26 (gd rfl) rfl rfl ?_
            refine g_goto 30 (gd rfl) rfl ?_
            refine g_ireturn (gd rfl) rfl (nb01 (in_w 0 1 (in_c 1 rfl) rfl)) (hp9 _ _ ?_)
            show GG _ _ _ _ _ _ _ _ [.int (Int32.ofInt 1)] _ _ _
            refine g_if_eq 23 47 (gd rfl) rfl rfl (fun c32 => ?_) (fun c32 => ?_)
            · skip
              exact zn_eq c32 (in_c 1 rfl) rfl
            · skip
              refine g_aload_n 24 (gd rfl) rfl rfl ?_
              refine g_aload_n 25 (gd rfl) rfl rfl ?_
              refine g_getA (q2 := 34) 28 (gd rfl) rfl rfl rfl rfl rfl ?_
              refine g_iload_n 29 (gd rfl) rfl rfl ?_
              refine g_iaload 30 (gd rfl) rfl (n := 160) rfl (in_ix i5 rfl) (fun z33 e34 => ?_)
              have q35 : z11 = z33 := (e12).trans e34.symm
              subst q35
              refine g_dup2 31 (gd rfl) rfl rfl rfl ?_
              refine g_iaload 32 (gd rfl) rfl (n := 32) rfl (in_ix i20 rfl) (fun z36 e37 => ?_)
              refine g_iconst 1 33 (gd rfl) rfl rfl ?_
              refine g_iadd 34 (gd rfl) rfl (fun z38 e39 => ?_)
              refine g_iastore 35 (gd rfl) rfl (n := 32) rfl (in_ix i20 rfl) ?_
              have hI40 := inv_sI (q := 91) (j := z11.toNatClampNeg) hI rfl (in_w (-2147483648) 2147483647 (i_rng z38) rfl)
              refine g_aload_n 36 (gd rfl) rfl rfl ?_
              refine g_aload_n 37 (gd rfl) rfl rfl ?_
              refine g_getA (q2 := 35) 40 (gd rfl) rfl rfl rfl rfl rfl ?_
              refine g_iload_n 41 (gd rfl) rfl rfl ?_
              refine g_iaload 42 (gd rfl) rfl (n := 160) rfl (in_ix i5 rfl) (fun z41 e42 => ?_)
              have q43 : z24 = z41 := (sI_ne rfl (e25)).trans e42.symm
              subst q43
              refine g_dup2 43 (gd rfl) rfl rfl rfl ?_
              refine g_iaload 44 (gd rfl) rfl (n := 32) rfl (in_ix i26 rfl) (fun z44 e45 => ?_)
              refine g_iconst 1 45 (gd rfl) rfl rfl ?_
              refine g_iadd 46 (gd rfl) rfl (fun z46 e47 => ?_)
              refine g_iastore 47 (gd rfl) rfl (n := 32) rfl (in_ix i26 rfl) ?_
              have hI48 := inv_sI (q := 91) (j := z24.toNatClampNeg) hI40 rfl (in_w (-2147483648) 2147483647 (i_rng z46) rfl)
              refine g_iinc 50 (gd rfl) rfl rfl (Nat.le_of_ble_eq_true rfl) (fun z49 e50 => ?_)
              have i51 := in_add 1 160 e50 i5 (in_c 1 rfl) rfl rfl
              refine g_goto 7 (gd rfl) rfl ?_
              exact gg_w (by omega) (gg_f (gf_cons rfl (gf_cons rfl (gf_cons rfl gf_nil))) (ih7 (sI (sI s 91 z11.toNatClampNeg z38) 91 z24.toNatClampNeg z46) z49 hI48 (in_w 0 160 i51 rfl) (m_up mm7 (t_add e50 i5 (in_c 1 rfl) rfl) (in_w 1 1 (in_c 1 rfl) rfl))))
  refine g_enter2 (k := 99) (N := 145801) (by omega) rfl (Nat.le_of_ble_eq_true rfl) ?_
  refine g_aload_n 1 (gd rfl) rfl rfl ?_
  refine g_iconst 0 2 (gd rfl) rfl rfl ?_
  refine g_calls (As := [.ref (A 91), .int (Int32.ofInt 0)]) (r := []) 5 (gd rfl) rfl rfl rfl rfl rfl (Nat.le_of_ble_eq_true rfl) (Nat.zero_le _) (Nat.zero_le _) (k_fillI 91 (by omega) hI (in_c 0 rfl) (n := 32) rfl rfl rfl rfl) (fun v u h => ?_)
  obtain ⟨s52, hI53, rfl, rfl⟩ := h
  show GG _ _ _ _ _ _ _ _ [] _ _ _
  refine g_iconst 0 6 (gd rfl) rfl rfl ?_
  refine g_istore_n 7 (gd rfl) rfl (Nat.le_of_ble_eq_true rfl) ?_
  exact gg_w (by omega) (gg_f (gf_cons rfl (gf_cons rfl (gf_cons rfl gf_nil))) (ct7 161 s52 (Int32.ofInt 0) hI53 (in_w 0 160 (in_c 0 rfl) rfl) (m_in 161 (in_w 0 160 (in_c 0 rfl) rfl) rfl)))

/-- GraphHouse$Graph.freePlace -/
theorem k_101_2 {Z : AmZ} {A : Nat → Nat} {s : GS} {ex : va_W} {d : Nat} {X : AmX}  (hd : 1 ≤ d) (hI : Inv s)  : GC Z d 101 [.ref (A 2)] (WW Z A s ++ ex) 0 0 (fun v u => ∃ z : Int32, v = some (.int z) ∧ u = WW Z A s ++ ex ∧ In z (-1) 159) X := by
  intro post xp hP hX
  have ct2 : ∀ (k2 : Nat) (y2_1 : Int32), In y2_1 0 160 → 160 - (y2_1).toInt < (k2 : Int) → GG Z (d - 1) 101 post (gx xp) (1 + k2 * 900) 2 (fun j => xlook j [(0, .ref (A 2)), (1, .int y2_1)]) [] (WW Z A s ++ ex) 0 0 := by
    intro k2
    induction k2 with
    | zero => intro y2_1 j2_1 mm2; exact m_no mm2 j2_1 rfl
    | succ k2 ih2 =>
      intro y2_1 j2_1 mm2
      refine gg_w (M := 1 + k2 * 900 + 900) (by omega) ?_
      refine g_iload_n 3 (gd rfl) rfl rfl ?_
      refine g_sipush 160 6 (gd rfl) rfl rfl ?_
      refine g_cmp_ge 9 27 (gd rfl) rfl rfl (fun c1 => ?_) (fun c1 => ?_)
      · skip
        have i2 := r_le2 160 160 c1 (in_c 160 rfl) j2_1 rfl
        refine g_iconst (-1) 28 (gd rfl) rfl rfl ?_
        exact g_ireturn (gd rfl) rfl rfl (hP _ _ ⟨(Int32.ofInt (-1)), rfl, rfl, in_w (-1) 159 (in_c (-1) rfl) rfl⟩)
      · skip
        have i3 := r_lt1 0 159 c1 j2_1 (in_c 160 rfl) rfl
        refine g_aload_n 10 (gd rfl) rfl rfl ?_
        refine g_getA (q2 := 4) 13 (gd rfl) rfl rfl rfl rfl rfl ?_
        refine g_iload_n 14 (gd rfl) rfl rfl ?_
        refine g_iaload 15 (gd rfl) rfl (n := 160) rfl (in_ix i3 rfl) (fun z4 e5 => ?_)
        have i6 := inv_I hI (n := 160) (t := 0) (-1) 31 rfl (in_ix i3 rfl) rfl e5
        refine g_iconst (-1) 16 (gd rfl) rfl rfl ?_
        refine g_cmp_ne 19 21 (gd rfl) rfl rfl (fun c7 => ?_) (fun c7 => ?_)
        · skip
          have i8 := r_ne1 0 31 c7 i6 (in_c (-1) rfl) rfl
          refine g_iinc 24 (gd rfl) rfl rfl (Nat.le_of_ble_eq_true rfl) (fun z9 e10 => ?_)
          have i11 := in_add 1 160 e10 i3 (in_c 1 rfl) rfl rfl
          refine g_goto 2 (gd rfl) rfl ?_
          exact gg_w (by omega) (gg_f (gf_cons rfl (gf_cons rfl gf_nil)) (ih2  z9  (in_w 0 160 i11 rfl) (m_up mm2 (t_add e10 i3 (in_c 1 rfl) rfl) (in_w 1 1 (in_c 1 rfl) rfl))))
        · skip
          have i12 := r_eq1 (-1) (-1) c7 i6 (in_c (-1) rfl) rfl
          refine g_iload_n 20 (gd rfl) rfl rfl ?_
          exact g_ireturn (gd rfl) rfl rfl (hP _ _ ⟨y2_1, rfl, rfl, in_w (-1) 159 i3 rfl⟩)
  refine g_enter2 (k := 101) (N := 145801) (by omega) rfl (Nat.le_of_ble_eq_true rfl) ?_
  refine g_iconst 0 1 (gd rfl) rfl rfl ?_
  refine g_istore_n 2 (gd rfl) rfl (Nat.le_of_ble_eq_true rfl) ?_
  exact gg_w (by omega) (gg_f (gf_cons rfl (gf_cons rfl gf_nil)) (ct2 161  (Int32.ofInt 0)  (in_w 0 160 (in_c 0 rfl) rfl) (m_in 161 (in_w 0 160 (in_c 0 rfl) rfl) rfl)))

/-- GraphHouse$Groups.begin -/
theorem k_114_86_2 {Z : AmZ} {A : Nat → Nat} {s : GS} {ex : va_W} {d : Nat} {X : AmX}  (hd : 4 ≤ d) (hI : Inv s)  : GC Z d 114 [.ref (A 86), .ref (A 2)] (WW Z A s ++ ex) 0 0 (fun v u => ∃ t : GS, Inv t ∧ v = none ∧ u = WW Z A t ++ ex) X := by
  intro post xp hP hX
  have ct30 : ∀ (k30 : Nat) (s : GS) (y30_2 : Int32), Inv s → In y30_2 0 32 → 32 - (y30_2).toInt < (k30 : Int) → GG Z (d - 1) 114 post (gx xp) (1 + k30 * 900) 30 (fun j => xlook j [(0, .ref (A 86)), (1, .ref (A 2)), (2, .int y30_2)]) [] (WW Z A s ++ ex) 0 0 := by
    intro k30
    induction k30 with
    | zero => intro s y30_2 hI j30_2 mm30; exact m_no mm30 j30_2 rfl
    | succ k30 ih30 =>
      intro s y30_2 hI j30_2 mm30
      refine gg_w (M := 1 + k30 * 900 + 900) (by omega) ?_
      refine g_iload_n 31 (gd rfl) rfl rfl ?_
      refine g_aload_n 32 (gd rfl) rfl rfl ?_
      refine g_getI 35 (gd rfl) rfl rfl rfl (fun z1 e2 => ?_)
      have i3 := inv_F hI 0 32 rfl e2
      refine g_cmp_ge 38 72 (gd rfl) rfl rfl (fun c4 => ?_) (fun c4 => ?_)
      · skip
        exact g_return (gd rfl) rfl (hP _ _ ⟨s, hI, rfl, rfl⟩)
      · skip
        have i5 := r_lt1 0 31 c4 j30_2 i3 rfl
        have i6 := r_lt2 1 32 c4 j30_2 i3 rfl
        refine g_aload_n 39 (gd rfl) rfl rfl ?_
        refine g_getA (q2 := 89) 42 (gd rfl) rfl rfl rfl rfl rfl ?_
        refine g_iload_n 43 (gd rfl) rfl rfl ?_
        refine g_iload_n 44 (gd rfl) rfl rfl ?_
        refine g_iastore 45 (gd rfl) rfl (n := 32) rfl (in_ix i5 rfl) ?_
        have hI7 := inv_sI (q := 89) (j := y30_2.toNatClampNeg) hI rfl (in_w 0 31 i5 rfl)
        refine g_aload_n 46 (gd rfl) rfl rfl ?_
        refine g_getA (q2 := 90) 49 (gd rfl) rfl rfl rfl rfl rfl ?_
        refine g_iload_n 50 (gd rfl) rfl rfl ?_
        refine g_iconst 1 51 (gd rfl) rfl rfl ?_
        refine g_iload_n 52 (gd rfl) rfl rfl ?_
        refine g_ishl 53 (gd rfl) rfl (fun z8 e9 => ?_)
        refine g_iastore 54 (gd rfl) rfl (n := 32) rfl (in_ix i5 rfl) ?_
        have hI10 := inv_sI (q := 90) (j := y30_2.toNatClampNeg) hI7 rfl (in_w (-2147483648) 2147483647 (i_rng z8) rfl)
        refine g_aload_n 55 (gd rfl) rfl rfl ?_
        refine g_getA (q2 := 92) 58 (gd rfl) rfl rfl rfl rfl rfl ?_
        refine g_iload_n 59 (gd rfl) rfl rfl ?_
        refine g_aload_n 60 (gd rfl) rfl rfl ?_
        refine g_getA (q2 := 91) 63 (gd rfl) rfl rfl rfl rfl rfl ?_
        refine g_iload_n 64 (gd rfl) rfl rfl ?_
        refine g_iaload 65 (gd rfl) rfl (n := 32) rfl (in_ix i5 rfl) (fun z11 e12 => ?_)
        refine g_iastore 66 (gd rfl) rfl (n := 32) rfl (in_ix i5 rfl) ?_
        have hI13 := inv_sI (q := 92) (j := y30_2.toNatClampNeg) hI10 rfl (in_w (-2147483648) 2147483647 (i_rng z11) rfl)
        refine g_iinc 69 (gd rfl) rfl rfl (Nat.le_of_ble_eq_true rfl) (fun z14 e15 => ?_)
        have i16 := in_add 1 32 e15 i5 (in_c 1 rfl) rfl rfl
        refine g_goto 30 (gd rfl) rfl ?_
        exact gg_w (by omega) (gg_f (gf_cons rfl (gf_cons rfl (gf_cons rfl gf_nil))) (ih30 (sI (sI (sI s 89 y30_2.toNatClampNeg y30_2) 90 y30_2.toNatClampNeg z8) 92 y30_2.toNatClampNeg z11) z14 hI13 (in_w 0 32 i16 rfl) (m_up mm30 (t_add e15 i5 (in_c 1 rfl) rfl) (in_w 1 1 (in_c 1 rfl) rfl))))
  refine g_enter2 (k := 114) (N := 30601) (by omega) rfl (Nat.le_of_ble_eq_true rfl) ?_
  refine g_aload_n 1 (gd rfl) rfl rfl ?_
  refine g_callv (X := _) (As := []) (r := []) (b := A 2) (q := 2) 4 (gd rfl) rfl rfl rfl rfl rfl (ww_o rfl) (Nat.le_of_ble_eq_true rfl) (Nat.zero_le _) (Nat.zero_le _) (k_106_2 (by omega) hI ) (fun e u h => h) (fun v u h => ?_)
  obtain ⟨s17, hI18, rfl, rfl⟩ := h
  show GG _ _ _ _ _ _ _ _ [] _ _ _
  refine g_aload_n 5 (gd rfl) rfl rfl ?_
  refine g_aload_n 6 (gd rfl) rfl rfl ?_
  refine g_callv (X := _) (As := []) (r := [.ref (A 86)]) (b := A 2) (q := 2) 9 (gd rfl) rfl rfl rfl rfl rfl (ww_o rfl) (Nat.le_of_ble_eq_true rfl) (Nat.zero_le _) (Nat.zero_le _) (k_98_2 (by omega) hI18 ) (fun e u h => h) (fun v u h => ?_)
  obtain ⟨z21, rfl, rfl, i22⟩ := h
  show GG _ _ _ _ _ _ _ _ [.int z21, .ref (A 86)] _ _ _
  refine g_putI 12 (gd rfl) rfl rfl rfl rfl ?_
  have hI23 := inv_sF (q := 86) (j := 5) hI18 rfl (in_w 0 160 i22 rfl)
  refine g_aload_n 13 (gd rfl) rfl rfl ?_
  refine g_aload_n 14 (gd rfl) rfl rfl ?_
  refine g_getA (q2 := 91) 17 (gd rfl) rfl rfl rfl rfl rfl ?_
  refine g_callv (X := _) (As := [.ref (A 91)]) (r := []) (b := A 2) (q := 2) 20 (gd rfl) rfl rfl rfl rfl rfl (ww_o rfl) (Nat.le_of_ble_eq_true rfl) (Nat.zero_le _) (Nat.zero_le _) (k_99_2_91 (by omega) hI23 ) (fun e u h => h) (fun v u h => ?_)
  obtain ⟨s24, hI25, rfl, rfl⟩ := h
  show GG _ _ _ _ _ _ _ _ [] _ _ _
  refine g_aload_n 21 (gd rfl) rfl rfl ?_
  refine g_getA (q2 := 90) 24 (gd rfl) rfl rfl rfl rfl rfl ?_
  refine g_iconst 0 25 (gd rfl) rfl rfl ?_
  refine g_calls (As := [.ref (A 90), .int (Int32.ofInt 0)]) (r := []) 28 (gd rfl) rfl rfl rfl rfl rfl (Nat.le_of_ble_eq_true rfl) (Nat.zero_le _) (Nat.zero_le _) (k_fillI 90 (by omega) hI25 (in_c 0 rfl) (n := 32) rfl rfl rfl rfl) (fun v u h => ?_)
  obtain ⟨s28, hI29, rfl, rfl⟩ := h
  show GG _ _ _ _ _ _ _ _ [] _ _ _
  refine g_iconst 0 29 (gd rfl) rfl rfl ?_
  refine g_istore_n 30 (gd rfl) rfl (Nat.le_of_ble_eq_true rfl) ?_
  exact gg_w (by omega) (gg_f (gf_cons rfl (gf_cons rfl (gf_cons rfl gf_nil))) (ct30 33 s28 (Int32.ofInt 0) hI29 (in_w 0 32 (in_c 0 rfl) rfl) (m_in 33 (in_w 0 32 (in_c 0 rfl) rfl) rfl)))

/-- GraphHouse$Groups.begin -/
theorem k_114_86_32 {Z : AmZ} {A : Nat → Nat} {s : GS} {ex : va_W} {d : Nat} {X : AmX}  (hd : 4 ≤ d) (hI : Inv s)  : GC Z d 114 [.ref (A 86), .ref (A 32)] (WW Z A s ++ ex) 0 0 (fun v u => ∃ t : GS, Inv t ∧ v = none ∧ u = WW Z A t ++ ex) X := by
  intro post xp hP hX
  have ct30 : ∀ (k30 : Nat) (s : GS) (y30_2 : Int32), Inv s → In y30_2 0 32 → 32 - (y30_2).toInt < (k30 : Int) → GG Z (d - 1) 114 post (gx xp) (1 + k30 * 900) 30 (fun j => xlook j [(0, .ref (A 86)), (1, .ref (A 32)), (2, .int y30_2)]) [] (WW Z A s ++ ex) 0 0 := by
    intro k30
    induction k30 with
    | zero => intro s y30_2 hI j30_2 mm30; exact m_no mm30 j30_2 rfl
    | succ k30 ih30 =>
      intro s y30_2 hI j30_2 mm30
      refine gg_w (M := 1 + k30 * 900 + 900) (by omega) ?_
      refine g_iload_n 31 (gd rfl) rfl rfl ?_
      refine g_aload_n 32 (gd rfl) rfl rfl ?_
      refine g_getI 35 (gd rfl) rfl rfl rfl (fun z1 e2 => ?_)
      have i3 := inv_F hI 0 32 rfl e2
      refine g_cmp_ge 38 72 (gd rfl) rfl rfl (fun c4 => ?_) (fun c4 => ?_)
      · skip
        exact g_return (gd rfl) rfl (hP _ _ ⟨s, hI, rfl, rfl⟩)
      · skip
        have i5 := r_lt1 0 31 c4 j30_2 i3 rfl
        have i6 := r_lt2 1 32 c4 j30_2 i3 rfl
        refine g_aload_n 39 (gd rfl) rfl rfl ?_
        refine g_getA (q2 := 89) 42 (gd rfl) rfl rfl rfl rfl rfl ?_
        refine g_iload_n 43 (gd rfl) rfl rfl ?_
        refine g_iload_n 44 (gd rfl) rfl rfl ?_
        refine g_iastore 45 (gd rfl) rfl (n := 32) rfl (in_ix i5 rfl) ?_
        have hI7 := inv_sI (q := 89) (j := y30_2.toNatClampNeg) hI rfl (in_w 0 31 i5 rfl)
        refine g_aload_n 46 (gd rfl) rfl rfl ?_
        refine g_getA (q2 := 90) 49 (gd rfl) rfl rfl rfl rfl rfl ?_
        refine g_iload_n 50 (gd rfl) rfl rfl ?_
        refine g_iconst 1 51 (gd rfl) rfl rfl ?_
        refine g_iload_n 52 (gd rfl) rfl rfl ?_
        refine g_ishl 53 (gd rfl) rfl (fun z8 e9 => ?_)
        refine g_iastore 54 (gd rfl) rfl (n := 32) rfl (in_ix i5 rfl) ?_
        have hI10 := inv_sI (q := 90) (j := y30_2.toNatClampNeg) hI7 rfl (in_w (-2147483648) 2147483647 (i_rng z8) rfl)
        refine g_aload_n 55 (gd rfl) rfl rfl ?_
        refine g_getA (q2 := 92) 58 (gd rfl) rfl rfl rfl rfl rfl ?_
        refine g_iload_n 59 (gd rfl) rfl rfl ?_
        refine g_aload_n 60 (gd rfl) rfl rfl ?_
        refine g_getA (q2 := 91) 63 (gd rfl) rfl rfl rfl rfl rfl ?_
        refine g_iload_n 64 (gd rfl) rfl rfl ?_
        refine g_iaload 65 (gd rfl) rfl (n := 32) rfl (in_ix i5 rfl) (fun z11 e12 => ?_)
        refine g_iastore 66 (gd rfl) rfl (n := 32) rfl (in_ix i5 rfl) ?_
        have hI13 := inv_sI (q := 92) (j := y30_2.toNatClampNeg) hI10 rfl (in_w (-2147483648) 2147483647 (i_rng z11) rfl)
        refine g_iinc 69 (gd rfl) rfl rfl (Nat.le_of_ble_eq_true rfl) (fun z14 e15 => ?_)
        have i16 := in_add 1 32 e15 i5 (in_c 1 rfl) rfl rfl
        refine g_goto 30 (gd rfl) rfl ?_
        exact gg_w (by omega) (gg_f (gf_cons rfl (gf_cons rfl (gf_cons rfl gf_nil))) (ih30 (sI (sI (sI s 89 y30_2.toNatClampNeg y30_2) 90 y30_2.toNatClampNeg z8) 92 y30_2.toNatClampNeg z11) z14 hI13 (in_w 0 32 i16 rfl) (m_up mm30 (t_add e15 i5 (in_c 1 rfl) rfl) (in_w 1 1 (in_c 1 rfl) rfl))))
  refine g_enter2 (k := 114) (N := 30601) (by omega) rfl (Nat.le_of_ble_eq_true rfl) ?_
  refine g_aload_n 1 (gd rfl) rfl rfl ?_
  refine g_callv (X := _) (As := []) (r := []) (b := A 32) (q := 32) 4 (gd rfl) rfl rfl rfl rfl rfl (ww_o rfl) (Nat.le_of_ble_eq_true rfl) (Nat.zero_le _) (Nat.zero_le _) (k_106_32 (by omega) hI ) (fun e u h => h) (fun v u h => ?_)
  obtain ⟨s17, hI18, rfl, rfl⟩ := h
  show GG _ _ _ _ _ _ _ _ [] _ _ _
  refine g_aload_n 5 (gd rfl) rfl rfl ?_
  refine g_aload_n 6 (gd rfl) rfl rfl ?_
  refine g_callv (X := _) (As := []) (r := [.ref (A 86)]) (b := A 32) (q := 32) 9 (gd rfl) rfl rfl rfl rfl rfl (ww_o rfl) (Nat.le_of_ble_eq_true rfl) (Nat.zero_le _) (Nat.zero_le _) (k_98_32 (by omega) hI18 ) (fun e u h => h) (fun v u h => ?_)
  obtain ⟨z21, rfl, rfl, i22⟩ := h
  show GG _ _ _ _ _ _ _ _ [.int z21, .ref (A 86)] _ _ _
  refine g_putI 12 (gd rfl) rfl rfl rfl rfl ?_
  have hI23 := inv_sF (q := 86) (j := 5) hI18 rfl (in_w 0 160 i22 rfl)
  refine g_aload_n 13 (gd rfl) rfl rfl ?_
  refine g_aload_n 14 (gd rfl) rfl rfl ?_
  refine g_getA (q2 := 91) 17 (gd rfl) rfl rfl rfl rfl rfl ?_
  refine g_callv (X := _) (As := [.ref (A 91)]) (r := []) (b := A 32) (q := 32) 20 (gd rfl) rfl rfl rfl rfl rfl (ww_o rfl) (Nat.le_of_ble_eq_true rfl) (Nat.zero_le _) (Nat.zero_le _) (k_99_32_91 (by omega) hI23 ) (fun e u h => h) (fun v u h => ?_)
  obtain ⟨s24, hI25, rfl, rfl⟩ := h
  show GG _ _ _ _ _ _ _ _ [] _ _ _
  refine g_aload_n 21 (gd rfl) rfl rfl ?_
  refine g_getA (q2 := 90) 24 (gd rfl) rfl rfl rfl rfl rfl ?_
  refine g_iconst 0 25 (gd rfl) rfl rfl ?_
  refine g_calls (As := [.ref (A 90), .int (Int32.ofInt 0)]) (r := []) 28 (gd rfl) rfl rfl rfl rfl rfl (Nat.le_of_ble_eq_true rfl) (Nat.zero_le _) (Nat.zero_le _) (k_fillI 90 (by omega) hI25 (in_c 0 rfl) (n := 32) rfl rfl rfl rfl) (fun v u h => ?_)
  obtain ⟨s28, hI29, rfl, rfl⟩ := h
  show GG _ _ _ _ _ _ _ _ [] _ _ _
  refine g_iconst 0 29 (gd rfl) rfl rfl ?_
  refine g_istore_n 30 (gd rfl) rfl (Nat.le_of_ble_eq_true rfl) ?_
  exact gg_w (by omega) (gg_f (gf_cons rfl (gf_cons rfl (gf_cons rfl gf_nil))) (ct30 33 s28 (Int32.ofInt 0) hI29 (in_w 0 32 (in_c 0 rfl) rfl) (m_in 33 (in_w 0 32 (in_c 0 rfl) rfl) rfl)))

/-- GraphHouse$Groups.score -/
theorem k_118_86 {Z : AmZ} {A : Nat → Nat} {s : GS} {ex : va_W} {d : Nat} {X : AmX} {x1 : Int32} {x2 : Int32} (hd : 1 ≤ d) (hI : Inv s) (h1 : In x1 0 31) (h2 : In x2 0 31) : GC Z d 118 [.ref (A 86), .int x1, .int x2] (WW Z A s ++ ex) 0 0 (fun v u => ∃ z : Int64, v = some (.long z) ∧ u = WW Z A s ++ ex) X := by
  intro post xp hP hX
  refine g_enter2 (k := 118) (N := 900) (by omega) rfl (Nat.le_of_ble_eq_true rfl) ?_
  refine g_aload_n 1 (gd rfl) rfl rfl ?_
  refine g_getA (q2 := 89) 4 (gd rfl) rfl rfl rfl rfl rfl ?_
  refine g_iload_n 5 (gd rfl) rfl rfl ?_
  refine g_iaload 6 (gd rfl) rfl (n := 32) rfl (in_ix h1 rfl) (fun z1 e2 => ?_)
  have i3 := inv_I hI (n := 32) (t := 0) 0 31 rfl (in_ix h1 rfl) rfl e2
  refine g_iload_n 7 (gd rfl) rfl rfl ?_
  refine g_cmp_ne 10 26 (gd rfl) rfl rfl (fun c4 => ?_) (fun c4 => ?_)
  · skip
    refine g_aload_n 27 (gd rfl) rfl rfl ?_
    refine g_getA (q2 := 92) 30 (gd rfl) rfl rfl rfl rfl rfl ?_
    refine g_iload_n 31 (gd rfl) rfl rfl ?_
    refine g_iaload 32 (gd rfl) rfl (n := 32) rfl (in_ix h2 rfl) (fun z5 e6 => ?_)
    refine g_istore_n 33 (gd rfl) rfl (Nat.le_of_ble_eq_true rfl) ?_
    refine g_ldc2_w 2 36 (gd rfl) rfl rfl ?_
    refine g_aload_n 37 (gd rfl) rfl rfl ?_
    refine g_getI 40 (gd rfl) rfl rfl rfl (fun z7 e8 => ?_)
    have i9 := inv_F hI 0 160 rfl e8
    refine g_i2l 41 (gd rfl) rfl (fun z10 e11 => ?_)
    have i12 := l_i e11 i9
    refine g_lmul 42 (gd rfl) rfl (fun z13 e14 => ?_)
    refine g_aload_n 43 (gd rfl) rfl rfl ?_
    refine g_getA (q2 := 93) 46 (gd rfl) rfl rfl rfl rfl rfl ?_
    refine g_iload_n 47 (gd rfl) rfl rfl ?_
    refine g_iaload 48 (gd rfl) rfl (n := 32) rfl (in_ix h2 rfl) (fun z15 e16 => ?_)
    refine g_i2l 49 (gd rfl) rfl (fun z17 e18 => ?_)
    have i19 := l_i e18 (i_rng z15)
    refine g_lmul 50 (gd rfl) rfl (fun z20 e21 => ?_)
    refine g_aload_n 51 (gd rfl) rfl rfl ?_
    refine g_getA (q2 := 91) 54 (gd rfl) rfl rfl rfl rfl rfl ?_
    refine g_iload_n 55 (gd rfl) rfl rfl ?_
    refine g_iaload 56 (gd rfl) rfl (n := 32) rfl (in_ix h1 rfl) (fun z22 e23 => ?_)
    refine g_i2l 57 (gd rfl) rfl (fun z24 e25 => ?_)
    have i26 := l_i e25 (i_rng z22)
    refine g_iload_n 58 (gd rfl) rfl rfl ?_
    refine g_i2l 59 (gd rfl) rfl (fun z27 e28 => ?_)
    have i29 := l_i e28 (i_rng z5)
    refine g_lmul 60 (gd rfl) rfl (fun z30 e31 => ?_)
    refine g_lsub 61 (gd rfl) rfl (fun z32 e33 => ?_)
    exact g_lreturn (gd rfl) rfl (hP _ _ ⟨z32, rfl, rfl⟩)
  · skip
    refine g_aload_n 11 (gd rfl) rfl rfl ?_
    refine g_getA (q2 := 92) 14 (gd rfl) rfl rfl rfl rfl rfl ?_
    refine g_iload_n 15 (gd rfl) rfl rfl ?_
    refine g_iaload 16 (gd rfl) rfl (n := 32) rfl (in_ix h2 rfl) (fun z34 e35 => ?_)
    refine g_aload_n 17 (gd rfl) rfl rfl ?_
    refine g_getA (q2 := 91) 20 (gd rfl) rfl rfl rfl rfl rfl ?_
    refine g_iload_n 21 (gd rfl) rfl rfl ?_
    refine g_iaload 22 (gd rfl) rfl (n := 32) rfl (in_ix h1 rfl) (fun z36 e37 => ?_)
    refine g_isub 23 (gd rfl) rfl (fun z38 e39 => ?_)
    refine g_goto 32 (gd rfl) rfl ?_
    refine g_istore_n 33 (gd rfl) rfl (Nat.le_of_ble_eq_true rfl) ?_
    refine g_ldc2_w 2 36 (gd rfl) rfl rfl ?_
    refine g_aload_n 37 (gd rfl) rfl rfl ?_
    refine g_getI 40 (gd rfl) rfl rfl rfl (fun z40 e41 => ?_)
    have i42 := inv_F hI 0 160 rfl e41
    refine g_i2l 41 (gd rfl) rfl (fun z43 e44 => ?_)
    have i45 := l_i e44 i42
    refine g_lmul 42 (gd rfl) rfl (fun z46 e47 => ?_)
    refine g_aload_n 43 (gd rfl) rfl rfl ?_
    refine g_getA (q2 := 93) 46 (gd rfl) rfl rfl rfl rfl rfl ?_
    refine g_iload_n 47 (gd rfl) rfl rfl ?_
    refine g_iaload 48 (gd rfl) rfl (n := 32) rfl (in_ix h2 rfl) (fun z48 e49 => ?_)
    refine g_i2l 49 (gd rfl) rfl (fun z50 e51 => ?_)
    have i52 := l_i e51 (i_rng z48)
    refine g_lmul 50 (gd rfl) rfl (fun z53 e54 => ?_)
    refine g_aload_n 51 (gd rfl) rfl rfl ?_
    refine g_getA (q2 := 91) 54 (gd rfl) rfl rfl rfl rfl rfl ?_
    refine g_iload_n 55 (gd rfl) rfl rfl ?_
    refine g_iaload 56 (gd rfl) rfl (n := 32) rfl (in_ix h1 rfl) (fun z55 e56 => ?_)
    have q57 : z36 = z55 := (e37).trans e56.symm
    subst q57
    refine g_i2l 57 (gd rfl) rfl (fun z58 e59 => ?_)
    have i60 := l_i e59 (i_rng z36)
    refine g_iload_n 58 (gd rfl) rfl rfl ?_
    refine g_i2l 59 (gd rfl) rfl (fun z61 e62 => ?_)
    have i63 := l_i e62 (i_rng z38)
    refine g_lmul 60 (gd rfl) rfl (fun z64 e65 => ?_)
    refine g_lsub 61 (gd rfl) rfl (fun z66 e67 => ?_)
    exact g_lreturn (gd rfl) rfl (hP _ _ ⟨z66, rfl, rfl⟩)

/-- GraphHouse$Groups.freeGroup -/
theorem k_119_86 {Z : AmZ} {A : Nat → Nat} {s : GS} {ex : va_W} {d : Nat} {X : AmX}  (hd : 1 ≤ d) (hI : Inv s)  : GC Z d 119 [.ref (A 86)] (WW Z A s ++ ex) 0 0 (fun v u => ∃ z : Int32, v = some (.int z) ∧ u = WW Z A s ++ ex ∧ In z (-1) 31) X := by
  intro post xp hP hX
  have ct2 : ∀ (k2 : Nat) (y2_1 : Int32), In y2_1 0 32 → 32 - (y2_1).toInt < (k2 : Int) → GG Z (d - 1) 119 post (gx xp) (1 + k2 * 900) 2 (fun j => xlook j [(0, .ref (A 86)), (1, .int y2_1)]) [] (WW Z A s ++ ex) 0 0 := by
    intro k2
    induction k2 with
    | zero => intro y2_1 j2_1 mm2; exact m_no mm2 j2_1 rfl
    | succ k2 ih2 =>
      intro y2_1 j2_1 mm2
      refine gg_w (M := 1 + k2 * 900 + 900) (by omega) ?_
      refine g_iload_n 3 (gd rfl) rfl rfl ?_
      refine g_bipush 32 5 (gd rfl) rfl rfl ?_
      refine g_cmp_ge 8 25 (gd rfl) rfl rfl (fun c1 => ?_) (fun c1 => ?_)
      · skip
        have i2 := r_le2 32 32 c1 (in_c 32 rfl) j2_1 rfl
        refine g_iconst (-1) 26 (gd rfl) rfl rfl ?_
        exact g_ireturn (gd rfl) rfl rfl (hP _ _ ⟨(Int32.ofInt (-1)), rfl, rfl, in_w (-1) 31 (in_c (-1) rfl) rfl⟩)
      · skip
        have i3 := r_lt1 0 31 c1 j2_1 (in_c 32 rfl) rfl
        refine g_aload_n 9 (gd rfl) rfl rfl ?_
        refine g_getA (q2 := 90) 12 (gd rfl) rfl rfl rfl rfl rfl ?_
        refine g_iload_n 13 (gd rfl) rfl rfl ?_
        refine g_iaload 14 (gd rfl) rfl (n := 32) rfl (in_ix i3 rfl) (fun z4 e5 => ?_)
        refine g_if_ne 17 19 (gd rfl) rfl rfl (fun c6 => ?_) (fun c6 => ?_)
        · skip
          refine g_iinc 22 (gd rfl) rfl rfl (Nat.le_of_ble_eq_true rfl) (fun z7 e8 => ?_)
          have i9 := in_add 1 32 e8 i3 (in_c 1 rfl) rfl rfl
          refine g_goto 2 (gd rfl) rfl ?_
          exact gg_w (by omega) (gg_f (gf_cons rfl (gf_cons rfl gf_nil)) (ih2  z7  (in_w 0 32 i9 rfl) (m_up mm2 (t_add e8 i3 (in_c 1 rfl) rfl) (in_w 1 1 (in_c 1 rfl) rfl))))
        · skip
          have i10 := z_eq 0 0 c6 (i_rng z4) rfl
          refine g_iload_n 18 (gd rfl) rfl rfl ?_
          exact g_ireturn (gd rfl) rfl rfl (hP _ _ ⟨y2_1, rfl, rfl, in_w (-1) 31 i3 rfl⟩)
  refine g_enter2 (k := 119) (N := 30601) (by omega) rfl (Nat.le_of_ble_eq_true rfl) ?_
  refine g_iconst 0 1 (gd rfl) rfl rfl ?_
  refine g_istore_n 2 (gd rfl) rfl (Nat.le_of_ble_eq_true rfl) ?_
  exact gg_w (by omega) (gg_f (gf_cons rfl (gf_cons rfl gf_nil)) (ct2 33  (Int32.ofInt 0)  (in_w 0 32 (in_c 0 rfl) rfl) (m_in 33 (in_w 0 32 (in_c 0 rfl) rfl) rfl)))

/-- GraphHouse$Groups.moveTo -/
theorem k_120_86 {Z : AmZ} {A : Nat → Nat} {s : GS} {ex : va_W} {d : Nat} {X : AmX} {x1 : Int32} {x2 : Int32} (hd : 1 ≤ d) (hI : Inv s) (h1 : In x1 0 31) (h2 : In x2 (-1) 31) : GC Z d 120 [.ref (A 86), .int x1, .int x2] (WW Z A s ++ ex) 0 0 (fun v u => ∃ t : GS, Inv t ∧ ∃ z : Int32, v = some (.int z) ∧ u = WW Z A t ++ ex ∧ In z 0 1) X := by
  intro post xp hP hX
  refine g_enter2 (k := 120) (N := 900) (by omega) rfl (Nat.le_of_ble_eq_true rfl) ?_
  refine g_iload_n 1 (gd rfl) rfl rfl ?_
  refine g_iconst (-1) 2 (gd rfl) rfl rfl ?_
  refine g_cmp_ne 5 7 (gd rfl) rfl rfl (fun c1 => ?_) (fun c1 => ?_)
  · skip
    have i2 := r_ne1 0 31 c1 h2 (in_c (-1) rfl) rfl
    refine g_aload_n 8 (gd rfl) rfl rfl ?_
    refine g_getA (q2 := 89) 11 (gd rfl) rfl rfl rfl rfl rfl ?_
    refine g_iload_n 12 (gd rfl) rfl rfl ?_
    refine g_iaload 13 (gd rfl) rfl (n := 32) rfl (in_ix h1 rfl) (fun z3 e4 => ?_)
    have i5 := inv_I hI (n := 32) (t := 0) 0 31 rfl (in_ix h1 rfl) rfl e4
    refine g_istore_n 14 (gd rfl) rfl (Nat.le_of_ble_eq_true rfl) ?_
    refine g_aload_n 15 (gd rfl) rfl rfl ?_
    refine g_getA (q2 := 90) 18 (gd rfl) rfl rfl rfl rfl rfl ?_
    refine g_iload_n 19 (gd rfl) rfl rfl ?_
    refine g_dup2 20 (gd rfl) rfl rfl rfl ?_
    refine g_iaload 21 (gd rfl) rfl (n := 32) rfl (in_ix i5 rfl) (fun z6 e7 => ?_)
    refine g_iconst 1 22 (gd rfl) rfl rfl ?_
    refine g_iload_n 23 (gd rfl) rfl rfl ?_
    refine g_ishl 24 (gd rfl) rfl (fun z8 e9 => ?_)
    refine g_iconst (-1) 25 (gd rfl) rfl rfl ?_
    refine g_ixor 26 (gd rfl) rfl (fun z10 e11 => ?_)
    refine g_iand 27 (gd rfl) rfl (fun z12 e13 => ?_)
    refine g_iastore 28 (gd rfl) rfl (n := 32) rfl (in_ix i5 rfl) ?_
    have hI14 := inv_sI (q := 90) (j := z3.toNatClampNeg) hI rfl (in_w (-2147483648) 2147483647 (i_rng z12) rfl)
    refine g_aload_n 29 (gd rfl) rfl rfl ?_
    refine g_getA (q2 := 92) 32 (gd rfl) rfl rfl rfl rfl rfl ?_
    refine g_iload_n 33 (gd rfl) rfl rfl ?_
    refine g_dup2 34 (gd rfl) rfl rfl rfl ?_
    refine g_iaload 35 (gd rfl) rfl (n := 32) rfl (in_ix i5 rfl) (fun z15 e16 => ?_)
    refine g_aload_n 36 (gd rfl) rfl rfl ?_
    refine g_getA (q2 := 91) 39 (gd rfl) rfl rfl rfl rfl rfl ?_
    refine g_iload_n 40 (gd rfl) rfl rfl ?_
    refine g_iaload 41 (gd rfl) rfl (n := 32) rfl (in_ix h1 rfl) (fun z17 e18 => ?_)
    refine g_isub 42 (gd rfl) rfl (fun z19 e20 => ?_)
    refine g_iastore 43 (gd rfl) rfl (n := 32) rfl (in_ix i5 rfl) ?_
    have hI21 := inv_sI (q := 92) (j := z3.toNatClampNeg) hI14 rfl (in_w (-2147483648) 2147483647 (i_rng z19) rfl)
    refine g_aload_n 44 (gd rfl) rfl rfl ?_
    refine g_getA (q2 := 92) 47 (gd rfl) rfl rfl rfl rfl rfl ?_
    refine g_iload_n 48 (gd rfl) rfl rfl ?_
    refine g_aload_n 49 (gd rfl) rfl rfl ?_
    refine g_getA (q2 := 90) 52 (gd rfl) rfl rfl rfl rfl rfl ?_
    refine g_iload_n 53 (gd rfl) rfl rfl ?_
    refine g_iaload 54 (gd rfl) rfl (n := 32) rfl (in_ix i2 rfl) (fun z22 e23 => ?_)
    refine g_if_ne 57 66 (gd rfl) rfl rfl (fun c24 => ?_) (fun c24 => ?_)
    · skip
      refine g_aload_n 67 (gd rfl) rfl rfl ?_
      refine g_getA (q2 := 92) 70 (gd rfl) rfl rfl rfl rfl rfl ?_
      refine g_iload_n 71 (gd rfl) rfl rfl ?_
      refine g_iaload 72 (gd rfl) rfl (n := 32) rfl (in_ix i2 rfl) (fun z25 e26 => ?_)
      refine g_aload_n 73 (gd rfl) rfl rfl ?_
      refine g_getA (q2 := 91) 76 (gd rfl) rfl rfl rfl rfl rfl ?_
      refine g_iload_n 77 (gd rfl) rfl rfl ?_
      refine g_iaload 78 (gd rfl) rfl (n := 32) rfl (in_ix h1 rfl) (fun z27 e28 => ?_)
      have q29 : z17 = z27 := (sI_ne rfl (e18)).trans e28.symm
      subst q29
      refine g_iadd 79 (gd rfl) rfl (fun z30 e31 => ?_)
      refine g_iastore 80 (gd rfl) rfl (n := 32) rfl (in_ix i2 rfl) ?_
      have hI32 := inv_sI (q := 92) (j := x2.toNatClampNeg) hI21 rfl (in_w (-2147483648) 2147483647 (i_rng z30) rfl)
      refine g_aload_n 81 (gd rfl) rfl rfl ?_
      refine g_getA (q2 := 90) 84 (gd rfl) rfl rfl rfl rfl rfl ?_
      refine g_iload_n 85 (gd rfl) rfl rfl ?_
      refine g_dup2 86 (gd rfl) rfl rfl rfl ?_
      refine g_iaload 87 (gd rfl) rfl (n := 32) rfl (in_ix i2 rfl) (fun z33 e34 => ?_)
      have q35 : z22 = z33 := (sI_ne rfl (e23)).trans e34.symm
      subst q35
      refine g_iconst 1 88 (gd rfl) rfl rfl ?_
      refine g_iload_n 89 (gd rfl) rfl rfl ?_
      refine g_ishl 90 (gd rfl) rfl (fun z36 e37 => ?_)
      refine g_ior 91 (gd rfl) rfl (fun z38 e39 => ?_)
      refine g_iastore 92 (gd rfl) rfl (n := 32) rfl (in_ix i2 rfl) ?_
      have hI40 := inv_sI (q := 90) (j := x2.toNatClampNeg) hI32 rfl (in_w (-2147483648) 2147483647 (i_rng z38) rfl)
      refine g_aload_n 93 (gd rfl) rfl rfl ?_
      refine g_getA (q2 := 89) 96 (gd rfl) rfl rfl rfl rfl rfl ?_
      refine g_iload_n 97 (gd rfl) rfl rfl ?_
      refine g_iload_n 98 (gd rfl) rfl rfl ?_
      refine g_iastore 99 (gd rfl) rfl (n := 32) rfl (in_ix h1 rfl) ?_
      have hI41 := inv_sI (q := 89) (j := x1.toNatClampNeg) hI40 rfl (in_w 0 31 i2 rfl)
      refine g_iconst 1 100 (gd rfl) rfl rfl ?_
      exact g_ireturn (gd rfl) rfl (nb01 (in_w 0 1 (in_c 1 rfl) rfl)) (hP _ _ ⟨(sI (sI (sI (sI (sI s 90 z3.toNatClampNeg z12) 92 z3.toNatClampNeg z19) 92 x2.toNatClampNeg z30) 90 x2.toNatClampNeg z38) 89 x1.toNatClampNeg x2), hI41, (Int32.ofInt 1), rfl, rfl, in_w 0 1 (in_c 1 rfl) rfl⟩)
    · skip
      have i42 := z_eq 0 0 c24 (i_rng z22) rfl
      refine g_aload_n 58 (gd rfl) rfl rfl ?_
      refine g_getA (q2 := 91) 61 (gd rfl) rfl rfl rfl rfl rfl ?_
      refine g_iload_n 62 (gd rfl) rfl rfl ?_
      refine g_iaload 63 (gd rfl) rfl (n := 32) rfl (in_ix h1 rfl) (fun z43 e44 => ?_)
      have q45 : z17 = z43 := (sI_ne rfl (e18)).trans e44.symm
      subst q45
      refine g_goto 79 (gd rfl) rfl ?_
      refine g_iastore 80 (gd rfl) rfl (n := 32) rfl (in_ix i2 rfl) ?_
      have hI46 := inv_sI (q := 92) (j := x2.toNatClampNeg) hI21 rfl (in_w (-2147483648) 2147483647 (i_rng z17) rfl)
      refine g_aload_n 81 (gd rfl) rfl rfl ?_
      refine g_getA (q2 := 90) 84 (gd rfl) rfl rfl rfl rfl rfl ?_
      refine g_iload_n 85 (gd rfl) rfl rfl ?_
      refine g_dup2 86 (gd rfl) rfl rfl rfl ?_
      refine g_iaload 87 (gd rfl) rfl (n := 32) rfl (in_ix i2 rfl) (fun z47 e48 => ?_)
      have q49 : z22 = z47 := (sI_ne rfl (e23)).trans e48.symm
      subst q49
      refine g_iconst 1 88 (gd rfl) rfl rfl ?_
      refine g_iload_n 89 (gd rfl) rfl rfl ?_
      refine g_ishl 90 (gd rfl) rfl (fun z50 e51 => ?_)
      refine g_ior 91 (gd rfl) rfl (fun z52 e53 => ?_)
      refine g_iastore 92 (gd rfl) rfl (n := 32) rfl (in_ix i2 rfl) ?_
      have hI54 := inv_sI (q := 90) (j := x2.toNatClampNeg) hI46 rfl (in_w (-2147483648) 2147483647 (i_rng z52) rfl)
      refine g_aload_n 93 (gd rfl) rfl rfl ?_
      refine g_getA (q2 := 89) 96 (gd rfl) rfl rfl rfl rfl rfl ?_
      refine g_iload_n 97 (gd rfl) rfl rfl ?_
      refine g_iload_n 98 (gd rfl) rfl rfl ?_
      refine g_iastore 99 (gd rfl) rfl (n := 32) rfl (in_ix h1 rfl) ?_
      have hI55 := inv_sI (q := 89) (j := x1.toNatClampNeg) hI54 rfl (in_w 0 31 i2 rfl)
      refine g_iconst 1 100 (gd rfl) rfl rfl ?_
      exact g_ireturn (gd rfl) rfl (nb01 (in_w 0 1 (in_c 1 rfl) rfl)) (hP _ _ ⟨(sI (sI (sI (sI (sI s 90 z3.toNatClampNeg z12) 92 z3.toNatClampNeg z19) 92 x2.toNatClampNeg z17) 90 x2.toNatClampNeg z52) 89 x1.toNatClampNeg x2), hI55, (Int32.ofInt 1), rfl, rfl, in_w 0 1 (in_c 1 rfl) rfl⟩)
  · skip
    have i56 := r_eq1 (-1) (-1) c1 h2 (in_c (-1) rfl) rfl
    refine g_iconst 0 6 (gd rfl) rfl rfl ?_
    exact g_ireturn (gd rfl) rfl (nb01 (in_w 0 1 (in_c 0 rfl) rfl)) (hP _ _ ⟨s, hI, (Int32.ofInt 0), rfl, rfl, in_w 0 1 (in_c 0 rfl) rfl⟩)

/-- GraphHouse$Parts.firstFree -/
theorem k_146_2 {Z : AmZ} {A : Nat → Nat} {s : GS} {ex : va_W} {d : Nat} {X : AmX} {x1 : Int32} (hd : 4 ≤ d) (hI : Inv s)  : GC Z d 146 [.ref (A 2), .int x1] (WW Z A s ++ ex) 0 0 (fun v u => ∃ z : Int32, v = some (.int z) ∧ u = WW Z A s ++ ex ∧ In z (-1) 31) X := by
  intro post xp hP hX
  have ct2 : ∀ (k2 : Nat) (y2_2 : Int32), ((y2_2.toBitVec.toNat : Nat) : Int) < (k2 : Int) → GG Z (d - 1) 146 post (gx xp) (1 + k2 * 900) 2 (fun j => xlook j [(0, .ref (A 2)), (1, .int x1), (2, .int y2_2)]) [] (WW Z A s ++ ex) 0 0 := by
    intro k2
    induction k2 with
    | zero => intro y2_2  mm2; exact absurd mm2 (Int.not_lt.mpr (Int.natCast_nonneg _))
    | succ k2 ih2 =>
      intro y2_2  mm2
      refine gg_w (M := 1 + k2 * 900 + 900) (by omega) ?_
      refine g_iload_n 3 (gd rfl) rfl rfl ?_
      refine g_if_eq 6 34 (gd rfl) rfl rfl (fun c1 => ?_) (fun c1 => ?_)
      · skip
        have i2 := z_eq 0 0 c1 (i_rng y2_2) rfl
        refine g_iconst (-1) 35 (gd rfl) rfl rfl ?_
        exact g_ireturn (gd rfl) rfl rfl (hP _ _ ⟨(Int32.ofInt (-1)), rfl, rfl, in_w (-1) 31 (in_c (-1) rfl) rfl⟩)
      · skip
        refine g_aload_n 7 (gd rfl) rfl rfl ?_
        refine g_getA (q2 := 11) 10 (gd rfl) rfl rfl rfl rfl rfl ?_
        refine g_iload_n 11 (gd rfl) rfl rfl ?_
        refine g_calls (As := [.int y2_2]) (r := [.ref (A 11)]) 14 (gd rfl) rfl rfl rfl rfl rfl (Nat.le_of_ble_eq_true rfl) (Nat.zero_le _) (Nat.zero_le _) (k_264n (by omega) c1) (fun v u h => ?_)
        obtain ⟨z3, rfl, rfl, i4⟩ := h
        show GG _ _ _ _ _ _ _ _ [.int z3, .ref (A 11)] _ _ _
        refine g_iaload 15 (gd rfl) rfl (n := 32) rfl (in_ix i4 rfl) (fun z5 e6 => ?_)
        refine g_iload_n 16 (gd rfl) rfl rfl ?_
        refine g_iand 17 (gd rfl) rfl (fun z7 e8 => ?_)
        refine g_if_ne 20 25 (gd rfl) rfl rfl (fun c9 => ?_) (fun c9 => ?_)
        · skip
          refine g_iload_n 26 (gd rfl) rfl rfl ?_
          refine g_iload_n 27 (gd rfl) rfl rfl ?_
          refine g_iconst 1 28 (gd rfl) rfl rfl ?_
          refine g_isub 29 (gd rfl) rfl (fun z10 e11 => ?_)
          refine g_iand 30 (gd rfl) rfl (fun z12 e13 => ?_)
          refine g_istore_n 31 (gd rfl) rfl (Nat.le_of_ble_eq_true rfl) ?_
          refine g_goto 2 (gd rfl) rfl ?_
          exact gg_w (by omega) (gg_f (gf_cons rfl (gf_cons rfl (gf_cons rfl gf_nil))) (ih2  z12   (mb e13 e11 c1 mm2)))
        · skip
          have i14 := z_eq 0 0 c9 (i_rng z7) rfl
          refine g_iload_n 21 (gd rfl) rfl rfl ?_
          refine g_calls (As := [.int y2_2]) (r := []) 24 (gd rfl) rfl rfl rfl rfl rfl (Nat.le_of_ble_eq_true rfl) (Nat.zero_le _) (Nat.zero_le _) (k_264n (by omega) c1) (fun v u h => ?_)
          obtain ⟨z15, rfl, rfl, i16⟩ := h
          show GG _ _ _ _ _ _ _ _ [.int z15] _ _ _
          exact g_ireturn (gd rfl) rfl rfl (hP _ _ ⟨z15, rfl, rfl, in_w (-1) 31 i16 rfl⟩)
  refine g_enter2 (k := 146) (N := 3865470567301) (by omega) rfl (Nat.le_of_ble_eq_true rfl) ?_
  refine g_iload_n 1 (gd rfl) rfl rfl ?_
  refine g_istore_n 2 (gd rfl) rfl (Nat.le_of_ble_eq_true rfl) ?_
  exact gg_w (by omega) (gg_f (gf_cons rfl (gf_cons rfl (gf_cons rfl gf_nil))) (ct2 4294967296  x1   (mb_in _)))

/-- GraphHouse$Parts.firstFree -/
theorem k_146_32 {Z : AmZ} {A : Nat → Nat} {s : GS} {ex : va_W} {d : Nat} {X : AmX} {x1 : Int32} (hd : 4 ≤ d) (hI : Inv s)  : GC Z d 146 [.ref (A 32), .int x1] (WW Z A s ++ ex) 0 0 (fun v u => ∃ z : Int32, v = some (.int z) ∧ u = WW Z A s ++ ex ∧ In z (-1) 31) X := by
  intro post xp hP hX
  have ct2 : ∀ (k2 : Nat) (y2_2 : Int32), ((y2_2.toBitVec.toNat : Nat) : Int) < (k2 : Int) → GG Z (d - 1) 146 post (gx xp) (1 + k2 * 900) 2 (fun j => xlook j [(0, .ref (A 32)), (1, .int x1), (2, .int y2_2)]) [] (WW Z A s ++ ex) 0 0 := by
    intro k2
    induction k2 with
    | zero => intro y2_2  mm2; exact absurd mm2 (Int.not_lt.mpr (Int.natCast_nonneg _))
    | succ k2 ih2 =>
      intro y2_2  mm2
      refine gg_w (M := 1 + k2 * 900 + 900) (by omega) ?_
      refine g_iload_n 3 (gd rfl) rfl rfl ?_
      refine g_if_eq 6 34 (gd rfl) rfl rfl (fun c1 => ?_) (fun c1 => ?_)
      · skip
        have i2 := z_eq 0 0 c1 (i_rng y2_2) rfl
        refine g_iconst (-1) 35 (gd rfl) rfl rfl ?_
        exact g_ireturn (gd rfl) rfl rfl (hP _ _ ⟨(Int32.ofInt (-1)), rfl, rfl, in_w (-1) 31 (in_c (-1) rfl) rfl⟩)
      · skip
        refine g_aload_n 7 (gd rfl) rfl rfl ?_
        refine g_getA (q2 := 41) 10 (gd rfl) rfl rfl rfl rfl rfl ?_
        refine g_iload_n 11 (gd rfl) rfl rfl ?_
        refine g_calls (As := [.int y2_2]) (r := [.ref (A 41)]) 14 (gd rfl) rfl rfl rfl rfl rfl (Nat.le_of_ble_eq_true rfl) (Nat.zero_le _) (Nat.zero_le _) (k_264n (by omega) c1) (fun v u h => ?_)
        obtain ⟨z3, rfl, rfl, i4⟩ := h
        show GG _ _ _ _ _ _ _ _ [.int z3, .ref (A 41)] _ _ _
        refine g_iaload 15 (gd rfl) rfl (n := 32) rfl (in_ix i4 rfl) (fun z5 e6 => ?_)
        refine g_iload_n 16 (gd rfl) rfl rfl ?_
        refine g_iand 17 (gd rfl) rfl (fun z7 e8 => ?_)
        refine g_if_ne 20 25 (gd rfl) rfl rfl (fun c9 => ?_) (fun c9 => ?_)
        · skip
          refine g_iload_n 26 (gd rfl) rfl rfl ?_
          refine g_iload_n 27 (gd rfl) rfl rfl ?_
          refine g_iconst 1 28 (gd rfl) rfl rfl ?_
          refine g_isub 29 (gd rfl) rfl (fun z10 e11 => ?_)
          refine g_iand 30 (gd rfl) rfl (fun z12 e13 => ?_)
          refine g_istore_n 31 (gd rfl) rfl (Nat.le_of_ble_eq_true rfl) ?_
          refine g_goto 2 (gd rfl) rfl ?_
          exact gg_w (by omega) (gg_f (gf_cons rfl (gf_cons rfl (gf_cons rfl gf_nil))) (ih2  z12   (mb e13 e11 c1 mm2)))
        · skip
          have i14 := z_eq 0 0 c9 (i_rng z7) rfl
          refine g_iload_n 21 (gd rfl) rfl rfl ?_
          refine g_calls (As := [.int y2_2]) (r := []) 24 (gd rfl) rfl rfl rfl rfl rfl (Nat.le_of_ble_eq_true rfl) (Nat.zero_le _) (Nat.zero_le _) (k_264n (by omega) c1) (fun v u h => ?_)
          obtain ⟨z15, rfl, rfl, i16⟩ := h
          show GG _ _ _ _ _ _ _ _ [.int z15] _ _ _
          exact g_ireturn (gd rfl) rfl rfl (hP _ _ ⟨z15, rfl, rfl, in_w (-1) 31 i16 rfl⟩)
  refine g_enter2 (k := 146) (N := 3865470567301) (by omega) rfl (Nat.le_of_ble_eq_true rfl) ?_
  refine g_iload_n 1 (gd rfl) rfl rfl ?_
  refine g_istore_n 2 (gd rfl) rfl (Nat.le_of_ble_eq_true rfl) ?_
  exact gg_w (by omega) (gg_f (gf_cons rfl (gf_cons rfl (gf_cons rfl gf_nil))) (ct2 4294967296  x1   (mb_in _)))

/-- GraphHouse$Parts.triangles -/
theorem k_151_56_2 {Z : AmZ} {A : Nat → Nat} {s : GS} {ex : va_W} {d : Nat} {X : AmX}  (hd : 4 ≤ d) (hI : Inv s)  : GC Z d 151 [.ref (A 56), .ref (A 2)] (WW Z A s ++ ex) 0 0 (fun v u => ∃ t : GS, Inv t ∧ ∃ z : Int64, v = some (.long z) ∧ u = WW Z A t ++ ex) X := by
  intro post xp hP hX
  have ct9 : ∀ (k9 : Nat) (s : GS) (y9_2 : Int64) (y9_4 : Int32), Inv s → In y9_4 0 32 → 32 - (y9_4).toInt < (k9 : Int) → GG Z (d - 1) 151 post (gx xp) (1 + k9 * 3865470569101) 9 (fun j => xlook j [(0, .ref (A 56)), (1, .ref (A 2)), (2, .long y9_2), (4, .int y9_4)]) [] (WW Z A s ++ ex) 0 0 := by
    intro k9
    induction k9 with
    | zero => intro s y9_2 y9_4 hI j9_4 mm9; exact m_no mm9 j9_4 rfl
    | succ k9 ih9 =>
      intro s y9_2 y9_4 hI j9_4 mm9
      refine gg_w (M := 1 + k9 * 3865470569101 + 3865470569101) (by omega) ?_
      have ct27 : ∀ (k27 : Nat) (s : GS) (y27_2 : Int64) (y27_5 : Int32), Inv s → In y9_4 0 31 → ((y27_5.toBitVec.toNat : Nat) : Int) < (k27 : Int) → GG Z (d - 1) 151 post (gx xp) (1 + k9 * 3865470569101 + 1 + k27 * 900) 27 (fun j => xlook j [(0, .ref (A 56)), (1, .ref (A 2)), (2, .long y27_2), (4, .int y9_4), (5, .int y27_5)]) [] (WW Z A s ++ ex) 0 0 := by
        intro k27
        induction k27 with
        | zero => intro s y27_2 y27_5 hI j27_4 mm27; exact absurd mm27 (Int.not_lt.mpr (Int.natCast_nonneg _))
        | succ k27 ih27 =>
          intro s y27_2 y27_5 hI j27_4 mm27
          refine gg_w (M := 1 + k9 * 3865470569101 + 1 + k27 * 900 + 900) (by omega) ?_
          refine g_iload 29 (gd rfl) rfl rfl ?_
          refine g_if_eq 32 69 (gd rfl) rfl rfl (fun c1 => ?_) (fun c1 => ?_)
          · skip
            have i2 := z_eq 0 0 c1 (i_rng y27_5) rfl
            refine g_iinc 72 (gd rfl) rfl rfl (Nat.le_of_ble_eq_true rfl) (fun z3 e4 => ?_)
            have i5 := in_add 1 32 e4 j27_4 (in_c 1 rfl) rfl rfl
            refine g_goto 9 (gd rfl) rfl ?_
            exact gg_w (by omega) (gg_f (gf_cons rfl (gf_cons rfl (gf_cons rfl (gf_cons rfl gf_nil)))) (ih9 s y27_2 z3 hI (in_w 0 32 i5 rfl) (m_up mm9 (t_add e4 j27_4 (in_c 1 rfl) rfl) (in_w 1 1 (in_c 1 rfl) rfl))))
          · skip
            refine g_lload_n 33 (gd rfl) rfl rfl ?_
            refine g_aload_n 34 (gd rfl) rfl rfl ?_
            refine g_getA (q2 := 9) 37 (gd rfl) rfl rfl rfl rfl rfl ?_
            refine g_iload 39 (gd rfl) rfl rfl ?_
            refine g_iaload 40 (gd rfl) rfl (n := 32) rfl (in_ix j27_4 rfl) (fun z6 e7 => ?_)
            refine g_aload_n 41 (gd rfl) rfl rfl ?_
            refine g_getA (q2 := 9) 44 (gd rfl) rfl rfl rfl rfl rfl ?_
            refine g_iload 46 (gd rfl) rfl rfl ?_
            refine g_calls (As := [.int y27_5]) (r := [.ref (A 9), .int z6, .long y27_2]) 49 (gd rfl) rfl rfl rfl rfl rfl (Nat.le_of_ble_eq_true rfl) (Nat.zero_le _) (Nat.zero_le _) (k_264n (by omega) c1) (fun v u h => ?_)
            obtain ⟨z8, rfl, rfl, i9⟩ := h
            show GG _ _ _ _ _ _ _ _ [.int z8, .ref (A 9), .int z6, .long y27_2] _ _ _
            refine g_iaload 50 (gd rfl) rfl (n := 32) rfl (in_ix i9 rfl) (fun z10 e11 => ?_)
            refine g_iand 51 (gd rfl) rfl (fun z12 e13 => ?_)
            refine g_calls (As := [.int z12]) (r := [.long y27_2]) 54 (gd rfl) rfl rfl rfl rfl rfl (Nat.le_of_ble_eq_true rfl) (Nat.zero_le _) (Nat.zero_le _) (k_414 (by omega) hI ) (fun v u h => ?_)
            obtain ⟨z14, rfl, rfl, i15⟩ := h
            show GG _ _ _ _ _ _ _ _ [.int z14, .long y27_2] _ _ _
            refine g_i2l 55 (gd rfl) rfl (fun z16 e17 => ?_)
            have i18 := l_i e17 i15
            refine g_ladd 56 (gd rfl) rfl (fun z19 e20 => ?_)
            refine g_lstore_n 57 (gd rfl) rfl (Nat.le_of_ble_eq_true rfl) ?_
            refine g_iload 59 (gd rfl) rfl rfl ?_
            refine g_iload 61 (gd rfl) rfl rfl ?_
            refine g_iconst 1 62 (gd rfl) rfl rfl ?_
            refine g_isub 63 (gd rfl) rfl (fun z21 e22 => ?_)
            refine g_iand 64 (gd rfl) rfl (fun z23 e24 => ?_)
            refine g_istore 66 (gd rfl) rfl (Nat.le_of_ble_eq_true rfl) ?_
            refine g_goto 27 (gd rfl) rfl ?_
            exact gg_w (by omega) (gg_f (gf_cons rfl (gf_cons rfl (gf_cons rfl (gf_cons rfl (gf_cons rfl gf_nil))))) (ih27 s z19 z23 hI (in_w 0 31 j27_4 rfl) (mb e24 e22 c1 mm27)))
      refine g_iload 11 (gd rfl) rfl rfl ?_
      refine g_aload_n 12 (gd rfl) rfl rfl ?_
      refine g_getI 15 (gd rfl) rfl rfl rfl (fun z25 e26 => ?_)
      have i27 := inv_F hI 0 32 rfl e26
      refine g_cmp_ge 18 75 (gd rfl) rfl rfl (fun c28 => ?_) (fun c28 => ?_)
      · skip
        refine g_lload_n 76 (gd rfl) rfl rfl ?_
        refine g_ldc2_w 6 79 (gd rfl) rfl rfl ?_
        refine g_ldiv 80 (gd rfl) rfl (by decide) (fun z29 e30 => ?_)
        exact g_lreturn (gd rfl) rfl (hP _ _ ⟨s, hI, z29, rfl, rfl⟩)
      · skip
        have i31 := r_lt1 0 31 c28 j9_4 i27 rfl
        have i32 := r_lt2 1 32 c28 j9_4 i27 rfl
        refine g_aload_n 19 (gd rfl) rfl rfl ?_
        refine g_getA (q2 := 9) 22 (gd rfl) rfl rfl rfl rfl rfl ?_
        refine g_iload 24 (gd rfl) rfl rfl ?_
        refine g_iaload 25 (gd rfl) rfl (n := 32) rfl (in_ix i31 rfl) (fun z33 e34 => ?_)
        refine g_istore 27 (gd rfl) rfl (Nat.le_of_ble_eq_true rfl) ?_
        exact gg_w (by omega) (gg_f (gf_cons rfl (gf_cons rfl (gf_cons rfl (gf_cons rfl (gf_cons rfl gf_nil))))) (ct27 4294967296 s y9_2 z33 hI (in_w 0 31 i31 rfl) (mb_in _)))
  refine g_enter2 (k := 151) (N := 127560528781234) (by omega) rfl (Nat.le_of_ble_eq_true rfl) ?_
  refine g_aload_n 1 (gd rfl) rfl rfl ?_
  refine g_callv (X := _) (As := []) (r := []) (b := A 2) (q := 2) 4 (gd rfl) rfl rfl rfl rfl rfl (ww_o rfl) (Nat.le_of_ble_eq_true rfl) (Nat.zero_le _) (Nat.zero_le _) (k_106_2 (by omega) hI ) (fun e u h => h) (fun v u h => ?_)
  obtain ⟨s35, hI36, rfl, rfl⟩ := h
  show GG _ _ _ _ _ _ _ _ [] _ _ _
  refine g_lconst 0 5 (gd rfl) rfl rfl ?_
  refine g_lstore_n 6 (gd rfl) rfl (Nat.le_of_ble_eq_true rfl) ?_
  refine g_iconst 0 7 (gd rfl) rfl rfl ?_
  refine g_istore 9 (gd rfl) rfl (Nat.le_of_ble_eq_true rfl) ?_
  exact gg_w (by omega) (gg_f (gf_cons rfl (gf_cons rfl (gf_cons rfl (gf_cons rfl gf_nil)))) (ct9 33 s35 (Int64.ofInt 0) (Int32.ofInt 0) hI36 (in_w 0 32 (in_c 0 rfl) rfl) (m_in 33 (in_w 0 32 (in_c 0 rfl) rfl) rfl)))

/-- GraphHouse$Parts.triangles -/
theorem k_151_56_32 {Z : AmZ} {A : Nat → Nat} {s : GS} {ex : va_W} {d : Nat} {X : AmX}  (hd : 4 ≤ d) (hI : Inv s)  : GC Z d 151 [.ref (A 56), .ref (A 32)] (WW Z A s ++ ex) 0 0 (fun v u => ∃ t : GS, Inv t ∧ ∃ z : Int64, v = some (.long z) ∧ u = WW Z A t ++ ex) X := by
  intro post xp hP hX
  have ct9 : ∀ (k9 : Nat) (s : GS) (y9_2 : Int64) (y9_4 : Int32), Inv s → In y9_4 0 32 → 32 - (y9_4).toInt < (k9 : Int) → GG Z (d - 1) 151 post (gx xp) (1 + k9 * 3865470569101) 9 (fun j => xlook j [(0, .ref (A 56)), (1, .ref (A 32)), (2, .long y9_2), (4, .int y9_4)]) [] (WW Z A s ++ ex) 0 0 := by
    intro k9
    induction k9 with
    | zero => intro s y9_2 y9_4 hI j9_4 mm9; exact m_no mm9 j9_4 rfl
    | succ k9 ih9 =>
      intro s y9_2 y9_4 hI j9_4 mm9
      refine gg_w (M := 1 + k9 * 3865470569101 + 3865470569101) (by omega) ?_
      have ct27 : ∀ (k27 : Nat) (s : GS) (y27_2 : Int64) (y27_5 : Int32), Inv s → In y9_4 0 31 → ((y27_5.toBitVec.toNat : Nat) : Int) < (k27 : Int) → GG Z (d - 1) 151 post (gx xp) (1 + k9 * 3865470569101 + 1 + k27 * 900) 27 (fun j => xlook j [(0, .ref (A 56)), (1, .ref (A 32)), (2, .long y27_2), (4, .int y9_4), (5, .int y27_5)]) [] (WW Z A s ++ ex) 0 0 := by
        intro k27
        induction k27 with
        | zero => intro s y27_2 y27_5 hI j27_4 mm27; exact absurd mm27 (Int.not_lt.mpr (Int.natCast_nonneg _))
        | succ k27 ih27 =>
          intro s y27_2 y27_5 hI j27_4 mm27
          refine gg_w (M := 1 + k9 * 3865470569101 + 1 + k27 * 900 + 900) (by omega) ?_
          refine g_iload 29 (gd rfl) rfl rfl ?_
          refine g_if_eq 32 69 (gd rfl) rfl rfl (fun c1 => ?_) (fun c1 => ?_)
          · skip
            have i2 := z_eq 0 0 c1 (i_rng y27_5) rfl
            refine g_iinc 72 (gd rfl) rfl rfl (Nat.le_of_ble_eq_true rfl) (fun z3 e4 => ?_)
            have i5 := in_add 1 32 e4 j27_4 (in_c 1 rfl) rfl rfl
            refine g_goto 9 (gd rfl) rfl ?_
            exact gg_w (by omega) (gg_f (gf_cons rfl (gf_cons rfl (gf_cons rfl (gf_cons rfl gf_nil)))) (ih9 s y27_2 z3 hI (in_w 0 32 i5 rfl) (m_up mm9 (t_add e4 j27_4 (in_c 1 rfl) rfl) (in_w 1 1 (in_c 1 rfl) rfl))))
          · skip
            refine g_lload_n 33 (gd rfl) rfl rfl ?_
            refine g_aload_n 34 (gd rfl) rfl rfl ?_
            refine g_getA (q2 := 39) 37 (gd rfl) rfl rfl rfl rfl rfl ?_
            refine g_iload 39 (gd rfl) rfl rfl ?_
            refine g_iaload 40 (gd rfl) rfl (n := 32) rfl (in_ix j27_4 rfl) (fun z6 e7 => ?_)
            refine g_aload_n 41 (gd rfl) rfl rfl ?_
            refine g_getA (q2 := 39) 44 (gd rfl) rfl rfl rfl rfl rfl ?_
            refine g_iload 46 (gd rfl) rfl rfl ?_
            refine g_calls (As := [.int y27_5]) (r := [.ref (A 39), .int z6, .long y27_2]) 49 (gd rfl) rfl rfl rfl rfl rfl (Nat.le_of_ble_eq_true rfl) (Nat.zero_le _) (Nat.zero_le _) (k_264n (by omega) c1) (fun v u h => ?_)
            obtain ⟨z8, rfl, rfl, i9⟩ := h
            show GG _ _ _ _ _ _ _ _ [.int z8, .ref (A 39), .int z6, .long y27_2] _ _ _
            refine g_iaload 50 (gd rfl) rfl (n := 32) rfl (in_ix i9 rfl) (fun z10 e11 => ?_)
            refine g_iand 51 (gd rfl) rfl (fun z12 e13 => ?_)
            refine g_calls (As := [.int z12]) (r := [.long y27_2]) 54 (gd rfl) rfl rfl rfl rfl rfl (Nat.le_of_ble_eq_true rfl) (Nat.zero_le _) (Nat.zero_le _) (k_414 (by omega) hI ) (fun v u h => ?_)
            obtain ⟨z14, rfl, rfl, i15⟩ := h
            show GG _ _ _ _ _ _ _ _ [.int z14, .long y27_2] _ _ _
            refine g_i2l 55 (gd rfl) rfl (fun z16 e17 => ?_)
            have i18 := l_i e17 i15
            refine g_ladd 56 (gd rfl) rfl (fun z19 e20 => ?_)
            refine g_lstore_n 57 (gd rfl) rfl (Nat.le_of_ble_eq_true rfl) ?_
            refine g_iload 59 (gd rfl) rfl rfl ?_
            refine g_iload 61 (gd rfl) rfl rfl ?_
            refine g_iconst 1 62 (gd rfl) rfl rfl ?_
            refine g_isub 63 (gd rfl) rfl (fun z21 e22 => ?_)
            refine g_iand 64 (gd rfl) rfl (fun z23 e24 => ?_)
            refine g_istore 66 (gd rfl) rfl (Nat.le_of_ble_eq_true rfl) ?_
            refine g_goto 27 (gd rfl) rfl ?_
            exact gg_w (by omega) (gg_f (gf_cons rfl (gf_cons rfl (gf_cons rfl (gf_cons rfl (gf_cons rfl gf_nil))))) (ih27 s z19 z23 hI (in_w 0 31 j27_4 rfl) (mb e24 e22 c1 mm27)))
      refine g_iload 11 (gd rfl) rfl rfl ?_
      refine g_aload_n 12 (gd rfl) rfl rfl ?_
      refine g_getI 15 (gd rfl) rfl rfl rfl (fun z25 e26 => ?_)
      have i27 := inv_F hI 0 32 rfl e26
      refine g_cmp_ge 18 75 (gd rfl) rfl rfl (fun c28 => ?_) (fun c28 => ?_)
      · skip
        refine g_lload_n 76 (gd rfl) rfl rfl ?_
        refine g_ldc2_w 6 79 (gd rfl) rfl rfl ?_
        refine g_ldiv 80 (gd rfl) rfl (by decide) (fun z29 e30 => ?_)
        exact g_lreturn (gd rfl) rfl (hP _ _ ⟨s, hI, z29, rfl, rfl⟩)
      · skip
        have i31 := r_lt1 0 31 c28 j9_4 i27 rfl
        have i32 := r_lt2 1 32 c28 j9_4 i27 rfl
        refine g_aload_n 19 (gd rfl) rfl rfl ?_
        refine g_getA (q2 := 39) 22 (gd rfl) rfl rfl rfl rfl rfl ?_
        refine g_iload 24 (gd rfl) rfl rfl ?_
        refine g_iaload 25 (gd rfl) rfl (n := 32) rfl (in_ix i31 rfl) (fun z33 e34 => ?_)
        refine g_istore 27 (gd rfl) rfl (Nat.le_of_ble_eq_true rfl) ?_
        exact gg_w (by omega) (gg_f (gf_cons rfl (gf_cons rfl (gf_cons rfl (gf_cons rfl (gf_cons rfl gf_nil))))) (ct27 4294967296 s y9_2 z33 hI (in_w 0 31 i31 rfl) (mb_in _)))
  refine g_enter2 (k := 151) (N := 127560528781234) (by omega) rfl (Nat.le_of_ble_eq_true rfl) ?_
  refine g_aload_n 1 (gd rfl) rfl rfl ?_
  refine g_callv (X := _) (As := []) (r := []) (b := A 32) (q := 32) 4 (gd rfl) rfl rfl rfl rfl rfl (ww_o rfl) (Nat.le_of_ble_eq_true rfl) (Nat.zero_le _) (Nat.zero_le _) (k_106_32 (by omega) hI ) (fun e u h => h) (fun v u h => ?_)
  obtain ⟨s35, hI36, rfl, rfl⟩ := h
  show GG _ _ _ _ _ _ _ _ [] _ _ _
  refine g_lconst 0 5 (gd rfl) rfl rfl ?_
  refine g_lstore_n 6 (gd rfl) rfl (Nat.le_of_ble_eq_true rfl) ?_
  refine g_iconst 0 7 (gd rfl) rfl rfl ?_
  refine g_istore 9 (gd rfl) rfl (Nat.le_of_ble_eq_true rfl) ?_
  exact gg_w (by omega) (gg_f (gf_cons rfl (gf_cons rfl (gf_cons rfl (gf_cons rfl gf_nil)))) (ct9 33 s35 (Int64.ofInt 0) (Int32.ofInt 0) hI36 (in_w 0 32 (in_c 0 rfl) rfl) (m_in 33 (in_w 0 32 (in_c 0 rfl) rfl) rfl)))

/-- GraphHouse$Parts.squares -/
theorem k_152_56_2 {Z : AmZ} {A : Nat → Nat} {s : GS} {ex : va_W} {d : Nat} {X : AmX}  (hd : 4 ≤ d) (hI : Inv s)  : GC Z d 152 [.ref (A 56), .ref (A 2)] (WW Z A s ++ ex) 0 0 (fun v u => ∃ t : GS, Inv t ∧ ∃ z : Int64, v = some (.long z) ∧ u = WW Z A t ++ ex) X := by
  intro post xp hP hX
  have ct9 : ∀ (k9 : Nat) (s : GS) (y9_2 : Int64) (y9_4 : Int32), Inv s → In y9_4 0 32 → 32 - (y9_4).toInt < (k9 : Int) → GG Z (d - 1) 152 post (gx xp) (1 + k9 * 31501) 9 (fun j => xlook j [(0, .ref (A 56)), (1, .ref (A 2)), (2, .long y9_2), (4, .int y9_4)]) [] (WW Z A s ++ ex) 0 0 := by
    intro k9
    induction k9 with
    | zero => intro s y9_2 y9_4 hI j9_4 mm9; exact m_no mm9 j9_4 rfl
    | succ k9 ih9 =>
      intro s y9_2 y9_4 hI j9_4 mm9
      refine gg_w (M := 1 + k9 * 31501 + 31501) (by omega) ?_
      have ct24 : ∀ (k24 : Nat) (s : GS) (y24_2 : Int64) (y24_5 : Int32), Inv s → In y9_4 0 31 → In y24_5 1 32 → 32 - (y24_5).toInt < (k24 : Int) → GG Z (d - 1) 152 post (gx xp) (1 + k9 * 31501 + 1 + k24 * 900) 24 (fun j => xlook j [(0, .ref (A 56)), (1, .ref (A 2)), (2, .long y24_2), (4, .int y9_4), (5, .int y24_5)]) [] (WW Z A s ++ ex) 0 0 := by
        intro k24
        induction k24 with
        | zero => intro s y24_2 y24_5 hI j24_4 j24_5 mm24; exact m_no mm24 j24_5 rfl
        | succ k24 ih24 =>
          intro s y24_2 y24_5 hI j24_4 j24_5 mm24
          refine gg_w (M := 1 + k9 * 31501 + 1 + k24 * 900 + 900) (by omega) ?_
          refine g_iload 26 (gd rfl) rfl rfl ?_
          refine g_aload_n 27 (gd rfl) rfl rfl ?_
          refine g_getI 30 (gd rfl) rfl rfl rfl (fun z1 e2 => ?_)
          have i3 := inv_F hI 0 32 rfl e2
          refine g_cmp_ge 33 72 (gd rfl) rfl rfl (fun c4 => ?_) (fun c4 => ?_)
          · skip
            refine g_iinc 75 (gd rfl) rfl rfl (Nat.le_of_ble_eq_true rfl) (fun z5 e6 => ?_)
            have i7 := in_add 1 32 e6 j24_4 (in_c 1 rfl) rfl rfl
            refine g_goto 9 (gd rfl) rfl ?_
            exact gg_w (by omega) (gg_f (gf_cons rfl (gf_cons rfl (gf_cons rfl (gf_cons rfl gf_nil)))) (ih9 s y24_2 z5 hI (in_w 0 32 i7 rfl) (m_up mm9 (t_add e6 j24_4 (in_c 1 rfl) rfl) (in_w 1 1 (in_c 1 rfl) rfl))))
          · skip
            have i8 := r_lt1 1 31 c4 j24_5 i3 rfl
            have i9 := r_lt2 2 32 c4 j24_5 i3 rfl
            refine g_aload_n 34 (gd rfl) rfl rfl ?_
            refine g_getA (q2 := 9) 37 (gd rfl) rfl rfl rfl rfl rfl ?_
            refine g_iload 39 (gd rfl) rfl rfl ?_
            refine g_iaload 40 (gd rfl) rfl (n := 32) rfl (in_ix j24_4 rfl) (fun z10 e11 => ?_)
            refine g_aload_n 41 (gd rfl) rfl rfl ?_
            refine g_getA (q2 := 9) 44 (gd rfl) rfl rfl rfl rfl rfl ?_
            refine g_iload 46 (gd rfl) rfl rfl ?_
            refine g_iaload 47 (gd rfl) rfl (n := 32) rfl (in_ix i8 rfl) (fun z12 e13 => ?_)
            refine g_iand 48 (gd rfl) rfl (fun z14 e15 => ?_)
            refine g_calls (As := [.int z14]) (r := []) 51 (gd rfl) rfl rfl rfl rfl rfl (Nat.le_of_ble_eq_true rfl) (Nat.zero_le _) (Nat.zero_le _) (k_414 (by omega) hI ) (fun v u h => ?_)
            obtain ⟨z16, rfl, rfl, i17⟩ := h
            show GG _ _ _ _ _ _ _ _ [.int z16] _ _ _
            refine g_istore 53 (gd rfl) rfl (Nat.le_of_ble_eq_true rfl) ?_
            refine g_lload_n 54 (gd rfl) rfl rfl ?_
            refine g_iload 56 (gd rfl) rfl rfl ?_
            refine g_iload 58 (gd rfl) rfl rfl ?_
            refine g_iconst 1 59 (gd rfl) rfl rfl ?_
            refine g_isub 60 (gd rfl) rfl (fun z18 e19 => ?_)
            have i20 := in_sub (-1) 62 e19 i17 (in_c 1 rfl) rfl rfl
            refine g_imul 61 (gd rfl) rfl (fun z21 e22 => ?_)
            refine g_iconst 2 62 (gd rfl) rfl rfl ?_
            refine g_idiv 63 (gd rfl) rfl (by decide) (fun z23 e24 => ?_)
            refine g_i2l 64 (gd rfl) rfl (fun z25 e26 => ?_)
            have i27 := l_i e26 (i_rng z23)
            refine g_ladd 65 (gd rfl) rfl (fun z28 e29 => ?_)
            refine g_lstore_n 66 (gd rfl) rfl (Nat.le_of_ble_eq_true rfl) ?_
            refine g_iinc 69 (gd rfl) rfl rfl (Nat.le_of_ble_eq_true rfl) (fun z30 e31 => ?_)
            have i32 := in_add 2 32 e31 i8 (in_c 1 rfl) rfl rfl
            refine g_goto 24 (gd rfl) rfl ?_
            exact gg_w (by omega) (gg_f (gf_cons rfl (gf_cons rfl (gf_cons rfl (gf_cons rfl (gf_cons rfl gf_nil))))) (ih24 s z28 z30 hI (in_w 0 31 j24_4 rfl) (in_w 1 32 i32 rfl) (m_up mm24 (t_add e31 i8 (in_c 1 rfl) rfl) (in_w 1 1 (in_c 1 rfl) rfl))))
      refine g_iload 11 (gd rfl) rfl rfl ?_
      refine g_aload_n 12 (gd rfl) rfl rfl ?_
      refine g_getI 15 (gd rfl) rfl rfl rfl (fun z33 e34 => ?_)
      have i35 := inv_F hI 0 32 rfl e34
      refine g_cmp_ge 18 78 (gd rfl) rfl rfl (fun c36 => ?_) (fun c36 => ?_)
      · skip
        refine g_lload_n 79 (gd rfl) rfl rfl ?_
        refine g_ldc2_w 2 82 (gd rfl) rfl rfl ?_
        refine g_ldiv 83 (gd rfl) rfl (by decide) (fun z37 e38 => ?_)
        exact g_lreturn (gd rfl) rfl (hP _ _ ⟨s, hI, z37, rfl, rfl⟩)
      · skip
        have i39 := r_lt1 0 31 c36 j9_4 i35 rfl
        have i40 := r_lt2 1 32 c36 j9_4 i35 rfl
        refine g_iload 20 (gd rfl) rfl rfl ?_
        refine g_iconst 1 21 (gd rfl) rfl rfl ?_
        refine g_iadd 22 (gd rfl) rfl (fun z41 e42 => ?_)
        have i43 := in_add 1 32 e42 i39 (in_c 1 rfl) rfl rfl
        refine g_istore 24 (gd rfl) rfl (Nat.le_of_ble_eq_true rfl) ?_
        exact gg_w (by omega) (gg_f (gf_cons rfl (gf_cons rfl (gf_cons rfl (gf_cons rfl (gf_cons rfl gf_nil))))) (ct24 32 s y9_2 z41 hI (in_w 0 31 i39 rfl) (in_w 1 32 i43 rfl) (m_in 32 (in_w 1 32 i43 rfl) rfl)))
  refine g_enter2 (k := 152) (N := 1040434) (by omega) rfl (Nat.le_of_ble_eq_true rfl) ?_
  refine g_aload_n 1 (gd rfl) rfl rfl ?_
  refine g_callv (X := _) (As := []) (r := []) (b := A 2) (q := 2) 4 (gd rfl) rfl rfl rfl rfl rfl (ww_o rfl) (Nat.le_of_ble_eq_true rfl) (Nat.zero_le _) (Nat.zero_le _) (k_106_2 (by omega) hI ) (fun e u h => h) (fun v u h => ?_)
  obtain ⟨s44, hI45, rfl, rfl⟩ := h
  show GG _ _ _ _ _ _ _ _ [] _ _ _
  refine g_lconst 0 5 (gd rfl) rfl rfl ?_
  refine g_lstore_n 6 (gd rfl) rfl (Nat.le_of_ble_eq_true rfl) ?_
  refine g_iconst 0 7 (gd rfl) rfl rfl ?_
  refine g_istore 9 (gd rfl) rfl (Nat.le_of_ble_eq_true rfl) ?_
  exact gg_w (by omega) (gg_f (gf_cons rfl (gf_cons rfl (gf_cons rfl (gf_cons rfl gf_nil)))) (ct9 33 s44 (Int64.ofInt 0) (Int32.ofInt 0) hI45 (in_w 0 32 (in_c 0 rfl) rfl) (m_in 33 (in_w 0 32 (in_c 0 rfl) rfl) rfl)))

/-- GraphHouse$Parts.squares -/
theorem k_152_56_32 {Z : AmZ} {A : Nat → Nat} {s : GS} {ex : va_W} {d : Nat} {X : AmX}  (hd : 4 ≤ d) (hI : Inv s)  : GC Z d 152 [.ref (A 56), .ref (A 32)] (WW Z A s ++ ex) 0 0 (fun v u => ∃ t : GS, Inv t ∧ ∃ z : Int64, v = some (.long z) ∧ u = WW Z A t ++ ex) X := by
  intro post xp hP hX
  have ct9 : ∀ (k9 : Nat) (s : GS) (y9_2 : Int64) (y9_4 : Int32), Inv s → In y9_4 0 32 → 32 - (y9_4).toInt < (k9 : Int) → GG Z (d - 1) 152 post (gx xp) (1 + k9 * 31501) 9 (fun j => xlook j [(0, .ref (A 56)), (1, .ref (A 32)), (2, .long y9_2), (4, .int y9_4)]) [] (WW Z A s ++ ex) 0 0 := by
    intro k9
    induction k9 with
    | zero => intro s y9_2 y9_4 hI j9_4 mm9; exact m_no mm9 j9_4 rfl
    | succ k9 ih9 =>
      intro s y9_2 y9_4 hI j9_4 mm9
      refine gg_w (M := 1 + k9 * 31501 + 31501) (by omega) ?_
      have ct24 : ∀ (k24 : Nat) (s : GS) (y24_2 : Int64) (y24_5 : Int32), Inv s → In y9_4 0 31 → In y24_5 1 32 → 32 - (y24_5).toInt < (k24 : Int) → GG Z (d - 1) 152 post (gx xp) (1 + k9 * 31501 + 1 + k24 * 900) 24 (fun j => xlook j [(0, .ref (A 56)), (1, .ref (A 32)), (2, .long y24_2), (4, .int y9_4), (5, .int y24_5)]) [] (WW Z A s ++ ex) 0 0 := by
        intro k24
        induction k24 with
        | zero => intro s y24_2 y24_5 hI j24_4 j24_5 mm24; exact m_no mm24 j24_5 rfl
        | succ k24 ih24 =>
          intro s y24_2 y24_5 hI j24_4 j24_5 mm24
          refine gg_w (M := 1 + k9 * 31501 + 1 + k24 * 900 + 900) (by omega) ?_
          refine g_iload 26 (gd rfl) rfl rfl ?_
          refine g_aload_n 27 (gd rfl) rfl rfl ?_
          refine g_getI 30 (gd rfl) rfl rfl rfl (fun z1 e2 => ?_)
          have i3 := inv_F hI 0 32 rfl e2
          refine g_cmp_ge 33 72 (gd rfl) rfl rfl (fun c4 => ?_) (fun c4 => ?_)
          · skip
            refine g_iinc 75 (gd rfl) rfl rfl (Nat.le_of_ble_eq_true rfl) (fun z5 e6 => ?_)
            have i7 := in_add 1 32 e6 j24_4 (in_c 1 rfl) rfl rfl
            refine g_goto 9 (gd rfl) rfl ?_
            exact gg_w (by omega) (gg_f (gf_cons rfl (gf_cons rfl (gf_cons rfl (gf_cons rfl gf_nil)))) (ih9 s y24_2 z5 hI (in_w 0 32 i7 rfl) (m_up mm9 (t_add e6 j24_4 (in_c 1 rfl) rfl) (in_w 1 1 (in_c 1 rfl) rfl))))
          · skip
            have i8 := r_lt1 1 31 c4 j24_5 i3 rfl
            have i9 := r_lt2 2 32 c4 j24_5 i3 rfl
            refine g_aload_n 34 (gd rfl) rfl rfl ?_
            refine g_getA (q2 := 39) 37 (gd rfl) rfl rfl rfl rfl rfl ?_
            refine g_iload 39 (gd rfl) rfl rfl ?_
            refine g_iaload 40 (gd rfl) rfl (n := 32) rfl (in_ix j24_4 rfl) (fun z10 e11 => ?_)
            refine g_aload_n 41 (gd rfl) rfl rfl ?_
            refine g_getA (q2 := 39) 44 (gd rfl) rfl rfl rfl rfl rfl ?_
            refine g_iload 46 (gd rfl) rfl rfl ?_
            refine g_iaload 47 (gd rfl) rfl (n := 32) rfl (in_ix i8 rfl) (fun z12 e13 => ?_)
            refine g_iand 48 (gd rfl) rfl (fun z14 e15 => ?_)
            refine g_calls (As := [.int z14]) (r := []) 51 (gd rfl) rfl rfl rfl rfl rfl (Nat.le_of_ble_eq_true rfl) (Nat.zero_le _) (Nat.zero_le _) (k_414 (by omega) hI ) (fun v u h => ?_)
            obtain ⟨z16, rfl, rfl, i17⟩ := h
            show GG _ _ _ _ _ _ _ _ [.int z16] _ _ _
            refine g_istore 53 (gd rfl) rfl (Nat.le_of_ble_eq_true rfl) ?_
            refine g_lload_n 54 (gd rfl) rfl rfl ?_
            refine g_iload 56 (gd rfl) rfl rfl ?_
            refine g_iload 58 (gd rfl) rfl rfl ?_
            refine g_iconst 1 59 (gd rfl) rfl rfl ?_
            refine g_isub 60 (gd rfl) rfl (fun z18 e19 => ?_)
            have i20 := in_sub (-1) 62 e19 i17 (in_c 1 rfl) rfl rfl
            refine g_imul 61 (gd rfl) rfl (fun z21 e22 => ?_)
            refine g_iconst 2 62 (gd rfl) rfl rfl ?_
            refine g_idiv 63 (gd rfl) rfl (by decide) (fun z23 e24 => ?_)
            refine g_i2l 64 (gd rfl) rfl (fun z25 e26 => ?_)
            have i27 := l_i e26 (i_rng z23)
            refine g_ladd 65 (gd rfl) rfl (fun z28 e29 => ?_)
            refine g_lstore_n 66 (gd rfl) rfl (Nat.le_of_ble_eq_true rfl) ?_
            refine g_iinc 69 (gd rfl) rfl rfl (Nat.le_of_ble_eq_true rfl) (fun z30 e31 => ?_)
            have i32 := in_add 2 32 e31 i8 (in_c 1 rfl) rfl rfl
            refine g_goto 24 (gd rfl) rfl ?_
            exact gg_w (by omega) (gg_f (gf_cons rfl (gf_cons rfl (gf_cons rfl (gf_cons rfl (gf_cons rfl gf_nil))))) (ih24 s z28 z30 hI (in_w 0 31 j24_4 rfl) (in_w 1 32 i32 rfl) (m_up mm24 (t_add e31 i8 (in_c 1 rfl) rfl) (in_w 1 1 (in_c 1 rfl) rfl))))
      refine g_iload 11 (gd rfl) rfl rfl ?_
      refine g_aload_n 12 (gd rfl) rfl rfl ?_
      refine g_getI 15 (gd rfl) rfl rfl rfl (fun z33 e34 => ?_)
      have i35 := inv_F hI 0 32 rfl e34
      refine g_cmp_ge 18 78 (gd rfl) rfl rfl (fun c36 => ?_) (fun c36 => ?_)
      · skip
        refine g_lload_n 79 (gd rfl) rfl rfl ?_
        refine g_ldc2_w 2 82 (gd rfl) rfl rfl ?_
        refine g_ldiv 83 (gd rfl) rfl (by decide) (fun z37 e38 => ?_)
        exact g_lreturn (gd rfl) rfl (hP _ _ ⟨s, hI, z37, rfl, rfl⟩)
      · skip
        have i39 := r_lt1 0 31 c36 j9_4 i35 rfl
        have i40 := r_lt2 1 32 c36 j9_4 i35 rfl
        refine g_iload 20 (gd rfl) rfl rfl ?_
        refine g_iconst 1 21 (gd rfl) rfl rfl ?_
        refine g_iadd 22 (gd rfl) rfl (fun z41 e42 => ?_)
        have i43 := in_add 1 32 e42 i39 (in_c 1 rfl) rfl rfl
        refine g_istore 24 (gd rfl) rfl (Nat.le_of_ble_eq_true rfl) ?_
        exact gg_w (by omega) (gg_f (gf_cons rfl (gf_cons rfl (gf_cons rfl (gf_cons rfl (gf_cons rfl gf_nil))))) (ct24 32 s y9_2 z41 hI (in_w 0 31 i39 rfl) (in_w 1 32 i43 rfl) (m_in 32 (in_w 1 32 i43 rfl) rfl)))
  refine g_enter2 (k := 152) (N := 1040434) (by omega) rfl (Nat.le_of_ble_eq_true rfl) ?_
  refine g_aload_n 1 (gd rfl) rfl rfl ?_
  refine g_callv (X := _) (As := []) (r := []) (b := A 32) (q := 32) 4 (gd rfl) rfl rfl rfl rfl rfl (ww_o rfl) (Nat.le_of_ble_eq_true rfl) (Nat.zero_le _) (Nat.zero_le _) (k_106_32 (by omega) hI ) (fun e u h => h) (fun v u h => ?_)
  obtain ⟨s44, hI45, rfl, rfl⟩ := h
  show GG _ _ _ _ _ _ _ _ [] _ _ _
  refine g_lconst 0 5 (gd rfl) rfl rfl ?_
  refine g_lstore_n 6 (gd rfl) rfl (Nat.le_of_ble_eq_true rfl) ?_
  refine g_iconst 0 7 (gd rfl) rfl rfl ?_
  refine g_istore 9 (gd rfl) rfl (Nat.le_of_ble_eq_true rfl) ?_
  exact gg_w (by omega) (gg_f (gf_cons rfl (gf_cons rfl (gf_cons rfl (gf_cons rfl gf_nil)))) (ct9 33 s44 (Int64.ofInt 0) (Int32.ofInt 0) hI45 (in_w 0 32 (in_c 0 rfl) rfl) (m_in 33 (in_w 0 32 (in_c 0 rfl) rfl) rfl)))

/-- GraphHouse$Script.accuse -/
theorem k_168_46 {Z : AmZ} {A : Nat → Nat} {s : GS} {ex : va_W} {d : Nat} {X : AmX} {x1 : Int32} {x2 : Int32} (hd : 1 ≤ d) (hI : Inv s) (h1 : In x1 1 4) (h2 : In x2 0 1000) : GC Z d 168 [.ref (A 46), .int x1, .int x2] (WW Z A s ++ ex) 0 0 (fun v u => ∃ t : GS, Inv t ∧ ∃ z : Int32, v = some (.int z) ∧ u = WW Z A t ++ ex ∧ In z 0 0) X := by
  intro post xp hP hX
  refine g_enter2 (k := 168) (N := 900) (by omega) rfl (Nat.le_of_ble_eq_true rfl) ?_
  refine g_aload_n 1 (gd rfl) rfl rfl ?_
  refine g_iload_n 2 (gd rfl) rfl rfl ?_
  refine g_putI 5 (gd rfl) rfl rfl rfl rfl ?_
  have hI1 := inv_sF (q := 46) (j := 6) hI rfl (in_w (-1) 5 h1 rfl)
  refine g_aload_n 6 (gd rfl) rfl rfl ?_
  refine g_iload_n 7 (gd rfl) rfl rfl ?_
  refine g_putI 10 (gd rfl) rfl rfl rfl rfl ?_
  have hI2 := inv_sF (q := 46) (j := 7) hI1 rfl (in_w (-1) 1000 h2 rfl)
  refine g_iconst 0 11 (gd rfl) rfl rfl ?_
  exact g_ireturn (gd rfl) rfl (nb01 (in_w 0 1 (in_c 0 rfl) rfl)) (hP _ _ ⟨(sF (sF s 46 6 x1) 46 7 x2), hI2, (Int32.ofInt 0), rfl, rfl, in_w 0 0 (in_c 0 rfl) rfl⟩)

/-- GraphHouse$Script.refuse -/
theorem k_169_46 {Z : AmZ} {A : Nat → Nat} {s : GS} {ex : va_W} {d : Nat} {X : AmX} {x1 : Int32} {x2 : Int32} (hd : 2 ≤ d) (hI : Inv s) (h1 : In x1 2 2) (h2 : In x2 4 4) : GC Z d 169 [.ref (A 46), .int x1, .int x2] (WW Z A s ++ ex) 0 0 (fun v u => ∃ t : GS, Inv t ∧ ∃ z : Int32, v = some (.int z) ∧ u = WW Z A t ++ ex ∧ In z 0 0) X := by
  intro post xp hP hX
  refine g_enter2 (k := 169) (N := 900) (by omega) rfl (Nat.le_of_ble_eq_true rfl) ?_
  refine g_aload_n 1 (gd rfl) rfl rfl ?_
  refine g_getI 4 (gd rfl) rfl rfl rfl (fun z1 e2 => ?_)
  have i3 := inv_F hI 0 5 rfl e2
  refine g_iconst 4 5 (gd rfl) rfl rfl ?_
  refine g_cmp_ne 8 18 (gd rfl) rfl rfl (fun c4 => ?_) (fun c4 => ?_)
  · skip
    refine g_aload_n 19 (gd rfl) rfl rfl ?_
    refine g_aload_n 20 (gd rfl) rfl rfl ?_
    refine g_getI 23 (gd rfl) rfl rfl rfl (fun z5 e6 => ?_)
    have q7 : z1 = z5 := (e2).trans e6.symm
    subst q7
    refine g_iconst 5 24 (gd rfl) rfl rfl ?_
    refine g_cmp_ne 27 31 (gd rfl) rfl rfl (fun c8 => ?_) (fun c8 => ?_)
    · skip
      have i9 := r_ne1 0 4 c8 i3 (in_c 5 rfl) rfl
      refine g_iload_n 32 (gd rfl) rfl rfl ?_
      refine g_aload_n 33 (gd rfl) rfl rfl ?_
      refine g_getI 36 (gd rfl) rfl rfl rfl (fun z10 e11 => ?_)
      have i12 := inv_F hI 0 1000 rfl e11
      refine g_callv (X := _) (As := [.int x1, .int z10]) (r := []) (b := A 46) (q := 46) 39 (gd rfl) rfl rfl rfl rfl rfl (ww_o rfl) (Nat.le_of_ble_eq_true rfl) (Nat.zero_le _) (Nat.zero_le _) (k_168_46 (by omega) hI (in_w 1 4 h1 rfl) (in_w 0 1000 i12 rfl)) (fun e u h => h) (fun v u h => ?_)
      obtain ⟨s13, hI14, z15, rfl, rfl, i16⟩ := h
      show GG _ _ _ _ _ _ _ _ [.int z15] _ _ _
      exact g_ireturn (gd rfl) rfl (nb01 (in_w 0 1 i16 rfl)) (hP _ _ ⟨s13, hI14, z15, rfl, rfl, in_w 0 0 i16 rfl⟩)
    · skip
      have i17 := r_eq1 5 5 c8 i3 (in_c 5 rfl) rfl
      refine g_iload_n 28 (gd rfl) rfl rfl ?_
      refine g_goto 32 (gd rfl) rfl ?_
      refine g_aload_n 33 (gd rfl) rfl rfl ?_
      refine g_getI 36 (gd rfl) rfl rfl rfl (fun z18 e19 => ?_)
      have i20 := inv_F hI 0 1000 rfl e19
      refine g_callv (X := _) (As := [.int x2, .int z18]) (r := []) (b := A 46) (q := 46) 39 (gd rfl) rfl rfl rfl rfl rfl (ww_o rfl) (Nat.le_of_ble_eq_true rfl) (Nat.zero_le _) (Nat.zero_le _) (k_168_46 (by omega) hI (in_w 1 4 h2 rfl) (in_w 0 1000 i20 rfl)) (fun e u h => h) (fun v u h => ?_)
      obtain ⟨s21, hI22, z23, rfl, rfl, i24⟩ := h
      show GG _ _ _ _ _ _ _ _ [.int z23] _ _ _
      exact g_ireturn (gd rfl) rfl (nb01 (in_w 0 1 i24 rfl)) (hP _ _ ⟨s21, hI22, z23, rfl, rfl, in_w 0 0 i24 rfl⟩)
  · skip
    have i25 := r_eq1 4 4 c4 i3 (in_c 4 rfl) rfl
    refine g_aload_n 9 (gd rfl) rfl rfl ?_
    refine g_iconst 1 10 (gd rfl) rfl rfl ?_
    refine g_aload_n 11 (gd rfl) rfl rfl ?_
    refine g_getI 14 (gd rfl) rfl rfl rfl (fun z26 e27 => ?_)
    have i28 := inv_F hI 0 1000 rfl e27
    refine g_callv (X := _) (As := [.int (Int32.ofInt 1), .int z26]) (r := []) (b := A 46) (q := 46) 17 (gd rfl) rfl rfl rfl rfl rfl (ww_o rfl) (Nat.le_of_ble_eq_true rfl) (Nat.zero_le _) (Nat.zero_le _) (k_168_46 (by omega) hI (in_w 1 4 (in_c 1 rfl) rfl) (in_w 0 1000 i28 rfl)) (fun e u h => h) (fun v u h => ?_)
    obtain ⟨s29, hI30, z31, rfl, rfl, i32⟩ := h
    show GG _ _ _ _ _ _ _ _ [.int z31] _ _ _
    exact g_ireturn (gd rfl) rfl (nb01 (in_w 0 1 i32 rfl)) (hP _ _ ⟨s29, hI30, z31, rfl, rfl, in_w 0 0 i32 rfl⟩)

/-- GraphHouse$Script.isAt -/
theorem k_170_46 {Z : AmZ} {A : Nat → Nat} {s : GS} {ex : va_W} {d : Nat} {X : AmX} {x1 : Int32} (hd : 1 ≤ d) (hI : Inv s) (h1 : In x1 40 61) : GC Z d 170 [.ref (A 46), .int x1] (WW Z A s ++ ex) 0 0 (fun v u => ∃ z : Int32, v = some (.int z) ∧ u = WW Z A s ++ ex ∧ In z 0 1) X := by
  intro post xp hP hX
  refine g_enter2 (k := 170) (N := 900) (by omega) rfl (Nat.le_of_ble_eq_true rfl) ?_
  refine g_aload_n 1 (gd rfl) rfl rfl ?_
  refine g_getI 4 (gd rfl) rfl rfl rfl (fun z1 e2 => ?_)
  have i3 := inv_F hI 0 5 rfl e2
  refine g_iconst 3 5 (gd rfl) rfl rfl ?_
  refine g_cmp_ne 8 20 (gd rfl) rfl rfl (fun c4 => ?_) (fun c4 => ?_)
  · skip
    refine g_iconst 0 21 (gd rfl) rfl rfl ?_
    exact g_ireturn (gd rfl) rfl (nb01 (in_w 0 1 (in_c 0 rfl) rfl)) (hP _ _ ⟨(Int32.ofInt 0), rfl, rfl, in_w 0 1 (in_c 0 rfl) rfl⟩)
  · skip
    have i5 := r_eq1 3 3 c4 i3 (in_c 3 rfl) rfl
    refine g_aload_n 9 (gd rfl) rfl rfl ?_
    refine g_getI 12 (gd rfl) rfl rfl rfl (fun z6 e7 => ?_)
    refine g_iload_n 13 (gd rfl) rfl rfl ?_
    refine g_cmp_ne 16 20 (gd rfl) rfl rfl (fun c8 => ?_) (fun c8 => ?_)
    · skip
      refine g_iconst 0 21 (gd rfl) rfl rfl ?_
      exact g_ireturn (gd rfl) rfl (nb01 (in_w 0 1 (in_c 0 rfl) rfl)) (hP _ _ ⟨(Int32.ofInt 0), rfl, rfl, in_w 0 1 (in_c 0 rfl) rfl⟩)
    · skip
      have i9 := r_eq1 40 61 c8 (i_rng z6) h1 rfl
      refine g_iconst 1 17 (gd rfl) rfl rfl ?_
      refine g_goto 21 (gd rfl) rfl ?_
      exact g_ireturn (gd rfl) rfl (nb01 (in_w 0 1 (in_c 1 rfl) rfl)) (hP _ _ ⟨(Int32.ofInt 1), rfl, rfl, in_w 0 1 (in_c 1 rfl) rfl⟩)
